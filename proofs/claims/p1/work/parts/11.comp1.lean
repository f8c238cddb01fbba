set_option maxRecDepth 100000 in
set_option maxHeartbeats 4000000 in
theorem k_X2_accept (l : Launch) (Z : Zx) (A : Nat → Prop) (hA : AdOk Z A) (σ : St) (t q : Nat) (ht : t < 11) (hq : q < 30) (hne : 9 + 2 * t ≠ q) : Km l Z A yX2_accept wsX2_accept { frames := 3, cells := 0, slots := 0, locals := 64 } (Wd Z σ) [.ref (Z.ad (po t)), .ref (Z.ad (ro q))] (Qv (Wd Z (σ.setProg t (addAllI 32 [] (σ.row q)) 0 (-1))) A) := by
  refine Km.of (cc := cX2_accept) (maxL := 2) (ret := none) (by decide) rfl (Nat.le_of_ble_eq_true rfl) hA ?_
  intro X hXl S hAX hRT hXA hQ hXk hXn
  show J X 2 (Wd Z σ) 0 [some (.ref (Z.ad (po t))), some (.ref (Z.ad (ro q)))] []
  refine j_aload_n S dX2_accept_0 rfl ?_
  refine j_get S (C := RX2) (T := TX2) (N := 4) (by decide +kernel) (rd_prog (by omega)) rfl (v := .ref (Z.ad (ro (9 + 2 * t)))) 1 (by decide) (by decide +kernel) rfl rfl dX2_accept_1 ?_
  refine j_aload_n S dX2_accept_4 rfl ?_
  refine j_cVv S (n := 1) (rest := []) (k_X3_copyFrom X.l Z X.A hAX σ (9 + 2 * t) q (by omega) (by omega) (by omega)) ⟨_, _, _, _, rfl, gX2_accept_X3_copyFrom, rfl, rfl, by decide +kernel, ⟨Nat.le_of_ble_eq_true rfl, Nat.le_of_ble_eq_true rfl⟩⟩ (rd_row (by omega)) rfl rfl (Nat.le_of_ble_eq_true rfl) rfl dX2_accept_5 ?_
  refine j_aload_n S dX2_accept_8 rfl ?_
  refine j_iconst S 0 dX2_accept_9 (by decide) ?_
  refine j_putFault S hAX ht (by decide +kernel) (by decide +kernel) dX2_accept_10 ?_
  refine j_aload_n S dX2_accept_13 rfl ?_
  refine j_iconst S (-1) dX2_accept_14 (by decide) ?_
  refine j_putPlace S hAX ht (by decide +kernel) (by decide +kernel) dX2_accept_15 ?_
  exact j_return S hRT hXA hQ hXk hXn dX2_accept_18 (fun H h => by rw [setProg_eq, cap_odd ht] at h; exact h)

set_option maxRecDepth 100000 in
set_option maxHeartbeats 4000000 in
theorem k_X2_refuse (l : Launch) (Z : Zx) (A : Nat → Prop) (hA : AdOk Z A) (σ : St) (t : Nat) (ht : t < 11) (u v : Int32) : Km l Z A yX2_refuse wsX2_refuse { frames := 1, cells := 0, slots := 0, locals := 20 } (Wd Z σ) [.ref (Z.ad (po t)), .int u, .int v] (Qv (Wd Z (σ.setProg t [] u v)) A) := by
  refine Km.of (cc := cX2_refuse) (maxL := 3) (ret := none) (by decide) rfl (Nat.le_of_ble_eq_true rfl) hA ?_
  intro X hXl S hAX hRT hXA hQ hXk hXn
  show J X 3 (Wd Z σ) 0 [some (.ref (Z.ad (po t))), some (.int u), some (.int v)] []
  refine j_aload_n S dX2_refuse_0 rfl ?_
  refine j_get S (C := RX2) (T := TX2) (N := 4) (by decide +kernel) (rd_prog (by omega)) rfl (v := .ref (Z.ad (ro (9 + 2 * t)))) 1 (by decide) (by decide +kernel) rfl rfl dX2_refuse_1 ?_
  refine j_cVv S (n := 0) (rest := []) (k_X3_clear X.l Z X.A hAX σ (9 + 2 * t) (by omega)) ⟨_, _, _, _, rfl, gX2_refuse_X3_clear, rfl, rfl, by decide +kernel, ⟨Nat.le_of_ble_eq_true rfl, Nat.le_of_ble_eq_true rfl⟩⟩ (rd_row (by omega)) rfl rfl (Nat.le_of_ble_eq_true rfl) rfl dX2_refuse_4 ?_
  refine j_aload_n S dX2_refuse_7 rfl ?_
  refine j_iload_n S dX2_refuse_8 rfl ?_
  refine j_putFault S hAX ht (by decide +kernel) (by decide +kernel) dX2_refuse_9 ?_
  refine j_aload_n S dX2_refuse_12 rfl ?_
  refine j_iload_n S dX2_refuse_13 rfl ?_
  refine j_putPlace S hAX ht (by decide +kernel) (by decide +kernel) dX2_refuse_14 ?_
  exact j_return S hRT hXA hQ hXk hXn dX2_refuse_17 (fun H h => by rw [setProg_eq] at h; exact h)

set_option maxRecDepth 100000 in
set_option maxHeartbeats 4000000 in
theorem k_X1_hasRoom (l : Launch) (Z : Zx) (A : Nat → Prop) (hA : AdOk Z A) (σ : St) (c : Cst) (hI : CInv c) (m : Nat) (hm : m ≤ 20000) : Km l Z A yX1_hasRoom wsX1_hasRoom { frames := 0, cells := 0, slots := 0, locals := 0 } (Wd Z (σ.setC c)) [.ref (Z.ad 2), .int (nI m)] (Qi (Wd Z (σ.setC c)) A (fun v => v = b2i (roomC c m))) := by
  refine Km.of (cc := cX1_hasRoom) (maxL := 2) (ret := (some .boolean)) (by decide) rfl (Nat.le_of_ble_eq_true rfl) hA ?_
  intro X hXl S hAX hRT hXA hQ hXk hXn
  show J X 2 (Wd Z (σ.setC c)) 0 [some (.ref (Z.ad 2)), some (.int (nI m))] []
  obtain ⟨hI1, hI2, hI3, hI4, hI5⟩ := id hI
  refine j_aload_n S dX1_hasRoom_0 rfl ?_
  refine j_get S (C := RX1) (T := TX1) (N := 4) (by decide +kernel) rd_comp rfl (v := .ref (Z.ad (ro 6))) 0 (by decide) (by decide +kernel) rfl rfl dX1_hasRoom_1 ?_
  refine j_getN S (C := RX3) (T := TX3) (N := 2) (by decide +kernel) (rd_row (by omega)) rfl (v := .int (nI c.1.length)) 1 (by decide) 9 rfl rfl rfl dX1_hasRoom_4 ?_
  refine j_aload_n S dX1_hasRoom_7 rfl ?_
  refine j_get S (C := RX1) (T := TX1) (N := 4) (by decide +kernel) rd_comp rfl (v := .int (nI c.2.2.1)) 2 (by decide) (by decide +kernel) rfl rfl dX1_hasRoom_8 ?_
  refine j_isub S ((nI c.1.length) - (nI c.2.2.1)) dX1_hasRoom_11 rfl ?_
  refine j_iload_n S dX1_hasRoom_12 rfl ?_
  refine j_iadd S (((nI c.1.length) - (nI c.2.2.1)) + (nI m)) dX1_hasRoom_13 rfl ?_
  refine j_bipush S 32 dX1_hasRoom_14 (by decide) ?_
  refine j_icmp_gt S 23 dX1_hasRoom_16 (by decide) (fun h => ?_) (fun h => ?_)
  · skip
    refine j_iconst S 0 dX1_hasRoom_23 (by decide) ?_
    exact j_ireturn S hRT hXA hQ hXk hXn dX1_hasRoom_24 rfl (by rw [show roomC c m = false from by cases hb : roomC c m with | false => rfl | true => exact absurd h ((roomC_t hI hm).mpr hb)]; rfl) (fun H h => h)
  · skip
    refine j_iconst S 1 dX1_hasRoom_19 (by decide) ?_
    refine j_goto S 24 dX1_hasRoom_20 (by decide) ?_
    exact j_ireturn S hRT hXA hQ hXk hXn dX1_hasRoom_24 rfl (by rw [(roomC_t hI hm).mp h]; rfl) (fun H h => h)

set_option maxRecDepth 100000 in
set_option maxHeartbeats 4000000 in
theorem k_X1_beginItem (l : Launch) (Z : Zx) (A : Nat → Prop) (hA : AdOk Z A) (σ : St) (c : Cst) (hI : CInv c) : Km l Z A yX1_beginItem wsX1_beginItem { frames := 0, cells := 0, slots := 0, locals := 0 } (Wd Z (σ.setC c)) [.ref (Z.ad 2)] (Qv (Wd Z (σ.setC (beginC c))) A) := by
  refine Km.of (cc := cX1_beginItem) (maxL := 1) (ret := none) (by decide) rfl (Nat.le_of_ble_eq_true rfl) hA ?_
  intro X hXl S hAX hRT hXA hQ hXk hXn
  show J X 1 (Wd Z (σ.setC c)) 0 [some (.ref (Z.ad 2))] []
  obtain ⟨hI1, hI2, hI3, hI4, hI5⟩ := id hI
  refine j_aload_n S dX1_beginItem_0 rfl ?_
  refine j_aload_n S dX1_beginItem_1 rfl ?_
  refine j_get S (C := RX1) (T := TX1) (N := 4) (by decide +kernel) rd_comp rfl (v := .ref (Z.ad (ro 6))) 0 (by decide) (by decide +kernel) rfl rfl dX1_beginItem_2 ?_
  refine j_getN S (C := RX3) (T := TX3) (N := 2) (by decide +kernel) (rd_row (by omega)) rfl (v := .int (nI c.1.length)) 1 (by decide) 9 rfl rfl rfl dX1_beginItem_5 ?_
  refine j_putIs S hAX (by decide +kernel) (by decide +kernel) dX1_beginItem_8 ?_
  rw [show nI c.1.length = optI (some c.1.length) from rfl, setC_is]
  exact j_return S hRT hXA hQ hXk hXn dX1_beginItem_11 (fun H h => h)

theorem open_add (σ : St) (c : Cst) : (σ.setC c).setRow 7 (addI (cap 7) (c.2.1.map nI) (nI c.2.2.1)) = σ.setC (c.1, if c.2.1.length < 41 then c.2.1 ++ [c.2.2.1] else c.2.1, c.2.2) := by
  have e : addI (cap 7) (c.2.1.map nI) (nI c.2.2.1) = (if c.2.1.length < 41 then c.2.1 ++ [c.2.2.1] else c.2.1).map nI := by
    unfold addI
    rw [List.length_map, show cap 7 = 41 from rfl]
    split
    · rw [List.map_append]; rfl
    · rfl
  rw [e, setC_row7]
theorem close_cut (σ : St) (c : Cst) (h : c.2.1.length < 2 ^ 31) (h0 : 0 < c.2.1.length) : (σ.setC c).setRow 7 (cutI (c.2.1.map nI) (nI c.2.1.length - 1)) = σ.setC (c.1, c.2.1.take (c.2.1.length - 1), c.2.2) := by
  obtain ⟨n, hn⟩ : ∃ n, c.2.1.length = n + 1 := ⟨c.2.1.length - 1, by omega⟩
  rw [hn, nI_pred, cutI_nI _ (by omega), ← List.map_take, setC_row7]
  rfl
theorem last_map (l : List Nat) : (l.map nI).getD ((l.map nI).length - 1) 0 = nI (l.getD (l.length - 1) 0) := by
  rw [List.length_map, List.getD_eq_getElem?_getD, List.getD_eq_getElem?_getD, List.getElem?_map]
  cases l[l.length - 1]? <;> rfl

set_option maxRecDepth 100000 in
set_option maxHeartbeats 4000000 in
theorem k_X1_openGroup (l : Launch) (Z : Zx) (A : Nat → Prop) (hA : AdOk Z A) (σ : St) (c : Cst) (hI : CInv c) : Km l Z A yX1_openGroup wsX1_openGroup { frames := 1, cells := 0, slots := 0, locals := 21 } (Wd Z (σ.setC c)) [.ref (Z.ad 2)] (Qv (Wd Z (σ.setC (openC c))) A) := by
  refine Km.of (cc := cX1_openGroup) (maxL := 1) (ret := none) (by decide) rfl (Nat.le_of_ble_eq_true rfl) hA ?_
  intro X hXl S hAX hRT hXA hQ hXk hXn
  show J X 1 (Wd Z (σ.setC c)) 0 [some (.ref (Z.ad 2))] []
  obtain ⟨hI1, hI2, hI3, hI4, hI5⟩ := id hI
  refine j_aload_n S dX1_openGroup_0 rfl ?_
  refine j_get S (C := RX1) (T := TX1) (N := 4) (by decide +kernel) rd_comp rfl (v := .ref (Z.ad (ro 7))) 1 (by decide) (by decide +kernel) rfl rfl dX1_openGroup_1 ?_
  refine j_aload_n S dX1_openGroup_4 rfl ?_
  refine j_get S (C := RX1) (T := TX1) (N := 4) (by decide +kernel) rd_comp rfl (v := .int (nI c.2.2.1)) 2 (by decide) (by decide +kernel) rfl rfl dX1_openGroup_5 ?_
  refine j_cVv S (n := 1) (rest := []) (k_X3_add X.l Z X.A hAX (σ.setC c) 7 (by omega) (nI c.2.2.1)) ⟨_, _, _, _, rfl, gX1_openGroup_X3_add, rfl, rfl, by decide +kernel, ⟨Nat.le_of_ble_eq_true rfl, Nat.le_of_ble_eq_true rfl⟩⟩ (rd_row (by omega)) rfl rfl (Nat.le_of_ble_eq_true rfl) rfl dX1_openGroup_8 ?_
  rw [setC_7, open_add]
  refine j_aload_n S dX1_openGroup_11 rfl ?_
  refine j_aload_n S dX1_openGroup_12 rfl ?_
  refine j_get S (C := RX1) (T := TX1) (N := 4) (by decide +kernel) rd_comp rfl (v := .ref (Z.ad (ro 6))) 0 (by decide) (by decide +kernel) rfl rfl dX1_openGroup_13 ?_
  refine j_getN S (C := RX3) (T := TX3) (N := 2) (by decide +kernel) (rd_row (by omega)) rfl (v := .int (nI c.1.length)) 1 (by decide) 9 rfl rfl rfl dX1_openGroup_16 ?_
  refine j_putGs S hAX (by decide +kernel) (by decide +kernel) dX1_openGroup_19 ?_
  rw [setC_gs]
  refine j_aload_n S dX1_openGroup_22 rfl ?_
  refine j_iconst S (-1) dX1_openGroup_23 (by decide) ?_
  refine j_putIs S hAX (by decide +kernel) (by decide +kernel) dX1_openGroup_24 ?_
  rw [show (-1 : Int32) = optI none from rfl, setC_is]
  exact j_return S hRT hXA hQ hXk hXn dX1_openGroup_27 (fun H h => h)

set_option maxRecDepth 100000 in
set_option maxHeartbeats 4000000 in
theorem k_X1_closeGroup (l : Launch) (Z : Zx) (A : Nat → Prop) (hA : AdOk Z A) (σ : St) (c : Cst) (hI : CInv c) : Km l Z A yX1_closeGroup wsX1_closeGroup { frames := 2, cells := 0, slots := 0, locals := 42 } (Wd Z (σ.setC c)) [.ref (Z.ad 2)] (Qi (Wd Z (σ.setC (closeG c).2)) A (fun v => v = (closeG c).1)) := by
  refine Km.of (cc := cX1_closeGroup) (maxL := 1) (ret := (some .int)) (by decide) rfl (Nat.le_of_ble_eq_true rfl) hA ?_
  intro X hXl S hAX hRT hXA hQ hXk hXn
  show J X 1 (Wd Z (σ.setC c)) 0 [some (.ref (Z.ad 2))] []
  obtain ⟨hI1, hI2, hI3, hI4, hI5⟩ := id hI
  refine j_aload_n S dX1_closeGroup_0 rfl ?_
  refine j_get S (C := RX1) (T := TX1) (N := 4) (by decide +kernel) rd_comp rfl (v := .ref (Z.ad (ro 7))) 1 (by decide) (by decide +kernel) rfl rfl dX1_closeGroup_1 ?_
  refine j_getN S (C := RX3) (T := TX3) (N := 2) (by decide +kernel) (rd_row (by omega)) rfl (v := .int (nI (c.2.1.map nI).length)) 1 (by decide) 9 rfl rfl rfl dX1_closeGroup_4 ?_
  rw [List.length_map]
  refine j_if_ne S 12 dX1_closeGroup_7 (by decide) (fun h => ?_) (fun h => ?_)
  · skip
    have h0 : 0 < c.2.1.length := by rcases Nat.eq_zero_or_pos c.2.1.length with q | q; exact absurd (by rw [q]; rfl) h; exact q
    have e9 : closeG c = (if roomC (closeC c) 0 = true then 0 else 5, closeC c) := if_neg (by omega)
    refine j_aload_n S dX1_closeGroup_12 rfl ?_
    refine j_aload_n S dX1_closeGroup_13 rfl ?_
    refine j_get S (C := RX1) (T := TX1) (N := 4) (by decide +kernel) rd_comp rfl (v := .int (nI c.2.2.1)) 2 (by decide) (by decide +kernel) rfl rfl dX1_closeGroup_14 ?_
    refine j_putIs S hAX (by decide +kernel) (by decide +kernel) dX1_closeGroup_17 ?_
    rw [show nI c.2.2.1 = optI (some c.2.2.1) from rfl, setC_is]
    refine j_aload_n S dX1_closeGroup_20 rfl ?_
    refine j_aload_n S dX1_closeGroup_21 rfl ?_
    refine j_get S (C := RX1) (T := TX1) (N := 4) (by decide +kernel) rd_comp rfl (v := .ref (Z.ad (ro 7))) 1 (by decide) (by decide +kernel) rfl rfl dX1_closeGroup_22 ?_
    refine j_cVi S (n := 0) (rest := [.ref (Z.ad 2)]) (k_X3_last X.l Z X.A hAX (σ.setC (c.1, c.2.1, c.2.2.1, some c.2.2.1)) 7 (by omega)) ⟨_, _, _, _, rfl, gX1_closeGroup_X3_last, rfl, rfl, by decide +kernel, ⟨Nat.le_of_ble_eq_true rfl, Nat.le_of_ble_eq_true rfl⟩⟩ (rd_row (by omega)) rfl rfl (Nat.le_of_ble_eq_true rfl) rfl dX1_closeGroup_25 (fun v9 hv9 => ?_)
    subst hv9
    rw [show ((σ.setC (c.1, c.2.1, c.2.2.1, some c.2.2.1)).row 7) = c.2.1.map nI from rfl, last_map]
    refine j_putGs S hAX (by decide +kernel) (by decide +kernel) dX1_closeGroup_28 ?_
    rw [setC_gs]
    refine j_aload_n S dX1_closeGroup_31 rfl ?_
    refine j_get S (C := RX1) (T := TX1) (N := 4) (by decide +kernel) rd_comp rfl (v := .ref (Z.ad (ro 7))) 1 (by decide) (by decide +kernel) rfl rfl dX1_closeGroup_32 ?_
    refine j_aload_n S dX1_closeGroup_35 rfl ?_
    refine j_get S (C := RX1) (T := TX1) (N := 4) (by decide +kernel) rd_comp rfl (v := .ref (Z.ad (ro 7))) 1 (by decide) (by decide +kernel) rfl rfl dX1_closeGroup_36 ?_
    refine j_getN S (C := RX3) (T := TX3) (N := 2) (by decide +kernel) (rd_row (by omega)) rfl (v := .int (nI (c.2.1.map nI).length)) 1 (by decide) 9 rfl rfl rfl dX1_closeGroup_39 ?_
    refine j_iconst S 1 dX1_closeGroup_42 (by decide) ?_
    refine j_isub S ((nI (c.2.1.map nI).length) - 1) dX1_closeGroup_43 rfl ?_
    refine j_cVv S (n := 1) (rest := []) (k_X3_cutTo X.l Z X.A hAX (σ.setC (c.1, c.2.1, c.2.1.getD (c.2.1.length - 1) 0, some c.2.2.1)) 7 (by omega) ((nI (c.2.1.map nI).length) - 1)) ⟨_, _, _, _, rfl, gX1_closeGroup_X3_cutTo, rfl, rfl, by decide +kernel, ⟨Nat.le_of_ble_eq_true rfl, Nat.le_of_ble_eq_true rfl⟩⟩ (rd_row (by omega)) rfl rfl (Nat.le_of_ble_eq_true rfl) rfl dX1_closeGroup_44 ?_
    rw [List.length_map]
    have e8 := close_cut σ (c.1, c.2.1, c.2.1.getD (c.2.1.length - 1) 0, some c.2.2.1) (by dsimp only; omega) h0
    dsimp only at e8
    rw [show (σ.setC (c.1, c.2.1, c.2.1.getD (c.2.1.length - 1) 0, some c.2.2.1)).row 7 = c.2.1.map nI from rfl, e8]
    refine J.mono (w' := Wd Z (σ.setC (closeC c))) (fun H h9 => h9) ?_
    refine j_aload_n S dX1_closeGroup_47 rfl ?_
    refine j_iconst S 0 dX1_closeGroup_48 (by decide) ?_
    refine j_cVi S (n := 1) (rest := []) (k_X1_hasRoom X.l Z X.A hAX σ (closeC c) hI.close 0 (by omega)) ⟨_, _, _, _, rfl, gX1_closeGroup_X1_hasRoom, rfl, rfl, by decide +kernel, ⟨Nat.le_of_ble_eq_true rfl, Nat.le_of_ble_eq_true rfl⟩⟩ rd_comp rfl rfl (Nat.le_of_ble_eq_true rfl) rfl dX1_closeGroup_49 (fun v9 hv9 => ?_)
    subst hv9
    refine j_if_eq S 59 dX1_closeGroup_52 (by decide) (fun h2 => ?_) (fun h2 => ?_)
    · skip
      refine j_iconst S 5 dX1_closeGroup_59 (by decide) ?_
      exact j_ireturn S hRT hXA hQ hXk hXn dX1_closeGroup_60 rfl (by rw [e9, if_neg (by rw [b2i_0.mp h2]; decide)]) (fun H h => by rw [e9]; exact h)
    · skip
      refine j_iconst S 0 dX1_closeGroup_55 (by decide) ?_
      refine j_goto S 60 dX1_closeGroup_56 (by decide) ?_
      exact j_ireturn S hRT hXA hQ hXk hXn dX1_closeGroup_60 rfl (by rw [e9, if_pos (b2i_n0.mp h2)]) (fun H h => by rw [e9]; exact h)
  · skip
    have h0 : c.2.1.length = 0 := (nI_eq (by omega) (by omega)).mp h
    refine j_iconst S 2 dX1_closeGroup_10 (by decide) ?_
    exact j_ireturn S hRT hXA hQ hXk hXn dX1_closeGroup_11 rfl (by unfold closeG; rw [if_pos h0]) (fun H h => by unfold closeG; rw [if_pos h0]; exact h)

set_option maxRecDepth 100000 in
set_option maxHeartbeats 4000000 in
theorem k_X1_addNumber (l : Launch) (Z : Zx) (A : Nat → Prop) (hA : AdOk Z A) (σ : St) (c : Cst) (hI : CInv c) (t : Int32) : Km l Z A yX1_addNumber wsX1_addNumber { frames := 1, cells := 0, slots := 0, locals := 21 } (Wd Z (σ.setC c)) [.ref (Z.ad 2), .int t] (Qi (Wd Z (σ.setC (numberC c t).2)) A (fun v => v = (numberC c t).1)) := by
  refine Km.of (cc := cX1_addNumber) (maxL := 2) (ret := (some .int)) (by decide) rfl (Nat.le_of_ble_eq_true rfl) hA ?_
  intro X hXl S hAX hRT hXA hQ hXk hXn
  show J X 2 (Wd Z (σ.setC c)) 0 [some (.ref (Z.ad 2)), some (.int t)] []
  obtain ⟨hI1, hI2, hI3, hI4, hI5⟩ := id hI
  refine j_aload_n S dX1_addNumber_0 rfl ?_
  refine j_iconst S 1 dX1_addNumber_1 (by decide) ?_
  refine j_cVi S (n := 1) (rest := []) (k_X1_hasRoom X.l Z X.A hAX σ c hI 1 (by omega)) ⟨_, _, _, _, rfl, gX1_addNumber_X1_hasRoom, rfl, rfl, by decide +kernel, ⟨Nat.le_of_ble_eq_true rfl, Nat.le_of_ble_eq_true rfl⟩⟩ rd_comp rfl rfl (Nat.le_of_ble_eq_true rfl) rfl dX1_addNumber_2 (fun v9 hv9 => ?_)
  subst hv9
  refine j_if_ne S 10 dX1_addNumber_5 (by decide) (fun h => ?_) (fun h => ?_)
  · skip
    have e9 : numberC c t = (0, addC (beginC c) t) := if_pos (b2i_n0.mp h)
    refine j_aload_n S dX1_addNumber_10 rfl ?_
    refine j_cVv S (n := 0) (rest := []) (k_X1_beginItem X.l Z X.A hAX σ c hI) ⟨_, _, _, _, rfl, gX1_addNumber_X1_beginItem, rfl, rfl, by decide +kernel, ⟨Nat.le_of_ble_eq_true rfl, Nat.le_of_ble_eq_true rfl⟩⟩ rd_comp rfl rfl (Nat.le_of_ble_eq_true rfl) rfl dX1_addNumber_11 ?_
    refine j_aload_n S dX1_addNumber_14 rfl ?_
    refine j_get S (C := RX1) (T := TX1) (N := 4) (by decide +kernel) rd_comp rfl (v := .ref (Z.ad (ro 6))) 0 (by decide) (by decide +kernel) rfl rfl dX1_addNumber_15 ?_
    refine j_iload_n S dX1_addNumber_18 rfl ?_
    refine j_cVv S (n := 1) (rest := []) (k_X3_add X.l Z X.A hAX (σ.setC (beginC c)) 6 (by omega) t) ⟨_, _, _, _, rfl, gX1_addNumber_X3_add, rfl, rfl, by decide +kernel, ⟨Nat.le_of_ble_eq_true rfl, Nat.le_of_ble_eq_true rfl⟩⟩ (rd_row (by omega)) rfl rfl (Nat.le_of_ble_eq_true rfl) rfl dX1_addNumber_19 ?_
    rw [setC_row6]
    refine j_iconst S 0 dX1_addNumber_22 (by decide) ?_
    exact j_ireturn S hRT hXA hQ hXk hXn dX1_addNumber_23 rfl (by rw [e9]) (fun H h => by rw [e9]; exact h)
  · skip
    have e9 : numberC c t = (5, c) := if_neg (by rw [b2i_0.mp h]; decide)
    refine j_iconst S 5 dX1_addNumber_8 (by decide) ?_
    exact j_ireturn S hRT hXA hQ hXk hXn dX1_addNumber_9 rfl (by rw [e9]) (fun H h => by rw [e9]; exact h)
