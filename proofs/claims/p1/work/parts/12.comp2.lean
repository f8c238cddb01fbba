def blkOf (σ : St) : Blk := fun b => (σ.row (9 + 2 * b), σ.fa b)
theorem i4 : (4 : Int32) = nI 4 := rfl
theorem i2 : (2 : Int32) = nI 2 := rfl
theorem optI_some {c : Cst} {i : Nat} (h : c.2.2.2 = some i) : optI c.2.2.2 = nI i := by rw [h]; rfl

set_option maxRecDepth 100000 in
set_option maxHeartbeats 4000000 in
theorem k_X1_addBlock (l : Launch) (Z : Zx) (A : Nat → Prop) (hA : AdOk Z A) (σ : St) (c : Cst) (hI : CInv c) (o b : Nat) (ho : o < 10) (hb : b < 10) : Km l Z A yX1_addBlock wsX1_addBlock { frames := 2, cells := 0, slots := 0, locals := 43 } (Wd Z (σ.setC c)) [.ref (Z.ad 2), .ref (Z.ad 1), .int (nI o), .int (nI b)] (Qi (Wd Z (σ.setC (blockC (blkOf σ) o c b).2)) A (fun v => v = (blockC (blkOf σ) o c b).1)) := by
  refine Km.of (cc := cX1_addBlock) (maxL := 6) (ret := (some .int)) (by decide) rfl (Nat.le_of_ble_eq_true rfl) hA ?_
  intro X hXl S hAX hRT hXA hQ hXk hXn
  show J X 6 (Wd Z (σ.setC c)) 0 [some (.ref (Z.ad 2)), some (.ref (Z.ad 1)), some (.int (nI o)), some (.int (nI b)), none, none] []
  obtain ⟨hI1, hI2, hI3, hI4, hI5⟩ := id hI
  have main : ¬ (4 ≤ o ∧ o ≤ b) → J X 6 (Wd Z (σ.setC c)) 34 [some (.ref (Z.ad 2)), some (.ref (Z.ad 1)), some (.int (nI o)), some (.int (nI b)), some (.int 0), none] [] := by
    intro hob
    refine J.caps (fun hcap => ?_)
    have hl9 : (σ.row (9 + 2 * b)).length ≤ 32 := by have := hcap (9 + 2 * b) (by omega); rw [setC_ne σ c (by omega) (by omega), cap_odd (by omega)] at this; exact this
    refine j_aload_n S dX1_addBlock_34 rfl ?_
    refine j_iload_n S dX1_addBlock_35 rfl ?_
    refine j_aaload S (v := Z.ad (po b)) rd_progs (vp_in_nI hb (by omega)) (by show some (Z.ad (po (nI b).toNatClampNeg)) = _; rw [nI_clamp (by omega)]) dX1_addBlock_36 ?_
    refine j_astore S [some (.ref (Z.ad 2)), some (.ref (Z.ad 1)), some (.int (nI o)), some (.int (nI b)), some (.int 0), some (.ref (Z.ad (po b)))] dX1_addBlock_37 (by decide) rfl rfl ?_
    refine j_aload S dX1_addBlock_39 rfl ?_
    refine j_getN S (C := RX2) (T := TX2) (N := 4) (by decide +kernel) (rd_prog (by omega)) rfl (v := .int ((σ.setC c).fa b)) 2 (by decide) 10 rfl rfl rfl dX1_addBlock_41 ?_
    refine j_if_eq S 50 dX1_addBlock_44 (by decide) (fun h => ?_) (fun h => ?_)
    · skip
      refine j_aload_n S dX1_addBlock_50 rfl ?_
      refine j_aload S dX1_addBlock_51 rfl ?_
      refine j_getN S (C := RX2) (T := TX2) (N := 4) (by decide +kernel) (rd_prog (by omega)) rfl (v := .ref (Z.ad (ro (9 + 2 * b)))) 1 (by decide) 11 rfl rfl rfl dX1_addBlock_53 ?_
      refine j_getN S (C := RX3) (T := TX3) (N := 2) (by decide +kernel) (rd_row (by omega)) rfl (v := .int (nI ((σ.setC c).row (9 + 2 * b)).length)) 1 (by decide) 9 rfl rfl rfl dX1_addBlock_56 ?_
      rw [setC_ne σ c (by omega) (by omega)]
      refine j_cVi S (n := 1) (rest := []) (k_X1_hasRoom X.l Z X.A hAX σ c hI (σ.row (9 + 2 * b)).length (by omega)) ⟨_, _, _, _, rfl, gX1_addBlock_X1_hasRoom, rfl, rfl, by decide +kernel, ⟨Nat.le_of_ble_eq_true rfl, Nat.le_of_ble_eq_true rfl⟩⟩ rd_comp rfl rfl (Nat.le_of_ble_eq_true rfl) rfl dX1_addBlock_59 (fun v9 hv9 => ?_)
      subst hv9
      refine j_if_ne S 67 dX1_addBlock_62 (by decide) (fun h2 => ?_) (fun h2 => ?_)
      · skip
        have e9 : blockC (blkOf σ) o c b = (0, addAllC (beginC c) (σ.row (9 + 2 * b))) := by unfold blockC; rw [if_neg hob, if_pos (show (blkOf σ b).2 = 0 from h), if_pos (show roomC c (blkOf σ b).1.length = true from b2i_n0.mp h2)]; rfl
        refine j_aload_n S dX1_addBlock_67 rfl ?_
        refine j_cVv S (n := 0) (rest := []) (k_X1_beginItem X.l Z X.A hAX σ c hI) ⟨_, _, _, _, rfl, gX1_addBlock_X1_beginItem, rfl, rfl, by decide +kernel, ⟨Nat.le_of_ble_eq_true rfl, Nat.le_of_ble_eq_true rfl⟩⟩ rd_comp rfl rfl (Nat.le_of_ble_eq_true rfl) rfl dX1_addBlock_68 ?_
        refine j_aload_n S dX1_addBlock_71 rfl ?_
        refine j_get S (C := RX1) (T := TX1) (N := 4) (by decide +kernel) rd_comp rfl (v := .ref (Z.ad (ro 6))) 0 (by decide) (by decide +kernel) rfl rfl dX1_addBlock_72 ?_
        refine j_aload S dX1_addBlock_75 rfl ?_
        refine j_getN S (C := RX2) (T := TX2) (N := 4) (by decide +kernel) (rd_prog (by omega)) rfl (v := .ref (Z.ad (ro (9 + 2 * b)))) 1 (by decide) 11 rfl rfl rfl dX1_addBlock_77 ?_
        refine j_cVv S (n := 1) (rest := []) (k_X3_addAll X.l Z X.A hAX (σ.setC (beginC c)) 6 (9 + 2 * b) (by omega) (by omega) (by omega)) ⟨_, _, _, _, rfl, gX1_addBlock_X3_addAll, rfl, rfl, by decide +kernel, ⟨Nat.le_of_ble_eq_true rfl, Nat.le_of_ble_eq_true rfl⟩⟩ (rd_row (by omega)) rfl rfl (Nat.le_of_ble_eq_true rfl) rfl dX1_addBlock_80 ?_
        rw [setC_ne σ (beginC c) (r := 9 + 2 * b) (by omega) (by omega), setC_row6]
        refine j_iconst S 0 dX1_addBlock_83 (by decide) ?_
        exact j_ireturn S hRT hXA hQ hXk hXn dX1_addBlock_84 rfl (by rw [e9]) (fun H h9 => by rw [e9]; exact h9)
      · skip
        have e9 : blockC (blkOf σ) o c b = (5, c) := by unfold blockC; rw [if_neg hob, if_pos (show (blkOf σ b).2 = 0 from h), if_neg (by rw [show roomC c (blkOf σ b).1.length = false from b2i_0.mp h2]; decide)]
        refine j_iconst S 5 dX1_addBlock_65 (by decide) ?_
        exact j_ireturn S hRT hXA hQ hXk hXn dX1_addBlock_66 rfl (by rw [e9]) (fun H h9 => by rw [e9]; exact h9)
    · skip
      have e9 : blockC (blkOf σ) o c b = (6, c) := by unfold blockC; rw [if_neg hob, if_neg (show ¬ (blkOf σ b).2 = 0 from h)]
      refine j_bipush S 6 dX1_addBlock_47 (by decide) ?_
      exact j_ireturn S hRT hXA hQ hXk hXn dX1_addBlock_49 rfl (by rw [e9]) (fun H h9 => by rw [e9]; exact h9)
  refine j_iload_n S dX1_addBlock_0 rfl ?_
  refine j_if_lt S 10 dX1_addBlock_1 (by decide) (fun h9 => absurd h9 (nI_pos (by omega))) (fun _ => ?_)
  refine j_iload_n S dX1_addBlock_4 rfl ?_
  refine j_aload_n S dX1_addBlock_5 rfl ?_
  refine j_alen S (v := 10) (t0 := 1) rd_progs rfl rfl dX1_addBlock_6 ?_
  refine j_icmp_lt S 14 dX1_addBlock_7 (by decide) (fun _ => ?_) (fun h9 => absurd (by rw [show (10 : Int32) = nI 10 from rfl, nI_ltI (by omega) (by omega)]; exact hb) h9)
  refine j_iconst S 0 dX1_addBlock_14 (by decide) ?_
  refine j_istore S [some (.ref (Z.ad 2)), some (.ref (Z.ad 1)), some (.int (nI o)), some (.int (nI b)), some (.int 0), none] dX1_addBlock_15 (by decide) rfl rfl ?_
  refine j_iload S dX1_addBlock_17 rfl ?_
  refine j_if_ne S 32 dX1_addBlock_19 (by decide) (fun h9 => absurd rfl h9) (fun _ => ?_)
  refine j_iload_n S dX1_addBlock_22 rfl ?_
  refine j_iconst S 4 dX1_addBlock_23 (by decide) ?_
  refine j_icmp_lt S 34 dX1_addBlock_24 (by decide) (fun h => ?_) (fun h => ?_)
  · skip
    exact main (by rw [i4, nI_ltI (by omega) (by omega)] at h; omega)
  · skip
    rw [i4, nI_ltI (by omega) (by omega)] at h
    refine j_iload_n S dX1_addBlock_27 rfl ?_
    refine j_iload_n S dX1_addBlock_28 rfl ?_
    refine j_icmp_lt S 34 dX1_addBlock_29 (by decide) (fun h2 => ?_) (fun h2 => ?_)
    · skip
      exact main (by rw [nI_ltI (by omega) (by omega)] at h2; omega)
    · skip
      rw [nI_ltI (by omega) (by omega)] at h2
      have e9 : blockC (blkOf σ) o c b = (4, c) := if_pos ⟨by omega, by omega⟩
      refine j_iconst S 4 dX1_addBlock_32 (by decide) ?_
      exact j_ireturn S hRT hXA hQ hXk hXn dX1_addBlock_33 rfl (by rw [e9]) (fun H h9 => by rw [e9]; exact h9)

theorem mir_exit {n g t : Nat} {y : Int32} (hn : n < 2 ^ 20) (hg : g ≤ n) (ht : t = n - 2 - g) (hy : 2 ≤ n → t ≤ n - 2 → y = nI (n - 2 - t)) (hy0 : n < 2 → y < 0) : y ≤ nI g := by
  rcases Nat.lt_or_ge n 2 with q | q
  · exact Int32.le_of_lt (Int32.lt_of_lt_of_le (hy0 q) (nI_pos' (by omega)))
  · rw [hy q (by omega), nI_leI (by omega) (by omega)]
    omega

set_option maxRecDepth 100000 in
set_option maxHeartbeats 4000000 in
theorem k_X1_addMirror (l : Launch) (Z : Zx) (A : Nat → Prop) (hA : AdOk Z A) (σ : St) (c : Cst) (hI : CInv c) : Km l Z A yX1_addMirror wsX1_addMirror { frames := 1, cells := 0, slots := 0, locals := 21 } (Wd Z (σ.setC c)) [.ref (Z.ad 2)] (Qi (Wd Z (σ.setC (mirrorC c).2)) A (fun v => v = (mirrorC c).1)) := by
  refine Km.of (cc := cX1_addMirror) (maxL := 3) (ret := (some .int)) (by decide) rfl (Nat.le_of_ble_eq_true rfl) hA ?_
  intro X hXl S hAX hRT hXA hQ hXk hXn
  show J X 3 (Wd Z (σ.setC c)) 0 [some (.ref (Z.ad 2)), none, none] []
  obtain ⟨hI1, hI2, hI3, hI4, hI5⟩ := id hI
  have loop : roomC c (c.1.length - 2 - c.2.2.1) = true → ∀ (f t : Nat) (y0 y : Int32), t + f = (c.1.length - 2 - c.2.2.1) → (2 ≤ c.1.length → t ≤ c.1.length - 2 → y = nI (c.1.length - 2 - t)) → (c.1.length < 2 → y < 0) → J X 3 (Wd Z (σ.setC (mirN c.1 (c.1.length - 2) t, c.2.1, c.2.2.1, some c.1.length))) 35 [some (.ref (Z.ad 2)), some (.int y0), some (.int y)] [] := by
    intro hroom
    have e9 : mirrorC c = (0, (mirN c.1 (c.1.length - 2) (c.1.length - 2 - c.2.2.1), c.2.1, c.2.2.1, some c.1.length)) := if_pos hroom
    intro f
    induction f with
    | zero =>
      intro t y0 y ht hy hy0
      refine j_iload_n S dX1_addMirror_35 rfl ?_
      refine j_aload_n S dX1_addMirror_36 rfl ?_
      refine j_get S (C := RX1) (T := TX1) (N := 4) (by decide +kernel) rd_comp rfl (v := .int (nI c.2.2.1)) 2 (by decide) (by decide +kernel) rfl rfl dX1_addMirror_37 ?_
      refine j_icmp_le S 64 dX1_addMirror_40 (by decide) (fun _ => ?_) (fun h9 => absurd (mir_exit (by omega) hI2 (by omega) hy hy0) h9)
      refine j_iconst S 0 dX1_addMirror_64 (by decide) ?_
      exact j_ireturn S hRT hXA hQ hXk hXn dX1_addMirror_65 rfl (by rw [e9]) (fun H h9 => by rw [e9]; rw [show t = (c.1.length - 2 - c.2.2.1) by omega] at h9; exact h9)
    | succ f ih =>
      intro t y0 y ht hy hy0
      obtain rfl := hy (by omega) (by omega)
      refine j_iload_n S dX1_addMirror_35 rfl ?_
      refine j_aload_n S dX1_addMirror_36 rfl ?_
      refine j_get S (C := RX1) (T := TX1) (N := 4) (by decide +kernel) rd_comp rfl (v := .int (nI c.2.2.1)) 2 (by decide) (by decide +kernel) rfl rfl dX1_addMirror_37 ?_
      refine j_icmp_le S 64 dX1_addMirror_40 (by decide) (fun h9 => absurd h9 (by rw [nI_leI (by omega) (by omega)]; omega)) (fun _ => ?_)
      refine j_aload_n S dX1_addMirror_43 rfl ?_
      refine j_get S (C := RX1) (T := TX1) (N := 4) (by decide +kernel) rd_comp rfl (v := .ref (Z.ad (ro 6))) 0 (by decide) (by decide +kernel) rfl rfl dX1_addMirror_44 ?_
      refine j_aload_n S dX1_addMirror_47 rfl ?_
      refine j_get S (C := RX1) (T := TX1) (N := 4) (by decide +kernel) rd_comp rfl (v := .ref (Z.ad (ro 6))) 0 (by decide) (by decide +kernel) rfl rfl dX1_addMirror_48 ?_
      refine j_iload_n S dX1_addMirror_51 rfl ?_
      refine j_cVi S (n := 1) (rest := [.ref (Z.ad (ro 6))]) (k_X3_at X.l Z X.A hAX (σ.setC (mirN c.1 (c.1.length - 2) t, c.2.1, c.2.2.1, some c.1.length)) 6 (by omega) (nI (c.1.length - 2 - t))) ⟨_, _, _, _, rfl, gX1_addMirror_X3_at, rfl, rfl, by decide +kernel, ⟨Nat.le_of_ble_eq_true rfl, Nat.le_of_ble_eq_true rfl⟩⟩ (rd_row (by omega)) rfl rfl (Nat.le_of_ble_eq_true rfl) rfl dX1_addMirror_52 (fun v9 hv9 => ?_)
      subst hv9
      refine j_cVv S (n := 1) (rest := []) (k_X3_add X.l Z X.A hAX (σ.setC (mirN c.1 (c.1.length - 2) t, c.2.1, c.2.2.1, some c.1.length)) 6 (by omega) (atI (mirN c.1 (c.1.length - 2) t) (nI (c.1.length - 2 - t)))) ⟨_, _, _, _, rfl, gX1_addMirror_X3_add, rfl, rfl, by decide +kernel, ⟨Nat.le_of_ble_eq_true rfl, Nat.le_of_ble_eq_true rfl⟩⟩ (rd_row (by omega)) rfl rfl (Nat.le_of_ble_eq_true rfl) rfl dX1_addMirror_55 ?_
      refine j_iinc S (nI (c.1.length - 2 - t) + (-1)) [some (.ref (Z.ad 2)), some (.int y0), some (.int (nI (c.1.length - 2 - t) + (-1)))] dX1_addMirror_58 rfl rfl (by decide) rfl rfl ?_
      refine j_goto S 35 dX1_addMirror_61 (by decide) ?_
      refine J.mono (w' := Wd Z (σ.setC (mirN c.1 (c.1.length - 2) (t + 1), c.2.1, c.2.2.1, some c.1.length))) (fun H h9 => by rw [setC_6, setC_row6, atI_nI _ (by omega)] at h9; exact h9) ?_
      refine ih (t + 1) _ _ (by omega) (fun q1 q2 => ?_) (fun q => by omega)
      rw [show c.1.length - 2 - t = c.1.length - 2 - (t + 1) + 1 by omega]; exact pk_m1 _
  refine j_aload_n S dX1_addMirror_0 rfl ?_
  refine j_get S (C := RX1) (T := TX1) (N := 4) (by decide +kernel) rd_comp rfl (v := .ref (Z.ad (ro 6))) 0 (by decide) (by decide +kernel) rfl rfl dX1_addMirror_1 ?_
  refine j_getN S (C := RX3) (T := TX3) (N := 2) (by decide +kernel) (rd_row (by omega)) rfl (v := .int (nI c.1.length)) 1 (by decide) 9 rfl rfl rfl dX1_addMirror_4 ?_
  refine j_iconst S 2 dX1_addMirror_7 (by decide) ?_
  refine j_isub S ((nI c.1.length) - 2) dX1_addMirror_8 rfl ?_
  refine j_istore_n S [some (.ref (Z.ad 2)), some (.int ((nI c.1.length) - 2)), none] dX1_addMirror_9 (by decide) rfl rfl ?_
  refine j_aload_n S dX1_addMirror_10 rfl ?_
  refine j_iconst S 0 dX1_addMirror_11 (by decide) ?_
  refine j_iload_n S dX1_addMirror_12 rfl ?_
  refine j_aload_n S dX1_addMirror_13 rfl ?_
  refine j_get S (C := RX1) (T := TX1) (N := 4) (by decide +kernel) rd_comp rfl (v := .int (nI c.2.2.1)) 2 (by decide) (by decide +kernel) rfl rfl dX1_addMirror_14 ?_
  refine j_isub S (((nI c.1.length) - 2) - (nI c.2.2.1)) dX1_addMirror_17 rfl ?_
  refine j_max S (nI (c.1.length - 2 - c.2.2.1)) (by decide +kernel) (by decide +kernel) (by decide +kernel) (by decide +kernel) ⟨Nat.le_of_ble_eq_true rfl, Nat.le_of_ble_eq_true rfl⟩ dX1_addMirror_18 (mir_num hI1 hI2 (fun q => by rw [i2]; exact pk_sub q) (fun q => by rw [i2]; exact pk_sneg (by omega) q) (fun _ => rfl)) ?_
  refine j_cVi S (n := 1) (rest := []) (k_X1_hasRoom X.l Z X.A hAX σ c hI (c.1.length - 2 - c.2.2.1) (by omega)) ⟨_, _, _, _, rfl, gX1_addMirror_X1_hasRoom, rfl, rfl, by decide +kernel, ⟨Nat.le_of_ble_eq_true rfl, Nat.le_of_ble_eq_true rfl⟩⟩ rd_comp rfl rfl (Nat.le_of_ble_eq_true rfl) rfl dX1_addMirror_21 (fun v9 hv9 => ?_)
  subst hv9
  refine j_if_ne S 29 dX1_addMirror_24 (by decide) (fun h => ?_) (fun h => ?_)
  · skip
    refine j_aload_n S dX1_addMirror_29 rfl ?_
    refine j_cVv S (n := 0) (rest := []) (k_X1_beginItem X.l Z X.A hAX σ c hI) ⟨_, _, _, _, rfl, gX1_addMirror_X1_beginItem, rfl, rfl, by decide +kernel, ⟨Nat.le_of_ble_eq_true rfl, Nat.le_of_ble_eq_true rfl⟩⟩ rd_comp rfl rfl (Nat.le_of_ble_eq_true rfl) rfl dX1_addMirror_30 ?_
    refine j_iload_n S dX1_addMirror_33 rfl ?_
    refine j_istore_n S [some (.ref (Z.ad 2)), some (.int ((nI c.1.length) - 2)), some (.int ((nI c.1.length) - 2))] dX1_addMirror_34 (by decide) rfl rfl ?_
    exact loop (b2i_n0.mp h) (c.1.length - 2 - c.2.2.1) 0 _ _ (by omega) (fun q _ => by rw [i2, Nat.sub_zero]; exact pk_sub q) (fun q => by rw [i2]; exact pk_sneg (by omega) q)
  · skip
    have e9 : mirrorC c = (5, c) := if_neg (by rw [b2i_0.mp h]; decide)
    refine j_iconst S 5 dX1_addMirror_27 (by decide) ?_
    exact j_ireturn S hRT hXA hQ hXk hXn dX1_addMirror_28 rfl (by rw [e9]) (fun H h9 => by rw [e9]; exact h9)

set_option maxRecDepth 100000 in
set_option maxHeartbeats 4000000 in
theorem k_X1_repeatItem (l : Launch) (Z : Zx) (A : Nat → Prop) (hA : AdOk Z A) (σ : St) (num : List Int32) (outs : List Nat) (g i : Nat) (hI : CInv (num, outs, g, some i)) (k : Nat) (hk8 : k ≤ 12) : Km l Z A yX1_repeatItem wsX1_repeatItem { frames := 1, cells := 0, slots := 0, locals := 21 } (Wd Z (σ.setC (num, outs, g, some i))) [.ref (Z.ad 2), .int (nI k)] (Qi (Wd Z (σ.setC (repeatC (num, outs, g, some i) i k).2)) A (fun v => v = (repeatC (num, outs, g, some i) i k).1)) := by
  refine Km.of (cc := cX1_repeatItem) (maxL := 4) (ret := (some .int)) (by decide) rfl (Nat.le_of_ble_eq_true rfl) hA ?_
  intro X hXl S hAX hRT hXA hQ hXk hXn
  show J X 4 (Wd Z (σ.setC (num, outs, g, some i))) 0 [some (.ref (Z.ad 2)), some (.int (nI k)), none, none] []
  have hI1 : num.length ≤ 1312 := hI.1
  have hI2 : g ≤ num.length := hI.2.1
  have hI3 : i ≤ num.length := hI.2.2.1 i rfl
  have hM : ((num.length - i) * k) ≤ 20000 := Nat.le_trans (Nat.mul_le_mul (show num.length - i ≤ 1312 by omega) hk8) (by decide)
  have loop : roomC (num, outs, g, some i) ((num.length - i) * k) = true → ∀ (f t : Nat), t + f = ((num.length - i) * k) → J X 4 (Wd Z (σ.setC (repN num i t, outs, g, some i))) 27 [some (.ref (Z.ad 2)), some (.int (nI k)), some (.int (nI ((num.length - i) * k))), some (.int (nI t))] [] := by
    intro hroom
    have e9 : repeatC (num, outs, g, some i) i k = (0, (repN num i ((num.length - i) * k), outs, g, some i)) := if_pos hroom
    intro f
    induction f with
    | zero =>
      intro t ht
      refine j_iload_n S dX1_repeatItem_27 rfl ?_
      refine j_iload_n S dX1_repeatItem_28 rfl ?_
      refine j_icmp_ge S 58 dX1_repeatItem_29 (by decide) (fun _ => ?_) (fun h9 => absurd (by rw [nI_leI (by omega) (by omega)]; omega) h9)
      refine j_iconst S 0 dX1_repeatItem_58 (by decide) ?_
      exact j_ireturn S hRT hXA hQ hXk hXn dX1_repeatItem_59 rfl (by rw [e9]) (fun H h9 => by rw [e9]; rw [show t = ((num.length - i) * k) by omega] at h9; exact h9)
    | succ f ih =>
      intro t ht
      refine j_iload_n S dX1_repeatItem_27 rfl ?_
      refine j_iload_n S dX1_repeatItem_28 rfl ?_
      refine j_icmp_ge S 58 dX1_repeatItem_29 (by decide) (fun h9 => absurd h9 (by rw [nI_leI (by omega) (by omega)]; omega)) (fun _ => ?_)
      refine j_aload_n S dX1_repeatItem_32 rfl ?_
      refine j_get S (C := RX1) (T := TX1) (N := 4) (by decide +kernel) rd_comp rfl (v := .ref (Z.ad (ro 6))) 0 (by decide) (by decide +kernel) rfl rfl dX1_repeatItem_33 ?_
      refine j_aload_n S dX1_repeatItem_36 rfl ?_
      refine j_get S (C := RX1) (T := TX1) (N := 4) (by decide +kernel) rd_comp rfl (v := .ref (Z.ad (ro 6))) 0 (by decide) (by decide +kernel) rfl rfl dX1_repeatItem_37 ?_
      refine j_aload_n S dX1_repeatItem_40 rfl ?_
      refine j_get S (C := RX1) (T := TX1) (N := 4) (by decide +kernel) rd_comp rfl (v := .int (nI i)) 3 (by decide) (by decide +kernel) rfl rfl dX1_repeatItem_41 ?_
      refine j_iload_n S dX1_repeatItem_44 rfl ?_
      refine j_iadd S (nI (i + t)) dX1_repeatItem_45 (nI_add i t) ?_
      refine j_cVi S (n := 1) (rest := [.ref (Z.ad (ro 6))]) (k_X3_at X.l Z X.A hAX (σ.setC (repN num i t, outs, g, some i)) 6 (by omega) (nI (i + t))) ⟨_, _, _, _, rfl, gX1_repeatItem_X3_at, rfl, rfl, by decide +kernel, ⟨Nat.le_of_ble_eq_true rfl, Nat.le_of_ble_eq_true rfl⟩⟩ (rd_row (by omega)) rfl rfl (Nat.le_of_ble_eq_true rfl) rfl dX1_repeatItem_46 (fun v9 hv9 => ?_)
      subst hv9
      refine j_cVv S (n := 1) (rest := []) (k_X3_add X.l Z X.A hAX (σ.setC (repN num i t, outs, g, some i)) 6 (by omega) (atI (repN num i t) (nI (i + t)))) ⟨_, _, _, _, rfl, gX1_repeatItem_X3_add, rfl, rfl, by decide +kernel, ⟨Nat.le_of_ble_eq_true rfl, Nat.le_of_ble_eq_true rfl⟩⟩ (rd_row (by omega)) rfl rfl (Nat.le_of_ble_eq_true rfl) rfl dX1_repeatItem_49 ?_
      refine j_iinc S (nI (t + 1)) [some (.ref (Z.ad 2)), some (.int (nI k)), some (.int (nI ((num.length - i) * k))), some (.int (nI (t + 1)))] dX1_repeatItem_52 rfl (nI_1 t) (by decide) rfl rfl ?_
      refine j_goto S 27 dX1_repeatItem_55 (by decide) ?_
      refine J.mono (w' := Wd Z (σ.setC (repN num i (t + 1), outs, g, some i))) (fun H h9 => by rw [setC_6, setC_row6, atI_nI _ (by omega)] at h9; exact h9) ?_
      exact ih (t + 1) (by omega)
  refine j_aload_n S dX1_repeatItem_0 rfl ?_
  refine j_get S (C := RX1) (T := TX1) (N := 4) (by decide +kernel) rd_comp rfl (v := .ref (Z.ad (ro 6))) 0 (by decide) (by decide +kernel) rfl rfl dX1_repeatItem_1 ?_
  refine j_getN S (C := RX3) (T := TX3) (N := 2) (by decide +kernel) (rd_row (by omega)) rfl (v := .int (nI num.length)) 1 (by decide) 9 rfl rfl rfl dX1_repeatItem_4 ?_
  refine j_aload_n S dX1_repeatItem_7 rfl ?_
  refine j_get S (C := RX1) (T := TX1) (N := 4) (by decide +kernel) rd_comp rfl (v := .int (nI i)) 3 (by decide) (by decide +kernel) rfl rfl dX1_repeatItem_8 ?_
  refine j_isub S (nI (num.length - i)) dX1_repeatItem_11 (pk_sub hI3) ?_
  refine j_iload_n S dX1_repeatItem_12 rfl ?_
  refine j_imul S (nI ((num.length - i) * k)) dX1_repeatItem_13 (pk_mul _ _) ?_
  refine j_istore_n S [some (.ref (Z.ad 2)), some (.int (nI k)), some (.int (nI ((num.length - i) * k))), none] dX1_repeatItem_14 (by decide) rfl rfl ?_
  refine j_aload_n S dX1_repeatItem_15 rfl ?_
  refine j_iload_n S dX1_repeatItem_16 rfl ?_
  refine j_cVi S (n := 1) (rest := []) (k_X1_hasRoom X.l Z X.A hAX σ (num, outs, g, some i) hI ((num.length - i) * k) hM) ⟨_, _, _, _, rfl, gX1_repeatItem_X1_hasRoom, rfl, rfl, by decide +kernel, ⟨Nat.le_of_ble_eq_true rfl, Nat.le_of_ble_eq_true rfl⟩⟩ rd_comp rfl rfl (Nat.le_of_ble_eq_true rfl) rfl dX1_repeatItem_17 (fun v9 hv9 => ?_)
  subst hv9
  refine j_if_ne S 25 dX1_repeatItem_20 (by decide) (fun h => ?_) (fun h => ?_)
  · skip
    refine j_iconst S 0 dX1_repeatItem_25 (by decide) ?_
    refine j_istore_n S [some (.ref (Z.ad 2)), some (.int (nI k)), some (.int (nI ((num.length - i) * k))), some (.int 0)] dX1_repeatItem_26 (by decide) rfl rfl ?_
    exact loop (b2i_n0.mp h) ((num.length - i) * k) 0 (by omega)
  · skip
    have e9 : repeatC (num, outs, g, some i) i k = (5, (num, outs, g, some i)) := if_neg (by rw [show roomC (num, outs, g, some i) ((num.length - i) * k) = false from b2i_0.mp h]; decide)
    refine j_iconst S 5 dX1_repeatItem_23 (by decide) ?_
    exact j_ireturn S hRT hXA hQ hXk hXn dX1_repeatItem_24 rfl (by rw [e9]) (fun H h9 => by rw [e9]; exact h9)

set_option maxRecDepth 100000 in
set_option maxHeartbeats 4000000 in
theorem k_X1_raiseItem (l : Launch) (Z : Zx) (A : Nat → Prop) (hA : AdOk Z A) (σ : St) (num : List Int32) (outs : List Nat) (g i : Nat) (hI : CInv (num, outs, g, some i)) (d : Int32) : Km l Z A yX1_raiseItem wsX1_raiseItem { frames := 1, cells := 0, slots := 0, locals := 22 } (Wd Z (σ.setC (num, outs, g, some i))) [.ref (Z.ad 2), .int d] (Qv (Wd Z (σ.setC (raiseC (num, outs, g, some i) i d))) A) := by
  refine Km.of (cc := cX1_raiseItem) (maxL := 3) (ret := none) (by decide) rfl (Nat.le_of_ble_eq_true rfl) hA ?_
  intro X hXl S hAX hRT hXA hQ hXk hXn
  show J X 3 (Wd Z (σ.setC (num, outs, g, some i))) 0 [some (.ref (Z.ad 2)), some (.int d), none] []
  have hI1 : num.length ≤ 1312 := hI.1
  have hI2 : g ≤ num.length := hI.2.1
  have hI3 : i ≤ num.length := hI.2.2.1 i rfl
  have loop : ∀ (f t : Nat), t + f = num.length - i → J X 3 (Wd Z (σ.setC (raiseN num i d t, outs, g, some i))) 5 [some (.ref (Z.ad 2)), some (.int d), some (.int (nI (i + t)))] [] := by
    intro f
    induction f with
    | zero =>
      intro t ht
      refine j_iload_n S dX1_raiseItem_5 rfl ?_
      refine j_aload_n S dX1_raiseItem_6 rfl ?_
      refine j_get S (C := RX1) (T := TX1) (N := 4) (by decide +kernel) rd_comp rfl (v := .ref (Z.ad (ro 6))) 0 (by decide) (by decide +kernel) rfl rfl dX1_raiseItem_7 ?_
      refine j_getN S (C := RX3) (T := TX3) (N := 2) (by decide +kernel) (rd_row (by omega)) rfl (v := .int (nI (raiseN num i d t).length)) 1 (by decide) 9 rfl rfl rfl dX1_raiseItem_10 ?_
      rw [raiseN_len]
      refine j_icmp_ge S 43 dX1_raiseItem_13 (by decide) (fun _ => ?_) (fun h9 => absurd (by rw [nI_leI (by omega) (by omega)]; omega) h9)
      exact j_return S hRT hXA hQ hXk hXn dX1_raiseItem_43 (fun H h9 => by rw [show t = num.length - i by omega] at h9; exact h9)
    | succ f ih =>
      intro t ht
      refine j_iload_n S dX1_raiseItem_5 rfl ?_
      refine j_aload_n S dX1_raiseItem_6 rfl ?_
      refine j_get S (C := RX1) (T := TX1) (N := 4) (by decide +kernel) rd_comp rfl (v := .ref (Z.ad (ro 6))) 0 (by decide) (by decide +kernel) rfl rfl dX1_raiseItem_7 ?_
      refine j_getN S (C := RX3) (T := TX3) (N := 2) (by decide +kernel) (rd_row (by omega)) rfl (v := .int (nI (raiseN num i d t).length)) 1 (by decide) 9 rfl rfl rfl dX1_raiseItem_10 ?_
      rw [raiseN_len]
      refine j_icmp_ge S 43 dX1_raiseItem_13 (by decide) (fun h9 => absurd h9 (by rw [nI_leI (by omega) (by omega)]; omega)) (fun _ => ?_)
      refine j_aload_n S dX1_raiseItem_16 rfl ?_
      refine j_get S (C := RX1) (T := TX1) (N := 4) (by decide +kernel) rd_comp rfl (v := .ref (Z.ad (ro 6))) 0 (by decide) (by decide +kernel) rfl rfl dX1_raiseItem_17 ?_
      refine j_iload_n S dX1_raiseItem_20 rfl ?_
      refine j_aload_n S dX1_raiseItem_21 rfl ?_
      refine j_get S (C := RX1) (T := TX1) (N := 4) (by decide +kernel) rd_comp rfl (v := .ref (Z.ad (ro 6))) 0 (by decide) (by decide +kernel) rfl rfl dX1_raiseItem_22 ?_
      refine j_iload_n S dX1_raiseItem_25 rfl ?_
      refine j_cVi S (n := 1) (rest := [.int (nI (i + t)), .ref (Z.ad (ro 6))]) (k_X3_at X.l Z X.A hAX (σ.setC (raiseN num i d t, outs, g, some i)) 6 (by omega) (nI (i + t))) ⟨_, _, _, _, rfl, gX1_raiseItem_X3_at, rfl, rfl, by decide +kernel, ⟨Nat.le_of_ble_eq_true rfl, Nat.le_of_ble_eq_true rfl⟩⟩ (rd_row (by omega)) rfl rfl (Nat.le_of_ble_eq_true rfl) rfl dX1_raiseItem_26 (fun v9 hv9 => ?_)
      subst hv9
      refine j_iload_n S dX1_raiseItem_29 rfl ?_
      refine j_iadd S ((atI (raiseN num i d t) (nI (i + t))) + d) dX1_raiseItem_30 rfl ?_
      refine j_bipush S 7 dX1_raiseItem_31 (by decide) ?_
      refine j_iand S (((atI (raiseN num i d t) (nI (i + t))) + d) &&& 7) dX1_raiseItem_33 rfl ?_
      refine j_cVv S (n := 2) (rest := []) (k_X3_put X.l Z X.A hAX (σ.setC (raiseN num i d t, outs, g, some i)) 6 (by omega) (nI (i + t)) (((atI (raiseN num i d t) (nI (i + t))) + d) &&& 7)) ⟨_, _, _, _, rfl, gX1_raiseItem_X3_put, rfl, rfl, by decide +kernel, ⟨Nat.le_of_ble_eq_true rfl, Nat.le_of_ble_eq_true rfl⟩⟩ (rd_row (by omega)) rfl rfl (Nat.le_of_ble_eq_true rfl) rfl dX1_raiseItem_34 ?_
      refine j_iinc S (nI (i + (t + 1))) [some (.ref (Z.ad 2)), some (.int d), some (.int (nI (i + (t + 1))))] dX1_raiseItem_37 rfl (nI_1 (i + t)) (by decide) rfl rfl ?_
      refine j_goto S 5 dX1_raiseItem_40 (by decide) ?_
      refine J.mono (w' := Wd Z (σ.setC (raiseN num i d (t + 1), outs, g, some i))) (fun H h9 => by rw [setC_6, setC_row6, putI_nI _ _ (by omega), atI_nI _ (by omega)] at h9; exact h9) ?_
      exact ih (t + 1) (by omega)
  refine j_aload_n S dX1_raiseItem_0 rfl ?_
  refine j_get S (C := RX1) (T := TX1) (N := 4) (by decide +kernel) rd_comp rfl (v := .int (nI i)) 3 (by decide) (by decide +kernel) rfl rfl dX1_raiseItem_1 ?_
  refine j_istore_n S [some (.ref (Z.ad 2)), some (.int d), some (.int (nI i))] dX1_raiseItem_4 (by decide) rfl rfl ?_
  exact loop (num.length - i) 0 (by omega)

set_option maxRecDepth 100000 in
set_option maxHeartbeats 4000000 in
theorem k_X1_changeItem (l : Launch) (Z : Zx) (A : Nat → Prop) (hA : AdOk Z A) (σ : St) (c : Cst) (hI : CInv c) (k : Nat) (hk1 : 22 ≤ k) (hk2 : k ≤ 33) : Km l Z A yX1_changeItem wsX1_changeItem { frames := 2, cells := 0, slots := 0, locals := 46 } (Wd Z (σ.setC c)) [.ref (Z.ad 2), .int (nI k)] (Qi (Wd Z (σ.setC (changeC c k).2)) A (fun v => v = (changeC c k).1)) := by
  refine Km.of (cc := cX1_changeItem) (maxL := 2) (ret := (some .int)) (by decide) rfl (Nat.le_of_ble_eq_true rfl) hA ?_
  intro X hXl S hAX hRT hXA hQ hXk hXn
  show J X 2 (Wd Z (σ.setC c)) 0 [some (.ref (Z.ad 2)), some (.int (nI k))] []
  obtain ⟨num, outs, g, it⟩ := c
  cases it with
  | none =>
    refine j_aload_n S dX1_changeItem_0 rfl ?_
    refine j_get S (C := RX1) (T := TX1) (N := 4) (by decide +kernel) rd_comp rfl (v := .int (optI none)) 3 (by decide) (by decide +kernel) rfl rfl dX1_changeItem_1 ?_
    refine j_iconst S (-1) dX1_changeItem_4 (by decide) ?_
    refine j_icmp_ne S 10 dX1_changeItem_5 (by decide) (fun h9 => absurd rfl h9) (fun _ => ?_)
    refine j_iconst S 1 dX1_changeItem_8 (by decide) ?_
    exact j_ireturn S hRT hXA hQ hXk hXn dX1_changeItem_9 rfl rfl (fun H h => h)
  | some i =>
    have hI1 : num.length ≤ 1312 := hI.1
    have hI2 : g ≤ num.length := hI.2.1
    have hI3 : i ≤ num.length := hI.2.2.1 i rfl
    refine j_aload_n S dX1_changeItem_0 rfl ?_
    refine j_get S (C := RX1) (T := TX1) (N := 4) (by decide +kernel) rd_comp rfl (v := .int (nI i)) 3 (by decide) (by decide +kernel) rfl rfl dX1_changeItem_1 ?_
    refine j_iconst S (-1) dX1_changeItem_4 (by decide) ?_
    refine j_icmp_ne S 10 dX1_changeItem_5 (by decide) (fun _ => ?_) (fun h9 => absurd h9 (show ¬ nI i = -1 from fun q => absurd (by rw [q]; decide) (nI_pos (n := i) (by omega))))
    refine j_iload_n S dX1_changeItem_10 rfl ?_
    by_cases h30 : k = 30
    · subst h30
      refine j_table S 40 dX1_changeItem_11 (by decide) (by decide) rfl (by decide) ?_
      refine j_aload_n S dX1_changeItem_40 rfl ?_
      refine j_get S (C := RX1) (T := TX1) (N := 4) (by decide +kernel) rd_comp rfl (v := .ref (Z.ad (ro 6))) 0 (by decide) (by decide +kernel) rfl rfl dX1_changeItem_41 ?_
      refine j_aload_n S dX1_changeItem_44 rfl ?_
      refine j_get S (C := RX1) (T := TX1) (N := 4) (by decide +kernel) rd_comp rfl (v := .int (nI i)) 3 (by decide) (by decide +kernel) rfl rfl dX1_changeItem_45 ?_
      refine j_cVv S (n := 1) (rest := []) (k_X3_turnFrom X.l Z X.A hAX (σ.setC (num, outs, g, some i)) 6 (by omega) i (by omega)) ⟨_, _, _, _, rfl, gX1_changeItem_X3_turnFrom, rfl, rfl, by decide +kernel, ⟨Nat.le_of_ble_eq_true rfl, Nat.le_of_ble_eq_true rfl⟩⟩ (rd_row (by omega)) rfl rfl (Nat.le_of_ble_eq_true rfl) rfl dX1_changeItem_48 ?_
      refine j_iconst S 0 dX1_changeItem_51 (by decide) ?_
      exact j_ireturn S hRT hXA hQ hXk hXn dX1_changeItem_52 rfl rfl (fun H h9 => by rw [setC_6, setC_row6] at h9; exact h9)
    by_cases h31 : k = 31
    · subst h31
      refine j_table S 53 dX1_changeItem_11 (by decide) (by decide) rfl (by decide) ?_
      refine j_aload_n S dX1_changeItem_53 rfl ?_
      refine j_cVi S (n := 0) (rest := []) (k_X1_addMirror X.l Z X.A hAX σ (num, outs, g, some i) hI) ⟨_, _, _, _, rfl, gX1_changeItem_X1_addMirror, rfl, rfl, by decide +kernel, ⟨Nat.le_of_ble_eq_true rfl, Nat.le_of_ble_eq_true rfl⟩⟩ rd_comp rfl rfl (Nat.le_of_ble_eq_true rfl) rfl dX1_changeItem_54 (fun v9 hv9 => ?_)
      subst hv9
      exact j_ireturn S hRT hXA hQ hXk hXn dX1_changeItem_57 rfl rfl (fun H h => h)
    by_cases h32 : k = 32
    · subst h32
      refine j_table S 58 dX1_changeItem_11 (by decide) (by decide) rfl (by decide) ?_
      refine j_aload_n S dX1_changeItem_58 rfl ?_
      refine j_iconst S 1 dX1_changeItem_59 (by decide) ?_
      refine j_cVv S (n := 1) (rest := []) (k_X1_raiseItem X.l Z X.A hAX σ num outs g i hI 1) ⟨_, _, _, _, rfl, gX1_changeItem_X1_raiseItem, rfl, rfl, by decide +kernel, ⟨Nat.le_of_ble_eq_true rfl, Nat.le_of_ble_eq_true rfl⟩⟩ rd_comp rfl rfl (Nat.le_of_ble_eq_true rfl) rfl dX1_changeItem_60 ?_
      refine j_iconst S 0 dX1_changeItem_63 (by decide) ?_
      exact j_ireturn S hRT hXA hQ hXk hXn dX1_changeItem_64 rfl rfl (fun H h => h)
    by_cases h33 : k = 33
    · subst h33
      refine j_table S 65 dX1_changeItem_11 (by decide) (by decide) rfl (by decide) ?_
      refine j_aload_n S dX1_changeItem_65 rfl ?_
      refine j_iconst S (-1) dX1_changeItem_66 (by decide) ?_
      refine j_cVv S (n := 1) (rest := []) (k_X1_raiseItem X.l Z X.A hAX σ num outs g i hI (-1)) ⟨_, _, _, _, rfl, gX1_changeItem_X1_raiseItem, rfl, rfl, by decide +kernel, ⟨Nat.le_of_ble_eq_true rfl, Nat.le_of_ble_eq_true rfl⟩⟩ rd_comp rfl rfl (Nat.le_of_ble_eq_true rfl) rfl dX1_changeItem_67 ?_
      refine j_iconst S 0 dX1_changeItem_70 (by decide) ?_
      exact j_ireturn S hRT hXA hQ hXk hXn dX1_changeItem_71 rfl rfl (fun H h => h)
    have hto : (nI k).toInt = k := nI_toInt (by omega)
    refine j_tableOut S 72 dX1_changeItem_11 (by rw [hto]; omega) (by decide) ?_
    refine j_aload_n S dX1_changeItem_72 rfl ?_
    refine j_iload_n S dX1_changeItem_73 rfl ?_
    refine j_bipush S 22 dX1_changeItem_74 (by decide) ?_
    refine j_isub S (nI (k - 22)) dX1_changeItem_76 (by rw [show (22 : Int32) = nI 22 from rfl]; exact pk_sub (by omega)) ?_
    refine j_iconst S 1 dX1_changeItem_77 (by decide) ?_
    refine j_iadd S (nI (k - 21)) dX1_changeItem_78 (by rw [nI_1, show k - 22 + 1 = k - 21 by omega]) ?_
    refine j_cVi S (n := 1) (rest := []) (k_X1_repeatItem X.l Z X.A hAX σ num outs g i hI (k - 21) (by omega)) ⟨_, _, _, _, rfl, gX1_changeItem_X1_repeatItem, rfl, rfl, by decide +kernel, ⟨Nat.le_of_ble_eq_true rfl, Nat.le_of_ble_eq_true rfl⟩⟩ rd_comp rfl rfl (Nat.le_of_ble_eq_true rfl) rfl dX1_changeItem_79 (fun v9 hv9 => ?_)
    subst hv9
    have e9 : changeC (num, outs, g, some i) k = repeatC (num, outs, g, some i) i (k - 21) := by unfold changeC; dsimp only; rw [if_neg h30, if_neg h31, if_neg h32, if_neg h33]
    exact j_ireturn S hRT hXA hQ hXk hXn dX1_changeItem_82 rfl (by rw [e9]) (fun H h9 => by rw [e9]; exact h9)

set_option maxRecDepth 100000 in
set_option maxHeartbeats 4000000 in
theorem k_X1_read (l : Launch) (Z : Zx) (A : Nat → Prop) (hA : AdOk Z A) (σ : St) (c : Cst) (hI : CInv c) (o k : Nat) (ho : o < 10) (hk : tokN k) : Km l Z A yX1_read wsX1_read { frames := 3, cells := 0, slots := 0, locals := 68 } (Wd Z (σ.setC c)) [.ref (Z.ad 2), .ref (Z.ad 1), .int (nI o), .int (nI k)] (Qi (Wd Z (σ.setC (readC (blkOf σ) o c k).2)) A (fun v => v = (readC (blkOf σ) o c k).1)) := by
  refine Km.of (cc := cX1_read) (maxL := 4) (ret := (some .int)) (by decide) rfl (Nat.le_of_ble_eq_true rfl) hA ?_
  intro X hXl S hAX hRT hXA hQ hXk hXn
  show J X 4 (Wd Z (σ.setC c)) 0 [some (.ref (Z.ad 2)), some (.ref (Z.ad 1)), some (.int (nI o)), some (.int (nI k))] []
  obtain ⟨hI1, hI2, hI3, hI4, hI5⟩ := id hI
  have hk50 := hk.lt
  unfold tokN at hk
  refine j_iload_n S dX1_read_0 rfl ?_
  refine j_bipush S 7 dX1_read_1 (by decide) ?_
  refine j_icmp_gt S 12 dX1_read_3 (by decide) (fun h => ?_) (fun h => ?_)
  · skip
    rw [show (7 : Int32) = nI 7 from rfl, nI_ltI (by omega) (by omega)] at h
    refine j_iload_n S dX1_read_12 rfl ?_
    refine j_bipush S 10 dX1_read_13 (by decide) ?_
    refine j_icmp_ne S 24 dX1_read_15 (by decide) (fun h2 => ?_) (fun h2 => ?_)
    · skip
      rw [show (10 : Int32) = nI 10 from rfl, nI_eq (by omega) (by omega)] at h2
      refine j_iload_n S dX1_read_24 rfl ?_
      refine j_bipush S 11 dX1_read_25 (by decide) ?_
      refine j_icmp_ne S 35 dX1_read_27 (by decide) (fun h3 => ?_) (fun h3 => ?_)
      · skip
        rw [show (11 : Int32) = nI 11 from rfl, nI_eq (by omega) (by omega)] at h3
        refine j_iload_n S dX1_read_35 rfl ?_
        refine j_bipush S 44 dX1_read_36 (by decide) ?_
        refine j_icmp_lt S 52 dX1_read_38 (by decide) (fun h4 => ?_) (fun h4 => ?_)
        · skip
          rw [show (44 : Int32) = nI 44 from rfl, nI_ltI (by omega) (by omega)] at h4
          have e9 : readC (blkOf σ) o c k = changeC c k := by unfold readC; rw [if_neg (by omega), if_neg h2, if_neg h3, if_neg (by omega)]
          refine j_aload_n S dX1_read_52 rfl ?_
          refine j_iload_n S dX1_read_53 rfl ?_
          refine j_cVi S (n := 1) (rest := []) (k_X1_changeItem X.l Z X.A hAX σ c hI k (by omega) (by omega)) ⟨_, _, _, _, rfl, gX1_read_X1_changeItem, rfl, rfl, by decide +kernel, ⟨Nat.le_of_ble_eq_true rfl, Nat.le_of_ble_eq_true rfl⟩⟩ rd_comp rfl rfl (Nat.le_of_ble_eq_true rfl) rfl dX1_read_54 (fun v9 hv9 => ?_)
          subst hv9
          exact j_ireturn S hRT hXA hQ hXk hXn dX1_read_57 rfl (by rw [e9]) (fun H h9 => by rw [e9]; exact h9)
        · skip
          rw [show (44 : Int32) = nI 44 from rfl, nI_ltI (by omega) (by omega)] at h4
          have e9 : readC (blkOf σ) o c k = blockC (blkOf σ) o c (k - 40) := by unfold readC; rw [if_neg (by omega), if_neg h2, if_neg h3, if_pos (by omega)]
          refine j_aload_n S dX1_read_41 rfl ?_
          refine j_aload_n S dX1_read_42 rfl ?_
          refine j_iload_n S dX1_read_43 rfl ?_
          refine j_iload_n S dX1_read_44 rfl ?_
          refine j_bipush S 40 dX1_read_45 (by decide) ?_
          refine j_isub S (nI (k - 40)) dX1_read_47 (by rw [show (40 : Int32) = nI 40 from rfl]; exact pk_sub (by omega)) ?_
          refine j_cVi S (n := 3) (rest := []) (k_X1_addBlock X.l Z X.A hAX σ c hI o (k - 40) ho (by omega)) ⟨_, _, _, _, rfl, gX1_read_X1_addBlock, rfl, rfl, by decide +kernel, ⟨Nat.le_of_ble_eq_true rfl, Nat.le_of_ble_eq_true rfl⟩⟩ rd_comp rfl rfl (Nat.le_of_ble_eq_true rfl) rfl dX1_read_48 (fun v9 hv9 => ?_)
          subst hv9
          exact j_ireturn S hRT hXA hQ hXk hXn dX1_read_51 rfl (by rw [e9]) (fun H h9 => by rw [e9]; exact h9)
      · skip
        rw [show (11 : Int32) = nI 11 from rfl, nI_eq (by omega) (by omega)] at h3
        have e9 : readC (blkOf σ) o c k = closeG c := by unfold readC; rw [if_neg (by omega), if_neg h2, if_pos h3]
        refine j_aload_n S dX1_read_30 rfl ?_
        refine j_cVi S (n := 0) (rest := []) (k_X1_closeGroup X.l Z X.A hAX σ c hI) ⟨_, _, _, _, rfl, gX1_read_X1_closeGroup, rfl, rfl, by decide +kernel, ⟨Nat.le_of_ble_eq_true rfl, Nat.le_of_ble_eq_true rfl⟩⟩ rd_comp rfl rfl (Nat.le_of_ble_eq_true rfl) rfl dX1_read_31 (fun v9 hv9 => ?_)
        subst hv9
        exact j_ireturn S hRT hXA hQ hXk hXn dX1_read_34 rfl (by rw [e9]) (fun H h9 => by rw [e9]; exact h9)
    · skip
      rw [show (10 : Int32) = nI 10 from rfl, nI_eq (by omega) (by omega)] at h2
      have e9 : readC (blkOf σ) o c k = (0, openC c) := by unfold readC; rw [if_neg (by omega), if_pos h2]
      refine j_aload_n S dX1_read_18 rfl ?_
      refine j_cVv S (n := 0) (rest := []) (k_X1_openGroup X.l Z X.A hAX σ c hI) ⟨_, _, _, _, rfl, gX1_read_X1_openGroup, rfl, rfl, by decide +kernel, ⟨Nat.le_of_ble_eq_true rfl, Nat.le_of_ble_eq_true rfl⟩⟩ rd_comp rfl rfl (Nat.le_of_ble_eq_true rfl) rfl dX1_read_19 ?_
      refine j_iconst S 0 dX1_read_22 (by decide) ?_
      exact j_ireturn S hRT hXA hQ hXk hXn dX1_read_23 rfl (by rw [e9]) (fun H h9 => by rw [e9]; exact h9)
  · skip
    rw [show (7 : Int32) = nI 7 from rfl, nI_ltI (by omega) (by omega)] at h
    have e9 : readC (blkOf σ) o c k = numberC c (nI k) := if_pos (by omega)
    refine j_aload_n S dX1_read_6 rfl ?_
    refine j_iload_n S dX1_read_7 rfl ?_
    refine j_cVi S (n := 1) (rest := []) (k_X1_addNumber X.l Z X.A hAX σ c hI (nI k)) ⟨_, _, _, _, rfl, gX1_read_X1_addNumber, rfl, rfl, by decide +kernel, ⟨Nat.le_of_ble_eq_true rfl, Nat.le_of_ble_eq_true rfl⟩⟩ rd_comp rfl rfl (Nat.le_of_ble_eq_true rfl) rfl dX1_read_8 (fun v9 hv9 => ?_)
    subst hv9
    exact j_ireturn S hRT hXA hQ hXk hXn dX1_read_11 rfl (by rw [e9]) (fun H h9 => by rw [e9]; exact h9)
