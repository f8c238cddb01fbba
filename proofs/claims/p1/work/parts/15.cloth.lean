theorem cap_cl {r : Nat} (h1 : 2 ≤ r) (h2 : r < 6) : cap r = 32 := by unfold cap; rw [if_neg (by omega), if_pos h2]
theorem i0 : (0 : Int32) = nI 0 := rfl

set_option maxRecDepth 100000 in
set_option maxHeartbeats 4000000 in
theorem k_X0_hasFields (l : Launch) (Z : Zx) (A : Nat → Prop) (hA : AdOk Z A) (σ : St) (t : Nat) (ht : t < 2) : Km l Z A yX0_hasFields wsX0_hasFields { frames := 0, cells := 0, slots := 0, locals := 0 } (Wd Z σ) [.ref (Z.ad (co t))] (Qi (Wd Z σ) A (fun v => v = b2i (hasF (σ.row (2 + 2 * t)) (σ.row (3 + 2 * t))))) := by
  refine Km.of (cc := cX0_hasFields) (maxL := 1) (ret := (some .boolean)) (by decide) rfl (Nat.le_of_ble_eq_true rfl) hA ?_
  intro X hXl S hAX hRT hXA hQ hXk hXn
  show J X 1 (Wd Z σ) 0 [some (.ref (Z.ad (co t)))] []
  refine J.caps (fun hcap => ?_)
  have hE : (σ.row (2 + 2 * t)).length ≤ 32 := by have := hcap (2 + 2 * t) (by omega); rw [cap_cl (by omega) (by omega)] at this; exact this
  have hP : (σ.row (3 + 2 * t)).length ≤ 32 := by have := hcap (3 + 2 * t) (by omega); rw [cap_cl (by omega) (by omega)] at this; exact this
  refine j_aload_n S dX0_hasFields_0 rfl ?_
  refine j_get S (C := RX0) (T := TX0) (N := 2) (by decide +kernel) (rd_cloth (by omega)) rfl (v := .ref (Z.ad (ro (2 + 2 * t)))) 0 (by decide) (by decide +kernel) rfl rfl dX0_hasFields_1 ?_
  refine j_getN S (C := RX3) (T := TX3) (N := 2) (by decide +kernel) (rd_row (by omega)) rfl (v := .int (nI (σ.row (2 + 2 * t)).length)) 1 (by decide) 7 rfl rfl rfl dX0_hasFields_4 ?_
  refine j_if_le S 24 dX0_hasFields_7 (by decide) (fun h => ?_) (fun h => ?_)
  · skip
    rw [i0, nI_leI (by omega) (by omega)] at h
    refine j_iconst S 0 dX0_hasFields_24 (by decide) ?_
    exact j_ireturn S hRT hXA hQ hXk hXn dX0_hasFields_25 rfl (by rw [show hasF (σ.row (2 + 2 * t)) (σ.row (3 + 2 * t)) = false from decide_eq_false (by omega)]; rfl) (fun H h => h)
  · skip
    rw [i0, nI_leI (by omega) (by omega)] at h
    refine j_aload_n S dX0_hasFields_10 rfl ?_
    refine j_get S (C := RX0) (T := TX0) (N := 2) (by decide +kernel) (rd_cloth (by omega)) rfl (v := .ref (Z.ad (ro (3 + 2 * t)))) 1 (by decide) (by decide +kernel) rfl rfl dX0_hasFields_11 ?_
    refine j_getN S (C := RX3) (T := TX3) (N := 2) (by decide +kernel) (rd_row (by omega)) rfl (v := .int (nI (σ.row (3 + 2 * t)).length)) 1 (by decide) 7 rfl rfl rfl dX0_hasFields_14 ?_
    refine j_if_le S 24 dX0_hasFields_17 (by decide) (fun h2 => ?_) (fun h2 => ?_)
    · skip
      rw [i0, nI_leI (by omega) (by omega)] at h2
      refine j_iconst S 0 dX0_hasFields_24 (by decide) ?_
      exact j_ireturn S hRT hXA hQ hXk hXn dX0_hasFields_25 rfl (by rw [show hasF (σ.row (2 + 2 * t)) (σ.row (3 + 2 * t)) = false from decide_eq_false (by omega)]; rfl) (fun H h => h)
    · skip
      rw [i0, nI_leI (by omega) (by omega)] at h2
      refine j_iconst S 1 dX0_hasFields_20 (by decide) ?_
      refine j_goto S 25 dX0_hasFields_21 (by decide) ?_
      exact j_ireturn S hRT hXA hQ hXk hXn dX0_hasFields_25 rfl (by rw [show hasF (σ.row (2 + 2 * t)) (σ.row (3 + 2 * t)) = true from decide_eq_true (by omega)]; rfl) (fun H h => h)

set_option maxRecDepth 100000 in
set_option maxHeartbeats 4000000 in
theorem k_X0_isUp (l : Launch) (Z : Zx) (A : Nat → Prop) (hA : AdOk Z A) (σ : St) (t : Nat) (ht : t < 2) (x y : Nat) (hx : x < 2 ^ 31) : Km l Z A yX0_isUp wsX0_isUp { frames := 1, cells := 0, slots := 0, locals := 21 } (Wd Z σ) [.ref (Z.ad (co t)), .int (nI x), .int (nI y)] (Qi (Wd Z σ) A (fun v => v = b2i (isUpI (σ.row (2 + 2 * t)) x y))) := by
  refine Km.of (cc := cX0_isUp) (maxL := 3) (ret := (some .boolean)) (by decide) rfl (Nat.le_of_ble_eq_true rfl) hA ?_
  intro X hXl S hAX hRT hXA hQ hXk hXn
  show J X 3 (Wd Z σ) 0 [some (.ref (Z.ad (co t))), some (.int (nI x)), some (.int (nI y))] []
  refine j_aload_n S dX0_isUp_0 rfl ?_
  refine j_get S (C := RX0) (T := TX0) (N := 2) (by decide +kernel) (rd_cloth (by omega)) rfl (v := .ref (Z.ad (ro (2 + 2 * t)))) 0 (by decide) (by decide +kernel) rfl rfl dX0_isUp_1 ?_
  refine j_iload_n S dX0_isUp_4 rfl ?_
  refine j_cVi S (n := 1) (rest := []) (k_X3_at X.l Z X.A hAX σ (2 + 2 * t) (by omega) (nI x)) ⟨_, _, _, _, rfl, gX0_isUp_X3_at, rfl, rfl, by decide +kernel, ⟨Nat.le_of_ble_eq_true rfl, Nat.le_of_ble_eq_true rfl⟩⟩ (rd_row (by omega)) rfl rfl (Nat.le_of_ble_eq_true rfl) rfl dX0_isUp_5 (fun v9 hv9 => ?_)
  subst hv9
  rw [atI_nI _ (by omega)]
  refine j_iload_n S dX0_isUp_8 rfl ?_
  refine j_cNi S (n := 2) (rest := []) (k_X4_hasBit X.l Z X.A hAX σ ((σ.row (2 + 2 * t)).getD x 0) (nI y)) ⟨_, _, _, _, _, 3, rfl, gX0_isUp_X4_hasBit_n37, rfl, rfl, ⟨rfl, by decide +kernel, by decide +kernel⟩, by decide +kernel, ⟨Nat.le_of_ble_eq_true rfl, Nat.le_of_ble_eq_true rfl⟩⟩ rfl (Nat.le_of_ble_eq_true rfl) rfl dX0_isUp_9 (fun v9 hv9 => ?_)
  subst hv9
  exact j_ireturn S hRT hXA hQ hXk hXn dX0_isUp_12 (b2i_nar _) rfl (fun H h => h)

set_option maxRecDepth 100000 in
set_option maxHeartbeats 4000000 in
theorem k_X0_floatAt (l : Launch) (Z : Zx) (A : Nat → Prop) (hA : AdOk Z A) (σ : St) (t : Nat) (ht : t < 2) (x y : Nat) (hx : x < 32) (hy : y < 32) : Km l Z A yX0_floatAt wsX0_floatAt { frames := 2, cells := 0, slots := 0, locals := 44 } (Wd Z σ) [.ref (Z.ad (co t)), .int (nI x), .int (nI y)] (Qi (Wd Z σ) A (fun v => v = floatI (σ.row (2 + 2 * t)) (σ.row (3 + 2 * t)) x y)) := by
  refine Km.of (cc := cX0_floatAt) (maxL := 3) (ret := (some .int)) (by decide) rfl (Nat.le_of_ble_eq_true rfl) hA ?_
  intro X hXl S hAX hRT hXA hQ hXk hXn
  show J X 3 (Wd Z σ) 0 [some (.ref (Z.ad (co t))), some (.int (nI x)), some (.int (nI y))] []
  refine j_aload_n S dX0_floatAt_0 rfl ?_
  refine j_iload_n S dX0_floatAt_1 rfl ?_
  refine j_iload_n S dX0_floatAt_2 rfl ?_
  refine j_cVi S (n := 2) (rest := []) (k_X0_isUp X.l Z X.A hAX σ t (by omega) x y (by omega)) ⟨_, _, _, _, rfl, gX0_floatAt_X0_isUp, rfl, rfl, by decide +kernel, ⟨Nat.le_of_ble_eq_true rfl, Nat.le_of_ble_eq_true rfl⟩⟩ (rd_cloth (by omega)) rfl rfl (Nat.le_of_ble_eq_true rfl) rfl dX0_floatAt_3 (fun v9 hv9 => ?_)
  subst hv9
  refine j_if_eq S 24 dX0_floatAt_6 (by decide) (fun h => ?_) (fun h => ?_)
  · skip
    refine j_aload_n S dX0_floatAt_24 rfl ?_
    refine j_get S (C := RX0) (T := TX0) (N := 2) (by decide +kernel) (rd_cloth (by omega)) rfl (v := .ref (Z.ad (ro (3 + 2 * t)))) 1 (by decide) (by decide +kernel) rfl rfl dX0_floatAt_25 ?_
    refine j_iload_n S dX0_floatAt_28 rfl ?_
    refine j_cVi S (n := 1) (rest := []) (k_X3_at X.l Z X.A hAX σ (3 + 2 * t) (by omega) (nI y)) ⟨_, _, _, _, rfl, gX0_floatAt_X3_at, rfl, rfl, by decide +kernel, ⟨Nat.le_of_ble_eq_true rfl, Nat.le_of_ble_eq_true rfl⟩⟩ (rd_row (by omega)) rfl rfl (Nat.le_of_ble_eq_true rfl) rfl dX0_floatAt_29 (fun v9 hv9 => ?_)
    subst hv9
    rw [atI_nI _ (by omega)]
    refine j_iload_n S dX0_floatAt_32 rfl ?_
    refine j_cNi S (n := 2) (rest := []) (k_X4_runAround X.l Z X.A hAX σ ((σ.row (3 + 2 * t)).getD y 0) x hx) ⟨_, _, _, _, _, 4, rfl, gX0_floatAt_X4_runAround_n48, rfl, rfl, ⟨rfl, by decide +kernel, by decide +kernel⟩, by decide +kernel, ⟨Nat.le_of_ble_eq_true rfl, Nat.le_of_ble_eq_true rfl⟩⟩ rfl (Nat.le_of_ble_eq_true rfl) rfl dX0_floatAt_33 (fun v9 hv9 => ?_)
    subst hv9
    exact j_ireturn S hRT hXA hQ hXk hXn dX0_floatAt_36 rfl (by unfold floatI; rw [if_neg (by rw [b2i_0.mp h]; decide)]) (fun H h => h)
  · skip
    refine j_aload_n S dX0_floatAt_9 rfl ?_
    refine j_get S (C := RX0) (T := TX0) (N := 2) (by decide +kernel) (rd_cloth (by omega)) rfl (v := .ref (Z.ad (ro (2 + 2 * t)))) 0 (by decide) (by decide +kernel) rfl rfl dX0_floatAt_10 ?_
    refine j_iload_n S dX0_floatAt_13 rfl ?_
    refine j_cVi S (n := 1) (rest := []) (k_X3_at X.l Z X.A hAX σ (2 + 2 * t) (by omega) (nI x)) ⟨_, _, _, _, rfl, gX0_floatAt_X3_at, rfl, rfl, by decide +kernel, ⟨Nat.le_of_ble_eq_true rfl, Nat.le_of_ble_eq_true rfl⟩⟩ (rd_row (by omega)) rfl rfl (Nat.le_of_ble_eq_true rfl) rfl dX0_floatAt_14 (fun v9 hv9 => ?_)
    subst hv9
    rw [atI_nI _ (by omega)]
    refine j_iload_n S dX0_floatAt_17 rfl ?_
    refine j_cNi S (n := 2) (rest := []) (k_X4_runAround X.l Z X.A hAX σ ((σ.row (2 + 2 * t)).getD x 0) y hy) ⟨_, _, _, _, _, 4, rfl, gX0_floatAt_X4_runAround_n48, rfl, rfl, ⟨rfl, by decide +kernel, by decide +kernel⟩, by decide +kernel, ⟨Nat.le_of_ble_eq_true rfl, Nat.le_of_ble_eq_true rfl⟩⟩ rfl (Nat.le_of_ble_eq_true rfl) rfl dX0_floatAt_18 (fun v9 hv9 => ?_)
    subst hv9
    refine j_goto S 36 dX0_floatAt_21 (by decide) ?_
    exact j_ireturn S hRT hXA hQ hXk hXn dX0_floatAt_36 rfl (by unfold floatI; rw [if_pos (b2i_n0.mp h)]) (fun H h => h)

set_option maxRecDepth 100000 in
set_option maxHeartbeats 4000000 in
theorem k_X0_countFloats (l : Launch) (Z : Zx) (A : Nat → Prop) (hA : AdOk Z A) (σ : St) (t : Nat) (ht : t < 2) (m : Nat) (hm : m < 2 ^ 31) : Km l Z A yX0_countFloats wsX0_countFloats { frames := 2, cells := 0, slots := 0, locals := 46 } (Wd Z σ) [.ref (Z.ad (co t)), .int (nI m)] (Qi (Wd Z σ) A (fun v => v = countRunsI (σ.row (2 + 2 * t)) m + countRunsI (σ.row (3 + 2 * t)) m)) := by
  refine Km.of (cc := cX0_countFloats) (maxL := 2) (ret := (some .int)) (by decide) rfl (Nat.le_of_ble_eq_true rfl) hA ?_
  intro X hXl S hAX hRT hXA hQ hXk hXn
  show J X 2 (Wd Z σ) 0 [some (.ref (Z.ad (co t))), some (.int (nI m))] []
  refine j_aload_n S dX0_countFloats_0 rfl ?_
  refine j_get S (C := RX0) (T := TX0) (N := 2) (by decide +kernel) (rd_cloth (by omega)) rfl (v := .ref (Z.ad (ro (2 + 2 * t)))) 0 (by decide) (by decide +kernel) rfl rfl dX0_countFloats_1 ?_
  refine j_iload_n S dX0_countFloats_4 rfl ?_
  refine j_cVi S (n := 1) (rest := []) (k_X3_countRuns X.l Z X.A hAX σ (2 + 2 * t) (by omega) m hm) ⟨_, _, _, _, rfl, gX0_countFloats_X3_countRuns, rfl, rfl, by decide +kernel, ⟨Nat.le_of_ble_eq_true rfl, Nat.le_of_ble_eq_true rfl⟩⟩ (rd_row (by omega)) rfl rfl (Nat.le_of_ble_eq_true rfl) rfl dX0_countFloats_5 (fun v9 hv9 => ?_)
  subst hv9
  refine j_aload_n S dX0_countFloats_8 rfl ?_
  refine j_get S (C := RX0) (T := TX0) (N := 2) (by decide +kernel) (rd_cloth (by omega)) rfl (v := .ref (Z.ad (ro (3 + 2 * t)))) 1 (by decide) (by decide +kernel) rfl rfl dX0_countFloats_9 ?_
  refine j_iload_n S dX0_countFloats_12 rfl ?_
  refine j_cVi S (n := 1) (rest := [.int (countRunsI (σ.row (2 + 2 * t)) m)]) (k_X3_countRuns X.l Z X.A hAX σ (3 + 2 * t) (by omega) m hm) ⟨_, _, _, _, rfl, gX0_countFloats_X3_countRuns, rfl, rfl, by decide +kernel, ⟨Nat.le_of_ble_eq_true rfl, Nat.le_of_ble_eq_true rfl⟩⟩ (rd_row (by omega)) rfl rfl (Nat.le_of_ble_eq_true rfl) rfl dX0_countFloats_13 (fun v9 hv9 => ?_)
  subst hv9
  refine j_iadd S ((countRunsI (σ.row (2 + 2 * t)) m) + (countRunsI (σ.row (3 + 2 * t)) m)) dX0_countFloats_16 rfl ?_
  exact j_ireturn S hRT hXA hQ hXk hXn dX0_countFloats_17 rfl rfl (fun H h => h)

set_option maxRecDepth 100000 in
set_option maxHeartbeats 4000000 in
theorem k_X0_longestFloat (l : Launch) (Z : Zx) (A : Nat → Prop) (hA : AdOk Z A) (σ : St) (t : Nat) (ht : t < 2) : Km l Z A yX0_longestFloat wsX0_longestFloat { frames := 2, cells := 0, slots := 0, locals := 44 } (Wd Z σ) [.ref (Z.ad (co t))] (Qi (Wd Z σ) A (fun v => v = longestC (σ.row (2 + 2 * t)) (σ.row (3 + 2 * t)))) := by
  refine Km.of (cc := cX0_longestFloat) (maxL := 1) (ret := (some .int)) (by decide) rfl (Nat.le_of_ble_eq_true rfl) hA ?_
  intro X hXl S hAX hRT hXA hQ hXk hXn
  show J X 1 (Wd Z σ) 0 [some (.ref (Z.ad (co t)))] []
  refine j_aload_n S dX0_longestFloat_0 rfl ?_
  refine j_get S (C := RX0) (T := TX0) (N := 2) (by decide +kernel) (rd_cloth (by omega)) rfl (v := .ref (Z.ad (ro (2 + 2 * t)))) 0 (by decide) (by decide +kernel) rfl rfl dX0_longestFloat_1 ?_
  refine j_cVi S (n := 0) (rest := []) (k_X3_longestOfRuns X.l Z X.A hAX σ (2 + 2 * t) (by omega)) ⟨_, _, _, _, rfl, gX0_longestFloat_X3_longestOfRuns, rfl, rfl, by decide +kernel, ⟨Nat.le_of_ble_eq_true rfl, Nat.le_of_ble_eq_true rfl⟩⟩ (rd_row (by omega)) rfl rfl (Nat.le_of_ble_eq_true rfl) rfl dX0_longestFloat_4 (fun v9 hv9 => ?_)
  subst hv9
  refine j_aload_n S dX0_longestFloat_7 rfl ?_
  refine j_get S (C := RX0) (T := TX0) (N := 2) (by decide +kernel) (rd_cloth (by omega)) rfl (v := .ref (Z.ad (ro (3 + 2 * t)))) 1 (by decide) (by decide +kernel) rfl rfl dX0_longestFloat_8 ?_
  refine j_cVi S (n := 0) (rest := [.int (longestI (σ.row (2 + 2 * t)))]) (k_X3_longestOfRuns X.l Z X.A hAX σ (3 + 2 * t) (by omega)) ⟨_, _, _, _, rfl, gX0_longestFloat_X3_longestOfRuns, rfl, rfl, by decide +kernel, ⟨Nat.le_of_ble_eq_true rfl, Nat.le_of_ble_eq_true rfl⟩⟩ (rd_row (by omega)) rfl rfl (Nat.le_of_ble_eq_true rfl) rfl dX0_longestFloat_11 (fun v9 hv9 => ?_)
  subst hv9
  refine j_max S (if longestI (σ.row (2 + 2 * t)) < longestI (σ.row (3 + 2 * t)) then longestI (σ.row (3 + 2 * t)) else longestI (σ.row (2 + 2 * t))) (by decide +kernel) (by decide +kernel) (by decide +kernel) (by decide +kernel) ⟨Nat.le_of_ble_eq_true rfl, Nat.le_of_ble_eq_true rfl⟩ dX0_longestFloat_14 rfl ?_
  exact j_ireturn S hRT hXA hQ hXk hXn dX0_longestFloat_17 rfl rfl (fun H h => h)

set_option maxRecDepth 100000 in
set_option maxHeartbeats 4000000 in
theorem k_X0_nextTo (l : Launch) (Z : Zx) (A : Nat → Prop) (hA : AdOk Z A) (σ : St) (q r : Nat) (hq : q < 30) (hr : r < 30) (mem : Int32) (bk : Bool) : Km l Z A yX0_nextTo wsX0_nextTo { frames := 1, cells := 0, slots := 0, locals := 21 } (Wd Z σ) [.ref (Z.ad (ro q)), .int mem, .ref (Z.ad (ro r)), .int (b2i bk)] (Qi (Wd Z σ) A (fun v => v = nextI (σ.row q) mem (σ.row r).length bk)) := by
  refine Km.of (cc := cX0_nextTo) (maxL := 6) (ret := (some .int)) (by decide) rfl (Nat.le_of_ble_eq_true rfl) hA ?_
  intro X hXl S hAX hRT hXA hQ hXk hXn
  show J X 6 (Wd Z σ) 0 [some (.ref (Z.ad (ro q))), some (.int mem), some (.ref (Z.ad (ro r))), some (.int (b2i bk)), none, none] []
  refine J.caps (fun hcap => ?_)
  have hq32 : (σ.row q).length < 2 ^ 31 := Nat.lt_of_le_of_lt (hcap q hq) (cap_lt q)
  have loop : ∀ (f i : Nat), i + f = (σ.row q).length → J X 6 (Wd Z σ) 6 [some (.ref (Z.ad (ro q))), some (.int mem), some (.ref (Z.ad (ro r))), some (.int (b2i bk)), some (.int (nxF (σ.row q) mem bk i)), some (.int (nI i))] [] := by
    intro f
    induction f with
    | zero =>
      intro i hi
      refine j_iload S dX0_nextTo_6 rfl ?_
      refine j_aload_n S dX0_nextTo_8 rfl ?_
      refine j_getN S (C := RX3) (T := TX3) (N := 2) (by decide +kernel) (rd_row (by omega)) rfl (v := .int (nI (σ.row q).length)) 1 (by decide) 7 rfl rfl rfl dX0_nextTo_9 ?_
      refine j_icmp_ge S 56 dX0_nextTo_12 (by decide) (fun _ => ?_) (fun h9 => absurd (by rw [nI_leI (by omega) (by omega)]; omega) h9)
      refine j_iload S dX0_nextTo_56 rfl ?_
      refine j_aload_n S dX0_nextTo_58 rfl ?_
      refine j_getN S (C := RX3) (T := TX3) (N := 2) (by decide +kernel) (rd_row (by omega)) rfl (v := .int (nI (σ.row r).length)) 1 (by decide) 7 rfl rfl rfl dX0_nextTo_59 ?_
      refine j_cNi S (n := 1) (rest := [.int (nxF (σ.row q) mem bk i)]) (k_X4_fullSet X.l Z X.A hAX σ (nI (σ.row r).length)) ⟨_, _, _, _, _, 5, rfl, gX0_nextTo_X4_fullSet_n76, rfl, rfl, ⟨rfl, by decide +kernel, by decide +kernel⟩, by decide +kernel, ⟨Nat.le_of_ble_eq_true rfl, Nat.le_of_ble_eq_true rfl⟩⟩ rfl (Nat.le_of_ble_eq_true rfl) rfl dX0_nextTo_62 (fun v9 hv9 => ?_)
      subst hv9
      refine j_iand S ((nxF (σ.row q) mem bk i) &&& (fullI (nI (σ.row r).length))) dX0_nextTo_65 rfl ?_
      obtain rfl : i = (σ.row q).length := by omega
      exact j_ireturn S hRT hXA hQ hXk hXn dX0_nextTo_66 rfl rfl (fun H h => h)
    | succ f ih =>
      intro i hi
      refine j_iload S dX0_nextTo_6 rfl ?_
      refine j_aload_n S dX0_nextTo_8 rfl ?_
      refine j_getN S (C := RX3) (T := TX3) (N := 2) (by decide +kernel) (rd_row (by omega)) rfl (v := .int (nI (σ.row q).length)) 1 (by decide) 7 rfl rfl rfl dX0_nextTo_9 ?_
      refine j_icmp_ge S 56 dX0_nextTo_12 (by decide) (fun h9 => absurd h9 (by rw [nI_leI (by omega) (by omega)]; omega)) (fun _ => ?_)
      refine j_iload_n S dX0_nextTo_15 rfl ?_
      refine j_iload S dX0_nextTo_16 rfl ?_
      refine j_cNi S (n := 2) (rest := []) (k_X4_hasBit X.l Z X.A hAX σ mem (nI i)) ⟨_, _, _, _, _, 3, rfl, gX0_nextTo_X4_hasBit_n37, rfl, rfl, ⟨rfl, by decide +kernel, by decide +kernel⟩, by decide +kernel, ⟨Nat.le_of_ble_eq_true rfl, Nat.le_of_ble_eq_true rfl⟩⟩ rfl (Nat.le_of_ble_eq_true rfl) rfl dX0_nextTo_18 (fun v9 hv9 => ?_)
      subst hv9
      refine j_if_eq S 50 dX0_nextTo_21 (by decide) (fun h => ?_) (fun h => ?_)
      · skip
        have e9 : nxF (σ.row q) mem bk i = nxF (σ.row q) mem bk (i + 1) := by rw [nxF, if_neg (by rw [b2i_0.mp h]; decide)]
        refine j_iinc S (nI (i + 1)) [some (.ref (Z.ad (ro q))), some (.int mem), some (.ref (Z.ad (ro r))), some (.int (b2i bk)), some (.int (nxF (σ.row q) mem bk i)), some (.int (nI (i + 1)))] dX0_nextTo_50 rfl (nI_1 i) (by decide) rfl rfl ?_
        refine j_goto S 6 dX0_nextTo_53 (by decide) ?_
        rw [e9]
        exact ih (i + 1) (by omega)
      · skip
        refine j_iload S dX0_nextTo_24 rfl ?_
        refine j_iload_n S dX0_nextTo_26 rfl ?_
        refine j_if_eq S 41 dX0_nextTo_27 (by decide) (fun h2 => ?_) (fun h2 => ?_)
        · skip
          have e9 : nxF (σ.row q) mem bk i ||| (σ.row q).getD i 0 = nxF (σ.row q) mem bk (i + 1) := by rw [nxF, if_pos (b2i_n0.mp h), b2i_0.mp h2]; rfl
          refine j_aload_n S dX0_nextTo_41 rfl ?_
          refine j_iload S dX0_nextTo_42 rfl ?_
          refine j_cVi S (n := 1) (rest := [.int (nxF (σ.row q) mem bk i)]) (k_X3_at X.l Z X.A hAX σ q (by omega) (nI i)) ⟨_, _, _, _, rfl, gX0_nextTo_X3_at, rfl, rfl, by decide +kernel, ⟨Nat.le_of_ble_eq_true rfl, Nat.le_of_ble_eq_true rfl⟩⟩ (rd_row (by omega)) rfl rfl (Nat.le_of_ble_eq_true rfl) rfl dX0_nextTo_44 (fun v9 hv9 => ?_)
          subst hv9
          rw [atI_nI _ (by omega)]
          refine j_ior S (nxF (σ.row q) mem bk (i + 1)) dX0_nextTo_47 e9 ?_
          refine j_istore S [some (.ref (Z.ad (ro q))), some (.int mem), some (.ref (Z.ad (ro r))), some (.int (b2i bk)), some (.int (nxF (σ.row q) mem bk (i + 1))), some (.int (nI i))] dX0_nextTo_48 (by decide) rfl rfl ?_
          refine j_iinc S (nI (i + 1)) [some (.ref (Z.ad (ro q))), some (.int mem), some (.ref (Z.ad (ro r))), some (.int (b2i bk)), some (.int (nxF (σ.row q) mem bk (i + 1))), some (.int (nI (i + 1)))] dX0_nextTo_50 rfl (nI_1 i) (by decide) rfl rfl ?_
          refine j_goto S 6 dX0_nextTo_53 (by decide) ?_
          exact ih (i + 1) (by omega)
        · skip
          have e9 : nxF (σ.row q) mem bk i ||| ((σ.row q).getD i 0 ^^^ (-1)) = nxF (σ.row q) mem bk (i + 1) := by rw [nxF, if_pos (b2i_n0.mp h), b2i_n0.mp h2]; rfl
          refine j_aload_n S dX0_nextTo_30 rfl ?_
          refine j_iload S dX0_nextTo_31 rfl ?_
          refine j_cVi S (n := 1) (rest := [.int (nxF (σ.row q) mem bk i)]) (k_X3_at X.l Z X.A hAX σ q (by omega) (nI i)) ⟨_, _, _, _, rfl, gX0_nextTo_X3_at, rfl, rfl, by decide +kernel, ⟨Nat.le_of_ble_eq_true rfl, Nat.le_of_ble_eq_true rfl⟩⟩ (rd_row (by omega)) rfl rfl (Nat.le_of_ble_eq_true rfl) rfl dX0_nextTo_33 (fun v9 hv9 => ?_)
          subst hv9
          rw [atI_nI _ (by omega)]
          refine j_iconst S (-1) dX0_nextTo_36 (by decide) ?_
          refine j_ixor S (((σ.row q).getD i 0) ^^^ (-1)) dX0_nextTo_37 rfl ?_
          refine j_goto S 47 dX0_nextTo_38 (by decide) ?_
          refine j_ior S (nxF (σ.row q) mem bk (i + 1)) dX0_nextTo_47 e9 ?_
          refine j_istore S [some (.ref (Z.ad (ro q))), some (.int mem), some (.ref (Z.ad (ro r))), some (.int (b2i bk)), some (.int (nxF (σ.row q) mem bk (i + 1))), some (.int (nI i))] dX0_nextTo_48 (by decide) rfl rfl ?_
          refine j_iinc S (nI (i + 1)) [some (.ref (Z.ad (ro q))), some (.int mem), some (.ref (Z.ad (ro r))), some (.int (b2i bk)), some (.int (nxF (σ.row q) mem bk (i + 1))), some (.int (nI (i + 1)))] dX0_nextTo_50 rfl (nI_1 i) (by decide) rfl rfl ?_
          refine j_goto S 6 dX0_nextTo_53 (by decide) ?_
          exact ih (i + 1) (by omega)
  refine j_iconst S 0 dX0_nextTo_0 (by decide) ?_
  refine j_istore S [some (.ref (Z.ad (ro q))), some (.int mem), some (.ref (Z.ad (ro r))), some (.int (b2i bk)), some (.int 0), none] dX0_nextTo_1 (by decide) rfl rfl ?_
  refine j_iconst S 0 dX0_nextTo_3 (by decide) ?_
  refine j_istore S [some (.ref (Z.ad (ro q))), some (.int mem), some (.ref (Z.ad (ro r))), some (.int (b2i bk)), some (.int 0), some (.int 0)] dX0_nextTo_4 (by decide) rfl rfl ?_
  exact loop (σ.row q).length 0 (by omega)

set_option maxRecDepth 100000 in
set_option maxHeartbeats 4000000 in
theorem k_X0_endsReached (l : Launch) (Z : Zx) (A : Nat → Prop) (hA : AdOk Z A) (σ : St) (t : Nat) (ht : t < 2) (bk : Bool) : Km l Z A yX0_endsReached wsX0_endsReached { frames := 2, cells := 0, slots := 0, locals := 46 } (Wd Z σ) [.ref (Z.ad (co t)), .int (b2i bk)] (Qi (Wd Z σ) A (fun v => v = endsR (σ.row (2 + 2 * t)) (σ.row (3 + 2 * t)) bk)) := by
  refine Km.of (cc := cX0_endsReached) (maxL := 6) (ret := (some .int)) (by decide) rfl (Nat.le_of_ble_eq_true rfl) hA ?_
  intro X hXl S hAX hRT hXA hQ hXk hXn
  show J X 6 (Wd Z σ) 0 [some (.ref (Z.ad (co t))), some (.int (b2i bk)), none, none, none, none] []
  have loop : ∀ (f k : Nat) (x : Int32), k + f = 32 → endsR (σ.row (2 + 2 * t)) (σ.row (3 + 2 * t)) bk = erF (σ.row (2 + 2 * t)) (σ.row (3 + 2 * t)) bk f x → J X 6 (Wd Z σ) 4 [some (.ref (Z.ad (co t))), some (.int (b2i bk)), some (.int x), some (.int (nI k)), none, none] [] := by
    intro f
    induction f with
    | zero =>
      intro k x hk he
      refine j_iload_n S dX0_endsReached_4 rfl ?_
      refine j_bipush S 32 dX0_endsReached_5 (by decide) ?_
      refine j_icmp_ge S 61 dX0_endsReached_7 (by decide) (fun _ => ?_) (fun h9 => absurd (by rw [nI32, nI_leI (by omega) (by omega)]; omega) h9)
      refine j_iload_n S dX0_endsReached_61 rfl ?_
      exact j_ireturn S hRT hXA hQ hXk hXn dX0_endsReached_62 rfl he.symm (fun H h => h)
    | succ f ih =>
      intro k x hk he
      refine j_iload_n S dX0_endsReached_4 rfl ?_
      refine j_bipush S 32 dX0_endsReached_5 (by decide) ?_
      refine j_icmp_ge S 61 dX0_endsReached_7 (by decide) (fun h9 => absurd h9 (by rw [nI32, nI_leI (by omega) (by omega)]; omega)) (fun _ => ?_)
      refine j_aload_n S dX0_endsReached_10 rfl ?_
      refine j_get S (C := RX0) (T := TX0) (N := 2) (by decide +kernel) (rd_cloth (by omega)) rfl (v := .ref (Z.ad (ro (2 + 2 * t)))) 0 (by decide) (by decide +kernel) rfl rfl dX0_endsReached_11 ?_
      refine j_iload_n S dX0_endsReached_14 rfl ?_
      refine j_aload_n S dX0_endsReached_15 rfl ?_
      refine j_get S (C := RX0) (T := TX0) (N := 2) (by decide +kernel) (rd_cloth (by omega)) rfl (v := .ref (Z.ad (ro (3 + 2 * t)))) 1 (by decide) (by decide +kernel) rfl rfl dX0_endsReached_16 ?_
      refine j_iload_n S dX0_endsReached_19 rfl ?_
      refine j_cSi S (n := 4) (rest := []) (k_X0_nextTo X.l Z X.A hAX σ (2 + 2 * t) (3 + 2 * t) (by omega) (by omega) x bk) ⟨_, _, _, _, rfl, gX0_endsReached_X0_nextTo, rfl, rfl, by decide +kernel, ⟨Nat.le_of_ble_eq_true rfl, Nat.le_of_ble_eq_true rfl⟩⟩ rfl (Nat.le_of_ble_eq_true rfl) rfl dX0_endsReached_20 (fun v9 hv9 => ?_)
      subst hv9
      refine j_istore S [some (.ref (Z.ad (co t))), some (.int (b2i bk)), some (.int x), some (.int (nI k)), some (.int (nextI (σ.row (2 + 2 * t)) x (σ.row (3 + 2 * t)).length bk)), none] dX0_endsReached_23 (by decide) rfl rfl ?_
      refine j_iload_n S dX0_endsReached_25 rfl ?_
      refine j_aload_n S dX0_endsReached_26 rfl ?_
      refine j_get S (C := RX0) (T := TX0) (N := 2) (by decide +kernel) (rd_cloth (by omega)) rfl (v := .ref (Z.ad (ro (3 + 2 * t)))) 1 (by decide) (by decide +kernel) rfl rfl dX0_endsReached_27 ?_
      refine j_iload S dX0_endsReached_30 rfl ?_
      refine j_aload_n S dX0_endsReached_32 rfl ?_
      refine j_get S (C := RX0) (T := TX0) (N := 2) (by decide +kernel) (rd_cloth (by omega)) rfl (v := .ref (Z.ad (ro (2 + 2 * t)))) 0 (by decide) (by decide +kernel) rfl rfl dX0_endsReached_33 ?_
      refine j_iload_n S dX0_endsReached_36 rfl ?_
      refine j_cSi S (n := 4) (rest := [.int x]) (k_X0_nextTo X.l Z X.A hAX σ (3 + 2 * t) (2 + 2 * t) (by omega) (by omega) (nextI (σ.row (2 + 2 * t)) x (σ.row (3 + 2 * t)).length bk) bk) ⟨_, _, _, _, rfl, gX0_endsReached_X0_nextTo, rfl, rfl, by decide +kernel, ⟨Nat.le_of_ble_eq_true rfl, Nat.le_of_ble_eq_true rfl⟩⟩ rfl (Nat.le_of_ble_eq_true rfl) rfl dX0_endsReached_37 (fun v9 hv9 => ?_)
      subst hv9
      refine j_ior S (moreI (σ.row (2 + 2 * t)) (σ.row (3 + 2 * t)) bk x) dX0_endsReached_40 rfl ?_
      refine j_istore S [some (.ref (Z.ad (co t))), some (.int (b2i bk)), some (.int x), some (.int (nI k)), some (.int (nextI (σ.row (2 + 2 * t)) x (σ.row (3 + 2 * t)).length bk)), some (.int (moreI (σ.row (2 + 2 * t)) (σ.row (3 + 2 * t)) bk x))] dX0_endsReached_41 (by decide) rfl rfl ?_
      refine j_iload S dX0_endsReached_43 rfl ?_
      refine j_iload_n S dX0_endsReached_45 rfl ?_
      refine j_icmp_ne S 52 dX0_endsReached_46 (by decide) (fun h => ?_) (fun h => ?_)
      · skip
        refine j_iload S dX0_endsReached_52 rfl ?_
        refine j_istore_n S [some (.ref (Z.ad (co t))), some (.int (b2i bk)), some (.int (moreI (σ.row (2 + 2 * t)) (σ.row (3 + 2 * t)) bk x)), some (.int (nI k)), some (.int (nextI (σ.row (2 + 2 * t)) x (σ.row (3 + 2 * t)).length bk)), some (.int (moreI (σ.row (2 + 2 * t)) (σ.row (3 + 2 * t)) bk x))] dX0_endsReached_54 (by decide) rfl rfl ?_
        refine j_iinc S (nI (k + 1)) [some (.ref (Z.ad (co t))), some (.int (b2i bk)), some (.int (moreI (σ.row (2 + 2 * t)) (σ.row (3 + 2 * t)) bk x)), some (.int (nI (k + 1))), some (.int (nextI (σ.row (2 + 2 * t)) x (σ.row (3 + 2 * t)).length bk)), some (.int (moreI (σ.row (2 + 2 * t)) (σ.row (3 + 2 * t)) bk x))] dX0_endsReached_55 rfl (nI_1 k) (by decide) rfl rfl ?_
        refine j_goto S 4 dX0_endsReached_58 (by decide) ?_
        refine J.less [some (.ref (Z.ad (co t))), some (.int (b2i bk)), some (.int (moreI (σ.row (2 + 2 * t)) (σ.row (3 + 2 * t)) bk x)), some (.int (nI (k + 1))), none, none] ⟨rfl, rfl, rfl, rfl, trivial⟩ ?_
        exact ih (k + 1) _ (by omega) (by rw [he, erF, if_neg h])
      · skip
        refine j_goto S 61 dX0_endsReached_49 (by decide) ?_
        refine j_iload_n S dX0_endsReached_61 rfl ?_
        exact j_ireturn S hRT hXA hQ hXk hXn dX0_endsReached_62 rfl (by rw [he, erF, if_pos h]) (fun H h => h)
  refine j_iconst S 1 dX0_endsReached_0 (by decide) ?_
  refine j_istore_n S [some (.ref (Z.ad (co t))), some (.int (b2i bk)), some (.int 1), none, none, none] dX0_endsReached_1 (by decide) rfl rfl ?_
  refine j_iconst S 0 dX0_endsReached_2 (by decide) ?_
  refine j_istore_n S [some (.ref (Z.ad (co t))), some (.int (b2i bk)), some (.int 1), some (.int 0), none, none] dX0_endsReached_3 (by decide) rfl rfl ?_
  exact loop 32 0 1 rfl rfl

set_option maxRecDepth 100000 in
set_option maxHeartbeats 4000000 in
theorem k_X0_picksReached (l : Launch) (Z : Zx) (A : Nat → Prop) (hA : AdOk Z A) (σ : St) (t : Nat) (ht : t < 2) (bk : Bool) : Km l Z A yX0_picksReached wsX0_picksReached { frames := 3, cells := 0, slots := 0, locals := 71 } (Wd Z σ) [.ref (Z.ad (co t)), .int (b2i bk)] (Qi (Wd Z σ) A (fun v => v = picksR (σ.row (2 + 2 * t)) (σ.row (3 + 2 * t)) bk)) := by
  refine Km.of (cc := cX0_picksReached) (maxL := 2) (ret := (some .int)) (by decide) rfl (Nat.le_of_ble_eq_true rfl) hA ?_
  intro X hXl S hAX hRT hXA hQ hXk hXn
  show J X 2 (Wd Z σ) 0 [some (.ref (Z.ad (co t))), some (.int (b2i bk))] []
  refine j_aload_n S dX0_picksReached_0 rfl ?_
  refine j_get S (C := RX0) (T := TX0) (N := 2) (by decide +kernel) (rd_cloth (by omega)) rfl (v := .ref (Z.ad (ro (2 + 2 * t)))) 0 (by decide) (by decide +kernel) rfl rfl dX0_picksReached_1 ?_
  refine j_aload_n S dX0_picksReached_4 rfl ?_
  refine j_iload_n S dX0_picksReached_5 rfl ?_
  refine j_cVi S (n := 1) (rest := [.ref (Z.ad (ro (2 + 2 * t)))]) (k_X0_endsReached X.l Z X.A hAX σ t (by omega) bk) ⟨_, _, _, _, rfl, gX0_picksReached_X0_endsReached, rfl, rfl, by decide +kernel, ⟨Nat.le_of_ble_eq_true rfl, Nat.le_of_ble_eq_true rfl⟩⟩ (rd_cloth (by omega)) rfl rfl (Nat.le_of_ble_eq_true rfl) rfl dX0_picksReached_6 (fun v9 hv9 => ?_)
  subst hv9
  refine j_aload_n S dX0_picksReached_9 rfl ?_
  refine j_get S (C := RX0) (T := TX0) (N := 2) (by decide +kernel) (rd_cloth (by omega)) rfl (v := .ref (Z.ad (ro (3 + 2 * t)))) 1 (by decide) (by decide +kernel) rfl rfl dX0_picksReached_10 ?_
  refine j_iload_n S dX0_picksReached_13 rfl ?_
  refine j_cSi S (n := 4) (rest := []) (k_X0_nextTo X.l Z X.A hAX σ (2 + 2 * t) (3 + 2 * t) (by omega) (by omega) (endsR (σ.row (2 + 2 * t)) (σ.row (3 + 2 * t)) bk) bk) ⟨_, _, _, _, rfl, gX0_picksReached_X0_nextTo, rfl, rfl, by decide +kernel, ⟨Nat.le_of_ble_eq_true rfl, Nat.le_of_ble_eq_true rfl⟩⟩ rfl (Nat.le_of_ble_eq_true rfl) rfl dX0_picksReached_14 (fun v9 hv9 => ?_)
  subst hv9
  exact j_ireturn S hRT hXA hQ hXk hXn dX0_picksReached_17 rfl rfl (fun H h => h)

set_option maxRecDepth 100000 in
set_option maxHeartbeats 4000000 in
theorem k_X0_isAllReached (l : Launch) (Z : Zx) (A : Nat → Prop) (hA : AdOk Z A) (σ : St) (t : Nat) (ht : t < 2) (bk : Bool) : Km l Z A yX0_isAllReached wsX0_isAllReached { frames := 4, cells := 0, slots := 0, locals := 92 } (Wd Z σ) [.ref (Z.ad (co t)), .int (b2i bk)] (Qi (Wd Z σ) A (fun v => v = b2i (allR (σ.row (2 + 2 * t)) (σ.row (3 + 2 * t)) bk))) := by
  refine Km.of (cc := cX0_isAllReached) (maxL := 2) (ret := (some .boolean)) (by decide) rfl (Nat.le_of_ble_eq_true rfl) hA ?_
  intro X hXl S hAX hRT hXA hQ hXk hXn
  show J X 2 (Wd Z σ) 0 [some (.ref (Z.ad (co t))), some (.int (b2i bk))] []
  refine j_aload_n S dX0_isAllReached_0 rfl ?_
  refine j_iload_n S dX0_isAllReached_1 rfl ?_
  refine j_cVi S (n := 1) (rest := []) (k_X0_endsReached X.l Z X.A hAX σ t (by omega) bk) ⟨_, _, _, _, rfl, gX0_isAllReached_X0_endsReached, rfl, rfl, by decide +kernel, ⟨Nat.le_of_ble_eq_true rfl, Nat.le_of_ble_eq_true rfl⟩⟩ (rd_cloth (by omega)) rfl rfl (Nat.le_of_ble_eq_true rfl) rfl dX0_isAllReached_2 (fun v9 hv9 => ?_)
  subst hv9
  refine j_aload_n S dX0_isAllReached_5 rfl ?_
  refine j_get S (C := RX0) (T := TX0) (N := 2) (by decide +kernel) (rd_cloth (by omega)) rfl (v := .ref (Z.ad (ro (2 + 2 * t)))) 0 (by decide) (by decide +kernel) rfl rfl dX0_isAllReached_6 ?_
  refine j_getN S (C := RX3) (T := TX3) (N := 2) (by decide +kernel) (rd_row (by omega)) rfl (v := .int (nI (σ.row (2 + 2 * t)).length)) 1 (by decide) 7 rfl rfl rfl dX0_isAllReached_9 ?_
  refine j_cNi S (n := 1) (rest := [.int (endsR (σ.row (2 + 2 * t)) (σ.row (3 + 2 * t)) bk)]) (k_X4_fullSet X.l Z X.A hAX σ (nI (σ.row (2 + 2 * t)).length)) ⟨_, _, _, _, _, 5, rfl, gX0_isAllReached_X4_fullSet_n76, rfl, rfl, ⟨rfl, by decide +kernel, by decide +kernel⟩, by decide +kernel, ⟨Nat.le_of_ble_eq_true rfl, Nat.le_of_ble_eq_true rfl⟩⟩ rfl (Nat.le_of_ble_eq_true rfl) rfl dX0_isAllReached_12 (fun v9 hv9 => ?_)
  subst hv9
  refine j_icmp_ne S 40 dX0_isAllReached_15 (by decide) (fun h => ?_) (fun h => ?_)
  · skip
    refine j_iconst S 0 dX0_isAllReached_40 (by decide) ?_
    exact j_ireturn S hRT hXA hQ hXk hXn dX0_isAllReached_41 rfl (by unfold allR; rw [beq_eq_false_iff_ne.mpr h]; rfl) (fun H h => h)
  · skip
    refine j_aload_n S dX0_isAllReached_18 rfl ?_
    refine j_iload_n S dX0_isAllReached_19 rfl ?_
    refine j_cVi S (n := 1) (rest := []) (k_X0_picksReached X.l Z X.A hAX σ t (by omega) bk) ⟨_, _, _, _, rfl, gX0_isAllReached_X0_picksReached, rfl, rfl, by decide +kernel, ⟨Nat.le_of_ble_eq_true rfl, Nat.le_of_ble_eq_true rfl⟩⟩ (rd_cloth (by omega)) rfl rfl (Nat.le_of_ble_eq_true rfl) rfl dX0_isAllReached_20 (fun v9 hv9 => ?_)
    subst hv9
    refine j_aload_n S dX0_isAllReached_23 rfl ?_
    refine j_get S (C := RX0) (T := TX0) (N := 2) (by decide +kernel) (rd_cloth (by omega)) rfl (v := .ref (Z.ad (ro (3 + 2 * t)))) 1 (by decide) (by decide +kernel) rfl rfl dX0_isAllReached_24 ?_
    refine j_getN S (C := RX3) (T := TX3) (N := 2) (by decide +kernel) (rd_row (by omega)) rfl (v := .int (nI (σ.row (3 + 2 * t)).length)) 1 (by decide) 7 rfl rfl rfl dX0_isAllReached_27 ?_
    refine j_cNi S (n := 1) (rest := [.int (picksR (σ.row (2 + 2 * t)) (σ.row (3 + 2 * t)) bk)]) (k_X4_fullSet X.l Z X.A hAX σ (nI (σ.row (3 + 2 * t)).length)) ⟨_, _, _, _, _, 5, rfl, gX0_isAllReached_X4_fullSet_n76, rfl, rfl, ⟨rfl, by decide +kernel, by decide +kernel⟩, by decide +kernel, ⟨Nat.le_of_ble_eq_true rfl, Nat.le_of_ble_eq_true rfl⟩⟩ rfl (Nat.le_of_ble_eq_true rfl) rfl dX0_isAllReached_30 (fun v9 hv9 => ?_)
    subst hv9
    refine j_icmp_ne S 40 dX0_isAllReached_33 (by decide) (fun h2 => ?_) (fun h2 => ?_)
    · skip
      refine j_iconst S 0 dX0_isAllReached_40 (by decide) ?_
      exact j_ireturn S hRT hXA hQ hXk hXn dX0_isAllReached_41 rfl (by unfold allR; rw [beq_eq_false_iff_ne.mpr h2, Bool.and_false]; rfl) (fun H h => h)
    · skip
      refine j_iconst S 1 dX0_isAllReached_36 (by decide) ?_
      refine j_goto S 41 dX0_isAllReached_37 (by decide) ?_
      exact j_ireturn S hRT hXA hQ hXk hXn dX0_isAllReached_41 rfl (by unfold allR; rw [beq_iff_eq.mpr h, beq_iff_eq.mpr h2]; rfl) (fun H h => h)

set_option maxRecDepth 100000 in
set_option maxHeartbeats 4000000 in
theorem k_X0_isConnected (l : Launch) (Z : Zx) (A : Nat → Prop) (hA : AdOk Z A) (σ : St) (t : Nat) (ht : t < 2) : Km l Z A yX0_isConnected wsX0_isConnected { frames := 5, cells := 0, slots := 0, locals := 113 } (Wd Z σ) [.ref (Z.ad (co t))] (Qi (Wd Z σ) A (fun v => v = b2i (connI (σ.row (2 + 2 * t)) (σ.row (3 + 2 * t))))) := by
  refine Km.of (cc := cX0_isConnected) (maxL := 1) (ret := (some .boolean)) (by decide) rfl (Nat.le_of_ble_eq_true rfl) hA ?_
  intro X hXl S hAX hRT hXA hQ hXk hXn
  show J X 1 (Wd Z σ) 0 [some (.ref (Z.ad (co t)))] []
  refine j_aload_n S dX0_isConnected_0 rfl ?_
  refine j_cVi S (n := 0) (rest := []) (k_X0_hasFields X.l Z X.A hAX σ t (by omega)) ⟨_, _, _, _, rfl, gX0_isConnected_X0_hasFields, rfl, rfl, by decide +kernel, ⟨Nat.le_of_ble_eq_true rfl, Nat.le_of_ble_eq_true rfl⟩⟩ (rd_cloth (by omega)) rfl rfl (Nat.le_of_ble_eq_true rfl) rfl dX0_isConnected_1 (fun v9 hv9 => ?_)
  subst hv9
  refine j_if_eq S 27 dX0_isConnected_4 (by decide) (fun h => ?_) (fun h => ?_)
  · skip
    refine j_iconst S 0 dX0_isConnected_27 (by decide) ?_
    exact j_ireturn S hRT hXA hQ hXk hXn dX0_isConnected_28 rfl (by unfold connI; rw [b2i_0.mp h, Bool.false_and]; rfl) (fun H h => h)
  · skip
    refine j_aload_n S dX0_isConnected_7 rfl ?_
    refine j_iconst S 0 dX0_isConnected_8 (by decide) ?_
    refine j_cVi S (n := 1) (rest := []) (k_X0_isAllReached X.l Z X.A hAX σ t (by omega) false) ⟨_, _, _, _, rfl, gX0_isConnected_X0_isAllReached, rfl, rfl, by decide +kernel, ⟨Nat.le_of_ble_eq_true rfl, Nat.le_of_ble_eq_true rfl⟩⟩ (rd_cloth (by omega)) rfl rfl (Nat.le_of_ble_eq_true rfl) rfl dX0_isConnected_9 (fun v9 hv9 => ?_)
    subst hv9
    refine j_if_eq S 27 dX0_isConnected_12 (by decide) (fun h2 => ?_) (fun h2 => ?_)
    · skip
      refine j_iconst S 0 dX0_isConnected_27 (by decide) ?_
      exact j_ireturn S hRT hXA hQ hXk hXn dX0_isConnected_28 rfl (by unfold connI; rw [b2i_0.mp h2, Bool.false_and, Bool.and_false]; rfl) (fun H h => h)
    · skip
      refine j_aload_n S dX0_isConnected_15 rfl ?_
      refine j_iconst S 1 dX0_isConnected_16 (by decide) ?_
      refine j_cVi S (n := 1) (rest := []) (k_X0_isAllReached X.l Z X.A hAX σ t (by omega) true) ⟨_, _, _, _, rfl, gX0_isConnected_X0_isAllReached, rfl, rfl, by decide +kernel, ⟨Nat.le_of_ble_eq_true rfl, Nat.le_of_ble_eq_true rfl⟩⟩ (rd_cloth (by omega)) rfl rfl (Nat.le_of_ble_eq_true rfl) rfl dX0_isConnected_17 (fun v9 hv9 => ?_)
      subst hv9
      refine j_if_eq S 27 dX0_isConnected_20 (by decide) (fun h3 => ?_) (fun h3 => ?_)
      · skip
        refine j_iconst S 0 dX0_isConnected_27 (by decide) ?_
        exact j_ireturn S hRT hXA hQ hXk hXn dX0_isConnected_28 rfl (by unfold connI; rw [b2i_0.mp h3, Bool.and_false, Bool.and_false]; rfl) (fun H h => h)
      · skip
        refine j_iconst S 1 dX0_isConnected_23 (by decide) ?_
        refine j_goto S 28 dX0_isConnected_24 (by decide) ?_
        exact j_ireturn S hRT hXA hQ hXk hXn dX0_isConnected_28 rfl (by unfold connI; rw [b2i_n0.mp h, b2i_n0.mp h2, b2i_n0.mp h3]; rfl) (fun H h => h)

set_option maxRecDepth 100000 in
set_option maxHeartbeats 4000000 in
theorem k_X0_weave (l : Launch) (Z : Zx) (A : Nat → Prop) (hA : AdOk Z A) (σ : St) (t : Nat) (ht : t < 2) (c : Nat) (hc : c < 2) : Km l Z A yX0_weave wsX0_weave { frames := 1, cells := 0, slots := 0, locals := 22 } (Wd Z σ) [.ref (Z.ad (co t)), .ref (Z.ad (ro 9)), .ref (Z.ad (ro 11)), .ref (Z.ad (ro c))] (Qv (Wd Z (σ.setCl t (wE (σ.row c) (σ.row 9) (σ.row 11) (σ.row 11).length) (wP (σ.row c) (σ.row 9) (σ.row 11) (σ.row 11).length))) A) := by
  refine Km.of (cc := cX0_weave) (maxL := 8) (ret := none) (by decide) rfl (Nat.le_of_ble_eq_true rfl) hA ?_
  intro X hXl S hAX hRT hXA hQ hXk hXn
  show J X 8 (Wd Z σ) 0 [some (.ref (Z.ad (co t))), some (.ref (Z.ad (ro 9))), some (.ref (Z.ad (ro 11))), some (.ref (Z.ad (ro c))), none, none, none, none] []
  refine J.caps (fun hcap => ?_)
  have hA9 : (σ.row 9).length ≤ 32 := hcap 9 (by omega)
  have hB11 : (σ.row 11).length ≤ 32 := hcap 11 (by omega)
  have hcp : cap (2 + 2 * t) = 32 := cap_cl (by omega) (by omega)
  have hcp2 : cap (3 + 2 * t) = 32 := cap_cl (by omega) (by omega)
  have inner : ∀ (y f x : Nat), y < (σ.row 11).length → x + f = (σ.row 9).length → J X 8 (Wd Z (σ.setCl t (inE (σ.row c) (σ.row 9) (σ.row 11) (wE (σ.row c) (σ.row 9) (σ.row 11) y) y (σ.row 9).length) (wP (σ.row c) (σ.row 9) (σ.row 11) y))) 134 [some (.ref (Z.ad (co t))), some (.ref (Z.ad (ro 9))), some (.ref (Z.ad (ro 11))), some (.ref (Z.ad (ro c))), some (.int (nI y)), some (.int (atI (σ.row c) ((σ.row 11).getD y 0))), some (.int (dnF (σ.row c) (σ.row 9) (σ.row 11) y (σ.row 9).length)), none] [] → J X 8 (Wd Z (σ.setCl t (inE (σ.row c) (σ.row 9) (σ.row 11) (wE (σ.row c) (σ.row 9) (σ.row 11) y) y x) (wP (σ.row c) (σ.row 9) (σ.row 11) y))) 70 [some (.ref (Z.ad (co t))), some (.ref (Z.ad (ro 9))), some (.ref (Z.ad (ro 11))), some (.ref (Z.ad (ro c))), some (.int (nI y)), some (.int (atI (σ.row c) ((σ.row 11).getD y 0))), some (.int (dnF (σ.row c) (σ.row 9) (σ.row 11) y x)), some (.int (nI x))] [] := by
    intro y f
    induction f with
    | zero =>
      intro x hy hx hd
      refine j_iload S dX0_weave_70 rfl ?_
      refine j_aload_n S dX0_weave_72 rfl ?_
      refine j_getN S (C := RX3) (T := TX3) (N := 2) (by decide +kernel) (rd_row (by omega)) rfl (v := .int (nI ((σ.setCl t (inE (σ.row c) (σ.row 9) (σ.row 11) (wE (σ.row c) (σ.row 9) (σ.row 11) y) y x) (wP (σ.row c) (σ.row 9) (σ.row 11) y)).row 9).length)) 1 (by decide) 7 rfl rfl rfl dX0_weave_73 ?_
      rw [setCl_ne σ (t := t) (r := 9) _ _ (by omega) (by omega)]
      refine j_icmp_ge S 134 dX0_weave_76 (by decide) (fun _ => ?_) (fun h9 => absurd (by rw [nI_leI (by omega) (by omega)]; omega) h9)
      obtain rfl : x = (σ.row 9).length := by omega
      refine J.less [some (.ref (Z.ad (co t))), some (.ref (Z.ad (ro 9))), some (.ref (Z.ad (ro 11))), some (.ref (Z.ad (ro c))), some (.int (nI y)), some (.int (atI (σ.row c) ((σ.row 11).getD y 0))), some (.int (dnF (σ.row c) (σ.row 9) (σ.row 11) y (σ.row 9).length)), none] ⟨rfl, rfl, rfl, rfl, rfl, rfl, rfl, trivial⟩ ?_
      exact hd
    | succ f ih =>
      intro x hy hx hd
      refine j_iload S dX0_weave_70 rfl ?_
      refine j_aload_n S dX0_weave_72 rfl ?_
      refine j_getN S (C := RX3) (T := TX3) (N := 2) (by decide +kernel) (rd_row (by omega)) rfl (v := .int (nI ((σ.setCl t (inE (σ.row c) (σ.row 9) (σ.row 11) (wE (σ.row c) (σ.row 9) (σ.row 11) y) y x) (wP (σ.row c) (σ.row 9) (σ.row 11) y)).row 9).length)) 1 (by decide) 7 rfl rfl rfl dX0_weave_73 ?_
      rw [setCl_ne σ (t := t) (r := 9) _ _ (by omega) (by omega)]
      refine j_icmp_ge S 134 dX0_weave_76 (by decide) (fun h9 => absurd h9 (by rw [nI_leI (by omega) (by omega)]; omega)) (fun _ => ?_)
      refine j_iload S dX0_weave_79 rfl ?_
      refine j_aload_n S dX0_weave_81 rfl ?_
      refine j_iload S dX0_weave_82 rfl ?_
      refine j_cVi S (n := 1) (rest := [.int (atI (σ.row c) ((σ.row 11).getD y 0))]) (k_X3_at X.l Z X.A hAX (σ.setCl t (inE (σ.row c) (σ.row 9) (σ.row 11) (wE (σ.row c) (σ.row 9) (σ.row 11) y) y x) (wP (σ.row c) (σ.row 9) (σ.row 11) y)) 9 (by omega) (nI x)) ⟨_, _, _, _, rfl, gX0_weave_X3_at, rfl, rfl, by decide +kernel, ⟨Nat.le_of_ble_eq_true rfl, Nat.le_of_ble_eq_true rfl⟩⟩ (rd_row (by omega)) rfl rfl (Nat.le_of_ble_eq_true rfl) rfl dX0_weave_84 (fun v9 hv9 => ?_)
      subst hv9
      rw [setCl_ne σ (t := t) (r := 9) _ _ (by omega) (by omega), atI_nI _ (by omega)]
      refine j_cNi S (n := 2) (rest := []) (k_X4_hasBit X.l Z X.A hAX (σ.setCl t (inE (σ.row c) (σ.row 9) (σ.row 11) (wE (σ.row c) (σ.row 9) (σ.row 11) y) y x) (wP (σ.row c) (σ.row 9) (σ.row 11) y)) (atI (σ.row c) ((σ.row 11).getD y 0)) ((σ.row 9).getD x 0)) ⟨_, _, _, _, _, 3, rfl, gX0_weave_X4_hasBit_n37, rfl, rfl, ⟨rfl, by decide +kernel, by decide +kernel⟩, by decide +kernel, ⟨Nat.le_of_ble_eq_true rfl, Nat.le_of_ble_eq_true rfl⟩⟩ rfl (Nat.le_of_ble_eq_true rfl) rfl dX0_weave_87 (fun v9 hv9 => ?_)
      subst hv9
      refine j_if_eq S 119 dX0_weave_90 (by decide) (fun h => ?_) (fun h => ?_)
      · skip
        have e8 : inE (σ.row c) (σ.row 9) (σ.row 11) (wE (σ.row c) (σ.row 9) (σ.row 11) y) y x = inE (σ.row c) (σ.row 9) (σ.row 11) (wE (σ.row c) (σ.row 9) (σ.row 11) y) y (x + 1) := by rw [inE, if_neg (show ¬ upB (σ.row c) (σ.row 9) (σ.row 11) x y = true from by rw [show upB (σ.row c) (σ.row 9) (σ.row 11) x y = false from b2i_0.mp h]; decide)]
        have e9 : dnF (σ.row c) (σ.row 9) (σ.row 11) y x ||| shl 1 (nI x) = dnF (σ.row c) (σ.row 9) (σ.row 11) y (x + 1) := by rw [dnF, if_neg (show ¬ upB (σ.row c) (σ.row 9) (σ.row 11) x y = true from by rw [show upB (σ.row c) (σ.row 9) (σ.row 11) x y = false from b2i_0.mp h]; decide)]
        refine j_iload S dX0_weave_119 rfl ?_
        refine j_iconst S 1 dX0_weave_121 (by decide) ?_
        refine j_iload S dX0_weave_122 rfl ?_
        refine j_ishl S (shl 1 (nI x)) dX0_weave_124 rfl ?_
        refine j_ior S (dnF (σ.row c) (σ.row 9) (σ.row 11) y (x + 1)) dX0_weave_125 e9 ?_
        refine j_istore S [some (.ref (Z.ad (co t))), some (.ref (Z.ad (ro 9))), some (.ref (Z.ad (ro 11))), some (.ref (Z.ad (ro c))), some (.int (nI y)), some (.int (atI (σ.row c) ((σ.row 11).getD y 0))), some (.int (dnF (σ.row c) (σ.row 9) (σ.row 11) y (x + 1))), some (.int (nI x))] dX0_weave_126 (by decide) rfl rfl ?_
        refine j_iinc S (nI (x + 1)) [some (.ref (Z.ad (co t))), some (.ref (Z.ad (ro 9))), some (.ref (Z.ad (ro 11))), some (.ref (Z.ad (ro c))), some (.int (nI y)), some (.int (atI (σ.row c) ((σ.row 11).getD y 0))), some (.int (dnF (σ.row c) (σ.row 9) (σ.row 11) y (x + 1))), some (.int (nI (x + 1)))] dX0_weave_128 rfl (nI_1 x) (by decide) rfl rfl ?_
        refine j_goto S 70 dX0_weave_131 (by decide) ?_
        rw [e8]
        exact ih (x + 1) hy (by omega) hd
      · skip
        have e9 : dnF (σ.row c) (σ.row 9) (σ.row 11) y x = dnF (σ.row c) (σ.row 9) (σ.row 11) y (x + 1) := by rw [dnF, if_pos (show upB (σ.row c) (σ.row 9) (σ.row 11) x y = true from b2i_n0.mp h)]
        refine j_aload_n S dX0_weave_93 rfl ?_
        refine j_get S (C := RX0) (T := TX0) (N := 2) (by decide +kernel) (rd_cloth (by omega)) rfl (v := .ref (Z.ad (ro (2 + 2 * t)))) 0 (by decide) (by decide +kernel) rfl rfl dX0_weave_94 ?_
        refine j_iload S dX0_weave_97 rfl ?_
        refine j_aload_n S dX0_weave_99 rfl ?_
        refine j_get S (C := RX0) (T := TX0) (N := 2) (by decide +kernel) (rd_cloth (by omega)) rfl (v := .ref (Z.ad (ro (2 + 2 * t)))) 0 (by decide) (by decide +kernel) rfl rfl dX0_weave_100 ?_
        refine j_iload S dX0_weave_103 rfl ?_
        refine j_cVi S (n := 1) (rest := [.int (nI x), .ref (Z.ad (ro (2 + 2 * t)))]) (k_X3_at X.l Z X.A hAX (σ.setCl t (inE (σ.row c) (σ.row 9) (σ.row 11) (wE (σ.row c) (σ.row 9) (σ.row 11) y) y x) (wP (σ.row c) (σ.row 9) (σ.row 11) y)) (2 + 2 * t) (by omega) (nI x)) ⟨_, _, _, _, rfl, gX0_weave_X3_at, rfl, rfl, by decide +kernel, ⟨Nat.le_of_ble_eq_true rfl, Nat.le_of_ble_eq_true rfl⟩⟩ (rd_row (by omega)) rfl rfl (Nat.le_of_ble_eq_true rfl) rfl dX0_weave_105 (fun v9 hv9 => ?_)
        subst hv9
        refine j_iconst S 1 dX0_weave_108 (by decide) ?_
        refine j_iload S dX0_weave_109 rfl ?_
        refine j_ishl S (shl 1 (nI y)) dX0_weave_111 rfl ?_
        rw [setCl_e, atI_nI _ (by omega)]
        refine j_ior S (((inE (σ.row c) (σ.row 9) (σ.row 11) (wE (σ.row c) (σ.row 9) (σ.row 11) y) y x).getD x 0) ||| (shl 1 (nI y))) dX0_weave_112 rfl ?_
        refine j_cVv S (n := 2) (rest := []) (k_X3_put X.l Z X.A hAX (σ.setCl t (inE (σ.row c) (σ.row 9) (σ.row 11) (wE (σ.row c) (σ.row 9) (σ.row 11) y) y x) (wP (σ.row c) (σ.row 9) (σ.row 11) y)) (2 + 2 * t) (by omega) (nI x) (((inE (σ.row c) (σ.row 9) (σ.row 11) (wE (σ.row c) (σ.row 9) (σ.row 11) y) y x).getD x 0) ||| (shl 1 (nI y)))) ⟨_, _, _, _, rfl, gX0_weave_X3_put, rfl, rfl, by decide +kernel, ⟨Nat.le_of_ble_eq_true rfl, Nat.le_of_ble_eq_true rfl⟩⟩ (rd_row (by omega)) rfl rfl (Nat.le_of_ble_eq_true rfl) rfl dX0_weave_113 ?_
        rw [setCl_e, putI_nI _ _ (by omega), setCl_re]
        refine J.mono (w' := Wd Z (σ.setCl t (inE (σ.row c) (σ.row 9) (σ.row 11) (wE (σ.row c) (σ.row 9) (σ.row 11) y) y (x + 1)) (wP (σ.row c) (σ.row 9) (σ.row 11) y))) (fun H h9 => by rw [inE, if_pos (show upB (σ.row c) (σ.row 9) (σ.row 11) x y = true from b2i_n0.mp h)]; exact h9) ?_
        refine j_goto S 128 dX0_weave_116 (by decide) ?_
        refine j_iinc S (nI (x + 1)) [some (.ref (Z.ad (co t))), some (.ref (Z.ad (ro 9))), some (.ref (Z.ad (ro 11))), some (.ref (Z.ad (ro c))), some (.int (nI y)), some (.int (atI (σ.row c) ((σ.row 11).getD y 0))), some (.int (dnF (σ.row c) (σ.row 9) (σ.row 11) y x)), some (.int (nI (x + 1)))] dX0_weave_128 rfl (nI_1 x) (by decide) rfl rfl ?_
        refine j_goto S 70 dX0_weave_131 (by decide) ?_
        rw [e9]
        exact ih (x + 1) hy (by omega) hd
  have outer : ∀ (f y : Nat), y + f = (σ.row 11).length → J X 8 (Wd Z (σ.setCl t (wE (σ.row c) (σ.row 9) (σ.row 11) y) (wP (σ.row c) (σ.row 9) (σ.row 11) y))) 43 [some (.ref (Z.ad (co t))), some (.ref (Z.ad (ro 9))), some (.ref (Z.ad (ro 11))), some (.ref (Z.ad (ro c))), some (.int (nI y)), none, none, none] [] := by
    intro f
    induction f with
    | zero =>
      intro y hy
      refine j_iload S dX0_weave_43 rfl ?_
      refine j_aload_n S dX0_weave_45 rfl ?_
      refine j_getN S (C := RX3) (T := TX3) (N := 2) (by decide +kernel) (rd_row (by omega)) rfl (v := .int (nI ((σ.setCl t (wE (σ.row c) (σ.row 9) (σ.row 11) y) (wP (σ.row c) (σ.row 9) (σ.row 11) y)).row 11).length)) 1 (by decide) 7 rfl rfl rfl dX0_weave_46 ?_
      rw [setCl_ne σ (t := t) (r := 11) _ _ (by omega) (by omega)]
      refine j_icmp_ge S 149 dX0_weave_49 (by decide) (fun _ => ?_) (fun h9 => absurd (by rw [nI_leI (by omega) (by omega)]; omega) h9)
      exact j_return S hRT hXA hQ hXk hXn dX0_weave_149 (fun H h9 => by rw [show y = (σ.row 11).length by omega] at h9; exact h9)
    | succ f ih =>
      intro y hy
      refine j_iload S dX0_weave_43 rfl ?_
      refine j_aload_n S dX0_weave_45 rfl ?_
      refine j_getN S (C := RX3) (T := TX3) (N := 2) (by decide +kernel) (rd_row (by omega)) rfl (v := .int (nI ((σ.setCl t (wE (σ.row c) (σ.row 9) (σ.row 11) y) (wP (σ.row c) (σ.row 9) (σ.row 11) y)).row 11).length)) 1 (by decide) 7 rfl rfl rfl dX0_weave_46 ?_
      rw [setCl_ne σ (t := t) (r := 11) _ _ (by omega) (by omega)]
      refine j_icmp_ge S 149 dX0_weave_49 (by decide) (fun h9 => absurd h9 (by rw [nI_leI (by omega) (by omega)]; omega)) (fun _ => ?_)
      refine j_aload_n S dX0_weave_52 rfl ?_
      refine j_aload_n S dX0_weave_53 rfl ?_
      refine j_iload S dX0_weave_54 rfl ?_
      refine j_cVi S (n := 1) (rest := [.ref (Z.ad (ro c))]) (k_X3_at X.l Z X.A hAX (σ.setCl t (wE (σ.row c) (σ.row 9) (σ.row 11) y) (wP (σ.row c) (σ.row 9) (σ.row 11) y)) 11 (by omega) (nI y)) ⟨_, _, _, _, rfl, gX0_weave_X3_at, rfl, rfl, by decide +kernel, ⟨Nat.le_of_ble_eq_true rfl, Nat.le_of_ble_eq_true rfl⟩⟩ (rd_row (by omega)) rfl rfl (Nat.le_of_ble_eq_true rfl) rfl dX0_weave_56 (fun v9 hv9 => ?_)
      subst hv9
      rw [setCl_ne σ (t := t) (r := 11) _ _ (by omega) (by omega), atI_nI _ (by omega)]
      refine j_cVi S (n := 1) (rest := []) (k_X3_at X.l Z X.A hAX (σ.setCl t (wE (σ.row c) (σ.row 9) (σ.row 11) y) (wP (σ.row c) (σ.row 9) (σ.row 11) y)) c (by omega) ((σ.row 11).getD y 0)) ⟨_, _, _, _, rfl, gX0_weave_X3_at, rfl, rfl, by decide +kernel, ⟨Nat.le_of_ble_eq_true rfl, Nat.le_of_ble_eq_true rfl⟩⟩ (rd_row (by omega)) rfl rfl (Nat.le_of_ble_eq_true rfl) rfl dX0_weave_59 (fun v9 hv9 => ?_)
      subst hv9
      rw [setCl_ne σ (t := t) (r := c) _ _ (by omega) (by omega)]
      refine j_istore S [some (.ref (Z.ad (co t))), some (.ref (Z.ad (ro 9))), some (.ref (Z.ad (ro 11))), some (.ref (Z.ad (ro c))), some (.int (nI y)), some (.int (atI (σ.row c) ((σ.row 11).getD y 0))), none, none] dX0_weave_62 (by decide) rfl rfl ?_
      refine j_iconst S 0 dX0_weave_64 (by decide) ?_
      refine j_istore S [some (.ref (Z.ad (co t))), some (.ref (Z.ad (ro 9))), some (.ref (Z.ad (ro 11))), some (.ref (Z.ad (ro c))), some (.int (nI y)), some (.int (atI (σ.row c) ((σ.row 11).getD y 0))), some (.int 0), none] dX0_weave_65 (by decide) rfl rfl ?_
      refine j_iconst S 0 dX0_weave_67 (by decide) ?_
      refine j_istore S [some (.ref (Z.ad (co t))), some (.ref (Z.ad (ro 9))), some (.ref (Z.ad (ro 11))), some (.ref (Z.ad (ro c))), some (.int (nI y)), some (.int (atI (σ.row c) ((σ.row 11).getD y 0))), some (.int 0), some (.int 0)] dX0_weave_68 (by decide) rfl rfl ?_
      refine inner y (σ.row 9).length 0 (by omega) (by omega) ?_
      refine j_aload_n S dX0_weave_134 rfl ?_
      refine j_get S (C := RX0) (T := TX0) (N := 2) (by decide +kernel) (rd_cloth (by omega)) rfl (v := .ref (Z.ad (ro (3 + 2 * t)))) 1 (by decide) (by decide +kernel) rfl rfl dX0_weave_135 ?_
      refine j_iload S dX0_weave_138 rfl ?_
      refine j_cVv S (n := 1) (rest := []) (k_X3_add X.l Z X.A hAX (σ.setCl t (inE (σ.row c) (σ.row 9) (σ.row 11) (wE (σ.row c) (σ.row 9) (σ.row 11) y) y (σ.row 9).length) (wP (σ.row c) (σ.row 9) (σ.row 11) y)) (3 + 2 * t) (by omega) (dnF (σ.row c) (σ.row 9) (σ.row 11) y (σ.row 9).length)) ⟨_, _, _, _, rfl, gX0_weave_X3_add, rfl, rfl, by decide +kernel, ⟨Nat.le_of_ble_eq_true rfl, Nat.le_of_ble_eq_true rfl⟩⟩ (rd_row (by omega)) rfl rfl (Nat.le_of_ble_eq_true rfl) rfl dX0_weave_140 ?_
      refine j_iinc S (nI (y + 1)) [some (.ref (Z.ad (co t))), some (.ref (Z.ad (ro 9))), some (.ref (Z.ad (ro 11))), some (.ref (Z.ad (ro c))), some (.int (nI (y + 1))), some (.int (atI (σ.row c) ((σ.row 11).getD y 0))), some (.int (dnF (σ.row c) (σ.row 9) (σ.row 11) y (σ.row 9).length)), none] dX0_weave_143 rfl (nI_1 y) (by decide) rfl rfl ?_
      refine j_goto S 43 dX0_weave_146 (by decide) ?_
      refine J.mono (w' := Wd Z (σ.setCl t (wE (σ.row c) (σ.row 9) (σ.row 11) (y + 1)) (wP (σ.row c) (σ.row 9) (σ.row 11) (y + 1)))) (fun H h9 => by rw [setCl_p, setCl_rp, hcp2, addI_lt (by rw [wP_len]; omega)] at h9; exact h9) ?_
      refine J.less [some (.ref (Z.ad (co t))), some (.ref (Z.ad (ro 9))), some (.ref (Z.ad (ro 11))), some (.ref (Z.ad (ro c))), some (.int (nI (y + 1))), none, none, none] ⟨rfl, rfl, rfl, rfl, rfl, trivial⟩ ?_
      exact ih (y + 1) (by omega)
  have first : ∀ (f i : Nat), i + f = (σ.row 9).length → J X 8 (Wd Z (σ.setCl t (List.replicate i 0) (σ.row (3 + 2 * t)))) 10 [some (.ref (Z.ad (co t))), some (.ref (Z.ad (ro 9))), some (.ref (Z.ad (ro 11))), some (.ref (Z.ad (ro c))), some (.int (nI i)), none, none, none] [] := by
    intro f
    induction f with
    | zero =>
      intro i hi
      refine j_iload S dX0_weave_10 rfl ?_
      refine j_aload_n S dX0_weave_12 rfl ?_
      refine j_getN S (C := RX3) (T := TX3) (N := 2) (by decide +kernel) (rd_row (by omega)) rfl (v := .int (nI ((σ.setCl t (List.replicate i 0) (σ.row (3 + 2 * t))).row 9).length)) 1 (by decide) 7 rfl rfl rfl dX0_weave_13 ?_
      rw [setCl_ne σ (t := t) (r := 9) _ _ (by omega) (by omega)]
      refine j_icmp_ge S 33 dX0_weave_16 (by decide) (fun _ => ?_) (fun h9 => absurd (by rw [nI_leI (by omega) (by omega)]; omega) h9)
      refine j_aload_n S dX0_weave_33 rfl ?_
      refine j_get S (C := RX0) (T := TX0) (N := 2) (by decide +kernel) (rd_cloth (by omega)) rfl (v := .ref (Z.ad (ro (3 + 2 * t)))) 1 (by decide) (by decide +kernel) rfl rfl dX0_weave_34 ?_
      refine j_cVv S (n := 0) (rest := []) (k_X3_clear X.l Z X.A hAX (σ.setCl t (List.replicate i 0) (σ.row (3 + 2 * t))) (3 + 2 * t) (by omega)) ⟨_, _, _, _, rfl, gX0_weave_X3_clear, rfl, rfl, by decide +kernel, ⟨Nat.le_of_ble_eq_true rfl, Nat.le_of_ble_eq_true rfl⟩⟩ (rd_row (by omega)) rfl rfl (Nat.le_of_ble_eq_true rfl) rfl dX0_weave_37 ?_
      rw [setCl_rp, show i = (σ.row 9).length by omega]
      refine j_iconst S 0 dX0_weave_40 (by decide) ?_
      refine j_istore S [some (.ref (Z.ad (co t))), some (.ref (Z.ad (ro 9))), some (.ref (Z.ad (ro 11))), some (.ref (Z.ad (ro c))), some (.int 0), none, none, none] dX0_weave_41 (by decide) rfl rfl ?_
      exact outer (σ.row 11).length 0 (by omega)
    | succ f ih =>
      intro i hi
      refine j_iload S dX0_weave_10 rfl ?_
      refine j_aload_n S dX0_weave_12 rfl ?_
      refine j_getN S (C := RX3) (T := TX3) (N := 2) (by decide +kernel) (rd_row (by omega)) rfl (v := .int (nI ((σ.setCl t (List.replicate i 0) (σ.row (3 + 2 * t))).row 9).length)) 1 (by decide) 7 rfl rfl rfl dX0_weave_13 ?_
      rw [setCl_ne σ (t := t) (r := 9) _ _ (by omega) (by omega)]
      refine j_icmp_ge S 33 dX0_weave_16 (by decide) (fun h9 => absurd h9 (by rw [nI_leI (by omega) (by omega)]; omega)) (fun _ => ?_)
      refine j_aload_n S dX0_weave_19 rfl ?_
      refine j_get S (C := RX0) (T := TX0) (N := 2) (by decide +kernel) (rd_cloth (by omega)) rfl (v := .ref (Z.ad (ro (2 + 2 * t)))) 0 (by decide) (by decide +kernel) rfl rfl dX0_weave_20 ?_
      refine j_iconst S 0 dX0_weave_23 (by decide) ?_
      refine j_cVv S (n := 1) (rest := []) (k_X3_add X.l Z X.A hAX (σ.setCl t (List.replicate i 0) (σ.row (3 + 2 * t))) (2 + 2 * t) (by omega) 0) ⟨_, _, _, _, rfl, gX0_weave_X3_add, rfl, rfl, by decide +kernel, ⟨Nat.le_of_ble_eq_true rfl, Nat.le_of_ble_eq_true rfl⟩⟩ (rd_row (by omega)) rfl rfl (Nat.le_of_ble_eq_true rfl) rfl dX0_weave_24 ?_
      refine j_iinc S (nI (i + 1)) [some (.ref (Z.ad (co t))), some (.ref (Z.ad (ro 9))), some (.ref (Z.ad (ro 11))), some (.ref (Z.ad (ro c))), some (.int (nI (i + 1))), none, none, none] dX0_weave_27 rfl (nI_1 i) (by decide) rfl rfl ?_
      refine j_goto S 10 dX0_weave_30 (by decide) ?_
      refine J.mono (w' := Wd Z (σ.setCl t (List.replicate (i + 1) 0) (σ.row (3 + 2 * t)))) (fun H h9 => by rw [setCl_e, setCl_re, hcp, addI_repl (by omega)] at h9; exact h9) ?_
      exact ih (i + 1) (by omega)
  refine j_aload_n S dX0_weave_0 rfl ?_
  refine j_get S (C := RX0) (T := TX0) (N := 2) (by decide +kernel) (rd_cloth (by omega)) rfl (v := .ref (Z.ad (ro (2 + 2 * t)))) 0 (by decide) (by decide +kernel) rfl rfl dX0_weave_1 ?_
  refine j_cVv S (n := 0) (rest := []) (k_X3_clear X.l Z X.A hAX σ (2 + 2 * t) (by omega)) ⟨_, _, _, _, rfl, gX0_weave_X3_clear, rfl, rfl, by decide +kernel, ⟨Nat.le_of_ble_eq_true rfl, Nat.le_of_ble_eq_true rfl⟩⟩ (rd_row (by omega)) rfl rfl (Nat.le_of_ble_eq_true rfl) rfl dX0_weave_4 ?_
  rw [setCl_of]
  refine j_iconst S 0 dX0_weave_7 (by decide) ?_
  refine j_istore S [some (.ref (Z.ad (co t))), some (.ref (Z.ad (ro 9))), some (.ref (Z.ad (ro 11))), some (.ref (Z.ad (ro c))), some (.int 0), none, none, none] dX0_weave_8 (by decide) rfl rfl ?_
  exact first (σ.row 9).length 0 (by omega)
