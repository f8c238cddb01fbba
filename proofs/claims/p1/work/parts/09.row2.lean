set_option maxRecDepth 100000 in
set_option maxHeartbeats 4000000 in
/-- all numbers of another row more -/
theorem k_X3_addAll (l : Launch) (Z : Zx) (A : Nat → Prop) (hA : AdOk Z A) (σ : St) (r q : Nat) (hr : r < 30) (hq : q < 30) (hne : r ≠ q) : Km l Z A yX3_addAll wsX3_addAll { frames := 1, cells := 0, slots := 0, locals := 21 } (Wd Z σ) [.ref (Z.ad (ro r)), .ref (Z.ad (ro q))] (Qv (Wd Z (σ.setRow r (addAllI (cap r) (σ.row r) (σ.row q)))) A) := by
  refine Km.of (cc := cX3_addAll) (maxL := 3) (ret := none) (by decide) rfl (Nat.le_of_ble_eq_true rfl) hA ?_
  intro X hXl S hAX hRT hXA hQ hXk hXn
  show J X 3 (Wd Z σ) 0 [some (.ref (Z.ad (ro r))), some (.ref (Z.ad (ro q))), none] []
  refine J.caps (fun hcap => ?_)
  have hln : (σ.row r).length < 2 ^ 31 := Nat.lt_of_le_of_lt (hcap r (by omega)) (cap_lt r)
  have hln_q : (σ.row q).length < 2 ^ 31 := Nat.lt_of_le_of_lt (hcap q (by omega)) (cap_lt q)
  have hcr := hcap r hr
  have loop : ∀ (f i : Nat) (σ1 : St), i + f = (σ.row q).length → σ1 = σ.setRow r (addAllI (cap r) (σ.row r) ((σ.row q).take i)) → J X 3 (Wd Z σ1) 2 [some (.ref (Z.ad (ro r))), some (.ref (Z.ad (ro q))), some (.int (nI i))] [] := by
    intro f
    induction f with
    | zero =>
      intro i σ1 hi he
      have hq1 : σ1.row q = σ.row q := by rw [he, St.row_ne _ _ (Ne.symm hne)]
      refine j_iload_n S dX3_addAll_2 rfl ?_
      refine j_aload_n S dX3_addAll_3 rfl ?_
      refine j_get S (C := RX3) (T := TX3) (N := 2) (by decide +kernel) (rd_row (by omega)) rfl (v := .int (nI (σ1.row q).length)) 1 (by decide) (by decide +kernel) rfl rfl dX3_addAll_4 ?_
      rw [hq1]
      refine j_icmp_ge S 25 dX3_addAll_7 (by decide) (fun _ => ?_) (fun h9 => absurd (by rw [nI_leI hln_q (by omega)]; omega) h9)
      exact j_return S hRT hXA hQ hXk hXn dX3_addAll_25 (fun H h => by rw [he, show i = (σ.row q).length by omega, List.take_length] at h; exact h)
    | succ f ih =>
      intro i σ1 hi he
      have hq1 : σ1.row q = σ.row q := by rw [he, St.row_ne _ _ (Ne.symm hne)]
      have hr1 : σ1.row r = addAllI (cap r) (σ.row r) ((σ.row q).take i) := by rw [he, St.row_self]
      refine j_iload_n S dX3_addAll_2 rfl ?_
      refine j_aload_n S dX3_addAll_3 rfl ?_
      refine j_get S (C := RX3) (T := TX3) (N := 2) (by decide +kernel) (rd_row (by omega)) rfl (v := .int (nI (σ1.row q).length)) 1 (by decide) (by decide +kernel) rfl rfl dX3_addAll_4 ?_
      rw [hq1]
      refine j_icmp_ge S 25 dX3_addAll_7 (by decide) (fun h9 => absurd h9 (by rw [nI_leI hln_q (by omega)]; omega)) (fun _ => ?_)
      refine j_aload_n S dX3_addAll_10 rfl ?_
      refine j_aload_n S dX3_addAll_11 rfl ?_
      refine j_iload_n S dX3_addAll_12 rfl ?_
      refine j_cVi S (n := 1) (rest := [.ref (Z.ad (ro r))]) (k_X3_at X.l Z X.A hAX σ1 q (by omega) (nI i)) ⟨_, _, _, _, rfl, gX3_addAll_X3_at, rfl, rfl, by decide +kernel, ⟨Nat.le_of_ble_eq_true rfl, Nat.le_of_ble_eq_true rfl⟩⟩ (rd_row (by omega)) rfl rfl (Nat.le_of_ble_eq_true rfl) rfl dX3_addAll_13 (fun v9 hv9 => ?_)
      subst hv9
      refine j_cVv S (n := 1) (rest := []) (k_X3_add X.l Z X.A hAX σ1 r (by omega) (atI (σ1.row q) (nI i))) ⟨_, _, _, _, rfl, gX3_addAll_X3_add, rfl, rfl, by decide +kernel, ⟨Nat.le_of_ble_eq_true rfl, Nat.le_of_ble_eq_true rfl⟩⟩ (rd_row (by omega)) rfl rfl (Nat.le_of_ble_eq_true rfl) rfl dX3_addAll_16 ?_
      refine j_iinc S (nI (i + 1)) [some (.ref (Z.ad (ro r))), some (.ref (Z.ad (ro q))), some (.int (nI (i + 1)))] dX3_addAll_19 rfl (nI_1 i) (by decide) rfl rfl ?_
      refine j_goto S 2 dX3_addAll_22 (by decide) ?_
      refine ih (i + 1) _ (by omega) ?_
      rw [hq1, hr1, atI_nI _ (by omega), addAllI_step (by omega), he, St.setRow_twice]
  refine j_iconst S 0 dX3_addAll_0 (by decide) ?_
  refine j_istore_n S [some (.ref (Z.ad (ro r))), some (.ref (Z.ad (ro q))), some (.int 0)] dX3_addAll_1 (by decide) rfl rfl ?_
  exact loop (σ.row q).length 0 σ (by omega) (by rw [addAllI_0 hcr, St.setRow_same])

set_option maxRecDepth 100000 in
set_option maxHeartbeats 4000000 in
/-- the numbers of another row -/
theorem k_X3_copyFrom (l : Launch) (Z : Zx) (A : Nat → Prop) (hA : AdOk Z A) (σ : St) (r q : Nat) (hr : r < 30) (hq : q < 30) (hne : r ≠ q) : Km l Z A yX3_copyFrom wsX3_copyFrom { frames := 2, cells := 0, slots := 0, locals := 43 } (Wd Z σ) [.ref (Z.ad (ro r)), .ref (Z.ad (ro q))] (Qv (Wd Z (σ.setRow r (addAllI (cap r) [] (σ.row q)))) A) := by
  refine Km.of (cc := cX3_copyFrom) (maxL := 2) (ret := none) (by decide) rfl (Nat.le_of_ble_eq_true rfl) hA ?_
  intro X hXl S hAX hRT hXA hQ hXk hXn
  show J X 2 (Wd Z σ) 0 [some (.ref (Z.ad (ro r))), some (.ref (Z.ad (ro q)))] []
  refine j_aload_n S dX3_copyFrom_0 rfl ?_
  refine j_cVv S (n := 0) (rest := []) (k_X3_clear X.l Z X.A hAX σ r (by omega)) ⟨_, _, _, _, rfl, gX3_copyFrom_X3_clear, rfl, rfl, by decide +kernel, ⟨Nat.le_of_ble_eq_true rfl, Nat.le_of_ble_eq_true rfl⟩⟩ (rd_row (by omega)) rfl rfl (Nat.le_of_ble_eq_true rfl) rfl dX3_copyFrom_1 ?_
  refine j_aload_n S dX3_copyFrom_4 rfl ?_
  refine j_aload_n S dX3_copyFrom_5 rfl ?_
  refine j_cVv S (n := 1) (rest := []) (k_X3_addAll X.l Z X.A hAX (σ.setRow r []) r q (by omega) (by omega) (by omega)) ⟨_, _, _, _, rfl, gX3_copyFrom_X3_addAll, rfl, rfl, by decide +kernel, ⟨Nat.le_of_ble_eq_true rfl, Nat.le_of_ble_eq_true rfl⟩⟩ (rd_row (by omega)) rfl rfl (Nat.le_of_ble_eq_true rfl) rfl dX3_copyFrom_6 ?_
  exact j_return S hRT hXA hQ hXk hXn dX3_copyFrom_9 (fun H h => by rw [St.row_self, St.row_ne _ _ (Ne.symm hne), St.setRow_twice] at h; exact h)

set_option maxRecDepth 100000 in
set_option maxHeartbeats 4000000 in
theorem k_X3_atRound (l : Launch) (Z : Zx) (A : Nat → Prop) (hA : AdOk Z A) (σ : St) (r : Nat) (hr : r < 30) (k : Nat) (hk31 : k < 2 ^ 31) : Km l Z A yX3_atRound wsX3_atRound { frames := 1, cells := 0, slots := 0, locals := 21 } (Wd Z σ) [.ref (Z.ad (ro r)), .int (nI k)] (Qi (Wd Z σ) A (fun v => v = (σ.row r).getD (k % (σ.row r).length) 0)) := by
  refine Km.of (cc := cX3_atRound) (maxL := 2) (ret := (some .int)) (by decide) rfl (Nat.le_of_ble_eq_true rfl) hA ?_
  intro X hXl S hAX hRT hXA hQ hXk hXn
  show J X 2 (Wd Z σ) 0 [some (.ref (Z.ad (ro r))), some (.int (nI k))] []
  refine J.caps (fun hcap => ?_)
  have hln : (σ.row r).length < 2 ^ 31 := Nat.lt_of_le_of_lt (hcap r (by omega)) (cap_lt r)
  refine j_aload_n S dX3_atRound_0 rfl ?_
  refine j_get S (C := RX3) (T := TX3) (N := 2) (by decide +kernel) (rd_row (by omega)) rfl (v := .int (nI (σ.row r).length)) 1 (by decide) (by decide +kernel) rfl rfl dX3_atRound_1 ?_
  refine j_if_le S 20 dX3_atRound_4 (by decide) (fun h => ?_) (fun h => ?_)
  · skip
    have h0 : (σ.row r).length = 0 := by rw [← nI_0, nI_leI hln (by omega)] at h; omega
    refine j_iconst S 0 dX3_atRound_20 (by decide) ?_
    exact j_ireturn S hRT hXA hQ hXk hXn dX3_atRound_21 rfl (by rw [getD_out (by omega)]) (fun H h => h)
  · skip
    have h0 : 0 < (σ.row r).length := by rw [← nI_0, nI_leI hln (by omega)] at h; omega
    refine j_aload_n S dX3_atRound_7 rfl ?_
    refine j_iload_n S dX3_atRound_8 rfl ?_
    refine j_aload_n S dX3_atRound_9 rfl ?_
    refine j_get S (C := RX3) (T := TX3) (N := 2) (by decide +kernel) (rd_row (by omega)) rfl (v := .int (nI (σ.row r).length)) 1 (by decide) (by decide +kernel) rfl rfl dX3_atRound_10 ?_
    refine j_irem S (nI (k % (σ.row r).length)) dX3_atRound_13 (nI_ne0 h0 hln) (pk_rem hk31 h0 hln) ?_
    refine j_cVi S (n := 1) (rest := []) (k_X3_at X.l Z X.A hAX σ r (by omega) (nI (k % (σ.row r).length))) ⟨_, _, _, _, rfl, gX3_atRound_X3_at, rfl, rfl, by decide +kernel, ⟨Nat.le_of_ble_eq_true rfl, Nat.le_of_ble_eq_true rfl⟩⟩ (rd_row (by omega)) rfl rfl (Nat.le_of_ble_eq_true rfl) rfl dX3_atRound_14 (fun v9 hv9 => ?_)
    subst hv9
    refine j_goto S 21 dX3_atRound_17 (by decide) ?_
    exact j_ireturn S hRT hXA hQ hXk hXn dX3_atRound_21 rfl (atI_nI _ (Nat.lt_of_le_of_lt (Nat.mod_le _ _) hk31)) (fun H h => h)

set_option maxRecDepth 100000 in
set_option maxHeartbeats 4000000 in
theorem k_X3_last (l : Launch) (Z : Zx) (A : Nat → Prop) (hA : AdOk Z A) (σ : St) (r : Nat) (hr : r < 30) : Km l Z A yX3_last wsX3_last { frames := 1, cells := 0, slots := 0, locals := 21 } (Wd Z σ) [.ref (Z.ad (ro r))] (Qi (Wd Z σ) A (fun v => v = (σ.row r).getD ((σ.row r).length - 1) 0)) := by
  refine Km.of (cc := cX3_last) (maxL := 1) (ret := (some .int)) (by decide) rfl (Nat.le_of_ble_eq_true rfl) hA ?_
  intro X hXl S hAX hRT hXA hQ hXk hXn
  show J X 1 (Wd Z σ) 0 [some (.ref (Z.ad (ro r)))] []
  refine J.caps (fun hcap => ?_)
  have hln : (σ.row r).length < 2 ^ 31 := Nat.lt_of_le_of_lt (hcap r (by omega)) (cap_lt r)
  refine j_aload_n S dX3_last_0 rfl ?_
  refine j_aload_n S dX3_last_1 rfl ?_
  refine j_get S (C := RX3) (T := TX3) (N := 2) (by decide +kernel) (rd_row (by omega)) rfl (v := .int (nI (σ.row r).length)) 1 (by decide) (by decide +kernel) rfl rfl dX3_last_2 ?_
  refine j_iconst S 1 dX3_last_5 (by decide) ?_
  refine j_isub S ((nI (σ.row r).length) - 1) dX3_last_6 rfl ?_
  refine j_cVi S (n := 1) (rest := []) (k_X3_at X.l Z X.A hAX σ r (by omega) ((nI (σ.row r).length) - 1)) ⟨_, _, _, _, rfl, gX3_last_X3_at, rfl, rfl, by decide +kernel, ⟨Nat.le_of_ble_eq_true rfl, Nat.le_of_ble_eq_true rfl⟩⟩ (rd_row (by omega)) rfl rfl (Nat.le_of_ble_eq_true rfl) rfl dX3_last_7 (fun v9 hv9 => ?_)
  subst hv9
  exact j_ireturn S hRT hXA hQ hXk hXn dX3_last_10 rfl (by cases h0 : σ.row r with | nil => decide | cons a t => rw [List.length_cons, nI_pred, atI_nI _ (by rw [h0, List.length_cons] at hln; omega)]; rfl) (fun H h => h)

set_option maxRecDepth 100000 in
set_option maxHeartbeats 4000000 in
theorem k_X3_hasPeriod (l : Launch) (Z : Zx) (A : Nat → Prop) (hA : AdOk Z A) (σ : St) (r : Nat) (hr : r < 30) (p : Nat) (hp : p < 2 ^ 31) : Km l Z A yX3_hasPeriod wsX3_hasPeriod { frames := 1, cells := 0, slots := 0, locals := 21 } (Wd Z σ) [.ref (Z.ad (ro r)), .int (nI p)] (Qi (Wd Z σ) A (fun v => v = b2i (hasPer (σ.row r) p))) := by
  refine Km.of (cc := cX3_hasPeriod) (maxL := 3) (ret := (some .boolean)) (by decide) rfl (Nat.le_of_ble_eq_true rfl) hA ?_
  intro X hXl S hAX hRT hXA hQ hXk hXn
  show J X 3 (Wd Z σ) 0 [some (.ref (Z.ad (ro r))), some (.int (nI p)), none] []
  refine J.caps (fun hcap => ?_)
  have hln : (σ.row r).length < 2 ^ 31 := Nat.lt_of_le_of_lt (hcap r (by omega)) (cap_lt r)
  have loop : ∀ (f i : Nat), i + f = p + ((σ.row r).length - p) → p ≤ i → hasPer (σ.row r) p = allF (fun i => (σ.row r).getD i 0 == (σ.row r).getD (i - p) 0) f i → J X 3 (Wd Z σ) 2 [some (.ref (Z.ad (ro r))), some (.int (nI p)), some (.int (nI i))] [] := by
    intro f
    induction f with
    | zero =>
      intro i hi hpi he
      refine j_iload_n S dX3_hasPeriod_2 rfl ?_
      refine j_aload_n S dX3_hasPeriod_3 rfl ?_
      refine j_get S (C := RX3) (T := TX3) (N := 2) (by decide +kernel) (rd_row (by omega)) rfl (v := .int (nI (σ.row r).length)) 1 (by decide) (by decide +kernel) rfl rfl dX3_hasPeriod_4 ?_
      refine j_icmp_ge S 33 dX3_hasPeriod_7 (by decide) (fun _ => ?_) (fun h9 => absurd (by rw [nI_leI hln (by omega)]; omega) h9)
      refine j_iconst S 1 dX3_hasPeriod_33 (by decide) ?_
      exact j_ireturn S hRT hXA hQ hXk hXn dX3_hasPeriod_34 rfl (by rw [he]; rfl) (fun H h => h)
    | succ f ih =>
      intro i hi hpi he
      refine j_iload_n S dX3_hasPeriod_2 rfl ?_
      refine j_aload_n S dX3_hasPeriod_3 rfl ?_
      refine j_get S (C := RX3) (T := TX3) (N := 2) (by decide +kernel) (rd_row (by omega)) rfl (v := .int (nI (σ.row r).length)) 1 (by decide) (by decide +kernel) rfl rfl dX3_hasPeriod_4 ?_
      refine j_icmp_ge S 33 dX3_hasPeriod_7 (by decide) (fun h9 => absurd h9 (by rw [nI_leI hln (by omega)]; omega)) (fun _ => ?_)
      refine j_aload_n S dX3_hasPeriod_10 rfl ?_
      refine j_iload_n S dX3_hasPeriod_11 rfl ?_
      refine j_cVi S (n := 1) (rest := []) (k_X3_at X.l Z X.A hAX σ r (by omega) (nI i)) ⟨_, _, _, _, rfl, gX3_hasPeriod_X3_at, rfl, rfl, by decide +kernel, ⟨Nat.le_of_ble_eq_true rfl, Nat.le_of_ble_eq_true rfl⟩⟩ (rd_row (by omega)) rfl rfl (Nat.le_of_ble_eq_true rfl) rfl dX3_hasPeriod_12 (fun v9 hv9 => ?_)
      subst hv9
      refine j_aload_n S dX3_hasPeriod_15 rfl ?_
      refine j_iload_n S dX3_hasPeriod_16 rfl ?_
      refine j_iload_n S dX3_hasPeriod_17 rfl ?_
      refine j_isub S (nI (i - p)) dX3_hasPeriod_18 (pk_sub hpi) ?_
      refine j_cVi S (n := 1) (rest := [.int (atI (σ.row r) (nI i))]) (k_X3_at X.l Z X.A hAX σ r (by omega) (nI (i - p))) ⟨_, _, _, _, rfl, gX3_hasPeriod_X3_at, rfl, rfl, by decide +kernel, ⟨Nat.le_of_ble_eq_true rfl, Nat.le_of_ble_eq_true rfl⟩⟩ (rd_row (by omega)) rfl rfl (Nat.le_of_ble_eq_true rfl) rfl dX3_hasPeriod_19 (fun v9 hv9 => ?_)
      subst hv9
      rw [atI_nI _ (by omega), atI_nI _ (by omega)]
      refine j_icmp_eq S 27 dX3_hasPeriod_22 (by decide) (fun h => ?_) (fun h => ?_)
      · skip
        refine j_iinc S (nI (i + 1)) [some (.ref (Z.ad (ro r))), some (.int (nI p)), some (.int (nI (i + 1)))] dX3_hasPeriod_27 rfl (nI_1 i) (by decide) rfl rfl ?_
        refine j_goto S 2 dX3_hasPeriod_30 (by decide) ?_
        exact ih (i + 1) (by omega) (by omega) (by rw [he, allF, beq_iff_eq.mpr h]; rfl)
      · skip
        refine j_iconst S 0 dX3_hasPeriod_25 (by decide) ?_
        exact j_ireturn S hRT hXA hQ hXk hXn dX3_hasPeriod_26 rfl (by rw [he, allF, beq_eq_false_iff_ne.mpr h]; rfl) (fun H h => h)
  refine j_iload_n S dX3_hasPeriod_0 rfl ?_
  refine j_istore_n S [some (.ref (Z.ad (ro r))), some (.int (nI p)), some (.int (nI p))] dX3_hasPeriod_1 (by decide) rfl rfl ?_
  exact loop ((σ.row r).length - p) p (by omega) (Nat.le_refl _) rfl

set_option maxRecDepth 100000 in
set_option maxHeartbeats 4000000 in
theorem k_X3_leastPeriod (l : Launch) (Z : Zx) (A : Nat → Prop) (hA : AdOk Z A) (σ : St) (r : Nat) (hr : r < 30) : Km l Z A yX3_leastPeriod wsX3_leastPeriod { frames := 2, cells := 0, slots := 0, locals := 43 } (Wd Z σ) [.ref (Z.ad (ro r))] (Qi (Wd Z σ) A (fun v => v = periodI (σ.row r))) := by
  refine Km.of (cc := cX3_leastPeriod) (maxL := 2) (ret := (some .int)) (by decide) rfl (Nat.le_of_ble_eq_true rfl) hA ?_
  intro X hXl S hAX hRT hXA hQ hXk hXn
  show J X 2 (Wd Z σ) 0 [some (.ref (Z.ad (ro r))), none] []
  refine J.caps (fun hcap => ?_)
  have hln : (σ.row r).length < 2 ^ 31 := Nat.lt_of_le_of_lt (hcap r (by omega)) (cap_lt r)
  have loop : ∀ (f i : Nat), i + f = 1 + ((σ.row r).length - 1) → 1 ≤ i → periodI (σ.row r) = findI (fun p => hasPer (σ.row r) p) (nI (σ.row r).length) f i → J X 2 (Wd Z σ) 2 [some (.ref (Z.ad (ro r))), some (.int (nI i))] [] := by
    intro f
    induction f with
    | zero =>
      intro i hi h1i he
      refine j_iload_n S dX3_leastPeriod_2 rfl ?_
      refine j_aload_n S dX3_leastPeriod_3 rfl ?_
      refine j_get S (C := RX3) (T := TX3) (N := 2) (by decide +kernel) (rd_row (by omega)) rfl (v := .int (nI (σ.row r).length)) 1 (by decide) (by decide +kernel) rfl rfl dX3_leastPeriod_4 ?_
      refine j_icmp_ge S 26 dX3_leastPeriod_7 (by decide) (fun _ => ?_) (fun h9 => absurd (by rw [nI_leI hln (by omega)]; omega) h9)
      refine j_aload_n S dX3_leastPeriod_26 rfl ?_
      refine j_get S (C := RX3) (T := TX3) (N := 2) (by decide +kernel) (rd_row (by omega)) rfl (v := .int (nI (σ.row r).length)) 1 (by decide) (by decide +kernel) rfl rfl dX3_leastPeriod_27 ?_
      exact j_ireturn S hRT hXA hQ hXk hXn dX3_leastPeriod_30 rfl he.symm (fun H h => h)
    | succ f ih =>
      intro i hi h1i he
      refine j_iload_n S dX3_leastPeriod_2 rfl ?_
      refine j_aload_n S dX3_leastPeriod_3 rfl ?_
      refine j_get S (C := RX3) (T := TX3) (N := 2) (by decide +kernel) (rd_row (by omega)) rfl (v := .int (nI (σ.row r).length)) 1 (by decide) (by decide +kernel) rfl rfl dX3_leastPeriod_4 ?_
      refine j_icmp_ge S 26 dX3_leastPeriod_7 (by decide) (fun h9 => absurd h9 (by rw [nI_leI hln (by omega)]; omega)) (fun _ => ?_)
      refine j_aload_n S dX3_leastPeriod_10 rfl ?_
      refine j_iload_n S dX3_leastPeriod_11 rfl ?_
      refine j_cVi S (n := 1) (rest := []) (k_X3_hasPeriod X.l Z X.A hAX σ r (by omega) i (by omega)) ⟨_, _, _, _, rfl, gX3_leastPeriod_X3_hasPeriod, rfl, rfl, by decide +kernel, ⟨Nat.le_of_ble_eq_true rfl, Nat.le_of_ble_eq_true rfl⟩⟩ (rd_row (by omega)) rfl rfl (Nat.le_of_ble_eq_true rfl) rfl dX3_leastPeriod_12 (fun v9 hv9 => ?_)
      subst hv9
      refine j_if_eq S 20 dX3_leastPeriod_15 (by decide) (fun h => ?_) (fun h => ?_)
      · skip
        refine j_iinc S (nI (i + 1)) [some (.ref (Z.ad (ro r))), some (.int (nI (i + 1)))] dX3_leastPeriod_20 rfl (nI_1 i) (by decide) rfl rfl ?_
        refine j_goto S 2 dX3_leastPeriod_23 (by decide) ?_
        exact ih (i + 1) (by omega) (by omega) (by rw [he, findI, if_neg (by rw [b2i_0.mp h]; decide)])
      · skip
        refine j_iload_n S dX3_leastPeriod_18 rfl ?_
        exact j_ireturn S hRT hXA hQ hXk hXn dX3_leastPeriod_19 rfl (by rw [he, findI, if_pos (b2i_n0.mp h)]) (fun H h => h)
  refine j_iconst S 1 dX3_leastPeriod_0 (by decide) ?_
  refine j_istore_n S [some (.ref (Z.ad (ro r))), some (.int 1)] dX3_leastPeriod_1 (by decide) rfl rfl ?_
  exact loop ((σ.row r).length - 1) 1 (by omega) (Nat.le_refl _) rfl

set_option maxRecDepth 100000 in
set_option maxHeartbeats 4000000 in
theorem k_X3_firstPlaceOf (l : Launch) (Z : Zx) (A : Nat → Prop) (hA : AdOk Z A) (σ : St) (r : Nat) (hr : r < 30) (v : Int32) : Km l Z A yX3_firstPlaceOf wsX3_firstPlaceOf { frames := 1, cells := 0, slots := 0, locals := 21 } (Wd Z σ) [.ref (Z.ad (ro r)), .int v] (Qi (Wd Z σ) A (fun x => x = firstPl (σ.row r) v)) := by
  refine Km.of (cc := cX3_firstPlaceOf) (maxL := 3) (ret := (some .int)) (by decide) rfl (Nat.le_of_ble_eq_true rfl) hA ?_
  intro X hXl S hAX hRT hXA hQ hXk hXn
  show J X 3 (Wd Z σ) 0 [some (.ref (Z.ad (ro r))), some (.int v), none] []
  refine J.caps (fun hcap => ?_)
  have hln : (σ.row r).length < 2 ^ 31 := Nat.lt_of_le_of_lt (hcap r (by omega)) (cap_lt r)
  have loop : ∀ (f i : Nat), i + f = (σ.row r).length → firstPl (σ.row r) v = findI (fun i => (σ.row r).getD i 0 == v) (-1) f i → J X 3 (Wd Z σ) 2 [some (.ref (Z.ad (ro r))), some (.int v), some (.int (nI i))] [] := by
    intro f
    induction f with
    | zero =>
      intro i hi he
      refine j_iload_n S dX3_firstPlaceOf_2 rfl ?_
      refine j_aload_n S dX3_firstPlaceOf_3 rfl ?_
      refine j_get S (C := RX3) (T := TX3) (N := 2) (by decide +kernel) (rd_row (by omega)) rfl (v := .int (nI (σ.row r).length)) 1 (by decide) (by decide +kernel) rfl rfl dX3_firstPlaceOf_4 ?_
      refine j_icmp_ge S 27 dX3_firstPlaceOf_7 (by decide) (fun _ => ?_) (fun h9 => absurd (by rw [nI_leI hln (by omega)]; omega) h9)
      refine j_iconst S (-1) dX3_firstPlaceOf_27 (by decide) ?_
      exact j_ireturn S hRT hXA hQ hXk hXn dX3_firstPlaceOf_28 rfl he.symm (fun H h => h)
    | succ f ih =>
      intro i hi he
      refine j_iload_n S dX3_firstPlaceOf_2 rfl ?_
      refine j_aload_n S dX3_firstPlaceOf_3 rfl ?_
      refine j_get S (C := RX3) (T := TX3) (N := 2) (by decide +kernel) (rd_row (by omega)) rfl (v := .int (nI (σ.row r).length)) 1 (by decide) (by decide +kernel) rfl rfl dX3_firstPlaceOf_4 ?_
      refine j_icmp_ge S 27 dX3_firstPlaceOf_7 (by decide) (fun h9 => absurd h9 (by rw [nI_leI hln (by omega)]; omega)) (fun _ => ?_)
      refine j_aload_n S dX3_firstPlaceOf_10 rfl ?_
      refine j_iload_n S dX3_firstPlaceOf_11 rfl ?_
      refine j_cVi S (n := 1) (rest := []) (k_X3_at X.l Z X.A hAX σ r (by omega) (nI i)) ⟨_, _, _, _, rfl, gX3_firstPlaceOf_X3_at, rfl, rfl, by decide +kernel, ⟨Nat.le_of_ble_eq_true rfl, Nat.le_of_ble_eq_true rfl⟩⟩ (rd_row (by omega)) rfl rfl (Nat.le_of_ble_eq_true rfl) rfl dX3_firstPlaceOf_12 (fun v9 hv9 => ?_)
      subst hv9
      refine j_iload_n S dX3_firstPlaceOf_15 rfl ?_
      rw [atI_nI _ (by omega)]
      refine j_icmp_ne S 21 dX3_firstPlaceOf_16 (by decide) (fun h => ?_) (fun h => ?_)
      · skip
        refine j_iinc S (nI (i + 1)) [some (.ref (Z.ad (ro r))), some (.int v), some (.int (nI (i + 1)))] dX3_firstPlaceOf_21 rfl (nI_1 i) (by decide) rfl rfl ?_
        refine j_goto S 2 dX3_firstPlaceOf_24 (by decide) ?_
        exact ih (i + 1) (by omega) (by rw [he, findI, if_neg (by rw [beq_iff_eq]; exact h)])
      · skip
        refine j_iload_n S dX3_firstPlaceOf_19 rfl ?_
        exact j_ireturn S hRT hXA hQ hXk hXn dX3_firstPlaceOf_20 rfl (by rw [he, findI, if_pos (by rw [beq_iff_eq]; exact h)]) (fun H h => h)
  refine j_iconst S 0 dX3_firstPlaceOf_0 (by decide) ?_
  refine j_istore_n S [some (.ref (Z.ad (ro r))), some (.int v), some (.int 0)] dX3_firstPlaceOf_1 (by decide) rfl rfl ?_
  exact loop (σ.row r).length 0 (by omega) rfl

set_option maxRecDepth 100000 in
set_option maxHeartbeats 4000000 in
theorem k_X3_countDistinct (l : Launch) (Z : Zx) (A : Nat → Prop) (hA : AdOk Z A) (σ : St) (r : Nat) (hr : r < 30) : Km l Z A yX3_countDistinct wsX3_countDistinct { frames := 2, cells := 0, slots := 0, locals := 43 } (Wd Z σ) [.ref (Z.ad (ro r))] (Qi (Wd Z σ) A (fun v => v = distinctI (σ.row r))) := by
  refine Km.of (cc := cX3_countDistinct) (maxL := 3) (ret := (some .int)) (by decide) rfl (Nat.le_of_ble_eq_true rfl) hA ?_
  intro X hXl S hAX hRT hXA hQ hXk hXn
  show J X 3 (Wd Z σ) 0 [some (.ref (Z.ad (ro r))), none, none] []
  refine J.caps (fun hcap => ?_)
  have hln : (σ.row r).length < 2 ^ 31 := Nat.lt_of_le_of_lt (hcap r (by omega)) (cap_lt r)
  have loop : ∀ (f i : Nat), i + f = (σ.row r).length → J X 3 (Wd Z σ) 4 [some (.ref (Z.ad (ro r))), some (.int (foldN (fun a i => if firstPl (σ.row r) ((σ.row r).getD i 0) = nI i then a + 1 else a) i)), some (.int (nI i))] [] := by
    intro f
    induction f with
    | zero =>
      intro i hi
      refine j_iload_n S dX3_countDistinct_4 rfl ?_
      refine j_aload_n S dX3_countDistinct_5 rfl ?_
      refine j_get S (C := RX3) (T := TX3) (N := 2) (by decide +kernel) (rd_row (by omega)) rfl (v := .int (nI (σ.row r).length)) 1 (by decide) (by decide +kernel) rfl rfl dX3_countDistinct_6 ?_
      refine j_icmp_ge S 34 dX3_countDistinct_9 (by decide) (fun _ => ?_) (fun h9 => absurd (by rw [nI_leI hln (by omega)]; omega) h9)
      refine j_iload_n S dX3_countDistinct_34 rfl ?_
      obtain rfl : i = (σ.row r).length := by omega
      exact j_ireturn S hRT hXA hQ hXk hXn dX3_countDistinct_35 rfl rfl (fun H h => h)
    | succ f ih =>
      intro i hi
      refine j_iload_n S dX3_countDistinct_4 rfl ?_
      refine j_aload_n S dX3_countDistinct_5 rfl ?_
      refine j_get S (C := RX3) (T := TX3) (N := 2) (by decide +kernel) (rd_row (by omega)) rfl (v := .int (nI (σ.row r).length)) 1 (by decide) (by decide +kernel) rfl rfl dX3_countDistinct_6 ?_
      refine j_icmp_ge S 34 dX3_countDistinct_9 (by decide) (fun h9 => absurd h9 (by rw [nI_leI hln (by omega)]; omega)) (fun _ => ?_)
      refine j_aload_n S dX3_countDistinct_12 rfl ?_
      refine j_aload_n S dX3_countDistinct_13 rfl ?_
      refine j_iload_n S dX3_countDistinct_14 rfl ?_
      refine j_cVi S (n := 1) (rest := [.ref (Z.ad (ro r))]) (k_X3_at X.l Z X.A hAX σ r (by omega) (nI i)) ⟨_, _, _, _, rfl, gX3_countDistinct_X3_at, rfl, rfl, by decide +kernel, ⟨Nat.le_of_ble_eq_true rfl, Nat.le_of_ble_eq_true rfl⟩⟩ (rd_row (by omega)) rfl rfl (Nat.le_of_ble_eq_true rfl) rfl dX3_countDistinct_15 (fun v9 hv9 => ?_)
      subst hv9
      refine j_cVi S (n := 1) (rest := []) (k_X3_firstPlaceOf X.l Z X.A hAX σ r (by omega) (atI (σ.row r) (nI i))) ⟨_, _, _, _, rfl, gX3_countDistinct_X3_firstPlaceOf, rfl, rfl, by decide +kernel, ⟨Nat.le_of_ble_eq_true rfl, Nat.le_of_ble_eq_true rfl⟩⟩ (rd_row (by omega)) rfl rfl (Nat.le_of_ble_eq_true rfl) rfl dX3_countDistinct_18 (fun v9 hv9 => ?_)
      subst hv9
      refine j_iload_n S dX3_countDistinct_21 rfl ?_
      rw [atI_nI _ (by omega)]
      refine j_icmp_ne S 28 dX3_countDistinct_22 (by decide) (fun h => ?_) (fun h => ?_)
      · skip
        refine j_iinc S (nI (i + 1)) [some (.ref (Z.ad (ro r))), some (.int (foldN (fun a i => if firstPl (σ.row r) ((σ.row r).getD i 0) = nI i then a + 1 else a) i)), some (.int (nI (i + 1)))] dX3_countDistinct_28 rfl (nI_1 i) (by decide) rfl rfl ?_
        refine j_goto S 4 dX3_countDistinct_31 (by decide) ?_
        have e9 : foldN (fun a i => if firstPl (σ.row r) ((σ.row r).getD i 0) = nI i then a + 1 else a) i = foldN (fun a i => if firstPl (σ.row r) ((σ.row r).getD i 0) = nI i then a + 1 else a) (i + 1) := (if_neg h).symm
        rw [e9]
        exact ih (i + 1) (by omega)
      · skip
        refine j_iinc S (foldN (fun a i => if firstPl (σ.row r) ((σ.row r).getD i 0) = nI i then a + 1 else a) (i + 1)) [some (.ref (Z.ad (ro r))), some (.int (foldN (fun a i => if firstPl (σ.row r) ((σ.row r).getD i 0) = nI i then a + 1 else a) (i + 1))), some (.int (nI i))] dX3_countDistinct_25 rfl (if_pos h).symm (by decide) rfl rfl ?_
        refine j_iinc S (nI (i + 1)) [some (.ref (Z.ad (ro r))), some (.int (foldN (fun a i => if firstPl (σ.row r) ((σ.row r).getD i 0) = nI i then a + 1 else a) (i + 1))), some (.int (nI (i + 1)))] dX3_countDistinct_28 rfl (nI_1 i) (by decide) rfl rfl ?_
        refine j_goto S 4 dX3_countDistinct_31 (by decide) ?_
        exact ih (i + 1) (by omega)
  refine j_iconst S 0 dX3_countDistinct_0 (by decide) ?_
  refine j_istore_n S [some (.ref (Z.ad (ro r))), some (.int 0), none] dX3_countDistinct_1 (by decide) rfl rfl ?_
  refine j_iconst S 0 dX3_countDistinct_2 (by decide) ?_
  refine j_istore_n S [some (.ref (Z.ad (ro r))), some (.int 0), some (.int 0)] dX3_countDistinct_3 (by decide) rfl rfl ?_
  exact loop (σ.row r).length 0 (by omega)

set_option maxRecDepth 100000 in
set_option maxHeartbeats 4000000 in
theorem k_J6_bitCount_0f7a4 (l : Launch) (Z : Zx) (A : Nat → Prop) (hA : AdOk Z A) (σ : St) (x : Int32) : Km l Z A yJ6_bitCount_0f7a4 wsJ6_bitCount_0f7a4 { frames := 0, cells := 0, slots := 0, locals := 0 } (Wd Z σ) [.int x] (Qi (Wd Z σ) A (fun v => v = bitC x)) := by
  refine Km.of (cc := cJ6_bitCount_0f7a4) (maxL := 1) (ret := (some .int)) (by decide) rfl (Nat.le_of_ble_eq_true rfl) hA ?_
  intro X hXl S hAX hRT hXA hQ hXk hXn
  show J X 1 (Wd Z σ) 0 [some (.int x)] []
  refine j_iload_n S dJ6_bitCount_0f7a4_0 rfl ?_
  refine j_iload_n S dJ6_bitCount_0f7a4_1 rfl ?_
  refine j_iconst S 1 dJ6_bitCount_0f7a4_2 (by decide) ?_
  refine j_iushr S (ush x 1) dJ6_bitCount_0f7a4_3 rfl ?_
  refine j_ldcw S (v := 1431655765) (by decide +kernel) dJ6_bitCount_0f7a4_4 ?_
  refine j_iand S ((ush x 1) &&& 1431655765) dJ6_bitCount_0f7a4_7 rfl ?_
  refine j_isub S (bitC1 x) dJ6_bitCount_0f7a4_8 rfl ?_
  refine j_istore_n S [some (.int (bitC1 x))] dJ6_bitCount_0f7a4_9 (by decide) rfl rfl ?_
  refine j_iload_n S dJ6_bitCount_0f7a4_10 rfl ?_
  refine j_ldcw S (v := 858993459) (by decide +kernel) dJ6_bitCount_0f7a4_11 ?_
  refine j_iand S ((bitC1 x) &&& 858993459) dJ6_bitCount_0f7a4_14 rfl ?_
  refine j_iload_n S dJ6_bitCount_0f7a4_15 rfl ?_
  refine j_iconst S 2 dJ6_bitCount_0f7a4_16 (by decide) ?_
  refine j_iushr S (ush (bitC1 x) 2) dJ6_bitCount_0f7a4_17 rfl ?_
  refine j_ldcw S (v := 858993459) (by decide +kernel) dJ6_bitCount_0f7a4_18 ?_
  refine j_iand S ((ush (bitC1 x) 2) &&& 858993459) dJ6_bitCount_0f7a4_21 rfl ?_
  refine j_iadd S (bitC2 (bitC1 x)) dJ6_bitCount_0f7a4_22 rfl ?_
  refine j_istore_n S [some (.int (bitC2 (bitC1 x)))] dJ6_bitCount_0f7a4_23 (by decide) rfl rfl ?_
  refine j_iload_n S dJ6_bitCount_0f7a4_24 rfl ?_
  refine j_iload_n S dJ6_bitCount_0f7a4_25 rfl ?_
  refine j_iconst S 4 dJ6_bitCount_0f7a4_26 (by decide) ?_
  refine j_iushr S (ush (bitC2 (bitC1 x)) 4) dJ6_bitCount_0f7a4_27 rfl ?_
  refine j_iadd S ((bitC2 (bitC1 x)) + (ush (bitC2 (bitC1 x)) 4)) dJ6_bitCount_0f7a4_28 rfl ?_
  refine j_ldcw S (v := 252645135) (by decide +kernel) dJ6_bitCount_0f7a4_29 ?_
  refine j_iand S (bitC3 (bitC2 (bitC1 x))) dJ6_bitCount_0f7a4_32 rfl ?_
  refine j_istore_n S [some (.int (bitC3 (bitC2 (bitC1 x))))] dJ6_bitCount_0f7a4_33 (by decide) rfl rfl ?_
  refine j_iload_n S dJ6_bitCount_0f7a4_34 rfl ?_
  refine j_iload_n S dJ6_bitCount_0f7a4_35 rfl ?_
  refine j_bipush S 8 dJ6_bitCount_0f7a4_36 (by decide) ?_
  refine j_iushr S (ush (bitC3 (bitC2 (bitC1 x))) 8) dJ6_bitCount_0f7a4_38 rfl ?_
  refine j_iadd S (bitC4 (bitC3 (bitC2 (bitC1 x)))) dJ6_bitCount_0f7a4_39 rfl ?_
  refine j_istore_n S [some (.int (bitC4 (bitC3 (bitC2 (bitC1 x)))))] dJ6_bitCount_0f7a4_40 (by decide) rfl rfl ?_
  refine j_iload_n S dJ6_bitCount_0f7a4_41 rfl ?_
  refine j_iload_n S dJ6_bitCount_0f7a4_42 rfl ?_
  refine j_bipush S 16 dJ6_bitCount_0f7a4_43 (by decide) ?_
  refine j_iushr S (ush (bitC4 (bitC3 (bitC2 (bitC1 x)))) 16) dJ6_bitCount_0f7a4_45 rfl ?_
  refine j_iadd S (bitC5 (bitC4 (bitC3 (bitC2 (bitC1 x))))) dJ6_bitCount_0f7a4_46 rfl ?_
  refine j_istore_n S [some (.int (bitC5 (bitC4 (bitC3 (bitC2 (bitC1 x))))))] dJ6_bitCount_0f7a4_47 (by decide) rfl rfl ?_
  refine j_iload_n S dJ6_bitCount_0f7a4_48 rfl ?_
  refine j_bipush S 63 dJ6_bitCount_0f7a4_49 (by decide) ?_
  refine j_iand S (bitC x) dJ6_bitCount_0f7a4_51 rfl ?_
  exact j_ireturn S hRT hXA hQ hXk hXn dJ6_bitCount_0f7a4_52 rfl rfl (fun H h => h)

set_option maxRecDepth 100000 in
set_option maxHeartbeats 4000000 in
theorem k_X3_countBits (l : Launch) (Z : Zx) (A : Nat → Prop) (hA : AdOk Z A) (σ : St) (r : Nat) (hr : r < 30) : Km l Z A yX3_countBits wsX3_countBits { frames := 1, cells := 0, slots := 0, locals := 21 } (Wd Z σ) [.ref (Z.ad (ro r))] (Qi (Wd Z σ) A (fun v => v = countBitsI (σ.row r))) := by
  refine Km.of (cc := cX3_countBits) (maxL := 3) (ret := (some .int)) (by decide) rfl (Nat.le_of_ble_eq_true rfl) hA ?_
  intro X hXl S hAX hRT hXA hQ hXk hXn
  show J X 3 (Wd Z σ) 0 [some (.ref (Z.ad (ro r))), none, none] []
  refine J.caps (fun hcap => ?_)
  have hln : (σ.row r).length < 2 ^ 31 := Nat.lt_of_le_of_lt (hcap r (by omega)) (cap_lt r)
  have loop : ∀ (f i : Nat), i + f = (σ.row r).length → J X 3 (Wd Z σ) 4 [some (.ref (Z.ad (ro r))), some (.int (foldN (fun a i => a + bitC ((σ.row r).getD i 0)) i)), some (.int (nI i))] [] := by
    intro f
    induction f with
    | zero =>
      intro i hi
      refine j_iload_n S dX3_countBits_4 rfl ?_
      refine j_aload_n S dX3_countBits_5 rfl ?_
      refine j_get S (C := RX3) (T := TX3) (N := 2) (by decide +kernel) (rd_row (by omega)) rfl (v := .int (nI (σ.row r).length)) 1 (by decide) (by decide +kernel) rfl rfl dX3_countBits_6 ?_
      refine j_icmp_ge S 29 dX3_countBits_9 (by decide) (fun _ => ?_) (fun h9 => absurd (by rw [nI_leI hln (by omega)]; omega) h9)
      refine j_iload_n S dX3_countBits_29 rfl ?_
      obtain rfl : i = (σ.row r).length := by omega
      exact j_ireturn S hRT hXA hQ hXk hXn dX3_countBits_30 rfl rfl (fun H h => h)
    | succ f ih =>
      intro i hi
      refine j_iload_n S dX3_countBits_4 rfl ?_
      refine j_aload_n S dX3_countBits_5 rfl ?_
      refine j_get S (C := RX3) (T := TX3) (N := 2) (by decide +kernel) (rd_row (by omega)) rfl (v := .int (nI (σ.row r).length)) 1 (by decide) (by decide +kernel) rfl rfl dX3_countBits_6 ?_
      refine j_icmp_ge S 29 dX3_countBits_9 (by decide) (fun h9 => absurd h9 (by rw [nI_leI hln (by omega)]; omega)) (fun _ => ?_)
      refine j_iload_n S dX3_countBits_12 rfl ?_
      refine j_aload_n S dX3_countBits_13 rfl ?_
      refine j_iload_n S dX3_countBits_14 rfl ?_
      refine j_cVi S (n := 1) (rest := [.int (foldN (fun a i => a + bitC ((σ.row r).getD i 0)) i)]) (k_X3_at X.l Z X.A hAX σ r (by omega) (nI i)) ⟨_, _, _, _, rfl, gX3_countBits_X3_at, rfl, rfl, by decide +kernel, ⟨Nat.le_of_ble_eq_true rfl, Nat.le_of_ble_eq_true rfl⟩⟩ (rd_row (by omega)) rfl rfl (Nat.le_of_ble_eq_true rfl) rfl dX3_countBits_15 (fun v9 hv9 => ?_)
      subst hv9
      rw [atI_nI _ (by omega)]
      refine j_cSi S (n := 1) (rest := [.int (foldN (fun a i => a + bitC ((σ.row r).getD i 0)) i)]) (k_J6_bitCount_0f7a4 X.l Z X.A hAX σ ((σ.row r).getD i 0)) ⟨_, _, _, _, rfl, gX3_countBits_J6_bitCount_0f7a4, rfl, rfl, by decide +kernel, ⟨Nat.le_of_ble_eq_true rfl, Nat.le_of_ble_eq_true rfl⟩⟩ rfl (Nat.le_of_ble_eq_true rfl) rfl dX3_countBits_18 (fun v9 hv9 => ?_)
      subst hv9
      refine j_iadd S (foldN (fun a i => a + bitC ((σ.row r).getD i 0)) (i + 1)) dX3_countBits_21 rfl ?_
      refine j_istore_n S [some (.ref (Z.ad (ro r))), some (.int (foldN (fun a i => a + bitC ((σ.row r).getD i 0)) (i + 1))), some (.int (nI i))] dX3_countBits_22 (by decide) rfl rfl ?_
      refine j_iinc S (nI (i + 1)) [some (.ref (Z.ad (ro r))), some (.int (foldN (fun a i => a + bitC ((σ.row r).getD i 0)) (i + 1))), some (.int (nI (i + 1)))] dX3_countBits_23 rfl (nI_1 i) (by decide) rfl rfl ?_
      refine j_goto S 4 dX3_countBits_26 (by decide) ?_
      exact ih (i + 1) (by omega)
  refine j_iconst S 0 dX3_countBits_0 (by decide) ?_
  refine j_istore_n S [some (.ref (Z.ad (ro r))), some (.int 0), none] dX3_countBits_1 (by decide) rfl rfl ?_
  refine j_iconst S 0 dX3_countBits_2 (by decide) ?_
  refine j_istore_n S [some (.ref (Z.ad (ro r))), some (.int 0), some (.int 0)] dX3_countBits_3 (by decide) rfl rfl ?_
  exact loop (σ.row r).length 0 (by omega)

set_option maxRecDepth 100000 in
set_option maxHeartbeats 4000000 in
theorem k_X3_countRuns (l : Launch) (Z : Zx) (A : Nat → Prop) (hA : AdOk Z A) (σ : St) (r : Nat) (hr : r < 30) (m : Nat) (hm : m < 2 ^ 31) : Km l Z A yX3_countRuns wsX3_countRuns { frames := 1, cells := 0, slots := 0, locals := 23 } (Wd Z σ) [.ref (Z.ad (ro r)), .int (nI m)] (Qi (Wd Z σ) A (fun v => v = countRunsI (σ.row r) m)) := by
  refine Km.of (cc := cX3_countRuns) (maxL := 4) (ret := (some .int)) (by decide) rfl (Nat.le_of_ble_eq_true rfl) hA ?_
  intro X hXl S hAX hRT hXA hQ hXk hXn
  show J X 4 (Wd Z σ) 0 [some (.ref (Z.ad (ro r))), some (.int (nI m)), none, none] []
  refine J.caps (fun hcap => ?_)
  have hln : (σ.row r).length < 2 ^ 31 := Nat.lt_of_le_of_lt (hcap r (by omega)) (cap_lt r)
  have loop : ∀ (f i : Nat), i + f = (σ.row r).length → J X 4 (Wd Z σ) 4 [some (.ref (Z.ad (ro r))), some (.int (nI m)), some (.int (foldN (fun a i => a + bitC (runS ((σ.row r).getD i 0) m)) i)), some (.int (nI i))] [] := by
    intro f
    induction f with
    | zero =>
      intro i hi
      refine j_iload_n S dX3_countRuns_4 rfl ?_
      refine j_aload_n S dX3_countRuns_5 rfl ?_
      refine j_get S (C := RX3) (T := TX3) (N := 2) (by decide +kernel) (rd_row (by omega)) rfl (v := .int (nI (σ.row r).length)) 1 (by decide) (by decide +kernel) rfl rfl dX3_countRuns_6 ?_
      refine j_icmp_ge S 33 dX3_countRuns_9 (by decide) (fun _ => ?_) (fun h9 => absurd (by rw [nI_leI hln (by omega)]; omega) h9)
      refine j_iload_n S dX3_countRuns_33 rfl ?_
      obtain rfl : i = (σ.row r).length := by omega
      exact j_ireturn S hRT hXA hQ hXk hXn dX3_countRuns_34 rfl rfl (fun H h => h)
    | succ f ih =>
      intro i hi
      refine j_iload_n S dX3_countRuns_4 rfl ?_
      refine j_aload_n S dX3_countRuns_5 rfl ?_
      refine j_get S (C := RX3) (T := TX3) (N := 2) (by decide +kernel) (rd_row (by omega)) rfl (v := .int (nI (σ.row r).length)) 1 (by decide) (by decide +kernel) rfl rfl dX3_countRuns_6 ?_
      refine j_icmp_ge S 33 dX3_countRuns_9 (by decide) (fun h9 => absurd h9 (by rw [nI_leI hln (by omega)]; omega)) (fun _ => ?_)
      refine j_iload_n S dX3_countRuns_12 rfl ?_
      refine j_aload_n S dX3_countRuns_13 rfl ?_
      refine j_iload_n S dX3_countRuns_14 rfl ?_
      refine j_cVi S (n := 1) (rest := [.int (foldN (fun a i => a + bitC (runS ((σ.row r).getD i 0) m)) i)]) (k_X3_at X.l Z X.A hAX σ r (by omega) (nI i)) ⟨_, _, _, _, rfl, gX3_countRuns_X3_at, rfl, rfl, by decide +kernel, ⟨Nat.le_of_ble_eq_true rfl, Nat.le_of_ble_eq_true rfl⟩⟩ (rd_row (by omega)) rfl rfl (Nat.le_of_ble_eq_true rfl) rfl dX3_countRuns_15 (fun v9 hv9 => ?_)
      subst hv9
      rw [atI_nI _ (by omega)]
      refine j_iload_n S dX3_countRuns_18 rfl ?_
      refine j_cNi S (n := 2) (rest := [.int (foldN (fun a i => a + bitC (runS ((σ.row r).getD i 0) m)) i)]) (k_X4_runStarts X.l Z X.A hAX σ ((σ.row r).getD i 0) m hm) ⟨_, _, _, _, _, 6, rfl, gX3_countRuns_X4_runStarts_n57, rfl, rfl, ⟨rfl, by decide +kernel, by decide +kernel⟩, by decide +kernel, ⟨Nat.le_of_ble_eq_true rfl, Nat.le_of_ble_eq_true rfl⟩⟩ rfl (Nat.le_of_ble_eq_true rfl) rfl dX3_countRuns_19 (fun v9 hv9 => ?_)
      subst hv9
      refine j_cSi S (n := 1) (rest := [.int (foldN (fun a i => a + bitC (runS ((σ.row r).getD i 0) m)) i)]) (k_J6_bitCount_0f7a4 X.l Z X.A hAX σ (runS ((σ.row r).getD i 0) m)) ⟨_, _, _, _, rfl, gX3_countRuns_J6_bitCount_0f7a4, rfl, rfl, by decide +kernel, ⟨Nat.le_of_ble_eq_true rfl, Nat.le_of_ble_eq_true rfl⟩⟩ rfl (Nat.le_of_ble_eq_true rfl) rfl dX3_countRuns_22 (fun v9 hv9 => ?_)
      subst hv9
      refine j_iadd S (foldN (fun a i => a + bitC (runS ((σ.row r).getD i 0) m)) (i + 1)) dX3_countRuns_25 rfl ?_
      refine j_istore_n S [some (.ref (Z.ad (ro r))), some (.int (nI m)), some (.int (foldN (fun a i => a + bitC (runS ((σ.row r).getD i 0) m)) (i + 1))), some (.int (nI i))] dX3_countRuns_26 (by decide) rfl rfl ?_
      refine j_iinc S (nI (i + 1)) [some (.ref (Z.ad (ro r))), some (.int (nI m)), some (.int (foldN (fun a i => a + bitC (runS ((σ.row r).getD i 0) m)) (i + 1))), some (.int (nI (i + 1)))] dX3_countRuns_27 rfl (nI_1 i) (by decide) rfl rfl ?_
      refine j_goto S 4 dX3_countRuns_30 (by decide) ?_
      exact ih (i + 1) (by omega)
  refine j_iconst S 0 dX3_countRuns_0 (by decide) ?_
  refine j_istore_n S [some (.ref (Z.ad (ro r))), some (.int (nI m)), some (.int 0), none] dX3_countRuns_1 (by decide) rfl rfl ?_
  refine j_iconst S 0 dX3_countRuns_2 (by decide) ?_
  refine j_istore_n S [some (.ref (Z.ad (ro r))), some (.int (nI m)), some (.int 0), some (.int 0)] dX3_countRuns_3 (by decide) rfl rfl ?_
  exact loop (σ.row r).length 0 (by omega)

set_option maxRecDepth 100000 in
set_option maxHeartbeats 4000000 in
theorem k_X3_firstWithRun (l : Launch) (Z : Zx) (A : Nat → Prop) (hA : AdOk Z A) (σ : St) (r : Nat) (hr : r < 30) (m : Nat) (hm : m < 2 ^ 31) : Km l Z A yX3_firstWithRun wsX3_firstWithRun { frames := 1, cells := 0, slots := 0, locals := 23 } (Wd Z σ) [.ref (Z.ad (ro r)), .int (nI m)] (Qi (Wd Z σ) A (fun v => v = firstRunI (σ.row r) m)) := by
  refine Km.of (cc := cX3_firstWithRun) (maxL := 3) (ret := (some .int)) (by decide) rfl (Nat.le_of_ble_eq_true rfl) hA ?_
  intro X hXl S hAX hRT hXA hQ hXk hXn
  show J X 3 (Wd Z σ) 0 [some (.ref (Z.ad (ro r))), some (.int (nI m)), none] []
  refine J.caps (fun hcap => ?_)
  have hln : (σ.row r).length < 2 ^ 31 := Nat.lt_of_le_of_lt (hcap r (by omega)) (cap_lt r)
  have loop : ∀ (f i : Nat), i + f = (σ.row r).length → firstRunI (σ.row r) m = findI (fun i => !(runS ((σ.row r).getD i 0) m == 0)) (-1) f i → J X 3 (Wd Z σ) 2 [some (.ref (Z.ad (ro r))), some (.int (nI m)), some (.int (nI i))] [] := by
    intro f
    induction f with
    | zero =>
      intro i hi he
      refine j_iload_n S dX3_firstWithRun_2 rfl ?_
      refine j_aload_n S dX3_firstWithRun_3 rfl ?_
      refine j_get S (C := RX3) (T := TX3) (N := 2) (by decide +kernel) (rd_row (by omega)) rfl (v := .int (nI (σ.row r).length)) 1 (by decide) (by decide +kernel) rfl rfl dX3_firstWithRun_4 ?_
      refine j_icmp_ge S 30 dX3_firstWithRun_7 (by decide) (fun _ => ?_) (fun h9 => absurd (by rw [nI_leI hln (by omega)]; omega) h9)
      refine j_iconst S (-1) dX3_firstWithRun_30 (by decide) ?_
      exact j_ireturn S hRT hXA hQ hXk hXn dX3_firstWithRun_31 rfl he.symm (fun H h => h)
    | succ f ih =>
      intro i hi he
      refine j_iload_n S dX3_firstWithRun_2 rfl ?_
      refine j_aload_n S dX3_firstWithRun_3 rfl ?_
      refine j_get S (C := RX3) (T := TX3) (N := 2) (by decide +kernel) (rd_row (by omega)) rfl (v := .int (nI (σ.row r).length)) 1 (by decide) (by decide +kernel) rfl rfl dX3_firstWithRun_4 ?_
      refine j_icmp_ge S 30 dX3_firstWithRun_7 (by decide) (fun h9 => absurd h9 (by rw [nI_leI hln (by omega)]; omega)) (fun _ => ?_)
      refine j_aload_n S dX3_firstWithRun_10 rfl ?_
      refine j_iload_n S dX3_firstWithRun_11 rfl ?_
      refine j_cVi S (n := 1) (rest := []) (k_X3_at X.l Z X.A hAX σ r (by omega) (nI i)) ⟨_, _, _, _, rfl, gX3_firstWithRun_X3_at, rfl, rfl, by decide +kernel, ⟨Nat.le_of_ble_eq_true rfl, Nat.le_of_ble_eq_true rfl⟩⟩ (rd_row (by omega)) rfl rfl (Nat.le_of_ble_eq_true rfl) rfl dX3_firstWithRun_12 (fun v9 hv9 => ?_)
      subst hv9
      rw [atI_nI _ (by omega)]
      refine j_iload_n S dX3_firstWithRun_15 rfl ?_
      refine j_cNi S (n := 2) (rest := []) (k_X4_runStarts X.l Z X.A hAX σ ((σ.row r).getD i 0) m hm) ⟨_, _, _, _, _, 6, rfl, gX3_firstWithRun_X4_runStarts_n57, rfl, rfl, ⟨rfl, by decide +kernel, by decide +kernel⟩, by decide +kernel, ⟨Nat.le_of_ble_eq_true rfl, Nat.le_of_ble_eq_true rfl⟩⟩ rfl (Nat.le_of_ble_eq_true rfl) rfl dX3_firstWithRun_16 (fun v9 hv9 => ?_)
      subst hv9
      refine j_if_eq S 24 dX3_firstWithRun_19 (by decide) (fun h => ?_) (fun h => ?_)
      · skip
        refine j_iinc S (nI (i + 1)) [some (.ref (Z.ad (ro r))), some (.int (nI m)), some (.int (nI (i + 1)))] dX3_firstWithRun_24 rfl (nI_1 i) (by decide) rfl rfl ?_
        refine j_goto S 2 dX3_firstWithRun_27 (by decide) ?_
        exact ih (i + 1) (by omega) (by rw [he, findI, if_neg (by rw [beq_iff_eq.mpr h]; decide)])
      · skip
        refine j_iload_n S dX3_firstWithRun_22 rfl ?_
        exact j_ireturn S hRT hXA hQ hXk hXn dX3_firstWithRun_23 rfl (by rw [he, findI, if_pos (by rw [beq_eq_false_iff_ne.mpr h]; rfl)]) (fun H h => h)
  refine j_iconst S 0 dX3_firstWithRun_0 (by decide) ?_
  refine j_istore_n S [some (.ref (Z.ad (ro r))), some (.int (nI m)), some (.int 0)] dX3_firstWithRun_1 (by decide) rfl rfl ?_
  exact loop (σ.row r).length 0 (by omega) rfl

set_option maxRecDepth 100000 in
set_option maxHeartbeats 4000000 in
theorem k_X3_longestOfRuns (l : Launch) (Z : Zx) (A : Nat → Prop) (hA : AdOk Z A) (σ : St) (r : Nat) (hr : r < 30) : Km l Z A yX3_longestOfRuns wsX3_longestOfRuns { frames := 1, cells := 0, slots := 0, locals := 22 } (Wd Z σ) [.ref (Z.ad (ro r))] (Qi (Wd Z σ) A (fun v => v = longestI (σ.row r))) := by
  refine Km.of (cc := cX3_longestOfRuns) (maxL := 3) (ret := (some .int)) (by decide) rfl (Nat.le_of_ble_eq_true rfl) hA ?_
  intro X hXl S hAX hRT hXA hQ hXk hXn
  show J X 3 (Wd Z σ) 0 [some (.ref (Z.ad (ro r))), none, none] []
  refine J.caps (fun hcap => ?_)
  have hln : (σ.row r).length < 2 ^ 31 := Nat.lt_of_le_of_lt (hcap r (by omega)) (cap_lt r)
  have loop : ∀ (f i : Nat), i + f = (σ.row r).length → J X 3 (Wd Z σ) 4 [some (.ref (Z.ad (ro r))), some (.int (foldN (fun a i => if a < lrunI ((σ.row r).getD i 0) then lrunI ((σ.row r).getD i 0) else a) i)), some (.int (nI i))] [] := by
    intro f
    induction f with
    | zero =>
      intro i hi
      refine j_iload_n S dX3_longestOfRuns_4 rfl ?_
      refine j_aload_n S dX3_longestOfRuns_5 rfl ?_
      refine j_get S (C := RX3) (T := TX3) (N := 2) (by decide +kernel) (rd_row (by omega)) rfl (v := .int (nI (σ.row r).length)) 1 (by decide) (by decide +kernel) rfl rfl dX3_longestOfRuns_6 ?_
      refine j_icmp_ge S 31 dX3_longestOfRuns_9 (by decide) (fun _ => ?_) (fun h9 => absurd (by rw [nI_leI hln (by omega)]; omega) h9)
      refine j_iload_n S dX3_longestOfRuns_31 rfl ?_
      obtain rfl : i = (σ.row r).length := by omega
      exact j_ireturn S hRT hXA hQ hXk hXn dX3_longestOfRuns_32 rfl rfl (fun H h => h)
    | succ f ih =>
      intro i hi
      refine j_iload_n S dX3_longestOfRuns_4 rfl ?_
      refine j_aload_n S dX3_longestOfRuns_5 rfl ?_
      refine j_get S (C := RX3) (T := TX3) (N := 2) (by decide +kernel) (rd_row (by omega)) rfl (v := .int (nI (σ.row r).length)) 1 (by decide) (by decide +kernel) rfl rfl dX3_longestOfRuns_6 ?_
      refine j_icmp_ge S 31 dX3_longestOfRuns_9 (by decide) (fun h9 => absurd h9 (by rw [nI_leI hln (by omega)]; omega)) (fun _ => ?_)
      refine j_iload_n S dX3_longestOfRuns_12 rfl ?_
      refine j_aload_n S dX3_longestOfRuns_13 rfl ?_
      refine j_iload_n S dX3_longestOfRuns_14 rfl ?_
      refine j_cVi S (n := 1) (rest := [.int (foldN (fun a i => if a < lrunI ((σ.row r).getD i 0) then lrunI ((σ.row r).getD i 0) else a) i)]) (k_X3_at X.l Z X.A hAX σ r (by omega) (nI i)) ⟨_, _, _, _, rfl, gX3_longestOfRuns_X3_at, rfl, rfl, by decide +kernel, ⟨Nat.le_of_ble_eq_true rfl, Nat.le_of_ble_eq_true rfl⟩⟩ (rd_row (by omega)) rfl rfl (Nat.le_of_ble_eq_true rfl) rfl dX3_longestOfRuns_15 (fun v9 hv9 => ?_)
      subst hv9
      rw [atI_nI _ (by omega)]
      refine j_cNi S (n := 1) (rest := [.int (foldN (fun a i => if a < lrunI ((σ.row r).getD i 0) then lrunI ((σ.row r).getD i 0) else a) i)]) (k_X4_longestRun X.l Z X.A hAX σ ((σ.row r).getD i 0)) ⟨_, _, _, _, _, 7, rfl, gX3_longestOfRuns_X4_longestRun_n62, rfl, rfl, ⟨rfl, by decide +kernel, by decide +kernel⟩, by decide +kernel, ⟨Nat.le_of_ble_eq_true rfl, Nat.le_of_ble_eq_true rfl⟩⟩ rfl (Nat.le_of_ble_eq_true rfl) rfl dX3_longestOfRuns_18 (fun v9 hv9 => ?_)
      subst hv9
      refine j_max S (foldN (fun a i => if a < lrunI ((σ.row r).getD i 0) then lrunI ((σ.row r).getD i 0) else a) (i + 1)) (by decide +kernel) (by decide +kernel) (by decide +kernel) (by decide +kernel) ⟨Nat.le_of_ble_eq_true rfl, Nat.le_of_ble_eq_true rfl⟩ dX3_longestOfRuns_21 rfl ?_
      refine j_istore_n S [some (.ref (Z.ad (ro r))), some (.int (foldN (fun a i => if a < lrunI ((σ.row r).getD i 0) then lrunI ((σ.row r).getD i 0) else a) (i + 1))), some (.int (nI i))] dX3_longestOfRuns_24 (by decide) rfl rfl ?_
      refine j_iinc S (nI (i + 1)) [some (.ref (Z.ad (ro r))), some (.int (foldN (fun a i => if a < lrunI ((σ.row r).getD i 0) then lrunI ((σ.row r).getD i 0) else a) (i + 1))), some (.int (nI (i + 1)))] dX3_longestOfRuns_25 rfl (nI_1 i) (by decide) rfl rfl ?_
      refine j_goto S 4 dX3_longestOfRuns_28 (by decide) ?_
      exact ih (i + 1) (by omega)
  refine j_iconst S 0 dX3_longestOfRuns_0 (by decide) ?_
  refine j_istore_n S [some (.ref (Z.ad (ro r))), some (.int 0), none] dX3_longestOfRuns_1 (by decide) rfl rfl ?_
  refine j_iconst S 0 dX3_longestOfRuns_2 (by decide) ?_
  refine j_istore_n S [some (.ref (Z.ad (ro r))), some (.int 0), some (.int 0)] dX3_longestOfRuns_3 (by decide) rfl rfl ?_
  exact loop (σ.row r).length 0 (by omega)

set_option maxRecDepth 100000 in
set_option maxHeartbeats 4000000 in
theorem k_X3_turnFrom (l : Launch) (Z : Zx) (A : Nat → Prop) (hA : AdOk Z A) (σ : St) (r : Nat) (hr : r < 30) (k : Nat) (hk31 : k < 2 ^ 30) : Km l Z A yX3_turnFrom wsX3_turnFrom { frames := 1, cells := 0, slots := 0, locals := 22 } (Wd Z σ) [.ref (Z.ad (ro r)), .int (nI k)] (Qv (Wd Z (σ.setRow r (turnI (σ.row r) k))) A) := by
  refine Km.of (cc := cX3_turnFrom) (maxL := 5) (ret := none) (by decide) rfl (Nat.le_of_ble_eq_true rfl) hA ?_
  intro X hXl S hAX hRT hXA hQ hXk hXn
  show J X 5 (Wd Z σ) 0 [some (.ref (Z.ad (ro r))), some (.int (nI k)), none, none, none] []
  refine J.caps (fun hcap => ?_)
  have hln : (σ.row r).length < 2 ^ 31 := Nat.lt_of_le_of_lt (hcap r (by omega)) (cap_lt r)
  have loop : ∀ (f t : Nat) (y : Int32) (σ1 : St), t + f = ((σ.row r).length - k) / 2 → σ1 = σ.setRow r (turnN (σ.row r) k t) → (t < (σ.row r).length → y = nI ((σ.row r).length - 1 - t)) → ((σ.row r).length ≤ t → y < 0) → J X 5 (Wd Z σ1) 9 [some (.ref (Z.ad (ro r))), some (.int (nI k)), some (.int (nI (k + t))), some (.int y), none] [] := by
    intro f
    induction f with
    | zero =>
      intro t y σ1 ht he hy hy0
      refine j_iload_n S dX3_turnFrom_9 rfl ?_
      refine j_iload_n S dX3_turnFrom_10 rfl ?_
      refine j_icmp_ge S 47 dX3_turnFrom_11 (by decide) (fun _ => ?_) (fun h9 => absurd (turn_exit hln hk31 (by omega) hy hy0) h9)
      exact j_return S hRT hXA hQ hXk hXn dX3_turnFrom_47 (fun H h => by rw [he, show t = ((σ.row r).length - k) / 2 by omega] at h; exact h)
    | succ f ih =>
      intro t y σ1 ht he hy hy0
      obtain rfl := hy (by omega)
      have hr1 : σ1.row r = turnN (σ.row r) k t := by rw [he, St.row_self]
      refine j_iload_n S dX3_turnFrom_9 rfl ?_
      refine j_iload_n S dX3_turnFrom_10 rfl ?_
      refine j_icmp_ge S 47 dX3_turnFrom_11 (by decide) (fun h9 => absurd h9 (by rw [nI_leI (by omega) (by omega)]; omega)) (fun _ => ?_)
      refine j_aload_n S dX3_turnFrom_14 rfl ?_
      refine j_iload_n S dX3_turnFrom_15 rfl ?_
      refine j_cVi S (n := 1) (rest := []) (k_X3_at X.l Z X.A hAX σ1 r (by omega) (nI (k + t))) ⟨_, _, _, _, rfl, gX3_turnFrom_X3_at, rfl, rfl, by decide +kernel, ⟨Nat.le_of_ble_eq_true rfl, Nat.le_of_ble_eq_true rfl⟩⟩ (rd_row (by omega)) rfl rfl (Nat.le_of_ble_eq_true rfl) rfl dX3_turnFrom_16 (fun v9 hv9 => ?_)
      subst hv9
      refine j_istore S [some (.ref (Z.ad (ro r))), some (.int (nI k)), some (.int (nI (k + t))), some (.int (nI ((σ.row r).length - 1 - t))), some (.int (atI (σ1.row r) (nI (k + t))))] dX3_turnFrom_19 (by decide) rfl rfl ?_
      refine j_aload_n S dX3_turnFrom_21 rfl ?_
      refine j_iload_n S dX3_turnFrom_22 rfl ?_
      refine j_aload_n S dX3_turnFrom_23 rfl ?_
      refine j_iload_n S dX3_turnFrom_24 rfl ?_
      refine j_cVi S (n := 1) (rest := [.int (nI (k + t)), .ref (Z.ad (ro r))]) (k_X3_at X.l Z X.A hAX σ1 r (by omega) (nI ((σ.row r).length - 1 - t))) ⟨_, _, _, _, rfl, gX3_turnFrom_X3_at, rfl, rfl, by decide +kernel, ⟨Nat.le_of_ble_eq_true rfl, Nat.le_of_ble_eq_true rfl⟩⟩ (rd_row (by omega)) rfl rfl (Nat.le_of_ble_eq_true rfl) rfl dX3_turnFrom_25 (fun v9 hv9 => ?_)
      subst hv9
      refine j_cVv S (n := 2) (rest := []) (k_X3_put X.l Z X.A hAX σ1 r (by omega) (nI (k + t)) (atI (σ1.row r) (nI ((σ.row r).length - 1 - t)))) ⟨_, _, _, _, rfl, gX3_turnFrom_X3_put, rfl, rfl, by decide +kernel, ⟨Nat.le_of_ble_eq_true rfl, Nat.le_of_ble_eq_true rfl⟩⟩ (rd_row (by omega)) rfl rfl (Nat.le_of_ble_eq_true rfl) rfl dX3_turnFrom_28 ?_
      refine j_aload_n S dX3_turnFrom_31 rfl ?_
      refine j_iload_n S dX3_turnFrom_32 rfl ?_
      refine j_iload S dX3_turnFrom_33 rfl ?_
      refine j_cVv S (n := 2) (rest := []) (k_X3_put X.l Z X.A hAX (σ1.setRow r (putI (σ1.row r) (nI (k + t)) (atI (σ1.row r) (nI ((σ.row r).length - 1 - t))))) r (by omega) (nI ((σ.row r).length - 1 - t)) (atI (σ1.row r) (nI (k + t)))) ⟨_, _, _, _, rfl, gX3_turnFrom_X3_put, rfl, rfl, by decide +kernel, ⟨Nat.le_of_ble_eq_true rfl, Nat.le_of_ble_eq_true rfl⟩⟩ (rd_row (by omega)) rfl rfl (Nat.le_of_ble_eq_true rfl) rfl dX3_turnFrom_35 ?_
      refine j_iinc S (nI (k + (t + 1))) [some (.ref (Z.ad (ro r))), some (.int (nI k)), some (.int (nI (k + (t + 1)))), some (.int (nI ((σ.row r).length - 1 - t))), some (.int (atI (σ1.row r) (nI (k + t))))] dX3_turnFrom_38 rfl (nI_1 (k + t)) (by decide) rfl rfl ?_
      refine j_iinc S (nI ((σ.row r).length - 1 - t) + (-1)) [some (.ref (Z.ad (ro r))), some (.int (nI k)), some (.int (nI (k + (t + 1)))), some (.int (nI ((σ.row r).length - 1 - t) + (-1))), some (.int (atI (σ1.row r) (nI (k + t))))] dX3_turnFrom_41 rfl rfl (by decide) rfl rfl ?_
      refine j_goto S 9 dX3_turnFrom_44 (by decide) ?_
      refine J.less [some (.ref (Z.ad (ro r))), some (.int (nI k)), some (.int (nI (k + (t + 1)))), some (.int (nI ((σ.row r).length - 1 - t) + (-1))), none] ⟨rfl, rfl, rfl, rfl, trivial⟩ ?_
      refine ih (t + 1) _ _ (by omega) ?_ (fun q => ?_) (fun q => ?_)
      · rw [St.row_self, St.setRow_twice, hr1, atI_nI _ (by omega), atI_nI _ (by omega), putI_nI _ _ (by omega), putI_nI _ _ (by omega), he, St.setRow_twice]
        rfl
      · rw [show (σ.row r).length - 1 - t = (σ.row r).length - 1 - (t + 1) + 1 by omega]; exact pk_m1 _
      · omega
  refine j_iload_n S dX3_turnFrom_0 rfl ?_
  refine j_istore_n S [some (.ref (Z.ad (ro r))), some (.int (nI k)), some (.int (nI k)), none, none] dX3_turnFrom_1 (by decide) rfl rfl ?_
  refine j_aload_n S dX3_turnFrom_2 rfl ?_
  refine j_get S (C := RX3) (T := TX3) (N := 2) (by decide +kernel) (rd_row (by omega)) rfl (v := .int (nI (σ.row r).length)) 1 (by decide) (by decide +kernel) rfl rfl dX3_turnFrom_3 ?_
  refine j_iconst S 1 dX3_turnFrom_6 (by decide) ?_
  refine j_isub S ((nI (σ.row r).length) - 1) dX3_turnFrom_7 rfl ?_
  refine j_istore_n S [some (.ref (Z.ad (ro r))), some (.int (nI k)), some (.int (nI k)), some (.int ((nI (σ.row r).length) - 1)), none] dX3_turnFrom_8 (by decide) rfl rfl ?_
  exact loop (((σ.row r).length - k) / 2) 0 _ σ (by omega) (by rw [turnN, St.setRow_same]) (fun q => by rw [show (σ.row r).length = (σ.row r).length - 1 + 1 by omega]; exact nI_pred _) (fun q => by rw [show (σ.row r).length = 0 by omega]; decide)
