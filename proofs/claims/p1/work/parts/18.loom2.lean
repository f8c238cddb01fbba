theorem n64_of {a : UInt64} (h : Jvm.FP.Core.dIsNaN a = false) : vf_n64 a := by
  have h1 : ¬ 9218868437227405312 < a.toNat % 2 ^ 63 := fun q => by rw [(Jvm.FP.Core.isNaN_bits a).mpr q] at h; cases h
  unfold vf_n64
  rw [UInt64.le_iff_toNat_le, UInt64.toNat_and]
  have e : (0x7fffffffffffffff : UInt64).toNat = 2 ^ 63 - 1 := rfl
  rw [e, Nat.and_two_pow_sub_one_eq_mod]
  show a.toNat % 2 ^ 63 ≤ 9218868437227405312
  omega
def meanI (E P : List Int32) : UInt64 := if floatsI E P 1 = 0 then FP.dconst0 else FP.ddiv (FP.i2d (nI E.length * nI P.length)) (FP.i2d (floatsI E P 1))
theorem mean_num {w c : Int32} (h : ¬ c = 0) : vf_n64 (FP.ddiv (FP.i2d w) (FP.i2d c)) := by
  have h1 := Jvm.FP.Core.i2d_fin c
  have h2 := Jvm.FP.Core.i2d_ne_zero h
  refine n64_of (Jvm.FP.Core.ddiv_out (a := FP.i2d w) (b := FP.i2d c) ?_ h1 ?_)
  · have := Jvm.FP.Core.i2d_fin w
    exact (Jvm.FP.Core.notNaN_iff _).mpr this.ne_nan
  · intro hz
    exact h2 ((Jvm.FP.Core.zero_bits2 _).mp hz)
theorem res_len {tok : Nat → List Int32} {σ : St} {ties : List Int32} (hC : Cons σ tok ties) (hcap : ∀ r, r < 30 → (σ.row r).length ≤ cap r) {i : Nat} (hi : i < 10) : (num tok i).length ≤ 32 := by
  have h1 := hcap (9 + 2 * i) (by omega)
  rw [cap_odd (by omega), (hC.2.1 i hi).1] at h1
  exact h1
theorem up_tok {tok : Nat → List Int32} {k i : Nat} {l : List Int32} (h : i ≠ k) : up tok k l i = tok i := up_ne h
theorem ToksOk.up {tok : Nat → List Int32} {k : Nat} {l : List Int32} (h : ToksOk tok) (hl : ∀ x ∈ l, tokOk x) : ToksOk (up tok k l) := fun i hi x hx => by
  by_cases e : i = k
  · subst e
    rw [up_self] at hx
    exact hl x hx
  · rw [up_ne e] at hx
    exact h i hi x hx
/-- a program's tokens are others: what is good still -/
theorem Hand.tok {σ : St} {tok : Nat → List Int32} {ties : List Int32} (h : Hand σ tok ties) {k : Nat} {l : List Int32} (hl : ∀ x ∈ l, tokOk x) : Hand (σ.setRow (8 + 2 * k) l) (up tok k l) ties := by
  refine ⟨fun i hi => ?_, h.2.1.up hl, (St.row_ne σ l (by omega)).trans h.2.2.1, h.2.2.2⟩
  by_cases e : i = k
  · subst e; rw [St.row_self, up_self]
  · rw [St.row_ne σ l (by omega), up_ne e, h.1 i hi]
theorem Good.tok {σ : St} {tok : Nat → List Int32} {i k : Nat} (h : Good σ tok i) (l : List Int32) (hi : i < 10) (hk : (k < 4 ∧ i ≠ k) ∨ (4 ≤ i ∧ i < k)) : Good (σ.setRow (8 + 2 * k) l) (up tok k l) i := by
  have e : res (up tok k l) i = res tok i := res_cong (up_ne (by omega)) (fun b h1 h2 h3 => up_ne (by omega))
  exact ⟨by rw [St.row_ne σ l (by omega), e]; exact h.1, by rw [e]; exact h.2.1, by rw [e]; exact h.2.2⟩
theorem Hand.tie {σ : St} {tok : Nat → List Int32} {ties l : List Int32} (h : Hand σ tok ties) (hl : l.length = 8) : Hand (σ.setRow 0 l) tok l :=
  ⟨fun i hi => (St.row_ne σ l (by omega)).trans (h.1 i hi), h.2.1, St.row_self σ 0 l, hl⟩
theorem Good.tie {σ : St} {tok : Nat → List Int32} {i : Nat} (h : Good σ tok i) (l : List Int32) : Good (σ.setRow 0 l) tok i :=
  ⟨(St.row_ne σ l (by omega)).trans h.1, h.2.1, h.2.2⟩
theorem hasF_len {σ : St} {tok : Nat → List Int32} {ties : List Int32} (hC : Cons σ tok ties) : (EE tok ties).length = (num tok 0).length ∧ (PP tok ties).length = (num tok 1).length := ⟨wE_len _ _ _ _, wP_len _ _ _ _⟩

set_option maxRecDepth 100000 in
set_option maxHeartbeats 4000000 in
theorem k_X4_ofProgram (l : Launch) (Z : Zx) (A : Nat → Prop) (hA : AdOk Z A) (tok : Nat → List Int32) (ties : List Int32) (i k : Nat) (hi : i < 10) (hk : k ≤ 3) : Km l Z A yX4_ofProgram wsX4_ofProgram { frames := 1, cells := 0, slots := 0, locals := 21 } (WL Z tok ties) [.ref (Z.ad 0), .int (nI i), .int (nI k)] (Qi (WL Z tok ties) A (fun v => v = progI tok i k)) := by
  refine Km.of (cc := cX4_ofProgram) (maxL := 4) (ret := (some .int)) (by decide) rfl (Nat.le_of_ble_eq_true rfl) hA ?_
  intro X hXl S hAX hRT hXA hQ hXk hXn
  show J X 4 (WL Z tok ties) 0 [some (.ref (Z.ad 0)), some (.int (nI i)), some (.int (nI k)), none] []
  refine J.WL (fun σ hC => ?_)
  obtain ⟨hH, hG, hEE, hPP⟩ := id hC
  refine j_aload_n S dX4_ofProgram_0 rfl ?_
  refine j_iload_n S dX4_ofProgram_1 rfl ?_
  refine j_cVr S (n := 1) (rest := []) (k_X4_programAt X.l Z X.A hAX σ i hi) ⟨_, _, _, _, rfl, gX4_ofProgram_X4_programAt, rfl, rfl, by decide +kernel, ⟨Nat.le_of_ble_eq_true rfl, Nat.le_of_ble_eq_true rfl⟩⟩ rd_loom rfl rfl (Nat.le_of_ble_eq_true rfl) rfl dX4_ofProgram_2 ?_
  show J X 4 (Wd Z σ) 5 [some (.ref (Z.ad 0)), some (.int (nI i)), some (.int (nI k)), none] [.ref (Z.ad (po i))]
  refine j_astore_n S [some (.ref (Z.ad 0)), some (.int (nI i)), some (.int (nI k)), some (.ref (Z.ad (po i)))] dX4_ofProgram_5 (by decide) rfl rfl ?_
  refine j_iload_n S dX4_ofProgram_6 rfl ?_
  by_cases h0 : k = 0
  · subst h0
    refine j_table S 36 dX4_ofProgram_7 (by decide) (by decide) rfl (by decide) ?_
    refine j_aload_n S dX4_ofProgram_36 rfl ?_
    refine j_getN S (C := RX2) (T := TX2) (N := 4) (by decide +kernel) (rd_prog (by omega)) rfl (v := .ref (Z.ad (ro (8 + 2 * i)))) 0 (by decide) 2 rfl rfl rfl dX4_ofProgram_37 ?_
    refine j_getN S (C := RX3) (T := TX3) (N := 2) (by decide +kernel) (rd_row (by omega)) rfl (v := .int (nI (σ.row (8 + 2 * i)).length)) 1 (by decide) 3 rfl rfl rfl dX4_ofProgram_40 ?_
    exact j_ireturn S hRT hXA hQ hXk hXn dX4_ofProgram_43 rfl (by rw [hH.1 i hi]; rfl) (fun H h9 => ⟨σ, hC, h9⟩)
  by_cases h1 : k = 1
  · subst h1
    refine j_table S 44 dX4_ofProgram_7 (by decide) (by decide) rfl (by decide) ?_
    refine j_aload_n S dX4_ofProgram_44 rfl ?_
    refine j_getN S (C := RX2) (T := TX2) (N := 4) (by decide +kernel) (rd_prog (by omega)) rfl (v := .ref (Z.ad (ro (9 + 2 * i)))) 1 (by decide) 4 rfl rfl rfl dX4_ofProgram_45 ?_
    refine j_getN S (C := RX3) (T := TX3) (N := 2) (by decide +kernel) (rd_row (by omega)) rfl (v := .int (nI (σ.row (9 + 2 * i)).length)) 1 (by decide) 3 rfl rfl rfl dX4_ofProgram_48 ?_
    exact j_ireturn S hRT hXA hQ hXk hXn dX4_ofProgram_51 rfl (by rw [(hG i hi).1]; rfl) (fun H h9 => ⟨σ, hC, h9⟩)
  by_cases h2 : k = 2
  · subst h2
    refine j_table S 52 dX4_ofProgram_7 (by decide) (by decide) rfl (by decide) ?_
    refine j_aload_n S dX4_ofProgram_52 rfl ?_
    refine j_getN S (C := RX2) (T := TX2) (N := 4) (by decide +kernel) (rd_prog (by omega)) rfl (v := .int (σ.fa i)) 2 (by decide) 5 rfl rfl rfl dX4_ofProgram_53 ?_
    exact j_ireturn S hRT hXA hQ hXk hXn dX4_ofProgram_56 rfl (by rw [(hG i hi).2.1]; rfl) (fun H h9 => ⟨σ, hC, h9⟩)
  obtain rfl : k = 3 := by omega
  · skip
    refine j_table S 57 dX4_ofProgram_7 (by decide) (by decide) rfl (by decide) ?_
    refine j_aload_n S dX4_ofProgram_57 rfl ?_
    refine j_getN S (C := RX2) (T := TX2) (N := 4) (by decide +kernel) (rd_prog (by omega)) rfl (v := .int (σ.fp i)) 3 (by decide) 6 rfl rfl rfl dX4_ofProgram_58 ?_
    exact j_ireturn S hRT hXA hQ hXk hXn dX4_ofProgram_61 rfl (by rw [(hG i hi).2.2]; rfl) (fun H h9 => ⟨σ, hC, h9⟩)

set_option maxRecDepth 100000 in
set_option maxHeartbeats 4000000 in
theorem k_X4_number (l : Launch) (Z : Zx) (A : Nat → Prop) (hA : AdOk Z A) (tok : Nat → List Int32) (ties : List Int32) (i k : Nat) (hi : i < 10) (hk : k < (num tok i).length) : Km l Z A yX4_number wsX4_number { frames := 1, cells := 0, slots := 0, locals := 21 } (WL Z tok ties) [.ref (Z.ad 0), .int (nI i), .int (nI k)] (Qi (WL Z tok ties) A (fun v => v = (num tok i).getD k 0)) := by
  refine Km.of (cc := cX4_number) (maxL := 4) (ret := (some .int)) (by decide) rfl (Nat.le_of_ble_eq_true rfl) hA ?_
  intro X hXl S hAX hRT hXA hQ hXk hXn
  show J X 4 (WL Z tok ties) 0 [some (.ref (Z.ad 0)), some (.int (nI i)), some (.int (nI k)), none] []
  refine J.WL (fun σ hC => ?_)
  obtain ⟨hH, hG, hEE, hPP⟩ := id hC
  refine J.caps (fun hcap => ?_)
  refine j_aload_n S dX4_number_0 rfl ?_
  refine j_iload_n S dX4_number_1 rfl ?_
  refine j_cVr S (n := 1) (rest := []) (k_X4_programAt X.l Z X.A hAX σ i hi) ⟨_, _, _, _, rfl, gX4_number_X4_programAt, rfl, rfl, by decide +kernel, ⟨Nat.le_of_ble_eq_true rfl, Nat.le_of_ble_eq_true rfl⟩⟩ rd_loom rfl rfl (Nat.le_of_ble_eq_true rfl) rfl dX4_number_2 ?_
  show J X 4 (Wd Z σ) 5 [some (.ref (Z.ad 0)), some (.int (nI i)), some (.int (nI k)), none] [.ref (Z.ad (po i))]
  refine j_getN S (C := RX2) (T := TX2) (N := 4) (by decide +kernel) (rd_prog (by omega)) rfl (v := .ref (Z.ad (ro (9 + 2 * i)))) 1 (by decide) 4 rfl rfl rfl dX4_number_5 ?_
  refine j_astore_n S [some (.ref (Z.ad 0)), some (.int (nI i)), some (.int (nI k)), some (.ref (Z.ad (ro (9 + 2 * i))))] dX4_number_8 (by decide) rfl rfl ?_
  refine j_iload_n S dX4_number_9 rfl ?_
  have hl := res_len hC hcap hi
  refine j_if_lt S 21 dX4_number_10 (by decide) (fun h9 => absurd h9 (nI_pos (by omega))) (fun _ => ?_)
  refine j_iload_n S dX4_number_13 rfl ?_
  refine j_aload_n S dX4_number_14 rfl ?_
  refine j_getN S (C := RX3) (T := TX3) (N := 2) (by decide +kernel) (rd_row (by omega)) rfl (v := .int (nI (σ.row (9 + 2 * i)).length)) 1 (by decide) 3 rfl rfl rfl dX4_number_15 ?_
  rw [(hG i hi).1]
  refine j_icmp_lt S 31 dX4_number_18 (by decide) (fun _ => ?_) (fun h9 => absurd (by rw [show (res tok i).1 = num tok i from rfl, nI_ltI (by omega) (by omega)]; exact hk) h9)
  refine j_aload_n S dX4_number_31 rfl ?_
  refine j_iload_n S dX4_number_32 rfl ?_
  refine j_cVi S (n := 1) (rest := []) (k_X3_at X.l Z X.A hAX σ (9 + 2 * i) (by omega) (nI k)) ⟨_, _, _, _, rfl, gX4_number_X3_at, rfl, rfl, by decide +kernel, ⟨Nat.le_of_ble_eq_true rfl, Nat.le_of_ble_eq_true rfl⟩⟩ (rd_row (by omega)) rfl rfl (Nat.le_of_ble_eq_true rfl) rfl dX4_number_33 (fun v9 hv9 => ?_)
  subst hv9
  show J X 4 (Wd Z σ) 36 [some (.ref (Z.ad 0)), some (.int (nI i)), some (.int (nI k)), some (.ref (Z.ad (ro (9 + 2 * i))))] [.int (atI (σ.row (9 + 2 * i)) (nI k))]
  exact j_ireturn S hRT hXA hQ hXk hXn dX4_number_36 rfl (by rw [(hG i hi).1, atI_nI _ (by omega)]; rfl) (fun H h9 => ⟨σ, hC, h9⟩)

set_option maxRecDepth 100000 in
set_option maxHeartbeats 4000000 in
theorem k_X4_period (l : Launch) (Z : Zx) (A : Nat → Prop) (hA : AdOk Z A) (tok : Nat → List Int32) (ties : List Int32) (i : Nat) (hi : i < 10) : Km l Z A yX4_period wsX4_period { frames := 3, cells := 0, slots := 0, locals := 64 } (WL Z tok ties) [.ref (Z.ad 0), .int (nI i)] (Qi (WL Z tok ties) A (fun v => v = periodI (num tok i))) := by
  refine Km.of (cc := cX4_period) (maxL := 2) (ret := (some .int)) (by decide) rfl (Nat.le_of_ble_eq_true rfl) hA ?_
  intro X hXl S hAX hRT hXA hQ hXk hXn
  show J X 2 (WL Z tok ties) 0 [some (.ref (Z.ad 0)), some (.int (nI i))] []
  refine J.WL (fun σ hC => ?_)
  obtain ⟨hH, hG, hEE, hPP⟩ := id hC
  refine j_aload_n S dX4_period_0 rfl ?_
  refine j_iload_n S dX4_period_1 rfl ?_
  refine j_cVr S (n := 1) (rest := []) (k_X4_programAt X.l Z X.A hAX σ i hi) ⟨_, _, _, _, rfl, gX4_period_X4_programAt, rfl, rfl, by decide +kernel, ⟨Nat.le_of_ble_eq_true rfl, Nat.le_of_ble_eq_true rfl⟩⟩ rd_loom rfl rfl (Nat.le_of_ble_eq_true rfl) rfl dX4_period_2 ?_
  show J X 2 (Wd Z σ) 5 [some (.ref (Z.ad 0)), some (.int (nI i))] [.ref (Z.ad (po i))]
  refine j_getN S (C := RX2) (T := TX2) (N := 4) (by decide +kernel) (rd_prog (by omega)) rfl (v := .ref (Z.ad (ro (9 + 2 * i)))) 1 (by decide) 4 rfl rfl rfl dX4_period_5 ?_
  refine j_cVi S (n := 0) (rest := []) (k_X3_leastPeriod X.l Z X.A hAX σ (9 + 2 * i) (by omega)) ⟨_, _, _, _, rfl, gX4_period_X3_leastPeriod, rfl, rfl, by decide +kernel, ⟨Nat.le_of_ble_eq_true rfl, Nat.le_of_ble_eq_true rfl⟩⟩ (rd_row (by omega)) rfl rfl (Nat.le_of_ble_eq_true rfl) rfl dX4_period_8 (fun v9 hv9 => ?_)
  subst hv9
  show J X 2 (Wd Z σ) 11 [some (.ref (Z.ad 0)), some (.int (nI i))] [.int (periodI (σ.row (9 + 2 * i)))]
  exact j_ireturn S hRT hXA hQ hXk hXn dX4_period_11 rfl (by rw [(hG i hi).1]; rfl) (fun H h9 => ⟨σ, hC, h9⟩)

set_option maxRecDepth 100000 in
set_option maxHeartbeats 4000000 in
theorem k_X4_tied (l : Launch) (Z : Zx) (A : Nat → Prop) (hA : AdOk Z A) (tok : Nat → List Int32) (ties : List Int32) (k : Nat) (hk : k < 8) : Km l Z A yX4_tied wsX4_tied { frames := 1, cells := 0, slots := 0, locals := 21 } (WL Z tok ties) [.ref (Z.ad 0), .int (nI k)] (Qi (WL Z tok ties) A (fun v => v = ties.getD k 0)) := by
  refine Km.of (cc := cX4_tied) (maxL := 2) (ret := (some .int)) (by decide) rfl (Nat.le_of_ble_eq_true rfl) hA ?_
  intro X hXl S hAX hRT hXA hQ hXk hXn
  show J X 2 (WL Z tok ties) 0 [some (.ref (Z.ad 0)), some (.int (nI k))] []
  refine J.WL (fun σ hC => ?_)
  obtain ⟨hH, hG, hEE, hPP⟩ := id hC
  refine j_iload_n S dX4_tied_0 rfl ?_
  refine j_cSv S (n := 1) (rest := []) (k_X4_checkTreadle X.l Z X.A hAX σ k hk) ⟨_, _, _, _, rfl, gX4_tied_X4_checkTreadle, rfl, rfl, by decide +kernel, ⟨Nat.le_of_ble_eq_true rfl, Nat.le_of_ble_eq_true rfl⟩⟩ rfl (Nat.le_of_ble_eq_true rfl) rfl dX4_tied_1 ?_
  show J X 2 (Wd Z σ) 4 [some (.ref (Z.ad 0)), some (.int (nI k))] []
  refine j_aload_n S dX4_tied_4 rfl ?_
  refine j_get S (C := RX4) (T := TX4) (N := 7) (by decide +kernel) rd_loom rfl (v := .ref (Z.ad (ro 0))) 2 (by decide) (by decide +kernel) rfl rfl dX4_tied_5 ?_
  refine j_iload_n S dX4_tied_8 rfl ?_
  refine j_cVi S (n := 1) (rest := []) (k_X3_at X.l Z X.A hAX σ 0 (by omega) (nI k)) ⟨_, _, _, _, rfl, gX4_tied_X3_at, rfl, rfl, by decide +kernel, ⟨Nat.le_of_ble_eq_true rfl, Nat.le_of_ble_eq_true rfl⟩⟩ (rd_row (by omega)) rfl rfl (Nat.le_of_ble_eq_true rfl) rfl dX4_tied_9 (fun v9 hv9 => ?_)
  subst hv9
  show J X 2 (Wd Z σ) 12 [some (.ref (Z.ad 0)), some (.int (nI k))] [.int (atI (σ.row 0) (nI k))]
  exact j_ireturn S hRT hXA hQ hXk hXn dX4_tied_12 rfl (by rw [hH.2.2.1, atI_nI _ (by omega)]) (fun H h9 => ⟨σ, hC, h9⟩)

set_option maxRecDepth 100000 in
set_option maxHeartbeats 4000000 in
theorem k_X4_cloth (l : Launch) (Z : Zx) (A : Nat → Prop) (hA : AdOk Z A) (tok : Nat → List Int32) (ties : List Int32) (k : Nat) (hk : k ≤ 9) : Km l Z A yX4_cloth wsX4_cloth { frames := 3, cells := 0, slots := 0, locals := 65 } (WL Z tok ties) [.ref (Z.ad 0), .int (nI k)] (Qi (WL Z tok ties) A (fun v => v = clothI tok ties k)) := by
  refine Km.of (cc := cX4_cloth) (maxL := 2) (ret := (some .int)) (by decide) rfl (Nat.le_of_ble_eq_true rfl) hA ?_
  intro X hXl S hAX hRT hXA hQ hXk hXn
  show J X 2 (WL Z tok ties) 0 [some (.ref (Z.ad 0)), some (.int (nI k))] []
  refine J.WL (fun σ hC => ?_)
  obtain ⟨hH, hG, hEE, hPP⟩ := id hC
  refine j_iload_n S dX4_cloth_0 rfl ?_
  by_cases h0 : k = 0
  · subst h0
    refine j_table S 56 dX4_cloth_1 (by decide) (by decide) rfl (by decide) ?_
    refine j_aload_n S dX4_cloth_56 rfl ?_
    refine j_get S (C := RX4) (T := TX4) (N := 7) (by decide +kernel) rd_loom rfl (v := .ref (Z.ad (co 0))) 3 (by decide) (by decide +kernel) rfl rfl dX4_cloth_57 ?_
    refine j_getN S (C := RX0) (T := TX0) (N := 2) (by decide +kernel) (rd_cloth (by omega)) rfl (v := .ref (Z.ad (ro 2))) 0 (by decide) 0 rfl rfl rfl dX4_cloth_60 ?_
    refine j_getN S (C := RX3) (T := TX3) (N := 2) (by decide +kernel) (rd_row (by omega)) rfl (v := .int (nI (σ.row 2).length)) 1 (by decide) 3 rfl rfl rfl dX4_cloth_63 ?_
    exact j_ireturn S hRT hXA hQ hXk hXn dX4_cloth_66 rfl (by rw [hEE]; rfl) (fun H h9 => ⟨σ, hC, h9⟩)
  by_cases h1 : k = 1
  · subst h1
    refine j_table S 67 dX4_cloth_1 (by decide) (by decide) rfl (by decide) ?_
    refine j_aload_n S dX4_cloth_67 rfl ?_
    refine j_get S (C := RX4) (T := TX4) (N := 7) (by decide +kernel) rd_loom rfl (v := .ref (Z.ad (co 0))) 3 (by decide) (by decide +kernel) rfl rfl dX4_cloth_68 ?_
    refine j_getN S (C := RX0) (T := TX0) (N := 2) (by decide +kernel) (rd_cloth (by omega)) rfl (v := .ref (Z.ad (ro 3))) 1 (by decide) 1 rfl rfl rfl dX4_cloth_71 ?_
    refine j_getN S (C := RX3) (T := TX3) (N := 2) (by decide +kernel) (rd_row (by omega)) rfl (v := .int (nI (σ.row 3).length)) 1 (by decide) 3 rfl rfl rfl dX4_cloth_74 ?_
    exact j_ireturn S hRT hXA hQ hXk hXn dX4_cloth_77 rfl (by rw [hPP]; rfl) (fun H h9 => ⟨σ, hC, h9⟩)
  by_cases h2 : k = 2
  · subst h2
    refine j_table S 78 dX4_cloth_1 (by decide) (by decide) rfl (by decide) ?_
    refine j_aload_n S dX4_cloth_78 rfl ?_
    refine j_get S (C := RX4) (T := TX4) (N := 7) (by decide +kernel) rd_loom rfl (v := .ref (Z.ad (co 0))) 3 (by decide) (by decide +kernel) rfl rfl dX4_cloth_79 ?_
    refine j_getN S (C := RX0) (T := TX0) (N := 2) (by decide +kernel) (rd_cloth (by omega)) rfl (v := .ref (Z.ad (ro 2))) 0 (by decide) 0 rfl rfl rfl dX4_cloth_82 ?_
    refine j_cVi S (n := 0) (rest := []) (k_X3_countBits X.l Z X.A hAX σ 2 (by omega)) ⟨_, _, _, _, rfl, gX4_cloth_X3_countBits, rfl, rfl, by decide +kernel, ⟨Nat.le_of_ble_eq_true rfl, Nat.le_of_ble_eq_true rfl⟩⟩ (rd_row (by omega)) rfl rfl (Nat.le_of_ble_eq_true rfl) rfl dX4_cloth_85 (fun v9 hv9 => ?_)
    subst hv9
    show J X 2 (Wd Z σ) 88 [some (.ref (Z.ad 0)), some (.int (nI 2))] [.int (countBitsI (σ.row 2))]
    exact j_ireturn S hRT hXA hQ hXk hXn dX4_cloth_88 rfl (by rw [hEE]; rfl) (fun H h9 => ⟨σ, hC, h9⟩)
  by_cases h3 : k = 3
  · subst h3
    refine j_table S 89 dX4_cloth_1 (by decide) (by decide) rfl (by decide) ?_
    refine j_aload_n S dX4_cloth_89 rfl ?_
    refine j_get S (C := RX4) (T := TX4) (N := 7) (by decide +kernel) rd_loom rfl (v := .ref (Z.ad (co 0))) 3 (by decide) (by decide +kernel) rfl rfl dX4_cloth_90 ?_
    refine j_cVi S (n := 0) (rest := []) (k_X0_longestFloat X.l Z X.A hAX σ 0 (by omega)) ⟨_, _, _, _, rfl, gX4_cloth_X0_longestFloat, rfl, rfl, by decide +kernel, ⟨Nat.le_of_ble_eq_true rfl, Nat.le_of_ble_eq_true rfl⟩⟩ (rd_cloth (by omega)) rfl rfl (Nat.le_of_ble_eq_true rfl) rfl dX4_cloth_93 (fun v9 hv9 => ?_)
    subst hv9
    show J X 2 (Wd Z σ) 96 [some (.ref (Z.ad 0)), some (.int (nI 3))] [.int (longestC (σ.row 2) (σ.row 3))]
    exact j_ireturn S hRT hXA hQ hXk hXn dX4_cloth_96 rfl (by rw [hEE, hPP]; rfl) (fun H h9 => ⟨σ, hC, h9⟩)
  by_cases h4 : k = 4
  · subst h4
    refine j_table S 97 dX4_cloth_1 (by decide) (by decide) rfl (by decide) ?_
    refine j_aload_n S dX4_cloth_97 rfl ?_
    refine j_get S (C := RX4) (T := TX4) (N := 7) (by decide +kernel) rd_loom rfl (v := .ref (Z.ad (co 0))) 3 (by decide) (by decide +kernel) rfl rfl dX4_cloth_98 ?_
    refine j_getN S (C := RX0) (T := TX0) (N := 2) (by decide +kernel) (rd_cloth (by omega)) rfl (v := .ref (Z.ad (ro 2))) 0 (by decide) 0 rfl rfl rfl dX4_cloth_101 ?_
    refine j_iconst S 1 dX4_cloth_104 (by decide) ?_
    refine j_cVi S (n := 1) (rest := []) (k_X3_countRuns X.l Z X.A hAX σ 2 (by omega) 1 (by decide)) ⟨_, _, _, _, rfl, gX4_cloth_X3_countRuns, rfl, rfl, by decide +kernel, ⟨Nat.le_of_ble_eq_true rfl, Nat.le_of_ble_eq_true rfl⟩⟩ (rd_row (by omega)) rfl rfl (Nat.le_of_ble_eq_true rfl) rfl dX4_cloth_105 (fun v9 hv9 => ?_)
    subst hv9
    show J X 2 (Wd Z σ) 108 [some (.ref (Z.ad 0)), some (.int (nI 4))] [.int (countRunsI (σ.row 2) 1)]
    exact j_ireturn S hRT hXA hQ hXk hXn dX4_cloth_108 rfl (by rw [hEE]; rfl) (fun H h9 => ⟨σ, hC, h9⟩)
  by_cases h5 : k = 5
  · subst h5
    refine j_table S 109 dX4_cloth_1 (by decide) (by decide) rfl (by decide) ?_
    refine j_aload_n S dX4_cloth_109 rfl ?_
    refine j_get S (C := RX4) (T := TX4) (N := 7) (by decide +kernel) rd_loom rfl (v := .ref (Z.ad (co 0))) 3 (by decide) (by decide +kernel) rfl rfl dX4_cloth_110 ?_
    refine j_getN S (C := RX0) (T := TX0) (N := 2) (by decide +kernel) (rd_cloth (by omega)) rfl (v := .ref (Z.ad (ro 3))) 1 (by decide) 1 rfl rfl rfl dX4_cloth_113 ?_
    refine j_iconst S 1 dX4_cloth_116 (by decide) ?_
    refine j_cVi S (n := 1) (rest := []) (k_X3_countRuns X.l Z X.A hAX σ 3 (by omega) 1 (by decide)) ⟨_, _, _, _, rfl, gX4_cloth_X3_countRuns, rfl, rfl, by decide +kernel, ⟨Nat.le_of_ble_eq_true rfl, Nat.le_of_ble_eq_true rfl⟩⟩ (rd_row (by omega)) rfl rfl (Nat.le_of_ble_eq_true rfl) rfl dX4_cloth_117 (fun v9 hv9 => ?_)
    subst hv9
    show J X 2 (Wd Z σ) 120 [some (.ref (Z.ad 0)), some (.int (nI 5))] [.int (countRunsI (σ.row 3) 1)]
    exact j_ireturn S hRT hXA hQ hXk hXn dX4_cloth_120 rfl (by rw [hPP]; rfl) (fun H h9 => ⟨σ, hC, h9⟩)
  by_cases h6 : k = 6
  · subst h6
    refine j_table S 121 dX4_cloth_1 (by decide) (by decide) rfl (by decide) ?_
    refine j_aload_n S dX4_cloth_121 rfl ?_
    refine j_get S (C := RX4) (T := TX4) (N := 7) (by decide +kernel) rd_loom rfl (v := .ref (Z.ad 1)) 0 (by decide) (by decide +kernel) rfl rfl dX4_cloth_122 ?_
    refine j_iconst S 0 dX4_cloth_125 (by decide) ?_
    refine j_aaload S (v := Z.ad (po 0)) rd_progs (show vp_in (nI 0) 10 from vp_in_nI (by decide) (by decide)) rfl dX4_cloth_126 ?_
    refine j_getN S (C := RX2) (T := TX2) (N := 4) (by decide +kernel) (rd_prog (by omega)) rfl (v := .ref (Z.ad (ro 9))) 1 (by decide) 4 rfl rfl rfl dX4_cloth_127 ?_
    refine j_cVi S (n := 0) (rest := []) (k_X3_countDistinct X.l Z X.A hAX σ 9 (by omega)) ⟨_, _, _, _, rfl, gX4_cloth_X3_countDistinct, rfl, rfl, by decide +kernel, ⟨Nat.le_of_ble_eq_true rfl, Nat.le_of_ble_eq_true rfl⟩⟩ (rd_row (by omega)) rfl rfl (Nat.le_of_ble_eq_true rfl) rfl dX4_cloth_130 (fun v9 hv9 => ?_)
    subst hv9
    show J X 2 (Wd Z σ) 133 [some (.ref (Z.ad 0)), some (.int (nI 6))] [.int (distinctI (σ.row 9))]
    exact j_ireturn S hRT hXA hQ hXk hXn dX4_cloth_133 rfl (by rw [show σ.row 9 = num tok 0 from (hG 0 (by omega)).1]; rfl) (fun H h9 => ⟨σ, hC, h9⟩)
  by_cases h7 : k = 7
  · subst h7
    refine j_table S 134 dX4_cloth_1 (by decide) (by decide) rfl (by decide) ?_
    refine j_aload_n S dX4_cloth_134 rfl ?_
    refine j_get S (C := RX4) (T := TX4) (N := 7) (by decide +kernel) rd_loom rfl (v := .ref (Z.ad 1)) 0 (by decide) (by decide +kernel) rfl rfl dX4_cloth_135 ?_
    refine j_iconst S 1 dX4_cloth_138 (by decide) ?_
    refine j_aaload S (v := Z.ad (po 1)) rd_progs (show vp_in (nI 1) 10 from vp_in_nI (by decide) (by decide)) rfl dX4_cloth_139 ?_
    refine j_getN S (C := RX2) (T := TX2) (N := 4) (by decide +kernel) (rd_prog (by omega)) rfl (v := .ref (Z.ad (ro 11))) 1 (by decide) 4 rfl rfl rfl dX4_cloth_140 ?_
    refine j_cVi S (n := 0) (rest := []) (k_X3_countDistinct X.l Z X.A hAX σ 11 (by omega)) ⟨_, _, _, _, rfl, gX4_cloth_X3_countDistinct, rfl, rfl, by decide +kernel, ⟨Nat.le_of_ble_eq_true rfl, Nat.le_of_ble_eq_true rfl⟩⟩ (rd_row (by omega)) rfl rfl (Nat.le_of_ble_eq_true rfl) rfl dX4_cloth_143 (fun v9 hv9 => ?_)
    subst hv9
    show J X 2 (Wd Z σ) 146 [some (.ref (Z.ad 0)), some (.int (nI 7))] [.int (distinctI (σ.row 11))]
    exact j_ireturn S hRT hXA hQ hXk hXn dX4_cloth_146 rfl (by rw [show σ.row 11 = num tok 1 from (hG 1 (by omega)).1]; rfl) (fun H h9 => ⟨σ, hC, h9⟩)
  by_cases h8 : k = 8
  · subst h8
    refine j_table S 147 dX4_cloth_1 (by decide) (by decide) rfl (by decide) ?_
    refine j_aload_n S dX4_cloth_147 rfl ?_
    refine j_get S (C := RX4) (T := TX4) (N := 7) (by decide +kernel) rd_loom rfl (v := .ref (Z.ad (co 0))) 3 (by decide) (by decide +kernel) rfl rfl dX4_cloth_148 ?_
    refine j_getN S (C := RX0) (T := TX0) (N := 2) (by decide +kernel) (rd_cloth (by omega)) rfl (v := .ref (Z.ad (ro 2))) 0 (by decide) 0 rfl rfl rfl dX4_cloth_151 ?_
    refine j_cVi S (n := 0) (rest := []) (k_X3_countDistinct X.l Z X.A hAX σ 2 (by omega)) ⟨_, _, _, _, rfl, gX4_cloth_X3_countDistinct, rfl, rfl, by decide +kernel, ⟨Nat.le_of_ble_eq_true rfl, Nat.le_of_ble_eq_true rfl⟩⟩ (rd_row (by omega)) rfl rfl (Nat.le_of_ble_eq_true rfl) rfl dX4_cloth_154 (fun v9 hv9 => ?_)
    subst hv9
    show J X 2 (Wd Z σ) 157 [some (.ref (Z.ad 0)), some (.int (nI 8))] [.int (distinctI (σ.row 2))]
    exact j_ireturn S hRT hXA hQ hXk hXn dX4_cloth_157 rfl (by rw [hEE]; rfl) (fun H h9 => ⟨σ, hC, h9⟩)
  obtain rfl : k = 9 := by omega
  · skip
    refine j_table S 158 dX4_cloth_1 (by decide) (by decide) rfl (by decide) ?_
    refine j_aload_n S dX4_cloth_158 rfl ?_
    refine j_get S (C := RX4) (T := TX4) (N := 7) (by decide +kernel) rd_loom rfl (v := .ref (Z.ad (co 0))) 3 (by decide) (by decide +kernel) rfl rfl dX4_cloth_159 ?_
    refine j_getN S (C := RX0) (T := TX0) (N := 2) (by decide +kernel) (rd_cloth (by omega)) rfl (v := .ref (Z.ad (ro 3))) 1 (by decide) 1 rfl rfl rfl dX4_cloth_162 ?_
    refine j_cVi S (n := 0) (rest := []) (k_X3_countDistinct X.l Z X.A hAX σ 3 (by omega)) ⟨_, _, _, _, rfl, gX4_cloth_X3_countDistinct, rfl, rfl, by decide +kernel, ⟨Nat.le_of_ble_eq_true rfl, Nat.le_of_ble_eq_true rfl⟩⟩ (rd_row (by omega)) rfl rfl (Nat.le_of_ble_eq_true rfl) rfl dX4_cloth_165 (fun v9 hv9 => ?_)
    subst hv9
    show J X 2 (Wd Z σ) 168 [some (.ref (Z.ad 0)), some (.int (nI 9))] [.int (distinctI (σ.row 3))]
    exact j_ireturn S hRT hXA hQ hXk hXn dX4_cloth_168 rfl (by rw [hPP]; rfl) (fun H h9 => ⟨σ, hC, h9⟩)

set_option maxRecDepth 100000 in
set_option maxHeartbeats 4000000 in
theorem k_X4_floats (l : Launch) (Z : Zx) (A : Nat → Prop) (hA : AdOk Z A) (tok : Nat → List Int32) (ties : List Int32) (m : Nat) (hm1 : 1 ≤ m) (hm2 : m ≤ 32) : Km l Z A yX4_floats wsX4_floats { frames := 3, cells := 0, slots := 0, locals := 67 } (WL Z tok ties) [.ref (Z.ad 0), .int (nI m)] (Qi (WL Z tok ties) A (fun v => v = floatsI (EE tok ties) (PP tok ties) m)) := by
  refine Km.of (cc := cX4_floats) (maxL := 2) (ret := (some .int)) (by decide) rfl (Nat.le_of_ble_eq_true rfl) hA ?_
  intro X hXl S hAX hRT hXA hQ hXk hXn
  show J X 2 (WL Z tok ties) 0 [some (.ref (Z.ad 0)), some (.int (nI m))] []
  refine J.WL (fun σ hC => ?_)
  obtain ⟨hH, hG, hEE, hPP⟩ := id hC
  refine j_iload_n S dX4_floats_0 rfl ?_
  refine j_cSv S (n := 1) (rest := []) (k_X4_checkLength X.l Z X.A hAX σ m hm1 hm2) ⟨_, _, _, _, rfl, gX4_floats_X4_checkLength, rfl, rfl, by decide +kernel, ⟨Nat.le_of_ble_eq_true rfl, Nat.le_of_ble_eq_true rfl⟩⟩ rfl (Nat.le_of_ble_eq_true rfl) rfl dX4_floats_1 ?_
  show J X 2 (Wd Z σ) 4 [some (.ref (Z.ad 0)), some (.int (nI m))] []
  refine j_aload_n S dX4_floats_4 rfl ?_
  refine j_get S (C := RX4) (T := TX4) (N := 7) (by decide +kernel) rd_loom rfl (v := .ref (Z.ad (co 0))) 3 (by decide) (by decide +kernel) rfl rfl dX4_floats_5 ?_
  refine j_iload_n S dX4_floats_8 rfl ?_
  refine j_cVi S (n := 1) (rest := []) (k_X0_countFloats X.l Z X.A hAX σ 0 (by omega) m (by omega)) ⟨_, _, _, _, rfl, gX4_floats_X0_countFloats, rfl, rfl, by decide +kernel, ⟨Nat.le_of_ble_eq_true rfl, Nat.le_of_ble_eq_true rfl⟩⟩ (rd_cloth (by omega)) rfl rfl (Nat.le_of_ble_eq_true rfl) rfl dX4_floats_9 (fun v9 hv9 => ?_)
  subst hv9
  show J X 2 (Wd Z σ) 12 [some (.ref (Z.ad 0)), some (.int (nI m))] [.int (countRunsI (σ.row 2) m + countRunsI (σ.row 3) m)]
  exact j_ireturn S hRT hXA hQ hXk hXn dX4_floats_12 rfl (by rw [hEE, hPP]; rfl) (fun H h9 => ⟨σ, hC, h9⟩)

set_option maxRecDepth 100000 in
set_option maxHeartbeats 4000000 in
theorem k_X4_where (l : Launch) (Z : Zx) (A : Nat → Prop) (hA : AdOk Z A) (tok : Nat → List Int32) (ties : List Int32) (m : Nat) (hm1 : 1 ≤ m) (hm2 : m ≤ 32) (b : Bool) : Km l Z A yX4_where wsX4_where { frames := 2, cells := 0, slots := 0, locals := 45 } (WL Z tok ties) [.ref (Z.ad 0), .int (nI m), .int (b2i b)] (Qi (WL Z tok ties) A (fun v => v = whereI (EE tok ties) (PP tok ties) m b)) := by
  refine Km.of (cc := cX4_where) (maxL := 6) (ret := (some .int)) (by decide) rfl (Nat.le_of_ble_eq_true rfl) hA ?_
  intro X hXl S hAX hRT hXA hQ hXk hXn
  show J X 6 (WL Z tok ties) 0 [some (.ref (Z.ad 0)), some (.int (nI m)), some (.int (b2i b)), none, none, none] []
  refine J.WL (fun σ hC => ?_)
  obtain ⟨hH, hG, hEE, hPP⟩ := id hC
  refine J.caps (fun hcap => ?_)
  have hE32 : (σ.row 2).length ≤ 32 := hcap 2 (by omega)
  have hP32 : (σ.row 3).length ≤ 32 := hcap 3 (by omega)
  refine j_iload_n S dX4_where_0 rfl ?_
  refine j_cSv S (n := 1) (rest := []) (k_X4_checkLength X.l Z X.A hAX σ m hm1 hm2) ⟨_, _, _, _, rfl, gX4_where_X4_checkLength, rfl, rfl, by decide +kernel, ⟨Nat.le_of_ble_eq_true rfl, Nat.le_of_ble_eq_true rfl⟩⟩ rfl (Nat.le_of_ble_eq_true rfl) rfl dX4_where_1 ?_
  show J X 6 (Wd Z σ) 4 [some (.ref (Z.ad 0)), some (.int (nI m)), some (.int (b2i b)), none, none, none] []
  refine j_iload_n S dX4_where_4 rfl ?_
  refine j_if_eq S 18 dX4_where_5 (by decide) (fun h => ?_) (fun h => ?_)
  · skip
    have hb : b = false := b2i_0.mp h
    refine j_aload_n S dX4_where_18 rfl ?_
    refine j_get S (C := RX4) (T := TX4) (N := 7) (by decide +kernel) rd_loom rfl (v := .ref (Z.ad (co 0))) 3 (by decide) (by decide +kernel) rfl rfl dX4_where_19 ?_
    refine j_getN S (C := RX0) (T := TX0) (N := 2) (by decide +kernel) (rd_cloth (by omega)) rfl (v := .ref (Z.ad (ro 3))) 1 (by decide) 1 rfl rfl rfl dX4_where_22 ?_
    refine j_astore_n S [some (.ref (Z.ad 0)), some (.int (nI m)), some (.int (b2i b)), some (.ref (Z.ad (ro 3))), none, none] dX4_where_25 (by decide) rfl rfl ?_
    refine j_aload_n S dX4_where_26 rfl ?_
    refine j_iload_n S dX4_where_27 rfl ?_
    refine j_cVi S (n := 1) (rest := []) (k_X3_firstWithRun X.l Z X.A hAX σ 3 (by omega) m (by omega)) ⟨_, _, _, _, rfl, gX4_where_X3_firstWithRun, rfl, rfl, by decide +kernel, ⟨Nat.le_of_ble_eq_true rfl, Nat.le_of_ble_eq_true rfl⟩⟩ (rd_row (by omega)) rfl rfl (Nat.le_of_ble_eq_true rfl) rfl dX4_where_28 (fun v9 hv9 => ?_)
    subst hv9
    show J X 6 (Wd Z σ) 31 [some (.ref (Z.ad 0)), some (.int (nI m)), some (.int (b2i b)), some (.ref (Z.ad (ro 3))), none, none] [.int (firstRunI (σ.row 3) m)]
    refine j_istore S [some (.ref (Z.ad 0)), some (.int (nI m)), some (.int (b2i b)), some (.ref (Z.ad (ro 3))), some (.int (firstRunI (σ.row 3) m)), none] dX4_where_31 (by decide) rfl rfl ?_
    refine j_iload S dX4_where_33 rfl ?_
    refine j_if_ge S 40 dX4_where_35 (by decide) (fun h2 => ?_) (fun h2 => ?_)
    · skip
      have hn : ¬ firstRunI (if b = true then (EE tok ties) else (PP tok ties)) m < 0 := by rw [hb]; rw [hPP] at h2; exact Int32.not_lt.mpr h2
      refine j_aload_n S dX4_where_40 rfl ?_
      refine j_iload S dX4_where_41 rfl ?_
      refine j_cVi S (n := 1) (rest := []) (k_X3_at X.l Z X.A hAX σ 3 (by omega) (firstRunI (σ.row 3) m)) ⟨_, _, _, _, rfl, gX4_where_X3_at, rfl, rfl, by decide +kernel, ⟨Nat.le_of_ble_eq_true rfl, Nat.le_of_ble_eq_true rfl⟩⟩ (rd_row (by omega)) rfl rfl (Nat.le_of_ble_eq_true rfl) rfl dX4_where_43 (fun v9 hv9 => ?_)
      subst hv9
      show J X 6 (Wd Z σ) 46 [some (.ref (Z.ad 0)), some (.int (nI m)), some (.int (b2i b)), some (.ref (Z.ad (ro 3))), some (.int (firstRunI (σ.row 3) m)), none] [.int (atI (σ.row 3) (firstRunI (σ.row 3) m))]
      refine j_iload_n S dX4_where_46 rfl ?_
      refine j_cSi S (n := 2) (rest := []) (k_X4_runStarts X.l Z X.A hAX σ (atI (σ.row 3) (firstRunI (σ.row 3) m)) m (by omega)) ⟨_, _, _, _, rfl, gX4_where_X4_runStarts, rfl, rfl, by decide +kernel, ⟨Nat.le_of_ble_eq_true rfl, Nat.le_of_ble_eq_true rfl⟩⟩ rfl (Nat.le_of_ble_eq_true rfl) rfl dX4_where_47 (fun v9 hv9 => ?_)
      subst hv9
      show J X 6 (Wd Z σ) 50 [some (.ref (Z.ad 0)), some (.int (nI m)), some (.int (b2i b)), some (.ref (Z.ad (ro 3))), some (.int (firstRunI (σ.row 3) m)), none] [.int (runS (atI (σ.row 3) (firstRunI (σ.row 3) m)) m)]
      refine j_cSi S (n := 1) (rest := []) (k_X4_firstBit X.l Z X.A hAX σ (runS (atI (σ.row 3) (firstRunI (σ.row 3) m)) m)) ⟨_, _, _, _, rfl, gX4_where_X4_firstBit, rfl, rfl, by decide +kernel, ⟨Nat.le_of_ble_eq_true rfl, Nat.le_of_ble_eq_true rfl⟩⟩ rfl (Nat.le_of_ble_eq_true rfl) rfl dX4_where_50 (fun v9 hv9 => ?_)
      subst hv9
      show J X 6 (Wd Z σ) 53 [some (.ref (Z.ad 0)), some (.int (nI m)), some (.int (b2i b)), some (.ref (Z.ad (ro 3))), some (.int (firstRunI (σ.row 3) m)), none] [.int (firstI (runS (atI (σ.row 3) (firstRunI (σ.row 3) m)) m))]
      refine j_istore S [some (.ref (Z.ad 0)), some (.int (nI m)), some (.int (b2i b)), some (.ref (Z.ad (ro 3))), some (.int (firstRunI (σ.row 3) m)), some (.int (firstI (runS (atI (σ.row 3) (firstRunI (σ.row 3) m)) m)))] dX4_where_53 (by decide) rfl rfl ?_
      refine j_iload_n S dX4_where_55 rfl ?_
      refine j_if_eq S 70 dX4_where_56 (by decide) (fun _ => ?_) (fun h9 => absurd (by rw [hb]; rfl) h9)
      refine j_bipush S 100 dX4_where_70 (by decide) ?_
      refine j_iload S dX4_where_72 rfl ?_
      refine j_imul S (100 * (firstI (runS (atI (σ.row 3) (firstRunI (σ.row 3) m)) m))) dX4_where_74 rfl ?_
      refine j_iload S dX4_where_75 rfl ?_
      refine j_iadd S ((100 * (firstI (runS (atI (σ.row 3) (firstRunI (σ.row 3) m)) m))) + (firstRunI (σ.row 3) m)) dX4_where_77 rfl ?_
      exact j_ireturn S hRT hXA hQ hXk hXn dX4_where_78 rfl (by rw [hPP]; unfold whereI; rw [if_neg hn, hb]; rfl) (fun H h9 => ⟨σ, hC, h9⟩)
    · skip
      have hn : firstRunI (if b = true then (EE tok ties) else (PP tok ties)) m < 0 := by rw [hb]; rw [hPP] at h2; exact Int32.not_le.mp h2
      refine j_iconst S (-1) dX4_where_38 (by decide) ?_
      exact j_ireturn S hRT hXA hQ hXk hXn dX4_where_39 rfl (by unfold whereI; rw [if_pos hn]) (fun H h9 => ⟨σ, hC, h9⟩)
  · skip
    have hb : b = true := b2i_n0.mp h
    refine j_aload_n S dX4_where_8 rfl ?_
    refine j_get S (C := RX4) (T := TX4) (N := 7) (by decide +kernel) rd_loom rfl (v := .ref (Z.ad (co 0))) 3 (by decide) (by decide +kernel) rfl rfl dX4_where_9 ?_
    refine j_getN S (C := RX0) (T := TX0) (N := 2) (by decide +kernel) (rd_cloth (by omega)) rfl (v := .ref (Z.ad (ro 2))) 0 (by decide) 0 rfl rfl rfl dX4_where_12 ?_
    refine j_goto S 25 dX4_where_15 (by decide) ?_
    refine j_astore_n S [some (.ref (Z.ad 0)), some (.int (nI m)), some (.int (b2i b)), some (.ref (Z.ad (ro 2))), none, none] dX4_where_25 (by decide) rfl rfl ?_
    refine j_aload_n S dX4_where_26 rfl ?_
    refine j_iload_n S dX4_where_27 rfl ?_
    refine j_cVi S (n := 1) (rest := []) (k_X3_firstWithRun X.l Z X.A hAX σ 2 (by omega) m (by omega)) ⟨_, _, _, _, rfl, gX4_where_X3_firstWithRun, rfl, rfl, by decide +kernel, ⟨Nat.le_of_ble_eq_true rfl, Nat.le_of_ble_eq_true rfl⟩⟩ (rd_row (by omega)) rfl rfl (Nat.le_of_ble_eq_true rfl) rfl dX4_where_28 (fun v9 hv9 => ?_)
    subst hv9
    show J X 6 (Wd Z σ) 31 [some (.ref (Z.ad 0)), some (.int (nI m)), some (.int (b2i b)), some (.ref (Z.ad (ro 2))), none, none] [.int (firstRunI (σ.row 2) m)]
    refine j_istore S [some (.ref (Z.ad 0)), some (.int (nI m)), some (.int (b2i b)), some (.ref (Z.ad (ro 2))), some (.int (firstRunI (σ.row 2) m)), none] dX4_where_31 (by decide) rfl rfl ?_
    refine j_iload S dX4_where_33 rfl ?_
    refine j_if_ge S 40 dX4_where_35 (by decide) (fun h2 => ?_) (fun h2 => ?_)
    · skip
      have hn : ¬ firstRunI (if b = true then (EE tok ties) else (PP tok ties)) m < 0 := by rw [hb]; rw [hEE] at h2; exact Int32.not_lt.mpr h2
      refine j_aload_n S dX4_where_40 rfl ?_
      refine j_iload S dX4_where_41 rfl ?_
      refine j_cVi S (n := 1) (rest := []) (k_X3_at X.l Z X.A hAX σ 2 (by omega) (firstRunI (σ.row 2) m)) ⟨_, _, _, _, rfl, gX4_where_X3_at, rfl, rfl, by decide +kernel, ⟨Nat.le_of_ble_eq_true rfl, Nat.le_of_ble_eq_true rfl⟩⟩ (rd_row (by omega)) rfl rfl (Nat.le_of_ble_eq_true rfl) rfl dX4_where_43 (fun v9 hv9 => ?_)
      subst hv9
      show J X 6 (Wd Z σ) 46 [some (.ref (Z.ad 0)), some (.int (nI m)), some (.int (b2i b)), some (.ref (Z.ad (ro 2))), some (.int (firstRunI (σ.row 2) m)), none] [.int (atI (σ.row 2) (firstRunI (σ.row 2) m))]
      refine j_iload_n S dX4_where_46 rfl ?_
      refine j_cSi S (n := 2) (rest := []) (k_X4_runStarts X.l Z X.A hAX σ (atI (σ.row 2) (firstRunI (σ.row 2) m)) m (by omega)) ⟨_, _, _, _, rfl, gX4_where_X4_runStarts, rfl, rfl, by decide +kernel, ⟨Nat.le_of_ble_eq_true rfl, Nat.le_of_ble_eq_true rfl⟩⟩ rfl (Nat.le_of_ble_eq_true rfl) rfl dX4_where_47 (fun v9 hv9 => ?_)
      subst hv9
      show J X 6 (Wd Z σ) 50 [some (.ref (Z.ad 0)), some (.int (nI m)), some (.int (b2i b)), some (.ref (Z.ad (ro 2))), some (.int (firstRunI (σ.row 2) m)), none] [.int (runS (atI (σ.row 2) (firstRunI (σ.row 2) m)) m)]
      refine j_cSi S (n := 1) (rest := []) (k_X4_firstBit X.l Z X.A hAX σ (runS (atI (σ.row 2) (firstRunI (σ.row 2) m)) m)) ⟨_, _, _, _, rfl, gX4_where_X4_firstBit, rfl, rfl, by decide +kernel, ⟨Nat.le_of_ble_eq_true rfl, Nat.le_of_ble_eq_true rfl⟩⟩ rfl (Nat.le_of_ble_eq_true rfl) rfl dX4_where_50 (fun v9 hv9 => ?_)
      subst hv9
      show J X 6 (Wd Z σ) 53 [some (.ref (Z.ad 0)), some (.int (nI m)), some (.int (b2i b)), some (.ref (Z.ad (ro 2))), some (.int (firstRunI (σ.row 2) m)), none] [.int (firstI (runS (atI (σ.row 2) (firstRunI (σ.row 2) m)) m))]
      refine j_istore S [some (.ref (Z.ad 0)), some (.int (nI m)), some (.int (b2i b)), some (.ref (Z.ad (ro 2))), some (.int (firstRunI (σ.row 2) m)), some (.int (firstI (runS (atI (σ.row 2) (firstRunI (σ.row 2) m)) m)))] dX4_where_53 (by decide) rfl rfl ?_
      refine j_iload_n S dX4_where_55 rfl ?_
      refine j_if_eq S 70 dX4_where_56 (by decide) (fun h9 => absurd h9 (by rw [hb]; decide)) (fun _ => ?_)
      refine j_bipush S 100 dX4_where_59 (by decide) ?_
      refine j_iload S dX4_where_61 rfl ?_
      refine j_imul S (100 * (firstRunI (σ.row 2) m)) dX4_where_63 rfl ?_
      refine j_iload S dX4_where_64 rfl ?_
      refine j_iadd S ((100 * (firstRunI (σ.row 2) m)) + (firstI (runS (atI (σ.row 2) (firstRunI (σ.row 2) m)) m))) dX4_where_66 rfl ?_
      refine j_goto S 78 dX4_where_67 (by decide) ?_
      exact j_ireturn S hRT hXA hQ hXk hXn dX4_where_78 rfl (by rw [hEE]; unfold whereI; rw [if_neg hn, hb]; rfl) (fun H h9 => ⟨σ, hC, h9⟩)
    · skip
      have hn : firstRunI (if b = true then (EE tok ties) else (PP tok ties)) m < 0 := by rw [hb]; rw [hEE] at h2; exact Int32.not_le.mp h2
      refine j_iconst S (-1) dX4_where_38 (by decide) ?_
      exact j_ireturn S hRT hXA hQ hXk hXn dX4_where_39 rfl (by unfold whereI; rw [if_pos hn]) (fun H h9 => ⟨σ, hC, h9⟩)

set_option maxRecDepth 100000 in
set_option maxHeartbeats 4000000 in
theorem k_X4_colourAt (l : Launch) (Z : Zx) (A : Nat → Prop) (hA : AdOk Z A) (σ : St) (tok : Nat → List Int32) (ties : List Int32) (hC : Cons σ tok ties) (x y : Nat) (hx : x < 32) (hy : y < 32) : Km l Z A yX4_colourAt wsX4_colourAt { frames := 2, cells := 0, slots := 0, locals := 43 } (Wd Z σ) [.ref (Z.ad 0), .int (nI x), .int (nI y)] (Qi (Wd Z σ) A (fun v => v = colourI tok ties x y)) := by
  refine Km.of (cc := cX4_colourAt) (maxL := 3) (ret := (some .int)) (by decide) rfl (Nat.le_of_ble_eq_true rfl) hA ?_
  intro X hXl S hAX hRT hXA hQ hXk hXn
  show J X 3 (Wd Z σ) 0 [some (.ref (Z.ad 0)), some (.int (nI x)), some (.int (nI y))] []
  obtain ⟨hH, hG, hEE, hPP⟩ := id hC
  refine j_aload_n S dX4_colourAt_0 rfl ?_
  refine j_get S (C := RX4) (T := TX4) (N := 7) (by decide +kernel) rd_loom rfl (v := .ref (Z.ad (co 0))) 3 (by decide) (by decide +kernel) rfl rfl dX4_colourAt_1 ?_
  refine j_iload_n S dX4_colourAt_4 rfl ?_
  refine j_iload_n S dX4_colourAt_5 rfl ?_
  refine j_cVi S (n := 2) (rest := []) (k_X0_isUp X.l Z X.A hAX σ 0 (by omega) x y (by omega)) ⟨_, _, _, _, rfl, gX4_colourAt_X0_isUp, rfl, rfl, by decide +kernel, ⟨Nat.le_of_ble_eq_true rfl, Nat.le_of_ble_eq_true rfl⟩⟩ (rd_cloth (by omega)) rfl rfl (Nat.le_of_ble_eq_true rfl) rfl dX4_colourAt_6 (fun v9 hv9 => ?_)
  subst hv9
  show J X 3 (Wd Z σ) 9 [some (.ref (Z.ad 0)), some (.int (nI x)), some (.int (nI y))] [.int (b2i (isUpI (σ.row 2) x y))]
  refine j_if_eq S 28 dX4_colourAt_9 (by decide) (fun h => ?_) (fun h => ?_)
  · skip
    refine j_aload_n S dX4_colourAt_28 rfl ?_
    refine j_get S (C := RX4) (T := TX4) (N := 7) (by decide +kernel) rd_loom rfl (v := .ref (Z.ad 1)) 0 (by decide) (by decide +kernel) rfl rfl dX4_colourAt_29 ?_
    refine j_iconst S 3 dX4_colourAt_32 (by decide) ?_
    refine j_aaload S (v := Z.ad (po 3)) rd_progs (show vp_in (nI 3) 10 from vp_in_nI (by decide) (by decide)) rfl dX4_colourAt_33 ?_
    refine j_getN S (C := RX2) (T := TX2) (N := 4) (by decide +kernel) (rd_prog (by omega)) rfl (v := .ref (Z.ad (ro 15))) 1 (by decide) 4 rfl rfl rfl dX4_colourAt_34 ?_
    refine j_iload_n S dX4_colourAt_37 rfl ?_
    refine j_cVi S (n := 1) (rest := []) (k_X3_atRound X.l Z X.A hAX σ 15 (by omega) y (by omega)) ⟨_, _, _, _, rfl, gX4_colourAt_X3_atRound, rfl, rfl, by decide +kernel, ⟨Nat.le_of_ble_eq_true rfl, Nat.le_of_ble_eq_true rfl⟩⟩ (rd_row (by omega)) rfl rfl (Nat.le_of_ble_eq_true rfl) rfl dX4_colourAt_38 (fun v9 hv9 => ?_)
    subst hv9
    show J X 3 (Wd Z σ) 41 [some (.ref (Z.ad 0)), some (.int (nI x)), some (.int (nI y))] [.int ((σ.row 15).getD (y % (σ.row 15).length) 0)]
    exact j_ireturn S hRT hXA hQ hXk hXn dX4_colourAt_41 rfl (by unfold colourI; rw [← hEE, if_neg (by rw [b2i_0.mp h]; decide), show σ.row 15 = num tok 3 from (hG 3 (by omega)).1]) (fun H h => h)
  · skip
    refine j_aload_n S dX4_colourAt_12 rfl ?_
    refine j_get S (C := RX4) (T := TX4) (N := 7) (by decide +kernel) rd_loom rfl (v := .ref (Z.ad 1)) 0 (by decide) (by decide +kernel) rfl rfl dX4_colourAt_13 ?_
    refine j_iconst S 2 dX4_colourAt_16 (by decide) ?_
    refine j_aaload S (v := Z.ad (po 2)) rd_progs (show vp_in (nI 2) 10 from vp_in_nI (by decide) (by decide)) rfl dX4_colourAt_17 ?_
    refine j_getN S (C := RX2) (T := TX2) (N := 4) (by decide +kernel) (rd_prog (by omega)) rfl (v := .ref (Z.ad (ro 13))) 1 (by decide) 4 rfl rfl rfl dX4_colourAt_18 ?_
    refine j_iload_n S dX4_colourAt_21 rfl ?_
    refine j_cVi S (n := 1) (rest := []) (k_X3_atRound X.l Z X.A hAX σ 13 (by omega) x (by omega)) ⟨_, _, _, _, rfl, gX4_colourAt_X3_atRound, rfl, rfl, by decide +kernel, ⟨Nat.le_of_ble_eq_true rfl, Nat.le_of_ble_eq_true rfl⟩⟩ (rd_row (by omega)) rfl rfl (Nat.le_of_ble_eq_true rfl) rfl dX4_colourAt_22 (fun v9 hv9 => ?_)
    subst hv9
    show J X 3 (Wd Z σ) 25 [some (.ref (Z.ad 0)), some (.int (nI x)), some (.int (nI y))] [.int ((σ.row 13).getD (x % (σ.row 13).length) 0)]
    refine j_goto S 41 dX4_colourAt_25 (by decide) ?_
    exact j_ireturn S hRT hXA hQ hXk hXn dX4_colourAt_41 rfl (by unfold colourI; rw [← hEE, if_pos (b2i_n0.mp h), show σ.row 13 = num tok 2 from (hG 2 (by omega)).1]) (fun H h => h)

set_option maxRecDepth 100000 in
set_option maxHeartbeats 4000000 in
theorem k_X4_checkEnd (l : Launch) (Z : Zx) (A : Nat → Prop) (hA : AdOk Z A) (σ : St) (tok : Nat → List Int32) (ties : List Int32) (hC : Cons σ tok ties) (k : Nat) (hk : k < (σ.row 2).length) : Km l Z A yX4_checkEnd wsX4_checkEnd { frames := 0, cells := 0, slots := 0, locals := 0 } (Wd Z σ) [.ref (Z.ad 0), .int (nI k)] (Qv (Wd Z σ) A) := by
  refine Km.of (cc := cX4_checkEnd) (maxL := 2) (ret := none) (by decide) rfl (Nat.le_of_ble_eq_true rfl) hA ?_
  intro X hXl S hAX hRT hXA hQ hXk hXn
  show J X 2 (Wd Z σ) 0 [some (.ref (Z.ad 0)), some (.int (nI k))] []
  obtain ⟨hH, hG, hEE, hPP⟩ := id hC
  refine J.caps (fun hcap => ?_)
  have h32 : (σ.row 2).length ≤ 32 := hcap 2 (by omega)
  refine j_iload_n S dX4_checkEnd_0 rfl ?_
  refine j_if_lt S 18 dX4_checkEnd_1 (by decide) (fun h9 => absurd h9 (nI_pos (by omega))) (fun _ => ?_)
  refine j_iload_n S dX4_checkEnd_4 rfl ?_
  refine j_aload_n S dX4_checkEnd_5 rfl ?_
  refine j_get S (C := RX4) (T := TX4) (N := 7) (by decide +kernel) rd_loom rfl (v := .ref (Z.ad (co 0))) 3 (by decide) (by decide +kernel) rfl rfl dX4_checkEnd_6 ?_
  refine j_getN S (C := RX0) (T := TX0) (N := 2) (by decide +kernel) (rd_cloth (by omega)) rfl (v := .ref (Z.ad (ro 2))) 0 (by decide) 0 rfl rfl rfl dX4_checkEnd_9 ?_
  refine j_getN S (C := RX3) (T := TX3) (N := 2) (by decide +kernel) (rd_row (by omega)) rfl (v := .int (nI (σ.row 2).length)) 1 (by decide) 3 rfl rfl rfl dX4_checkEnd_12 ?_
  refine j_icmp_lt S 28 dX4_checkEnd_15 (by decide) (fun _ => ?_) (fun h9 => absurd (by rw [nI_ltI (by omega) (by omega)]; exact hk) h9)
  exact j_return S hRT hXA hQ hXk hXn dX4_checkEnd_28 (fun H h => h)

set_option maxRecDepth 100000 in
set_option maxHeartbeats 4000000 in
theorem k_X4_checkPick (l : Launch) (Z : Zx) (A : Nat → Prop) (hA : AdOk Z A) (σ : St) (tok : Nat → List Int32) (ties : List Int32) (hC : Cons σ tok ties) (k : Nat) (hk : k < (σ.row 3).length) : Km l Z A yX4_checkPick wsX4_checkPick { frames := 0, cells := 0, slots := 0, locals := 0 } (Wd Z σ) [.ref (Z.ad 0), .int (nI k)] (Qv (Wd Z σ) A) := by
  refine Km.of (cc := cX4_checkPick) (maxL := 2) (ret := none) (by decide) rfl (Nat.le_of_ble_eq_true rfl) hA ?_
  intro X hXl S hAX hRT hXA hQ hXk hXn
  show J X 2 (Wd Z σ) 0 [some (.ref (Z.ad 0)), some (.int (nI k))] []
  obtain ⟨hH, hG, hEE, hPP⟩ := id hC
  refine J.caps (fun hcap => ?_)
  have h32 : (σ.row 3).length ≤ 32 := hcap 3 (by omega)
  refine j_iload_n S dX4_checkPick_0 rfl ?_
  refine j_if_lt S 18 dX4_checkPick_1 (by decide) (fun h9 => absurd h9 (nI_pos (by omega))) (fun _ => ?_)
  refine j_iload_n S dX4_checkPick_4 rfl ?_
  refine j_aload_n S dX4_checkPick_5 rfl ?_
  refine j_get S (C := RX4) (T := TX4) (N := 7) (by decide +kernel) rd_loom rfl (v := .ref (Z.ad (co 0))) 3 (by decide) (by decide +kernel) rfl rfl dX4_checkPick_6 ?_
  refine j_getN S (C := RX0) (T := TX0) (N := 2) (by decide +kernel) (rd_cloth (by omega)) rfl (v := .ref (Z.ad (ro 3))) 1 (by decide) 1 rfl rfl rfl dX4_checkPick_9 ?_
  refine j_getN S (C := RX3) (T := TX3) (N := 2) (by decide +kernel) (rd_row (by omega)) rfl (v := .int (nI (σ.row 3).length)) 1 (by decide) 3 rfl rfl rfl dX4_checkPick_12 ?_
  refine j_icmp_lt S 28 dX4_checkPick_15 (by decide) (fun _ => ?_) (fun h9 => absurd (by rw [nI_ltI (by omega) (by omega)]; exact hk) h9)
  exact j_return S hRT hXA hQ hXk hXn dX4_checkPick_28 (fun H h => h)

set_option maxRecDepth 100000 in
set_option maxHeartbeats 4000000 in
theorem k_X4_field (l : Launch) (Z : Zx) (A : Nat → Prop) (hA : AdOk Z A) (tok : Nat → List Int32) (ties : List Int32) (x y k : Nat) (hx : x < (EE tok ties).length) (hy : y < (PP tok ties).length) (hk : k ≤ 2) : Km l Z A yX4_field wsX4_field { frames := 3, cells := 0, slots := 0, locals := 66 } (WL Z tok ties) [.ref (Z.ad 0), .int (nI x), .int (nI y), .int (nI k)] (Qi (WL Z tok ties) A (fun v => v = fieldI tok ties x y k)) := by
  refine Km.of (cc := cX4_field) (maxL := 4) (ret := (some .int)) (by decide) rfl (Nat.le_of_ble_eq_true rfl) hA ?_
  intro X hXl S hAX hRT hXA hQ hXk hXn
  show J X 4 (WL Z tok ties) 0 [some (.ref (Z.ad 0)), some (.int (nI x)), some (.int (nI y)), some (.int (nI k))] []
  refine J.WL (fun σ hC => ?_)
  obtain ⟨hH, hG, hEE, hPP⟩ := id hC
  refine J.caps (fun hcap => ?_)
  have hE32 : (σ.row 2).length ≤ 32 := hcap 2 (by omega)
  have hP32 : (σ.row 3).length ≤ 32 := hcap 3 (by omega)
  rw [hEE] at hE32
  rw [hPP] at hP32
  refine j_aload_n S dX4_field_0 rfl ?_
  refine j_iload_n S dX4_field_1 rfl ?_
  refine j_cVv S (n := 1) (rest := []) (k_X4_checkEnd X.l Z X.A hAX σ tok ties hC x (by rw [hEE]; exact hx)) ⟨_, _, _, _, rfl, gX4_field_X4_checkEnd, rfl, rfl, by decide +kernel, ⟨Nat.le_of_ble_eq_true rfl, Nat.le_of_ble_eq_true rfl⟩⟩ rd_loom rfl rfl (Nat.le_of_ble_eq_true rfl) rfl dX4_field_2 ?_
  show J X 4 (Wd Z σ) 5 [some (.ref (Z.ad 0)), some (.int (nI x)), some (.int (nI y)), some (.int (nI k))] []
  refine j_aload_n S dX4_field_5 rfl ?_
  refine j_iload_n S dX4_field_6 rfl ?_
  refine j_cVv S (n := 1) (rest := []) (k_X4_checkPick X.l Z X.A hAX σ tok ties hC y (by rw [hPP]; exact hy)) ⟨_, _, _, _, rfl, gX4_field_X4_checkPick, rfl, rfl, by decide +kernel, ⟨Nat.le_of_ble_eq_true rfl, Nat.le_of_ble_eq_true rfl⟩⟩ rd_loom rfl rfl (Nat.le_of_ble_eq_true rfl) rfl dX4_field_7 ?_
  show J X 4 (Wd Z σ) 10 [some (.ref (Z.ad 0)), some (.int (nI x)), some (.int (nI y)), some (.int (nI k))] []
  refine j_iload_n S dX4_field_10 rfl ?_
  by_cases h0 : k = 0
  · subst h0
    refine j_table S 36 dX4_field_11 (by decide) (by decide) rfl (by decide) ?_
    refine j_aload_n S dX4_field_36 rfl ?_
    refine j_get S (C := RX4) (T := TX4) (N := 7) (by decide +kernel) rd_loom rfl (v := .ref (Z.ad (co 0))) 3 (by decide) (by decide +kernel) rfl rfl dX4_field_37 ?_
    refine j_iload_n S dX4_field_40 rfl ?_
    refine j_iload_n S dX4_field_41 rfl ?_
    refine j_cVi S (n := 2) (rest := []) (k_X0_isUp X.l Z X.A hAX σ 0 (by omega) x y (by omega)) ⟨_, _, _, _, rfl, gX4_field_X0_isUp, rfl, rfl, by decide +kernel, ⟨Nat.le_of_ble_eq_true rfl, Nat.le_of_ble_eq_true rfl⟩⟩ (rd_cloth (by omega)) rfl rfl (Nat.le_of_ble_eq_true rfl) rfl dX4_field_42 (fun v9 hv9 => ?_)
    subst hv9
    show J X 4 (Wd Z σ) 45 [some (.ref (Z.ad 0)), some (.int (nI x)), some (.int (nI y)), some (.int (nI 0))] [.int (b2i (isUpI (σ.row 2) x y))]
    refine j_if_eq S 52 dX4_field_45 (by decide) (fun h => ?_) (fun h => ?_)
    · skip
      refine j_iconst S 0 dX4_field_52 (by decide) ?_
      exact j_ireturn S hRT hXA hQ hXk hXn dX4_field_53 rfl (by rw [hEE] at h; show (0 : Int32) = b2i (isUpI (EE tok ties) x y); rw [b2i_0.mp h]; rfl) (fun H h9 => ⟨σ, hC, h9⟩)
    · skip
      refine j_iconst S 1 dX4_field_48 (by decide) ?_
      refine j_goto S 53 dX4_field_49 (by decide) ?_
      exact j_ireturn S hRT hXA hQ hXk hXn dX4_field_53 rfl (by rw [hEE] at h; show (1 : Int32) = b2i (isUpI (EE tok ties) x y); rw [b2i_n0.mp h]; rfl) (fun H h9 => ⟨σ, hC, h9⟩)
  by_cases h1 : k = 1
  · subst h1
    refine j_table S 54 dX4_field_11 (by decide) (by decide) rfl (by decide) ?_
    refine j_aload_n S dX4_field_54 rfl ?_
    refine j_iload_n S dX4_field_55 rfl ?_
    refine j_iload_n S dX4_field_56 rfl ?_
    refine j_cVi S (n := 2) (rest := []) (k_X4_colourAt X.l Z X.A hAX σ tok ties hC x y (by omega) (by omega)) ⟨_, _, _, _, rfl, gX4_field_X4_colourAt, rfl, rfl, by decide +kernel, ⟨Nat.le_of_ble_eq_true rfl, Nat.le_of_ble_eq_true rfl⟩⟩ rd_loom rfl rfl (Nat.le_of_ble_eq_true rfl) rfl dX4_field_57 (fun v9 hv9 => ?_)
    subst hv9
    show J X 4 (Wd Z σ) 60 [some (.ref (Z.ad 0)), some (.int (nI x)), some (.int (nI y)), some (.int (nI 1))] [.int (colourI tok ties x y)]
    exact j_ireturn S hRT hXA hQ hXk hXn dX4_field_60 rfl rfl (fun H h9 => ⟨σ, hC, h9⟩)
  obtain rfl : k = 2 := by omega
  · skip
    refine j_table S 61 dX4_field_11 (by decide) (by decide) rfl (by decide) ?_
    refine j_aload_n S dX4_field_61 rfl ?_
    refine j_get S (C := RX4) (T := TX4) (N := 7) (by decide +kernel) rd_loom rfl (v := .ref (Z.ad (co 0))) 3 (by decide) (by decide +kernel) rfl rfl dX4_field_62 ?_
    refine j_iload_n S dX4_field_65 rfl ?_
    refine j_iload_n S dX4_field_66 rfl ?_
    refine j_cVi S (n := 2) (rest := []) (k_X0_floatAt X.l Z X.A hAX σ 0 (by omega) x y (by omega) (by omega)) ⟨_, _, _, _, rfl, gX4_field_X0_floatAt, rfl, rfl, by decide +kernel, ⟨Nat.le_of_ble_eq_true rfl, Nat.le_of_ble_eq_true rfl⟩⟩ (rd_cloth (by omega)) rfl rfl (Nat.le_of_ble_eq_true rfl) rfl dX4_field_67 (fun v9 hv9 => ?_)
    subst hv9
    show J X 4 (Wd Z σ) 70 [some (.ref (Z.ad 0)), some (.int (nI x)), some (.int (nI y)), some (.int (nI 2))] [.int (floatI (σ.row 2) (σ.row 3) x y)]
    exact j_ireturn S hRT hXA hQ hXk hXn dX4_field_70 rfl (by rw [hEE, hPP]; rfl) (fun H h9 => ⟨σ, hC, h9⟩)

set_option maxRecDepth 100000 in
set_option maxHeartbeats 4000000 in
theorem k_X4_seen (l : Launch) (Z : Zx) (A : Nat → Prop) (hA : AdOk Z A) (tok : Nat → List Int32) (ties : List Int32) (k : Nat) (hk : k < 8) : Km l Z A yX4_seen wsX4_seen { frames := 3, cells := 0, slots := 0, locals := 65 } (WL Z tok ties) [.ref (Z.ad 0), .int (nI k)] (Qi (WL Z tok ties) A (fun v => v = seenI tok ties (nI k))) := by
  refine Km.of (cc := cX4_seen) (maxL := 5) (ret := (some .int)) (by decide) rfl (Nat.le_of_ble_eq_true rfl) hA ?_
  intro X hXl S hAX hRT hXA hQ hXk hXn
  show J X 5 (WL Z tok ties) 0 [some (.ref (Z.ad 0)), some (.int (nI k)), none, none, none] []
  refine J.WL (fun σ hC => ?_)
  obtain ⟨hH, hG, hEE, hPP⟩ := id hC
  refine J.caps (fun hcap => ?_)
  have hE32 : (σ.row 2).length ≤ 32 := hcap 2 (by omega)
  have hP32 : (σ.row 3).length ≤ 32 := hcap 3 (by omega)
  rw [hEE] at hE32
  rw [hPP] at hP32
  have inner : ∀ (x : Nat), x < (EE tok ties).length → J X 5 (Wd Z σ) 76 [some (.ref (Z.ad 0)), some (.int (nI k)), some (.int (seenX tok ties (nI k) (x + 1))), some (.int (nI x)), none] [] → ∀ (f y : Nat), y + f = (PP tok ties).length → J X 5 (Wd Z σ) 41 [some (.ref (Z.ad 0)), some (.int (nI k)), some (.int (seenY tok ties (nI k) x (seenX tok ties (nI k) x) y)), some (.int (nI x)), some (.int (nI y))] [] := by
    intro x hx hd f
    induction f with
    | zero =>
      intro y hy
      refine j_iload S dX4_seen_41 rfl ?_
      refine j_aload_n S dX4_seen_43 rfl ?_
      refine j_get S (C := RX4) (T := TX4) (N := 7) (by decide +kernel) rd_loom rfl (v := .ref (Z.ad (co 0))) 3 (by decide) (by decide +kernel) rfl rfl dX4_seen_44 ?_
      refine j_getN S (C := RX0) (T := TX0) (N := 2) (by decide +kernel) (rd_cloth (by omega)) rfl (v := .ref (Z.ad (ro 3))) 1 (by decide) 1 rfl rfl rfl dX4_seen_47 ?_
      refine j_getN S (C := RX3) (T := TX3) (N := 2) (by decide +kernel) (rd_row (by omega)) rfl (v := .int (nI (σ.row 3).length)) 1 (by decide) 3 rfl rfl rfl dX4_seen_50 ?_
      rw [hPP]
      refine j_icmp_ge S 76 dX4_seen_53 (by decide) (fun _ => ?_) (fun h9 => absurd (by rw [nI_leI (by omega) (by omega)]; omega) h9)
      obtain rfl : y = (PP tok ties).length := by omega
      refine J.less [some (.ref (Z.ad 0)), some (.int (nI k)), some (.int (seenX tok ties (nI k) (x + 1))), some (.int (nI x)), none] ⟨rfl, rfl, rfl, rfl, trivial⟩ ?_
      exact hd
    | succ f ih =>
      intro y hy
      refine j_iload S dX4_seen_41 rfl ?_
      refine j_aload_n S dX4_seen_43 rfl ?_
      refine j_get S (C := RX4) (T := TX4) (N := 7) (by decide +kernel) rd_loom rfl (v := .ref (Z.ad (co 0))) 3 (by decide) (by decide +kernel) rfl rfl dX4_seen_44 ?_
      refine j_getN S (C := RX0) (T := TX0) (N := 2) (by decide +kernel) (rd_cloth (by omega)) rfl (v := .ref (Z.ad (ro 3))) 1 (by decide) 1 rfl rfl rfl dX4_seen_47 ?_
      refine j_getN S (C := RX3) (T := TX3) (N := 2) (by decide +kernel) (rd_row (by omega)) rfl (v := .int (nI (σ.row 3).length)) 1 (by decide) 3 rfl rfl rfl dX4_seen_50 ?_
      rw [hPP]
      refine j_icmp_ge S 76 dX4_seen_53 (by decide) (fun h9 => absurd h9 (by rw [nI_leI (by omega) (by omega)]; omega)) (fun _ => ?_)
      refine j_aload_n S dX4_seen_56 rfl ?_
      refine j_iload_n S dX4_seen_57 rfl ?_
      refine j_iload S dX4_seen_58 rfl ?_
      refine j_cVi S (n := 2) (rest := []) (k_X4_colourAt X.l Z X.A hAX σ tok ties hC x y (by omega) (by omega)) ⟨_, _, _, _, rfl, gX4_seen_X4_colourAt, rfl, rfl, by decide +kernel, ⟨Nat.le_of_ble_eq_true rfl, Nat.le_of_ble_eq_true rfl⟩⟩ rd_loom rfl rfl (Nat.le_of_ble_eq_true rfl) rfl dX4_seen_60 (fun v9 hv9 => ?_)
      subst hv9
      show J X 5 (Wd Z σ) 63 [some (.ref (Z.ad 0)), some (.int (nI k)), some (.int (seenY tok ties (nI k) x (seenX tok ties (nI k) x) y)), some (.int (nI x)), some (.int (nI y))] [.int (colourI tok ties x y)]
      refine j_iload_n S dX4_seen_63 rfl ?_
      refine j_icmp_ne S 70 dX4_seen_64 (by decide) (fun h => ?_) (fun h => ?_)
      · skip
        have e9 : seenY tok ties (nI k) x (seenX tok ties (nI k) x) y = seenY tok ties (nI k) x (seenX tok ties (nI k) x) (y + 1) := by rw [seenY, if_neg h]
        refine j_iinc S (nI (y + 1)) [some (.ref (Z.ad 0)), some (.int (nI k)), some (.int (seenY tok ties (nI k) x (seenX tok ties (nI k) x) y)), some (.int (nI x)), some (.int (nI (y + 1)))] dX4_seen_70 rfl (nI_1 y) (by decide) rfl rfl ?_
        refine j_goto S 41 dX4_seen_73 (by decide) ?_
        rw [e9]
        exact ih (y + 1) (by omega)
      · skip
        have e9 : seenY tok ties (nI k) x (seenX tok ties (nI k) x) y + 1 = seenY tok ties (nI k) x (seenX tok ties (nI k) x) (y + 1) := by rw [seenY, if_pos h]
        refine j_iinc S (seenY tok ties (nI k) x (seenX tok ties (nI k) x) (y + 1)) [some (.ref (Z.ad 0)), some (.int (nI k)), some (.int (seenY tok ties (nI k) x (seenX tok ties (nI k) x) (y + 1))), some (.int (nI x)), some (.int (nI y))] dX4_seen_67 rfl e9 (by decide) rfl rfl ?_
        refine j_iinc S (nI (y + 1)) [some (.ref (Z.ad 0)), some (.int (nI k)), some (.int (seenY tok ties (nI k) x (seenX tok ties (nI k) x) (y + 1))), some (.int (nI x)), some (.int (nI (y + 1)))] dX4_seen_70 rfl (nI_1 y) (by decide) rfl rfl ?_
        refine j_goto S 41 dX4_seen_73 (by decide) ?_
        exact ih (y + 1) (by omega)
  have outer : ∀ (f x : Nat), x + f = (EE tok ties).length → J X 5 (Wd Z σ) 24 [some (.ref (Z.ad 0)), some (.int (nI k)), some (.int (seenX tok ties (nI k) x)), some (.int (nI x)), none] [] := by
    intro f
    induction f with
    | zero =>
      intro x hx
      refine j_iload_n S dX4_seen_24 rfl ?_
      refine j_aload_n S dX4_seen_25 rfl ?_
      refine j_get S (C := RX4) (T := TX4) (N := 7) (by decide +kernel) rd_loom rfl (v := .ref (Z.ad (co 0))) 3 (by decide) (by decide +kernel) rfl rfl dX4_seen_26 ?_
      refine j_getN S (C := RX0) (T := TX0) (N := 2) (by decide +kernel) (rd_cloth (by omega)) rfl (v := .ref (Z.ad (ro 2))) 0 (by decide) 0 rfl rfl rfl dX4_seen_29 ?_
      refine j_getN S (C := RX3) (T := TX3) (N := 2) (by decide +kernel) (rd_row (by omega)) rfl (v := .int (nI (σ.row 2).length)) 1 (by decide) 3 rfl rfl rfl dX4_seen_32 ?_
      rw [hEE]
      refine j_icmp_ge S 82 dX4_seen_35 (by decide) (fun _ => ?_) (fun h9 => absurd (by rw [nI_leI (by omega) (by omega)]; omega) h9)
      refine j_iload_n S dX4_seen_82 rfl ?_
      obtain rfl : x = (EE tok ties).length := by omega
      exact j_ireturn S hRT hXA hQ hXk hXn dX4_seen_83 rfl rfl (fun H h9 => ⟨σ, hC, h9⟩)
    | succ f ih =>
      intro x hx
      have hd : J X 5 (Wd Z σ) 76 [some (.ref (Z.ad 0)), some (.int (nI k)), some (.int (seenX tok ties (nI k) (x + 1))), some (.int (nI x)), none] [] := by
        refine j_iinc S (nI (x + 1)) [some (.ref (Z.ad 0)), some (.int (nI k)), some (.int (seenX tok ties (nI k) (x + 1))), some (.int (nI (x + 1))), none] dX4_seen_76 rfl (nI_1 x) (by decide) rfl rfl ?_
        refine j_goto S 24 dX4_seen_79 (by decide) ?_
        exact ih (x + 1) (by omega)
      refine j_iload_n S dX4_seen_24 rfl ?_
      refine j_aload_n S dX4_seen_25 rfl ?_
      refine j_get S (C := RX4) (T := TX4) (N := 7) (by decide +kernel) rd_loom rfl (v := .ref (Z.ad (co 0))) 3 (by decide) (by decide +kernel) rfl rfl dX4_seen_26 ?_
      refine j_getN S (C := RX0) (T := TX0) (N := 2) (by decide +kernel) (rd_cloth (by omega)) rfl (v := .ref (Z.ad (ro 2))) 0 (by decide) 0 rfl rfl rfl dX4_seen_29 ?_
      refine j_getN S (C := RX3) (T := TX3) (N := 2) (by decide +kernel) (rd_row (by omega)) rfl (v := .int (nI (σ.row 2).length)) 1 (by decide) 3 rfl rfl rfl dX4_seen_32 ?_
      rw [hEE]
      refine j_icmp_ge S 82 dX4_seen_35 (by decide) (fun h9 => absurd h9 (by rw [nI_leI (by omega) (by omega)]; omega)) (fun _ => ?_)
      refine j_iconst S 0 dX4_seen_38 (by decide) ?_
      refine j_istore S [some (.ref (Z.ad 0)), some (.int (nI k)), some (.int (seenX tok ties (nI k) x)), some (.int (nI x)), some (.int 0)] dX4_seen_39 (by decide) rfl rfl ?_
      exact inner x (by omega) hd (PP tok ties).length 0 (by omega)
  refine j_iload_n S dX4_seen_0 rfl ?_
  refine j_if_lt S 10 dX4_seen_1 (by decide) (fun h9 => absurd h9 (nI_pos (by omega))) (fun _ => ?_)
  refine j_iload_n S dX4_seen_4 rfl ?_
  refine j_bipush S 8 dX4_seen_5 (by decide) ?_
  refine j_icmp_lt S 20 dX4_seen_7 (by decide) (fun _ => ?_) (fun h9 => absurd (by rw [show (8 : Int32) = nI 8 from rfl, nI_ltI (by omega) (by omega)]; exact hk) h9)
  refine j_iconst S 0 dX4_seen_20 (by decide) ?_
  refine j_istore_n S [some (.ref (Z.ad 0)), some (.int (nI k)), some (.int 0), none, none] dX4_seen_21 (by decide) rfl rfl ?_
  refine j_iconst S 0 dX4_seen_22 (by decide) ?_
  refine j_istore_n S [some (.ref (Z.ad 0)), some (.int (nI k)), some (.int 0), some (.int 0), none] dX4_seen_23 (by decide) rfl rfl ?_
  exact outer (EE tok ties).length 0 (by omega)

set_option maxRecDepth 100000 in
set_option maxHeartbeats 4000000 in
theorem k_X4_repeat (l : Launch) (Z : Zx) (A : Nat → Prop) (hA : AdOk Z A) (tok : Nat → List Int32) (ties : List Int32) (b : Bool) : Km l Z A yX4_repeat wsX4_repeat { frames := 3, cells := 0, slots := 0, locals := 64 } (WL Z tok ties) [.ref (Z.ad 0), .int (b2i b)] (Qi (WL Z tok ties) A (fun v => v = repeatI (EE tok ties) (PP tok ties) b)) := by
  refine Km.of (cc := cX4_repeat) (maxL := 2) (ret := (some .int)) (by decide) rfl (Nat.le_of_ble_eq_true rfl) hA ?_
  intro X hXl S hAX hRT hXA hQ hXk hXn
  show J X 2 (WL Z tok ties) 0 [some (.ref (Z.ad 0)), some (.int (b2i b))] []
  refine J.WL (fun σ hC => ?_)
  obtain ⟨hH, hG, hEE, hPP⟩ := id hC
  refine j_aload_n S dX4_repeat_0 rfl ?_
  refine j_get S (C := RX4) (T := TX4) (N := 7) (by decide +kernel) rd_loom rfl (v := .ref (Z.ad (co 0))) 3 (by decide) (by decide +kernel) rfl rfl dX4_repeat_1 ?_
  refine j_cVi S (n := 0) (rest := []) (k_X0_hasFields X.l Z X.A hAX σ 0 (by omega)) ⟨_, _, _, _, rfl, gX4_repeat_X0_hasFields, rfl, rfl, by decide +kernel, ⟨Nat.le_of_ble_eq_true rfl, Nat.le_of_ble_eq_true rfl⟩⟩ (rd_cloth (by omega)) rfl rfl (Nat.le_of_ble_eq_true rfl) rfl dX4_repeat_4 (fun v9 hv9 => ?_)
  subst hv9
  show J X 2 (Wd Z σ) 7 [some (.ref (Z.ad 0)), some (.int (b2i b))] [.int (b2i (hasF (σ.row 2) (σ.row 3)))]
  rw [hEE, hPP]
  refine j_if_ne S 12 dX4_repeat_7 (by decide) (fun h => ?_) (fun h => ?_)
  · skip
    have hf := b2i_n0.mp h
    refine j_iload_n S dX4_repeat_12 rfl ?_
    refine j_if_eq S 29 dX4_repeat_13 (by decide) (fun h2 => ?_) (fun h2 => ?_)
    · skip
      refine j_aload_n S dX4_repeat_29 rfl ?_
      refine j_get S (C := RX4) (T := TX4) (N := 7) (by decide +kernel) rd_loom rfl (v := .ref (Z.ad (co 0))) 3 (by decide) (by decide +kernel) rfl rfl dX4_repeat_30 ?_
      refine j_getN S (C := RX0) (T := TX0) (N := 2) (by decide +kernel) (rd_cloth (by omega)) rfl (v := .ref (Z.ad (ro 3))) 1 (by decide) 1 rfl rfl rfl dX4_repeat_33 ?_
      refine j_cVi S (n := 0) (rest := []) (k_X3_leastPeriod X.l Z X.A hAX σ 3 (by omega)) ⟨_, _, _, _, rfl, gX4_repeat_X3_leastPeriod, rfl, rfl, by decide +kernel, ⟨Nat.le_of_ble_eq_true rfl, Nat.le_of_ble_eq_true rfl⟩⟩ (rd_row (by omega)) rfl rfl (Nat.le_of_ble_eq_true rfl) rfl dX4_repeat_36 (fun v9 hv9 => ?_)
      subst hv9
      show J X 2 (Wd Z σ) 39 [some (.ref (Z.ad 0)), some (.int (b2i b))] [.int (periodI (σ.row 3))]
      exact j_ireturn S hRT hXA hQ hXk hXn dX4_repeat_39 rfl (by rw [hPP]; unfold repeatI; rw [if_pos hf, b2i_0.mp h2]; rfl) (fun H h9 => ⟨σ, hC, h9⟩)
    · skip
      refine j_aload_n S dX4_repeat_16 rfl ?_
      refine j_get S (C := RX4) (T := TX4) (N := 7) (by decide +kernel) rd_loom rfl (v := .ref (Z.ad (co 0))) 3 (by decide) (by decide +kernel) rfl rfl dX4_repeat_17 ?_
      refine j_getN S (C := RX0) (T := TX0) (N := 2) (by decide +kernel) (rd_cloth (by omega)) rfl (v := .ref (Z.ad (ro 2))) 0 (by decide) 0 rfl rfl rfl dX4_repeat_20 ?_
      refine j_cVi S (n := 0) (rest := []) (k_X3_leastPeriod X.l Z X.A hAX σ 2 (by omega)) ⟨_, _, _, _, rfl, gX4_repeat_X3_leastPeriod, rfl, rfl, by decide +kernel, ⟨Nat.le_of_ble_eq_true rfl, Nat.le_of_ble_eq_true rfl⟩⟩ (rd_row (by omega)) rfl rfl (Nat.le_of_ble_eq_true rfl) rfl dX4_repeat_23 (fun v9 hv9 => ?_)
      subst hv9
      show J X 2 (Wd Z σ) 26 [some (.ref (Z.ad 0)), some (.int (b2i b))] [.int (periodI (σ.row 2))]
      refine j_goto S 39 dX4_repeat_26 (by decide) ?_
      exact j_ireturn S hRT hXA hQ hXk hXn dX4_repeat_39 rfl (by rw [hEE]; unfold repeatI; rw [if_pos hf, b2i_n0.mp h2]; rfl) (fun H h9 => ⟨σ, hC, h9⟩)
  · skip
    refine j_iconst S 0 dX4_repeat_10 (by decide) ?_
    exact j_ireturn S hRT hXA hQ hXk hXn dX4_repeat_11 rfl (by unfold repeatI; rw [if_neg (by rw [b2i_0.mp h]; decide)]) (fun H h9 => ⟨σ, hC, h9⟩)

set_option maxRecDepth 100000 in
set_option maxHeartbeats 4000000 in
theorem k_X4_hangs (l : Launch) (Z : Zx) (A : Nat → Prop) (hA : AdOk Z A) (tok : Nat → List Int32) (ties : List Int32) : Km l Z A yX4_hangs wsX4_hangs { frames := 6, cells := 0, slots := 0, locals := 133 } (WL Z tok ties) [.ref (Z.ad 0)] (Qi (WL Z tok ties) A (fun v => v = b2i (connI (EE tok ties) (PP tok ties)))) := by
  refine Km.of (cc := cX4_hangs) (maxL := 1) (ret := (some .boolean)) (by decide) rfl (Nat.le_of_ble_eq_true rfl) hA ?_
  intro X hXl S hAX hRT hXA hQ hXk hXn
  show J X 1 (WL Z tok ties) 0 [some (.ref (Z.ad 0))] []
  refine J.WL (fun σ hC => ?_)
  obtain ⟨hH, hG, hEE, hPP⟩ := id hC
  refine j_aload_n S dX4_hangs_0 rfl ?_
  refine j_get S (C := RX4) (T := TX4) (N := 7) (by decide +kernel) rd_loom rfl (v := .ref (Z.ad (co 0))) 3 (by decide) (by decide +kernel) rfl rfl dX4_hangs_1 ?_
  refine j_cVi S (n := 0) (rest := []) (k_X0_isConnected X.l Z X.A hAX σ 0 (by omega)) ⟨_, _, _, _, rfl, gX4_hangs_X0_isConnected, rfl, rfl, by decide +kernel, ⟨Nat.le_of_ble_eq_true rfl, Nat.le_of_ble_eq_true rfl⟩⟩ (rd_cloth (by omega)) rfl rfl (Nat.le_of_ble_eq_true rfl) rfl dX4_hangs_4 (fun v9 hv9 => ?_)
  subst hv9
  show J X 1 (Wd Z σ) 7 [some (.ref (Z.ad 0))] [.int (b2i (connI (σ.row 2) (σ.row 3)))]
  exact j_ireturn S hRT hXA hQ hXk hXn dX4_hangs_7 (b2i_nar _) (by rw [hEE, hPP]) (fun H h9 => ⟨σ, hC, h9⟩)

set_option maxRecDepth 100000 in
set_option maxHeartbeats 4000000 in
theorem k_X4_reach (l : Launch) (Z : Zx) (A : Nat → Prop) (hA : AdOk Z A) (tok : Nat → List Int32) (ties : List Int32) (b : Bool) : Km l Z A yX4_reach wsX4_reach { frames := 4, cells := 0, slots := 0, locals := 92 } (WL Z tok ties) [.ref (Z.ad 0), .int (b2i b)] (Qi (WL Z tok ties) A (fun v => v = reachI (EE tok ties) (PP tok ties) b)) := by
  refine Km.of (cc := cX4_reach) (maxL := 2) (ret := (some .int)) (by decide) rfl (Nat.le_of_ble_eq_true rfl) hA ?_
  intro X hXl S hAX hRT hXA hQ hXk hXn
  show J X 2 (WL Z tok ties) 0 [some (.ref (Z.ad 0)), some (.int (b2i b))] []
  refine J.WL (fun σ hC => ?_)
  obtain ⟨hH, hG, hEE, hPP⟩ := id hC
  refine j_aload_n S dX4_reach_0 rfl ?_
  refine j_get S (C := RX4) (T := TX4) (N := 7) (by decide +kernel) rd_loom rfl (v := .ref (Z.ad (co 0))) 3 (by decide) (by decide +kernel) rfl rfl dX4_reach_1 ?_
  refine j_cVi S (n := 0) (rest := []) (k_X0_hasFields X.l Z X.A hAX σ 0 (by omega)) ⟨_, _, _, _, rfl, gX4_reach_X0_hasFields, rfl, rfl, by decide +kernel, ⟨Nat.le_of_ble_eq_true rfl, Nat.le_of_ble_eq_true rfl⟩⟩ (rd_cloth (by omega)) rfl rfl (Nat.le_of_ble_eq_true rfl) rfl dX4_reach_4 (fun v9 hv9 => ?_)
  subst hv9
  show J X 2 (Wd Z σ) 7 [some (.ref (Z.ad 0)), some (.int (b2i b))] [.int (b2i (hasF (σ.row 2) (σ.row 3)))]
  rw [hEE, hPP]
  refine j_if_ne S 12 dX4_reach_7 (by decide) (fun h => ?_) (fun h => ?_)
  · skip
    have hf := b2i_n0.mp h
    refine j_iload_n S dX4_reach_12 rfl ?_
    refine j_if_eq S 27 dX4_reach_13 (by decide) (fun h2 => ?_) (fun h2 => ?_)
    · skip
      refine j_aload_n S dX4_reach_27 rfl ?_
      refine j_get S (C := RX4) (T := TX4) (N := 7) (by decide +kernel) rd_loom rfl (v := .ref (Z.ad (co 0))) 3 (by decide) (by decide +kernel) rfl rfl dX4_reach_28 ?_
      refine j_iconst S 0 dX4_reach_31 (by decide) ?_
      refine j_cVi S (n := 1) (rest := []) (k_X0_picksReached X.l Z X.A hAX σ 0 (by omega) false) ⟨_, _, _, _, rfl, gX4_reach_X0_picksReached, rfl, rfl, by decide +kernel, ⟨Nat.le_of_ble_eq_true rfl, Nat.le_of_ble_eq_true rfl⟩⟩ (rd_cloth (by omega)) rfl rfl (Nat.le_of_ble_eq_true rfl) rfl dX4_reach_32 (fun v9 hv9 => ?_)
      subst hv9
      show J X 2 (Wd Z σ) 35 [some (.ref (Z.ad 0)), some (.int (b2i b))] [.int (picksR (σ.row 2) (σ.row 3) false)]
      refine j_cSi S (n := 1) (rest := []) (k_J6_bitCount_0f7a4 X.l Z X.A hAX σ (picksR (σ.row 2) (σ.row 3) false)) ⟨_, _, _, _, rfl, gX4_reach_J6_bitCount_0f7a4, rfl, rfl, by decide +kernel, ⟨Nat.le_of_ble_eq_true rfl, Nat.le_of_ble_eq_true rfl⟩⟩ rfl (Nat.le_of_ble_eq_true rfl) rfl dX4_reach_35 (fun v9 hv9 => ?_)
      subst hv9
      show J X 2 (Wd Z σ) 38 [some (.ref (Z.ad 0)), some (.int (b2i b))] [.int (bitC (picksR (σ.row 2) (σ.row 3) false))]
      exact j_ireturn S hRT hXA hQ hXk hXn dX4_reach_38 rfl (by rw [hEE, hPP]; unfold reachI; rw [if_pos hf, b2i_0.mp h2]; rfl) (fun H h9 => ⟨σ, hC, h9⟩)
    · skip
      refine j_aload_n S dX4_reach_16 rfl ?_
      refine j_get S (C := RX4) (T := TX4) (N := 7) (by decide +kernel) rd_loom rfl (v := .ref (Z.ad (co 0))) 3 (by decide) (by decide +kernel) rfl rfl dX4_reach_17 ?_
      refine j_iconst S 0 dX4_reach_20 (by decide) ?_
      refine j_cVi S (n := 1) (rest := []) (k_X0_endsReached X.l Z X.A hAX σ 0 (by omega) false) ⟨_, _, _, _, rfl, gX4_reach_X0_endsReached, rfl, rfl, by decide +kernel, ⟨Nat.le_of_ble_eq_true rfl, Nat.le_of_ble_eq_true rfl⟩⟩ (rd_cloth (by omega)) rfl rfl (Nat.le_of_ble_eq_true rfl) rfl dX4_reach_21 (fun v9 hv9 => ?_)
      subst hv9
      show J X 2 (Wd Z σ) 24 [some (.ref (Z.ad 0)), some (.int (b2i b))] [.int (endsR (σ.row 2) (σ.row 3) false)]
      refine j_goto S 35 dX4_reach_24 (by decide) ?_
      refine j_cSi S (n := 1) (rest := []) (k_J6_bitCount_0f7a4 X.l Z X.A hAX σ (endsR (σ.row 2) (σ.row 3) false)) ⟨_, _, _, _, rfl, gX4_reach_J6_bitCount_0f7a4, rfl, rfl, by decide +kernel, ⟨Nat.le_of_ble_eq_true rfl, Nat.le_of_ble_eq_true rfl⟩⟩ rfl (Nat.le_of_ble_eq_true rfl) rfl dX4_reach_35 (fun v9 hv9 => ?_)
      subst hv9
      show J X 2 (Wd Z σ) 38 [some (.ref (Z.ad 0)), some (.int (b2i b))] [.int (bitC (endsR (σ.row 2) (σ.row 3) false))]
      exact j_ireturn S hRT hXA hQ hXk hXn dX4_reach_38 rfl (by rw [hEE, hPP]; unfold reachI; rw [if_pos hf, b2i_n0.mp h2]; rfl) (fun H h9 => ⟨σ, hC, h9⟩)
  · skip
    refine j_iconst S 0 dX4_reach_10 (by decide) ?_
    exact j_ireturn S hRT hXA hQ hXk hXn dX4_reach_11 rfl (by unfold reachI; rw [if_neg (by rw [b2i_0.mp h]; decide)]) (fun H h9 => ⟨σ, hC, h9⟩)

set_option maxRecDepth 100000 in
set_option maxHeartbeats 4000000 in
theorem k_X4_meanFloat (l : Launch) (Z : Zx) (A : Nat → Prop) (hA : AdOk Z A) (tok : Nat → List Int32) (ties : List Int32) : Km l Z A yX4_meanFloat wsX4_meanFloat { frames := 3, cells := 0, slots := 0, locals := 67 } (WL Z tok ties) [.ref (Z.ad 0)] (Qd (WL Z tok ties) A (fun v => v = meanI (EE tok ties) (PP tok ties))) := by
  refine Km.of (cc := cX4_meanFloat) (maxL := 2) (ret := (some .double)) (by decide) rfl (Nat.le_of_ble_eq_true rfl) hA ?_
  intro X hXl S hAX hRT hXA hQ hXk hXn
  show J X 2 (WL Z tok ties) 0 [some (.ref (Z.ad 0)), none] []
  refine J.WL (fun σ hC => ?_)
  obtain ⟨hH, hG, hEE, hPP⟩ := id hC
  refine j_aload_n S dX4_meanFloat_0 rfl ?_
  refine j_get S (C := RX4) (T := TX4) (N := 7) (by decide +kernel) rd_loom rfl (v := .ref (Z.ad (co 0))) 3 (by decide) (by decide +kernel) rfl rfl dX4_meanFloat_1 ?_
  refine j_iconst S 1 dX4_meanFloat_4 (by decide) ?_
  refine j_cVi S (n := 1) (rest := []) (k_X0_countFloats X.l Z X.A hAX σ 0 (by omega) 1 (by decide)) ⟨_, _, _, _, rfl, gX4_meanFloat_X0_countFloats, rfl, rfl, by decide +kernel, ⟨Nat.le_of_ble_eq_true rfl, Nat.le_of_ble_eq_true rfl⟩⟩ (rd_cloth (by omega)) rfl rfl (Nat.le_of_ble_eq_true rfl) rfl dX4_meanFloat_5 (fun v9 hv9 => ?_)
  subst hv9
  show J X 2 (Wd Z σ) 8 [some (.ref (Z.ad 0)), none] [.int (countRunsI (σ.row 2) 1 + countRunsI (σ.row 3) 1)]
  refine j_istore_n S [some (.ref (Z.ad 0)), some (.int (countRunsI (σ.row 2) 1 + countRunsI (σ.row 3) 1))] dX4_meanFloat_8 (by decide) rfl rfl ?_
  refine j_iload_n S dX4_meanFloat_9 rfl ?_
  rw [hEE, hPP]
  show J X 2 (Wd Z σ) 10 [some (.ref (Z.ad 0)), some (.int (floatsI (EE tok ties) (PP tok ties) 1))] [.int (floatsI (EE tok ties) (PP tok ties) 1)]
  refine j_if_ne S 15 dX4_meanFloat_10 (by decide) (fun h => ?_) (fun h => ?_)
  · skip
    refine j_aload_n S dX4_meanFloat_15 rfl ?_
    refine j_get S (C := RX4) (T := TX4) (N := 7) (by decide +kernel) rd_loom rfl (v := .ref (Z.ad (co 0))) 3 (by decide) (by decide +kernel) rfl rfl dX4_meanFloat_16 ?_
    refine j_getN S (C := RX0) (T := TX0) (N := 2) (by decide +kernel) (rd_cloth (by omega)) rfl (v := .ref (Z.ad (ro 2))) 0 (by decide) 0 rfl rfl rfl dX4_meanFloat_19 ?_
    refine j_getN S (C := RX3) (T := TX3) (N := 2) (by decide +kernel) (rd_row (by omega)) rfl (v := .int (nI (σ.row 2).length)) 1 (by decide) 3 rfl rfl rfl dX4_meanFloat_22 ?_
    refine j_aload_n S dX4_meanFloat_25 rfl ?_
    refine j_get S (C := RX4) (T := TX4) (N := 7) (by decide +kernel) rd_loom rfl (v := .ref (Z.ad (co 0))) 3 (by decide) (by decide +kernel) rfl rfl dX4_meanFloat_26 ?_
    refine j_getN S (C := RX0) (T := TX0) (N := 2) (by decide +kernel) (rd_cloth (by omega)) rfl (v := .ref (Z.ad (ro 3))) 1 (by decide) 1 rfl rfl rfl dX4_meanFloat_29 ?_
    refine j_getN S (C := RX3) (T := TX3) (N := 2) (by decide +kernel) (rd_row (by omega)) rfl (v := .int (nI (σ.row 3).length)) 1 (by decide) 3 rfl rfl rfl dX4_meanFloat_32 ?_
    refine j_imul S ((nI (σ.row 2).length) * (nI (σ.row 3).length)) dX4_meanFloat_35 rfl ?_
    refine j_i2d S dX4_meanFloat_36 ?_
    refine j_iload_n S dX4_meanFloat_37 rfl ?_
    refine j_i2d S dX4_meanFloat_38 ?_
    refine j_ddiv S dX4_meanFloat_39 (mean_num h) ?_
    exact j_dreturn S hRT hXA hQ hXk hXn dX4_meanFloat_40 (by rw [hEE, hPP]; unfold meanI; rw [if_neg h]) (fun H h9 => ⟨σ, hC, h9⟩)
  · skip
    refine j_dconst0 S dX4_meanFloat_13 ?_
    exact j_dreturn S hRT hXA hQ hXk hXn dX4_meanFloat_14 (by unfold meanI; rw [if_pos h]) (fun H h9 => ⟨σ, hC, h9⟩)
