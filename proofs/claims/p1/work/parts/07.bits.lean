set_option maxRecDepth 100000 in
set_option maxHeartbeats 4000000 in
theorem k_X4_hasBit (l : Launch) (Z : Zx) (A : Nat → Prop) (hA : AdOk Z A) (σ : St) (x p : Int32) : Km l Z A yX4_hasBit wsX4_hasBit { frames := 0, cells := 0, slots := 0, locals := 0 } (Wd Z σ) [.int x, .int p] (Qi (Wd Z σ) A (fun v => v = b2i (bitI x p))) := by
  refine Km.of (cc := cX4_hasBit) (maxL := 2) (ret := (some .boolean)) (by decide) rfl (Nat.le_of_ble_eq_true rfl) hA ?_
  intro X hXl S hAX hRT hXA hQ hXk hXn
  show J X 2 (Wd Z σ) 0 [some (.int x), some (.int p)] []
  refine j_iload_n S dX4_hasBit_0 rfl ?_
  refine j_iload_n S dX4_hasBit_1 rfl ?_
  refine j_iushr S (ush x p) dX4_hasBit_2 rfl ?_
  refine j_iconst S 1 dX4_hasBit_3 (by decide) ?_
  refine j_iand S ((ush x p) &&& 1) dX4_hasBit_4 rfl ?_
  refine j_if_eq S 12 dX4_hasBit_5 (by decide) (fun h => ?_) (fun h => ?_)
  · skip
    refine j_iconst S 0 dX4_hasBit_12 (by decide) ?_
    exact j_ireturn S hRT hXA hQ hXk hXn dX4_hasBit_13 rfl (bitI_f h).symm (fun H h => h)
  · skip
    refine j_iconst S 1 dX4_hasBit_8 (by decide) ?_
    refine j_goto S 13 dX4_hasBit_9 (by decide) ?_
    exact j_ireturn S hRT hXA hQ hXk hXn dX4_hasBit_13 rfl (bitI_t h).symm (fun H h => h)

set_option maxRecDepth 100000 in
set_option maxHeartbeats 4000000 in
theorem k_X4_fullSet (l : Launch) (Z : Zx) (A : Nat → Prop) (hA : AdOk Z A) (σ : St) (n : Int32) : Km l Z A yX4_fullSet wsX4_fullSet { frames := 0, cells := 0, slots := 0, locals := 0 } (Wd Z σ) [.int n] (Qi (Wd Z σ) A (fun v => v = fullI n)) := by
  refine Km.of (cc := cX4_fullSet) (maxL := 1) (ret := (some .int)) (by decide) rfl (Nat.le_of_ble_eq_true rfl) hA ?_
  intro X hXl S hAX hRT hXA hQ hXk hXn
  show J X 1 (Wd Z σ) 0 [some (.int n)] []
  refine j_iload_n S dX4_fullSet_0 rfl ?_
  refine j_if_gt S 8 dX4_fullSet_1 (by decide) (fun h => ?_) (fun h => ?_)
  · skip
    refine j_iconst S (-1) dX4_fullSet_8 (by decide) ?_
    refine j_bipush S 32 dX4_fullSet_9 (by decide) ?_
    refine j_iload_n S dX4_fullSet_11 rfl ?_
    refine j_isub S (32 - n) dX4_fullSet_12 rfl ?_
    refine j_iushr S (ush (-1) (32 - n)) dX4_fullSet_13 rfl ?_
    exact j_ireturn S hRT hXA hQ hXk hXn dX4_fullSet_14 rfl (if_pos h).symm (fun H h => h)
  · skip
    refine j_iconst S 0 dX4_fullSet_4 (by decide) ?_
    refine j_goto S 14 dX4_fullSet_5 (by decide) ?_
    exact j_ireturn S hRT hXA hQ hXk hXn dX4_fullSet_14 rfl (if_neg h).symm (fun H h => h)

set_option maxRecDepth 100000 in
set_option maxHeartbeats 4000000 in
theorem k_X4_firstBit (l : Launch) (Z : Zx) (A : Nat → Prop) (hA : AdOk Z A) (σ : St) (x : Int32) : Km l Z A yX4_firstBit wsX4_firstBit { frames := 1, cells := 0, slots := 0, locals := 21 } (Wd Z σ) [.int x] (Qi (Wd Z σ) A (fun v => v = firstI x)) := by
  refine Km.of (cc := cX4_firstBit) (maxL := 2) (ret := (some .int)) (by decide) rfl (Nat.le_of_ble_eq_true rfl) hA ?_
  intro X hXl S hAX hRT hXA hQ hXk hXn
  show J X 2 (Wd Z σ) 0 [some (.int x), none] []
  have loop : ∀ (f i : Nat), i + f = 32 → firstI x = findI (fun k => bitI x (nI k)) (-1) f i → J X 2 (Wd Z σ) 2 [some (.int x), some (.int (nI i))] [] := by
    intro f
    induction f with
    | zero =>
      intro i hi he
      obtain rfl : i = 32 := by omega
      refine j_iload_n S dX4_firstBit_2 rfl ?_
      refine j_bipush S 32 dX4_firstBit_3 (by decide) ?_
      refine j_icmp_ge S 24 dX4_firstBit_5 (by decide) (fun _ => ?_) (fun h9 => absurd (by decide) h9)
      refine j_iconst S (-1) dX4_firstBit_24 (by decide) ?_
      exact j_ireturn S hRT hXA hQ hXk hXn dX4_firstBit_25 rfl he.symm (fun H h => h)
    | succ f ih =>
      intro i hi he
      refine j_iload_n S dX4_firstBit_2 rfl ?_
      refine j_bipush S 32 dX4_firstBit_3 (by decide) ?_
      refine j_icmp_ge S 24 dX4_firstBit_5 (by decide) (fun h9 => absurd h9 (by rw [nI32, nI_leI (by omega) (by omega)]; omega)) (fun _ => ?_)
      refine j_iload_n S dX4_firstBit_8 rfl ?_
      refine j_iload_n S dX4_firstBit_9 rfl ?_
      refine j_cSi S (n := 2) (rest := []) (k_X4_hasBit X.l Z X.A hAX σ x (nI i)) ⟨_, _, _, _, rfl, gX4_firstBit_X4_hasBit, rfl, rfl, by decide +kernel, ⟨Nat.le_of_ble_eq_true rfl, Nat.le_of_ble_eq_true rfl⟩⟩ rfl (Nat.le_of_ble_eq_true rfl) rfl dX4_firstBit_10 (fun v9 hv9 => ?_)
      subst hv9
      refine j_if_eq S 18 dX4_firstBit_13 (by decide) (fun h => ?_) (fun h => ?_)
      · skip
        refine j_iinc S (nI (i + 1)) [some (.int x), some (.int (nI (i + 1)))] dX4_firstBit_18 rfl (nI_1 i) (by decide) rfl rfl ?_
        refine j_goto S 2 dX4_firstBit_21 (by decide) ?_
        exact ih (i + 1) (by omega) (by rw [he, findI, if_neg (by rw [b2i_0.mp h]; decide)])
      · skip
        refine j_iload_n S dX4_firstBit_16 rfl ?_
        exact j_ireturn S hRT hXA hQ hXk hXn dX4_firstBit_17 rfl (by rw [he, findI, if_pos (b2i_n0.mp h)]) (fun H h => h)
  refine j_iconst S 0 dX4_firstBit_0 (by decide) ?_
  refine j_istore_n S [some (.int x), some (.int 0)] dX4_firstBit_1 (by decide) rfl rfl ?_
  exact loop 32 0 rfl rfl

set_option maxRecDepth 100000 in
set_option maxHeartbeats 4000000 in
theorem k_X4_runStarts (l : Launch) (Z : Zx) (A : Nat → Prop) (hA : AdOk Z A) (σ : St) (x : Int32) (m : Nat) (hm : m < 2 ^ 31) : Km l Z A yX4_runStarts wsX4_runStarts { frames := 0, cells := 0, slots := 0, locals := 0 } (Wd Z σ) [.int x, .int (nI m)] (Qi (Wd Z σ) A (fun v => v = runS x m)) := by
  refine Km.of (cc := cX4_runStarts) (maxL := 4) (ret := (some .int)) (by decide) rfl (Nat.le_of_ble_eq_true rfl) hA ?_
  intro X hXl S hAX hRT hXA hQ hXk hXn
  show J X 4 (Wd Z σ) 0 [some (.int x), some (.int (nI m)), none, none] []
  have fin : runS x m = follow x (min m 32 - 1) &&& (shl x 1 ^^^ (-1)) := rfl
  have loop : ∀ (f k : Nat), k + f = min m 32 - 1 → J X 4 (Wd Z σ) 4 [some (.int x), some (.int (nI m)), some (.int (follow x k)), some (.int (nI (k + 1)))] [] := by
    intro f
    induction f with
    | zero =>
      intro k hk
      refine j_iload_n S dX4_runStarts_4 rfl ?_
      refine j_iload_n S dX4_runStarts_5 rfl ?_
      refine j_icmp_ge S 27 dX4_runStarts_6 (by decide) (fun h => ?_) (fun h => ?_)
      · skip
        refine j_iload_n S dX4_runStarts_27 rfl ?_
        refine j_iload_n S dX4_runStarts_28 rfl ?_
        refine j_iconst S 1 dX4_runStarts_29 (by decide) ?_
        refine j_ishl S (shl x 1) dX4_runStarts_30 rfl ?_
        refine j_iconst S (-1) dX4_runStarts_31 (by decide) ?_
        refine j_ixor S ((shl x 1) ^^^ (-1)) dX4_runStarts_32 rfl ?_
        refine j_iand S ((follow x k) &&& ((shl x 1) ^^^ (-1))) dX4_runStarts_33 rfl ?_
        exact j_ireturn S hRT hXA hQ hXk hXn dX4_runStarts_34 rfl (by rw [fin, ← hk]; rfl) (fun H h => h)
      · skip
        rw [nI_leI hm (by omega)] at h
        refine j_iload_n S dX4_runStarts_9 rfl ?_
        refine j_bipush S 32 dX4_runStarts_10 (by decide) ?_
        refine j_icmp_ge S 27 dX4_runStarts_12 (by decide) (fun _ => ?_) (fun h9 => absurd (by rw [nI32, nI_leI (by omega) (by omega)]; omega) h9)
        refine j_iload_n S dX4_runStarts_27 rfl ?_
        refine j_iload_n S dX4_runStarts_28 rfl ?_
        refine j_iconst S 1 dX4_runStarts_29 (by decide) ?_
        refine j_ishl S (shl x 1) dX4_runStarts_30 rfl ?_
        refine j_iconst S (-1) dX4_runStarts_31 (by decide) ?_
        refine j_ixor S ((shl x 1) ^^^ (-1)) dX4_runStarts_32 rfl ?_
        refine j_iand S ((follow x k) &&& ((shl x 1) ^^^ (-1))) dX4_runStarts_33 rfl ?_
        exact j_ireturn S hRT hXA hQ hXk hXn dX4_runStarts_34 rfl (by rw [fin, ← hk]; rfl) (fun H h => h)
    | succ f ih =>
      intro k hk
      refine j_iload_n S dX4_runStarts_4 rfl ?_
      refine j_iload_n S dX4_runStarts_5 rfl ?_
      refine j_icmp_ge S 27 dX4_runStarts_6 (by decide) (fun h9 => absurd h9 (by rw [nI_leI hm (by omega)]; omega)) (fun _ => ?_)
      refine j_iload_n S dX4_runStarts_9 rfl ?_
      refine j_bipush S 32 dX4_runStarts_10 (by decide) ?_
      refine j_icmp_ge S 27 dX4_runStarts_12 (by decide) (fun h9 => absurd h9 (by rw [nI32, nI_leI (by omega) (by omega)]; omega)) (fun _ => ?_)
      refine j_iload_n S dX4_runStarts_15 rfl ?_
      refine j_iload_n S dX4_runStarts_16 rfl ?_
      refine j_iload_n S dX4_runStarts_17 rfl ?_
      refine j_iushr S (ush x (nI (k + 1))) dX4_runStarts_18 rfl ?_
      refine j_iand S (follow x (k + 1)) dX4_runStarts_19 rfl ?_
      refine j_istore_n S [some (.int x), some (.int (nI m)), some (.int (follow x (k + 1))), some (.int (nI (k + 1)))] dX4_runStarts_20 (by decide) rfl rfl ?_
      refine j_iinc S (nI (k + 1 + 1)) [some (.int x), some (.int (nI m)), some (.int (follow x (k + 1))), some (.int (nI (k + 1 + 1)))] dX4_runStarts_21 rfl (nI_1 (k + 1)) (by decide) rfl rfl ?_
      refine j_goto S 4 dX4_runStarts_24 (by decide) ?_
      exact ih (k + 1) (by omega)
  refine j_iload_n S dX4_runStarts_0 rfl ?_
  refine j_istore_n S [some (.int x), some (.int (nI m)), some (.int x), none] dX4_runStarts_1 (by decide) rfl rfl ?_
  refine j_iconst S 1 dX4_runStarts_2 (by decide) ?_
  refine j_istore_n S [some (.int x), some (.int (nI m)), some (.int x), some (.int 1)] dX4_runStarts_3 (by decide) rfl rfl ?_
  exact loop (min m 32 - 1) 0 (by omega)

set_option maxRecDepth 100000 in
set_option maxHeartbeats 4000000 in
theorem k_X4_longestRun (l : Launch) (Z : Zx) (A : Nat → Prop) (hA : AdOk Z A) (σ : St) (x0 : Int32) : Km l Z A yX4_longestRun wsX4_longestRun { frames := 0, cells := 0, slots := 0, locals := 0 } (Wd Z σ) [.int x0] (Qi (Wd Z σ) A (fun v => v = lrunI x0)) := by
  refine Km.of (cc := cX4_longestRun) (maxL := 3) (ret := (some .int)) (by decide) rfl (Nat.le_of_ble_eq_true rfl) hA ?_
  intro X hXl S hAX hRT hXA hQ hXk hXn
  show J X 3 (Wd Z σ) 0 [some (.int x0), none, none] []
  have loop : ∀ (f k : Nat) (y : Int32), k + f = 32 → lrunI x0 = nI (k + lrF f y) → J X 3 (Wd Z σ) 4 [some (.int x0), some (.int y), some (.int (nI k))] [] := by
    intro f
    induction f with
    | zero =>
      intro k y hk he
      refine j_iload_n S dX4_longestRun_4 rfl ?_
      refine j_if_eq S 26 dX4_longestRun_5 (by decide) (fun h => ?_) (fun h => ?_)
      · skip
        refine j_iload_n S dX4_longestRun_26 rfl ?_
        exact j_ireturn S hRT hXA hQ hXk hXn dX4_longestRun_27 rfl (by rw [he]; rfl) (fun H h => h)
      · skip
        refine j_iload_n S dX4_longestRun_8 rfl ?_
        refine j_bipush S 32 dX4_longestRun_9 (by decide) ?_
        refine j_icmp_ge S 26 dX4_longestRun_11 (by decide) (fun _ => ?_) (fun h9 => absurd (by rw [nI32, nI_leI (by omega) (by omega)]; omega) h9)
        refine j_iload_n S dX4_longestRun_26 rfl ?_
        exact j_ireturn S hRT hXA hQ hXk hXn dX4_longestRun_27 rfl (by rw [he]; rfl) (fun H h => h)
    | succ f ih =>
      intro k y hk he
      refine j_iload_n S dX4_longestRun_4 rfl ?_
      refine j_if_eq S 26 dX4_longestRun_5 (by decide) (fun h => ?_) (fun h => ?_)
      · skip
        refine j_iload_n S dX4_longestRun_26 rfl ?_
        exact j_ireturn S hRT hXA hQ hXk hXn dX4_longestRun_27 rfl (by rw [he, lrF, if_pos h]; rfl) (fun H h => h)
      · skip
        refine j_iload_n S dX4_longestRun_8 rfl ?_
        refine j_bipush S 32 dX4_longestRun_9 (by decide) ?_
        refine j_icmp_ge S 26 dX4_longestRun_11 (by decide) (fun h9 => absurd h9 (by rw [nI32, nI_leI (by omega) (by omega)]; omega)) (fun _ => ?_)
        refine j_iload_n S dX4_longestRun_14 rfl ?_
        refine j_iload_n S dX4_longestRun_15 rfl ?_
        refine j_iconst S 1 dX4_longestRun_16 (by decide) ?_
        refine j_iushr S (ush y 1) dX4_longestRun_17 rfl ?_
        refine j_iand S (y &&& (ush y 1)) dX4_longestRun_18 rfl ?_
        refine j_istore_n S [some (.int x0), some (.int (y &&& (ush y 1))), some (.int (nI k))] dX4_longestRun_19 (by decide) rfl rfl ?_
        refine j_iinc S (nI (k + 1)) [some (.int x0), some (.int (y &&& (ush y 1))), some (.int (nI (k + 1)))] dX4_longestRun_20 rfl (nI_1 k) (by decide) rfl rfl ?_
        refine j_goto S 4 dX4_longestRun_23 (by decide) ?_
        exact ih (k + 1) _ (by omega) (by rw [he, lrF, if_neg h, Nat.add_assoc, Nat.add_comm 1])
  refine j_iload_n S dX4_longestRun_0 rfl ?_
  refine j_istore_n S [some (.int x0), some (.int x0), none] dX4_longestRun_1 (by decide) rfl rfl ?_
  refine j_iconst S 0 dX4_longestRun_2 (by decide) ?_
  refine j_istore_n S [some (.int x0), some (.int x0), some (.int 0)] dX4_longestRun_3 (by decide) rfl rfl ?_
  exact loop 32 0 x0 rfl (by rw [Nat.zero_add]; rfl)

set_option maxRecDepth 100000 in
set_option maxHeartbeats 4000000 in
theorem k_X4_runAround (l : Launch) (Z : Zx) (A : Nat → Prop) (hA : AdOk Z A) (σ : St) (x : Int32) (k : Nat) (hk32 : k < 32) : Km l Z A yX4_runAround wsX4_runAround { frames := 1, cells := 0, slots := 0, locals := 21 } (Wd Z σ) [.int x, .int (nI k)] (Qi (Wd Z σ) A (fun v => v = aroundI x k)) := by
  refine Km.of (cc := cX4_runAround) (maxL := 4) (ret := (some .int)) (by decide) rfl (Nat.le_of_ble_eq_true rfl) hA ?_
  intro X hXl S hAX hRT hXA hQ hXk hXn
  show J X 4 (Wd Z σ) 0 [some (.int x), some (.int (nI k)), none, none] []
  have loop2 : ∀ (j c : Nat) (i : Int32), j ≤ 32 → (j = 0 → i < 0) → (∀ n, j = n + 1 → i = nI n) → aroundI x k = nI (c + downF x j) → J X 4 (Wd Z σ) 31 [some (.int x), some (.int (nI k)), some (.int (nI c)), some (.int i)] [] := by
    intro j
    induction j with
    | zero =>
      intro c i hj h0 h1 he
      refine j_iload_n S dX4_runAround_31 rfl ?_
      refine j_if_lt S 52 dX4_runAround_32 (by decide) (fun _ => ?_) (fun h9 => absurd (h0 rfl) h9)
      refine j_iload_n S dX4_runAround_52 rfl ?_
      exact j_ireturn S hRT hXA hQ hXk hXn dX4_runAround_53 rfl he.symm (fun H h => h)
    | succ j ih =>
      intro c i hj h0 h1 he
      obtain rfl := h1 j rfl
      refine j_iload_n S dX4_runAround_31 rfl ?_
      refine j_if_lt S 52 dX4_runAround_32 (by decide) (fun h9 => absurd h9 (nI_pos (by omega))) (fun _ => ?_)
      refine j_iload_n S dX4_runAround_35 rfl ?_
      refine j_iload_n S dX4_runAround_36 rfl ?_
      refine j_cSi S (n := 2) (rest := []) (k_X4_hasBit X.l Z X.A hAX σ x (nI j)) ⟨_, _, _, _, rfl, gX4_runAround_X4_hasBit, rfl, rfl, by decide +kernel, ⟨Nat.le_of_ble_eq_true rfl, Nat.le_of_ble_eq_true rfl⟩⟩ rfl (Nat.le_of_ble_eq_true rfl) rfl dX4_runAround_37 (fun v9 hv9 => ?_)
      subst hv9
      refine j_if_eq S 52 dX4_runAround_40 (by decide) (fun h => ?_) (fun h => ?_)
      · skip
        refine j_iload_n S dX4_runAround_52 rfl ?_
        exact j_ireturn S hRT hXA hQ hXk hXn dX4_runAround_53 rfl (by rw [he, downF, if_neg (by rw [b2i_0.mp h]; decide)]; rfl) (fun H h => h)
      · skip
        refine j_iinc S (nI (c + 1)) [some (.int x), some (.int (nI k)), some (.int (nI (c + 1))), some (.int (nI j))] dX4_runAround_43 rfl (nI_1 c) (by decide) rfl rfl ?_
        refine j_iinc S (nI j + (-1)) [some (.int x), some (.int (nI k)), some (.int (nI (c + 1))), some (.int (nI j + (-1)))] dX4_runAround_46 rfl rfl (by decide) rfl rfl ?_
        refine j_goto S 31 dX4_runAround_49 (by decide) ?_
        exact ih (c + 1) _ (by omega) (fun e => by rw [e]; exact nI_0m) (fun n e => by rw [e]; exact pk_m1 n) (by rw [he, downF, if_pos (b2i_n0.mp h), Nat.add_assoc, Nat.add_comm 1])
  have mid : ∀ (c : Nat) (i : Int32), c = upF x (32 - k) k → J X 4 (Wd Z σ) 27 [some (.int x), some (.int (nI k)), some (.int (nI c)), some (.int i)] [] := by
    intro c i hc
    refine j_iload_n S dX4_runAround_27 rfl ?_
    refine j_iconst S 1 dX4_runAround_28 (by decide) ?_
    refine j_isub S ((nI k) - 1) dX4_runAround_29 rfl ?_
    refine j_istore_n S [some (.int x), some (.int (nI k)), some (.int (nI c)), some (.int ((nI k) - 1))] dX4_runAround_30 (by decide) rfl rfl ?_
    exact loop2 k c _ (by omega) (fun e => by rw [e]; exact nI_0s) (fun n e => by rw [e]; exact nI_pred n) (by rw [hc]; rfl)
  have loop : ∀ (f i c : Nat), i + f = 32 → upF x (32 - k) k = c + upF x f i → J X 4 (Wd Z σ) 4 [some (.int x), some (.int (nI k)), some (.int (nI c)), some (.int (nI i))] [] := by
    intro f
    induction f with
    | zero =>
      intro i c hi he
      refine j_iload_n S dX4_runAround_4 rfl ?_
      refine j_bipush S 32 dX4_runAround_5 (by decide) ?_
      refine j_icmp_ge S 27 dX4_runAround_7 (by decide) (fun _ => ?_) (fun h9 => absurd (by rw [nI32, nI_leI (by omega) (by omega)]; omega) h9)
      exact mid c _ he.symm
    | succ f ih =>
      intro i c hi he
      refine j_iload_n S dX4_runAround_4 rfl ?_
      refine j_bipush S 32 dX4_runAround_5 (by decide) ?_
      refine j_icmp_ge S 27 dX4_runAround_7 (by decide) (fun h9 => absurd h9 (by rw [nI32, nI_leI (by omega) (by omega)]; omega)) (fun _ => ?_)
      refine j_iload_n S dX4_runAround_10 rfl ?_
      refine j_iload_n S dX4_runAround_11 rfl ?_
      refine j_cSi S (n := 2) (rest := []) (k_X4_hasBit X.l Z X.A hAX σ x (nI i)) ⟨_, _, _, _, rfl, gX4_runAround_X4_hasBit, rfl, rfl, by decide +kernel, ⟨Nat.le_of_ble_eq_true rfl, Nat.le_of_ble_eq_true rfl⟩⟩ rfl (Nat.le_of_ble_eq_true rfl) rfl dX4_runAround_12 (fun v9 hv9 => ?_)
      subst hv9
      refine j_if_eq S 27 dX4_runAround_15 (by decide) (fun h => ?_) (fun h => ?_)
      · skip
        exact mid c _ (by rw [he, upF, if_neg (by rw [b2i_0.mp h]; decide)]; rfl)
      · skip
        refine j_iinc S (nI (c + 1)) [some (.int x), some (.int (nI k)), some (.int (nI (c + 1))), some (.int (nI i))] dX4_runAround_18 rfl (nI_1 c) (by decide) rfl rfl ?_
        refine j_iinc S (nI (i + 1)) [some (.int x), some (.int (nI k)), some (.int (nI (c + 1))), some (.int (nI (i + 1)))] dX4_runAround_21 rfl (nI_1 i) (by decide) rfl rfl ?_
        refine j_goto S 4 dX4_runAround_24 (by decide) ?_
        exact ih (i + 1) (c + 1) (by omega) (by rw [he, upF, if_pos (b2i_n0.mp h), Nat.add_assoc, Nat.add_comm 1])
  refine j_iconst S 0 dX4_runAround_0 (by decide) ?_
  refine j_istore_n S [some (.int x), some (.int (nI k)), some (.int 0), none] dX4_runAround_1 (by decide) rfl rfl ?_
  refine j_iload_n S dX4_runAround_2 rfl ?_
  refine j_istore_n S [some (.int x), some (.int (nI k)), some (.int 0), some (.int (nI k))] dX4_runAround_3 (by decide) rfl rfl ?_
  exact loop (32 - k) k 0 (by omega) (by rw [Nat.zero_add])
