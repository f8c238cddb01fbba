theorem lt_le {x c d : Int32} (hc : c.toInt + 1 = d.toInt) (h : x < d) : x ≤ c := by
  rw [Int32.le_iff_toInt_le]
  rw [Int32.lt_iff_toInt_lt] at h
  omega
theorem le_lt {x c d : Int32} (hc : c.toInt + 1 = d.toInt) (h : c < x) : ¬ x < d := fun h9 => by
  rw [Int32.lt_iff_toInt_lt] at h h9
  omega

theorem res0f {k : Nat} (hk : k < 10) : res tok0 k = ([], 0, -1) := by
  rcases (show k = 0 ∨ k = 1 ∨ k = 2 ∨ k = 3 ∨ k = 4 ∨ k = 5 ∨ k = 6 ∨ k = 7 ∨ k = 8 ∨ k = 9 by omega) with rfl | rfl | rfl | rfl | rfl | rfl | rfl | rfl | rfl | rfl <;> rfl
theorem row2_0 {σ : St} (hC : Cons σ tok0 ties0) : (σ.row 2).length = 0 := by rw [hC.2.2.1]; rfl
theorem row3_0 {σ : St} (hC : Cons σ tok0 ties0) : (σ.row 3).length = 0 := by rw [hC.2.2.2]; rfl
theorem num_0 {σ : St} (hC : Cons σ tok0 ties0) {k : Nat} (hk : k < 10) : (σ.row (9 + 2 * k)).length = 0 := by rw [(hC.2.1 k hk).1, res0f hk]; rfl

set_option maxRecDepth 100000 in
set_option maxHeartbeats 4000000 in
theorem x_X4_checkTreadle_b (l : Launch) (Z : Zx) (A : Nat → Prop) (hA : AdOk Z A) (hfl : l.stackTraces = false) (σ : St) (x : Int32) (hb : ¬ (0 ≤ x ∧ x ≤ 7)) : Kx l Z A yX4_checkTreadle wsX4_checkTreadle { frames := 6, cells := 1, slots := 6, locals := 90 } (Wd Z σ) [.int x] sIO := by
  refine Kx.of (cc := cX4_checkTreadle) (maxL := 1) (ret := none) hA hfl (by decide) rfl (Nat.le_of_ble_eq_true rfl) ?_
  intro X hXl S hAX hX
  subst hXl
  show J X 1 (Wd Z σ) 0 [some (.int x)] []
  refine j_iload_n S dX4_checkTreadle_0 rfl ?_
  refine j_if_lt S 10 dX4_checkTreadle_1 (by decide) (fun h => ?_) (fun h => ?_)
  · skip
    exact x_throw S hX hX.1.2.2.2.1 (by decide) (ik := 91) (is := 149) (ic := 95) (text := "no such treadle") (by decide +kernel) (by decide +kernel) (by decide) (by decide +kernel) (by decide +kernel) (by decide +kernel) dX4_checkTreadle_10 dX4_checkTreadle_13 dX4_checkTreadle_14 dX4_checkTreadle_16 dX4_checkTreadle_19 (Nat.le_of_ble_eq_true rfl) (Nat.le_of_ble_eq_true rfl) (Nat.le_of_ble_eq_true rfl) (Nat.le_of_ble_eq_true rfl)
  · skip
    refine j_iload_n S dX4_checkTreadle_4 rfl ?_
    refine j_bipush S 8 dX4_checkTreadle_5 (by decide) ?_
    refine j_icmp_lt S 20 dX4_checkTreadle_7 (by decide) (fun h9 => absurd h9 (fun h9 => hb ⟨Int32.not_lt.mp h, lt_le (by decide) h9⟩)) (fun _ => ?_)
    exact x_throw S hX hX.1.2.2.2.1 (by decide) (ik := 91) (is := 149) (ic := 95) (text := "no such treadle") (by decide +kernel) (by decide +kernel) (by decide) (by decide +kernel) (by decide +kernel) (by decide +kernel) dX4_checkTreadle_10 dX4_checkTreadle_13 dX4_checkTreadle_14 dX4_checkTreadle_16 dX4_checkTreadle_19 (Nat.le_of_ble_eq_true rfl) (Nat.le_of_ble_eq_true rfl) (Nat.le_of_ble_eq_true rfl) (Nat.le_of_ble_eq_true rfl)

set_option maxRecDepth 100000 in
set_option maxHeartbeats 4000000 in
theorem x_X4_checkShaft_b (l : Launch) (Z : Zx) (A : Nat → Prop) (hA : AdOk Z A) (hfl : l.stackTraces = false) (σ : St) (x : Int32) (hb : ¬ (0 ≤ x ∧ x ≤ 7)) : Kx l Z A yX4_checkShaft wsX4_checkShaft { frames := 6, cells := 1, slots := 6, locals := 90 } (Wd Z σ) [.int x] sIO := by
  refine Kx.of (cc := cX4_checkShaft) (maxL := 1) (ret := none) hA hfl (by decide) rfl (Nat.le_of_ble_eq_true rfl) ?_
  intro X hXl S hAX hX
  subst hXl
  show J X 1 (Wd Z σ) 0 [some (.int x)] []
  refine j_iload_n S dX4_checkShaft_0 rfl ?_
  refine j_if_lt S 10 dX4_checkShaft_1 (by decide) (fun h => ?_) (fun h => ?_)
  · skip
    exact x_throw S hX hX.1.2.2.2.1 (by decide) (ik := 91) (is := 151) (ic := 95) (text := "no such shaft") (by decide +kernel) (by decide +kernel) (by decide) (by decide +kernel) (by decide +kernel) (by decide +kernel) dX4_checkShaft_10 dX4_checkShaft_13 dX4_checkShaft_14 dX4_checkShaft_16 dX4_checkShaft_19 (Nat.le_of_ble_eq_true rfl) (Nat.le_of_ble_eq_true rfl) (Nat.le_of_ble_eq_true rfl) (Nat.le_of_ble_eq_true rfl)
  · skip
    refine j_iload_n S dX4_checkShaft_4 rfl ?_
    refine j_bipush S 8 dX4_checkShaft_5 (by decide) ?_
    refine j_icmp_lt S 20 dX4_checkShaft_7 (by decide) (fun h9 => absurd h9 (fun h9 => hb ⟨Int32.not_lt.mp h, lt_le (by decide) h9⟩)) (fun _ => ?_)
    exact x_throw S hX hX.1.2.2.2.1 (by decide) (ik := 91) (is := 151) (ic := 95) (text := "no such shaft") (by decide +kernel) (by decide +kernel) (by decide) (by decide +kernel) (by decide +kernel) (by decide +kernel) dX4_checkShaft_10 dX4_checkShaft_13 dX4_checkShaft_14 dX4_checkShaft_16 dX4_checkShaft_19 (Nat.le_of_ble_eq_true rfl) (Nat.le_of_ble_eq_true rfl) (Nat.le_of_ble_eq_true rfl) (Nat.le_of_ble_eq_true rfl)

set_option maxRecDepth 100000 in
set_option maxHeartbeats 4000000 in
theorem x_X4_checkLength_b (l : Launch) (Z : Zx) (A : Nat → Prop) (hA : AdOk Z A) (hfl : l.stackTraces = false) (σ : St) (x : Int32) (hb : ¬ (1 ≤ x ∧ x ≤ 32)) : Kx l Z A yX4_checkLength wsX4_checkLength { frames := 6, cells := 1, slots := 6, locals := 90 } (Wd Z σ) [.int x] sIA := by
  refine Kx.of (cc := cX4_checkLength) (maxL := 1) (ret := none) hA hfl (by decide) rfl (Nat.le_of_ble_eq_true rfl) ?_
  intro X hXl S hAX hX
  subst hXl
  show J X 1 (Wd Z σ) 0 [some (.int x)] []
  refine j_iload_n S dX4_checkLength_0 rfl ?_
  refine j_iconst S 1 dX4_checkLength_1 (by decide) ?_
  refine j_icmp_lt S 11 dX4_checkLength_2 (by decide) (fun h => ?_) (fun h => ?_)
  · skip
    exact x_throw S hX hX.1.2.2.2.2 (by decide) (ik := 70) (is := 239) (ic := 74) (text := "length is not 1 to 32") (by decide +kernel) (by decide +kernel) (by decide) (by decide +kernel) (by decide +kernel) (by decide +kernel) dX4_checkLength_11 dX4_checkLength_14 dX4_checkLength_15 dX4_checkLength_17 dX4_checkLength_20 (Nat.le_of_ble_eq_true rfl) (Nat.le_of_ble_eq_true rfl) (Nat.le_of_ble_eq_true rfl) (Nat.le_of_ble_eq_true rfl)
  · skip
    refine j_iload_n S dX4_checkLength_5 rfl ?_
    refine j_bipush S 32 dX4_checkLength_6 (by decide) ?_
    refine j_icmp_le S 21 dX4_checkLength_8 (by decide) (fun h9 => absurd h9 (fun h9 => hb ⟨Int32.not_lt.mp h, h9⟩)) (fun _ => ?_)
    exact x_throw S hX hX.1.2.2.2.2 (by decide) (ik := 70) (is := 239) (ic := 74) (text := "length is not 1 to 32") (by decide +kernel) (by decide +kernel) (by decide) (by decide +kernel) (by decide +kernel) (by decide +kernel) dX4_checkLength_11 dX4_checkLength_14 dX4_checkLength_15 dX4_checkLength_17 dX4_checkLength_20 (Nat.le_of_ble_eq_true rfl) (Nat.le_of_ble_eq_true rfl) (Nat.le_of_ble_eq_true rfl) (Nat.le_of_ble_eq_true rfl)

set_option maxRecDepth 100000 in
set_option maxHeartbeats 4000000 in
theorem x_X4_programAt_b (l : Launch) (Z : Zx) (A : Nat → Prop) (hA : AdOk Z A) (hfl : l.stackTraces = false) (σ : St) (x : Int32) (hb : ¬ (0 ≤ x ∧ x ≤ 9)) : Kx l Z A yX4_programAt wsX4_programAt { frames := 6, cells := 1, slots := 6, locals := 90 } (Wd Z σ) [.ref (Z.ad 0), .int x] sIO := by
  refine Kx.of (cc := cX4_programAt) (maxL := 2) (ret := (some (.object "TreadleLoom$Program"))) hA hfl (by decide) rfl (Nat.le_of_ble_eq_true rfl) ?_
  intro X hXl S hAX hX
  subst hXl
  show J X 2 (Wd Z σ) 0 [some (.ref (Z.ad 0)), some (.int x)] []
  refine j_iload_n S dX4_programAt_0 rfl ?_
  refine j_if_lt S 13 dX4_programAt_1 (by decide) (fun h => ?_) (fun h => ?_)
  · skip
    exact x_throw S hX hX.1.2.2.2.1 (by decide) (ik := 91) (is := 104) (ic := 95) (text := "no such program") (by decide +kernel) (by decide +kernel) (by decide) (by decide +kernel) (by decide +kernel) (by decide +kernel) dX4_programAt_13 dX4_programAt_16 dX4_programAt_17 dX4_programAt_19 dX4_programAt_22 (Nat.le_of_ble_eq_true rfl) (Nat.le_of_ble_eq_true rfl) (Nat.le_of_ble_eq_true rfl) (Nat.le_of_ble_eq_true rfl)
  · skip
    refine j_iload_n S dX4_programAt_4 rfl ?_
    refine j_aload_n S dX4_programAt_5 rfl ?_
    refine j_get S (C := RX4) (T := TX4) (N := 7) (by decide +kernel) rd_loom rfl (v := .ref (Z.ad 1)) 0 (by decide) (by decide +kernel) rfl rfl dX4_programAt_6 ?_
    refine j_alen S (v := 10) (t0 := 1) rd_progs rfl rfl dX4_programAt_9 ?_
    refine j_icmp_lt S 23 dX4_programAt_10 (by decide) (fun h9 => absurd h9 (fun h9 => hb ⟨Int32.not_lt.mp h, lt_le (by decide) h9⟩)) (fun _ => ?_)
    exact x_throw S hX hX.1.2.2.2.1 (by decide) (ik := 91) (is := 104) (ic := 95) (text := "no such program") (by decide +kernel) (by decide +kernel) (by decide) (by decide +kernel) (by decide +kernel) (by decide +kernel) dX4_programAt_13 dX4_programAt_16 dX4_programAt_17 dX4_programAt_19 dX4_programAt_22 (Nat.le_of_ble_eq_true rfl) (Nat.le_of_ble_eq_true rfl) (Nat.le_of_ble_eq_true rfl) (Nat.le_of_ble_eq_true rfl)

set_option maxRecDepth 100000 in
set_option maxHeartbeats 4000000 in
theorem x_X4_checkEnd_b (l : Launch) (Z : Zx) (A : Nat → Prop) (hA : AdOk Z A) (hfl : l.stackTraces = false) (σ : St) (hC : Cons σ tok0 ties0) (x : Int32) : Kx l Z A yX4_checkEnd wsX4_checkEnd { frames := 6, cells := 1, slots := 6, locals := 90 } (Wd Z σ) [.ref (Z.ad 0), .int x] sIO := by
  refine Kx.of (cc := cX4_checkEnd) (maxL := 2) (ret := none) hA hfl (by decide) rfl (Nat.le_of_ble_eq_true rfl) ?_
  intro X hXl S hAX hX
  subst hXl
  show J X 2 (Wd Z σ) 0 [some (.ref (Z.ad 0)), some (.int x)] []
  refine j_iload_n S dX4_checkEnd_0 rfl ?_
  refine j_if_lt S 18 dX4_checkEnd_1 (by decide) (fun h => ?_) (fun h => ?_)
  · skip
    exact x_throw S hX hX.1.2.2.2.1 (by decide) (ik := 91) (is := 235) (ic := 95) (text := "no such end") (by decide +kernel) (by decide +kernel) (by decide) (by decide +kernel) (by decide +kernel) (by decide +kernel) dX4_checkEnd_18 dX4_checkEnd_21 dX4_checkEnd_22 dX4_checkEnd_24 dX4_checkEnd_27 (Nat.le_of_ble_eq_true rfl) (Nat.le_of_ble_eq_true rfl) (Nat.le_of_ble_eq_true rfl) (Nat.le_of_ble_eq_true rfl)
  · skip
    refine j_iload_n S dX4_checkEnd_4 rfl ?_
    refine j_aload_n S dX4_checkEnd_5 rfl ?_
    refine j_get S (C := RX4) (T := TX4) (N := 7) (by decide +kernel) rd_loom rfl (v := .ref (Z.ad (co 0))) 3 (by decide) (by decide +kernel) rfl rfl dX4_checkEnd_6 ?_
    refine j_getN S (C := RX0) (T := TX0) (N := 2) (by decide +kernel) (rd_cloth (by omega)) rfl (v := .ref (Z.ad (ro 2))) 0 (by decide) 0 rfl rfl rfl dX4_checkEnd_9 ?_
    refine j_getN S (C := RX3) (T := TX3) (N := 2) (by decide +kernel) (rd_row (by omega)) rfl (v := .int (nI (σ.row 2).length)) 1 (by decide) 3 rfl rfl rfl dX4_checkEnd_12 ?_
    refine j_icmp_lt S 28 dX4_checkEnd_15 (by decide) (fun h9 => absurd h9 (fun h9 => by rw [row2_0 hC] at h9; exact h h9)) (fun _ => ?_)
    exact x_throw S hX hX.1.2.2.2.1 (by decide) (ik := 91) (is := 235) (ic := 95) (text := "no such end") (by decide +kernel) (by decide +kernel) (by decide) (by decide +kernel) (by decide +kernel) (by decide +kernel) dX4_checkEnd_18 dX4_checkEnd_21 dX4_checkEnd_22 dX4_checkEnd_24 dX4_checkEnd_27 (Nat.le_of_ble_eq_true rfl) (Nat.le_of_ble_eq_true rfl) (Nat.le_of_ble_eq_true rfl) (Nat.le_of_ble_eq_true rfl)

set_option maxRecDepth 100000 in
set_option maxHeartbeats 4000000 in
theorem x_X4_checkPick_b (l : Launch) (Z : Zx) (A : Nat → Prop) (hA : AdOk Z A) (hfl : l.stackTraces = false) (σ : St) (hC : Cons σ tok0 ties0) (x : Int32) : Kx l Z A yX4_checkPick wsX4_checkPick { frames := 6, cells := 1, slots := 6, locals := 90 } (Wd Z σ) [.ref (Z.ad 0), .int x] sIO := by
  refine Kx.of (cc := cX4_checkPick) (maxL := 2) (ret := none) hA hfl (by decide) rfl (Nat.le_of_ble_eq_true rfl) ?_
  intro X hXl S hAX hX
  subst hXl
  show J X 2 (Wd Z σ) 0 [some (.ref (Z.ad 0)), some (.int x)] []
  refine j_iload_n S dX4_checkPick_0 rfl ?_
  refine j_if_lt S 18 dX4_checkPick_1 (by decide) (fun h => ?_) (fun h => ?_)
  · skip
    exact x_throw S hX hX.1.2.2.2.1 (by decide) (ik := 91) (is := 237) (ic := 95) (text := "no such pick") (by decide +kernel) (by decide +kernel) (by decide) (by decide +kernel) (by decide +kernel) (by decide +kernel) dX4_checkPick_18 dX4_checkPick_21 dX4_checkPick_22 dX4_checkPick_24 dX4_checkPick_27 (Nat.le_of_ble_eq_true rfl) (Nat.le_of_ble_eq_true rfl) (Nat.le_of_ble_eq_true rfl) (Nat.le_of_ble_eq_true rfl)
  · skip
    refine j_iload_n S dX4_checkPick_4 rfl ?_
    refine j_aload_n S dX4_checkPick_5 rfl ?_
    refine j_get S (C := RX4) (T := TX4) (N := 7) (by decide +kernel) rd_loom rfl (v := .ref (Z.ad (co 0))) 3 (by decide) (by decide +kernel) rfl rfl dX4_checkPick_6 ?_
    refine j_getN S (C := RX0) (T := TX0) (N := 2) (by decide +kernel) (rd_cloth (by omega)) rfl (v := .ref (Z.ad (ro 3))) 1 (by decide) 1 rfl rfl rfl dX4_checkPick_9 ?_
    refine j_getN S (C := RX3) (T := TX3) (N := 2) (by decide +kernel) (rd_row (by omega)) rfl (v := .int (nI (σ.row 3).length)) 1 (by decide) 3 rfl rfl rfl dX4_checkPick_12 ?_
    refine j_icmp_lt S 28 dX4_checkPick_15 (by decide) (fun h9 => absurd h9 (fun h9 => by rw [row3_0 hC] at h9; exact h h9)) (fun _ => ?_)
    exact x_throw S hX hX.1.2.2.2.1 (by decide) (ik := 91) (is := 237) (ic := 95) (text := "no such pick") (by decide +kernel) (by decide +kernel) (by decide) (by decide +kernel) (by decide +kernel) (by decide +kernel) dX4_checkPick_18 dX4_checkPick_21 dX4_checkPick_22 dX4_checkPick_24 dX4_checkPick_27 (Nat.le_of_ble_eq_true rfl) (Nat.le_of_ble_eq_true rfl) (Nat.le_of_ble_eq_true rfl) (Nat.le_of_ble_eq_true rfl)

set_option maxRecDepth 100000 in
set_option maxHeartbeats 4000000 in
theorem x_X4_programForToken_b (l : Launch) (Z : Zx) (A : Nat → Prop) (hA : AdOk Z A) (hfl : l.stackTraces = false) (σ : St) (x : Int32) (hb : ¬ (0 ≤ x ∧ x ≤ 9)) (y : Int32) : Kx l Z A yX4_programForToken wsX4_programForToken { frames := 7, cells := 1, slots := 6, locals := 111 } (Wd Z σ) [.ref (Z.ad 0), .int x, .int y] sIO := by
  refine Kx.of (cc := cX4_programForToken) (maxL := 4) (ret := (some (.object "TreadleLoom$Program"))) hA hfl (by decide) rfl (Nat.le_of_ble_eq_true rfl) ?_
  intro X hXl S hAX hX
  subst hXl
  show J X 4 (Wd Z σ) 0 [some (.ref (Z.ad 0)), some (.int x), some (.int y), none] []
  refine j_aload_n S dX4_programForToken_0 rfl ?_
  refine j_iload_n S dX4_programForToken_1 rfl ?_
  exact x_passV S hX (n := 1) (rest := []) (x_X4_programAt_b X.l Z X.A hAX hfl σ x hb) ⟨_, _, _, _, rfl, gX4_programForToken_X4_programAt, rfl, rfl, (by decide +kernel), ⟨(Nat.le_of_ble_eq_true rfl), (Nat.le_of_ble_eq_true rfl)⟩⟩ rd_loom rfl rfl (Nat.le_of_ble_eq_true rfl) rfl dX4_programForToken_2 (Nat.le_of_ble_eq_true rfl) (Nat.le_of_ble_eq_true rfl)

set_option maxRecDepth 100000 in
set_option maxHeartbeats 4000000 in
theorem x_X4_token_b (l : Launch) (Z : Zx) (A : Nat → Prop) (hA : AdOk Z A) (hfl : l.stackTraces = false) (σ : St) (x : Int32) (hb : ¬ (0 ≤ x ∧ x ≤ 9)) (y : Int32) : Kx l Z A yX4_token wsX4_token { frames := 8, cells := 1, slots := 6, locals := 134 } (Wd Z σ) [.ref (Z.ad 0), .int x, .int y] sIO := by
  refine Kx.of (cc := cX4_token) (maxL := 4) (ret := (some .int)) hA hfl (by decide) rfl (Nat.le_of_ble_eq_true rfl) ?_
  intro X hXl S hAX hX
  subst hXl
  show J X 4 (Wd Z σ) 0 [some (.ref (Z.ad 0)), some (.int x), some (.int y), none] []
  refine j_aload_n S dX4_token_0 rfl ?_
  refine j_iload_n S dX4_token_1 rfl ?_
  refine j_iload_n S dX4_token_2 rfl ?_
  exact x_passV S hX (n := 2) (rest := []) (x_X4_programForToken_b X.l Z X.A hAX hfl σ x hb y) ⟨_, _, _, _, rfl, gX4_token_X4_programForToken, rfl, rfl, (by decide +kernel), ⟨(Nat.le_of_ble_eq_true rfl), (Nat.le_of_ble_eq_true rfl)⟩⟩ rd_loom rfl rfl (Nat.le_of_ble_eq_true rfl) rfl dX4_token_3 (Nat.le_of_ble_eq_true rfl) (Nat.le_of_ble_eq_true rfl)

set_option maxRecDepth 100000 in
set_option maxHeartbeats 4000000 in
theorem x_X4_lengthWith_b (l : Launch) (Z : Zx) (A : Nat → Prop) (hA : AdOk Z A) (hfl : l.stackTraces = false) (σ : St) (x : Int32) (hb : ¬ (0 ≤ x ∧ x ≤ 9)) (y : Int32) : Kx l Z A yX4_lengthWith wsX4_lengthWith { frames := 8, cells := 1, slots := 6, locals := 134 } (Wd Z σ) [.ref (Z.ad 0), .int x, .int y] sIO := by
  refine Kx.of (cc := cX4_lengthWith) (maxL := 4) (ret := (some .int)) hA hfl (by decide) rfl (Nat.le_of_ble_eq_true rfl) ?_
  intro X hXl S hAX hX
  subst hXl
  show J X 4 (Wd Z σ) 0 [some (.ref (Z.ad 0)), some (.int x), some (.int y), none] []
  refine j_aload_n S dX4_lengthWith_0 rfl ?_
  refine j_iload_n S dX4_lengthWith_1 rfl ?_
  refine j_iload_n S dX4_lengthWith_2 rfl ?_
  exact x_passV S hX (n := 2) (rest := []) (x_X4_programForToken_b X.l Z X.A hAX hfl σ x hb y) ⟨_, _, _, _, rfl, gX4_lengthWith_X4_programForToken, rfl, rfl, (by decide +kernel), ⟨(Nat.le_of_ble_eq_true rfl), (Nat.le_of_ble_eq_true rfl)⟩⟩ rd_loom rfl rfl (Nat.le_of_ble_eq_true rfl) rfl dX4_lengthWith_3 (Nat.le_of_ble_eq_true rfl) (Nat.le_of_ble_eq_true rfl)

set_option maxRecDepth 100000 in
set_option maxHeartbeats 4000000 in
theorem x_X4_untoken_b (l : Launch) (Z : Zx) (A : Nat → Prop) (hA : AdOk Z A) (hfl : l.stackTraces = false) (σ : St) (x : Int32) (hb : ¬ (0 ≤ x ∧ x ≤ 9)) (y : Int32) : Kx l Z A yX4_untoken wsX4_untoken { frames := 7, cells := 1, slots := 6, locals := 111 } (Wd Z σ) [.ref (Z.ad 0), .int x, .int y] sIO := by
  refine Kx.of (cc := cX4_untoken) (maxL := 4) (ret := (some .int)) hA hfl (by decide) rfl (Nat.le_of_ble_eq_true rfl) ?_
  intro X hXl S hAX hX
  subst hXl
  show J X 4 (Wd Z σ) 0 [some (.ref (Z.ad 0)), some (.int x), some (.int y), none] []
  refine j_aload_n S dX4_untoken_0 rfl ?_
  refine j_iload_n S dX4_untoken_1 rfl ?_
  exact x_passV S hX (n := 1) (rest := []) (x_X4_programAt_b X.l Z X.A hAX hfl σ x hb) ⟨_, _, _, _, rfl, gX4_untoken_X4_programAt, rfl, rfl, (by decide +kernel), ⟨(Nat.le_of_ble_eq_true rfl), (Nat.le_of_ble_eq_true rfl)⟩⟩ rd_loom rfl rfl (Nat.le_of_ble_eq_true rfl) rfl dX4_untoken_2 (Nat.le_of_ble_eq_true rfl) (Nat.le_of_ble_eq_true rfl)

set_option maxRecDepth 100000 in
set_option maxHeartbeats 4000000 in
theorem x_X4_ofProgram_b (l : Launch) (Z : Zx) (A : Nat → Prop) (hA : AdOk Z A) (hfl : l.stackTraces = false) (σ : St) (x : Int32) (hb : ¬ (0 ≤ x ∧ x ≤ 9)) (y : Int32) : Kx l Z A yX4_ofProgram wsX4_ofProgram { frames := 7, cells := 1, slots := 6, locals := 111 } (Wd Z σ) [.ref (Z.ad 0), .int x, .int y] sIO := by
  refine Kx.of (cc := cX4_ofProgram) (maxL := 4) (ret := (some .int)) hA hfl (by decide) rfl (Nat.le_of_ble_eq_true rfl) ?_
  intro X hXl S hAX hX
  subst hXl
  show J X 4 (Wd Z σ) 0 [some (.ref (Z.ad 0)), some (.int x), some (.int y), none] []
  refine j_aload_n S dX4_ofProgram_0 rfl ?_
  refine j_iload_n S dX4_ofProgram_1 rfl ?_
  exact x_passV S hX (n := 1) (rest := []) (x_X4_programAt_b X.l Z X.A hAX hfl σ x hb) ⟨_, _, _, _, rfl, gX4_ofProgram_X4_programAt, rfl, rfl, (by decide +kernel), ⟨(Nat.le_of_ble_eq_true rfl), (Nat.le_of_ble_eq_true rfl)⟩⟩ rd_loom rfl rfl (Nat.le_of_ble_eq_true rfl) rfl dX4_ofProgram_2 (Nat.le_of_ble_eq_true rfl) (Nat.le_of_ble_eq_true rfl)

set_option maxRecDepth 100000 in
set_option maxHeartbeats 4000000 in
theorem x_X4_number_b (l : Launch) (Z : Zx) (A : Nat → Prop) (hA : AdOk Z A) (hfl : l.stackTraces = false) (σ : St) (x : Int32) (hb : ¬ (0 ≤ x ∧ x ≤ 9)) (y : Int32) : Kx l Z A yX4_number wsX4_number { frames := 7, cells := 1, slots := 6, locals := 111 } (Wd Z σ) [.ref (Z.ad 0), .int x, .int y] sIO := by
  refine Kx.of (cc := cX4_number) (maxL := 4) (ret := (some .int)) hA hfl (by decide) rfl (Nat.le_of_ble_eq_true rfl) ?_
  intro X hXl S hAX hX
  subst hXl
  show J X 4 (Wd Z σ) 0 [some (.ref (Z.ad 0)), some (.int x), some (.int y), none] []
  refine j_aload_n S dX4_number_0 rfl ?_
  refine j_iload_n S dX4_number_1 rfl ?_
  exact x_passV S hX (n := 1) (rest := []) (x_X4_programAt_b X.l Z X.A hAX hfl σ x hb) ⟨_, _, _, _, rfl, gX4_number_X4_programAt, rfl, rfl, (by decide +kernel), ⟨(Nat.le_of_ble_eq_true rfl), (Nat.le_of_ble_eq_true rfl)⟩⟩ rd_loom rfl rfl (Nat.le_of_ble_eq_true rfl) rfl dX4_number_2 (Nat.le_of_ble_eq_true rfl) (Nat.le_of_ble_eq_true rfl)

set_option maxRecDepth 100000 in
set_option maxHeartbeats 4000000 in
theorem x_X4_period_b (l : Launch) (Z : Zx) (A : Nat → Prop) (hA : AdOk Z A) (hfl : l.stackTraces = false) (σ : St) (x : Int32) (hb : ¬ (0 ≤ x ∧ x ≤ 9)) : Kx l Z A yX4_period wsX4_period { frames := 7, cells := 1, slots := 6, locals := 111 } (Wd Z σ) [.ref (Z.ad 0), .int x] sIO := by
  refine Kx.of (cc := cX4_period) (maxL := 2) (ret := (some .int)) hA hfl (by decide) rfl (Nat.le_of_ble_eq_true rfl) ?_
  intro X hXl S hAX hX
  subst hXl
  show J X 2 (Wd Z σ) 0 [some (.ref (Z.ad 0)), some (.int x)] []
  refine j_aload_n S dX4_period_0 rfl ?_
  refine j_iload_n S dX4_period_1 rfl ?_
  exact x_passV S hX (n := 1) (rest := []) (x_X4_programAt_b X.l Z X.A hAX hfl σ x hb) ⟨_, _, _, _, rfl, gX4_period_X4_programAt, rfl, rfl, (by decide +kernel), ⟨(Nat.le_of_ble_eq_true rfl), (Nat.le_of_ble_eq_true rfl)⟩⟩ rd_loom rfl rfl (Nat.le_of_ble_eq_true rfl) rfl dX4_period_2 (Nat.le_of_ble_eq_true rfl) (Nat.le_of_ble_eq_true rfl)

set_option maxRecDepth 100000 in
set_option maxHeartbeats 4000000 in
theorem x_X4_tie_b (l : Launch) (Z : Zx) (A : Nat → Prop) (hA : AdOk Z A) (hfl : l.stackTraces = false) (σ : St) (x : Int32) (hb : ¬ (0 ≤ x ∧ x ≤ 7)) (y : Int32) : Kx l Z A yX4_tie wsX4_tie { frames := 7, cells := 1, slots := 6, locals := 110 } (Wd Z σ) [.ref (Z.ad 0), .int x, .int y] sIO := by
  refine Kx.of (cc := cX4_tie) (maxL := 4) (ret := (some .int)) hA hfl (by decide) rfl (Nat.le_of_ble_eq_true rfl) ?_
  intro X hXl S hAX hX
  subst hXl
  show J X 4 (Wd Z σ) 0 [some (.ref (Z.ad 0)), some (.int x), some (.int y), none] []
  refine j_iload_n S dX4_tie_0 rfl ?_
  exact x_passS S hX (n := 1) (rest := []) (x_X4_checkTreadle_b X.l Z X.A hAX hfl σ x hb) ⟨_, _, _, _, rfl, gX4_tie_X4_checkTreadle, rfl, rfl, (by decide +kernel), ⟨(Nat.le_of_ble_eq_true rfl), (Nat.le_of_ble_eq_true rfl)⟩⟩ rfl (Nat.le_of_ble_eq_true rfl) rfl dX4_tie_1 (Nat.le_of_ble_eq_true rfl) (Nat.le_of_ble_eq_true rfl)

set_option maxRecDepth 100000 in
set_option maxHeartbeats 4000000 in
theorem x_X4_tied_b (l : Launch) (Z : Zx) (A : Nat → Prop) (hA : AdOk Z A) (hfl : l.stackTraces = false) (σ : St) (x : Int32) (hb : ¬ (0 ≤ x ∧ x ≤ 7)) : Kx l Z A yX4_tied wsX4_tied { frames := 7, cells := 1, slots := 6, locals := 110 } (Wd Z σ) [.ref (Z.ad 0), .int x] sIO := by
  refine Kx.of (cc := cX4_tied) (maxL := 2) (ret := (some .int)) hA hfl (by decide) rfl (Nat.le_of_ble_eq_true rfl) ?_
  intro X hXl S hAX hX
  subst hXl
  show J X 2 (Wd Z σ) 0 [some (.ref (Z.ad 0)), some (.int x)] []
  refine j_iload_n S dX4_tied_0 rfl ?_
  exact x_passS S hX (n := 1) (rest := []) (x_X4_checkTreadle_b X.l Z X.A hAX hfl σ x hb) ⟨_, _, _, _, rfl, gX4_tied_X4_checkTreadle, rfl, rfl, (by decide +kernel), ⟨(Nat.le_of_ble_eq_true rfl), (Nat.le_of_ble_eq_true rfl)⟩⟩ rfl (Nat.le_of_ble_eq_true rfl) rfl dX4_tied_1 (Nat.le_of_ble_eq_true rfl) (Nat.le_of_ble_eq_true rfl)

set_option maxRecDepth 100000 in
set_option maxHeartbeats 4000000 in
theorem x_X4_weaveTrialWith_b (l : Launch) (Z : Zx) (A : Nat → Prop) (hA : AdOk Z A) (hfl : l.stackTraces = false) (σ : St) (x : Int32) (hb : ¬ (0 ≤ x ∧ x ≤ 7)) (y : Int32) : Kx l Z A yX4_weaveTrialWith wsX4_weaveTrialWith { frames := 7, cells := 1, slots := 6, locals := 110 } (Wd Z σ) [.ref (Z.ad 0), .int x, .int y] sIO := by
  refine Kx.of (cc := cX4_weaveTrialWith) (maxL := 3) (ret := none) hA hfl (by decide) rfl (Nat.le_of_ble_eq_true rfl) ?_
  intro X hXl S hAX hX
  subst hXl
  show J X 3 (Wd Z σ) 0 [some (.ref (Z.ad 0)), some (.int x), some (.int y)] []
  refine j_iload_n S dX4_weaveTrialWith_0 rfl ?_
  exact x_passS S hX (n := 1) (rest := []) (x_X4_checkTreadle_b X.l Z X.A hAX hfl σ x hb) ⟨_, _, _, _, rfl, gX4_weaveTrialWith_X4_checkTreadle, rfl, rfl, (by decide +kernel), ⟨(Nat.le_of_ble_eq_true rfl), (Nat.le_of_ble_eq_true rfl)⟩⟩ rfl (Nat.le_of_ble_eq_true rfl) rfl dX4_weaveTrialWith_1 (Nat.le_of_ble_eq_true rfl) (Nat.le_of_ble_eq_true rfl)

set_option maxRecDepth 100000 in
set_option maxHeartbeats 4000000 in
theorem x_X4_swap_b (l : Launch) (Z : Zx) (A : Nat → Prop) (hA : AdOk Z A) (hfl : l.stackTraces = false) (σ : St) (x : Int32) (hb : ¬ (0 ≤ x ∧ x ≤ 7)) (y : Int32) : Kx l Z A yX4_swap wsX4_swap { frames := 7, cells := 1, slots := 6, locals := 110 } (Wd Z σ) [.ref (Z.ad 0), .int x, .int y] sIO := by
  refine Kx.of (cc := cX4_swap) (maxL := 3) (ret := (some .int)) hA hfl (by decide) rfl (Nat.le_of_ble_eq_true rfl) ?_
  intro X hXl S hAX hX
  subst hXl
  show J X 3 (Wd Z σ) 0 [some (.ref (Z.ad 0)), some (.int x), some (.int y)] []
  refine j_iload_n S dX4_swap_0 rfl ?_
  exact x_passS S hX (n := 1) (rest := []) (x_X4_checkShaft_b X.l Z X.A hAX hfl σ x hb) ⟨_, _, _, _, rfl, gX4_swap_X4_checkShaft, rfl, rfl, (by decide +kernel), ⟨(Nat.le_of_ble_eq_true rfl), (Nat.le_of_ble_eq_true rfl)⟩⟩ rfl (Nat.le_of_ble_eq_true rfl) rfl dX4_swap_1 (Nat.le_of_ble_eq_true rfl) (Nat.le_of_ble_eq_true rfl)

set_option maxRecDepth 100000 in
set_option maxHeartbeats 4000000 in
theorem x_X4_changedBy_b (l : Launch) (Z : Zx) (A : Nat → Prop) (hA : AdOk Z A) (hfl : l.stackTraces = false) (σ : St) (x : Int32) (hb : ¬ (0 ≤ x ∧ x ≤ 7)) (y : Int32) : Kx l Z A yX4_changedBy wsX4_changedBy { frames := 7, cells := 1, slots := 6, locals := 110 } (Wd Z σ) [.ref (Z.ad 0), .int x, .int y] sIO := by
  refine Kx.of (cc := cX4_changedBy) (maxL := 5) (ret := (some .int)) hA hfl (by decide) rfl (Nat.le_of_ble_eq_true rfl) ?_
  intro X hXl S hAX hX
  subst hXl
  show J X 5 (Wd Z σ) 0 [some (.ref (Z.ad 0)), some (.int x), some (.int y), none, none] []
  refine j_iload_n S dX4_changedBy_0 rfl ?_
  exact x_passS S hX (n := 1) (rest := []) (x_X4_checkShaft_b X.l Z X.A hAX hfl σ x hb) ⟨_, _, _, _, rfl, gX4_changedBy_X4_checkShaft, rfl, rfl, (by decide +kernel), ⟨(Nat.le_of_ble_eq_true rfl), (Nat.le_of_ble_eq_true rfl)⟩⟩ rfl (Nat.le_of_ble_eq_true rfl) rfl dX4_changedBy_1 (Nat.le_of_ble_eq_true rfl) (Nat.le_of_ble_eq_true rfl)

set_option maxRecDepth 100000 in
set_option maxHeartbeats 4000000 in
theorem x_X4_swap_c (l : Launch) (Z : Zx) (A : Nat → Prop) (hA : AdOk Z A) (hfl : l.stackTraces = false) (σ : St) (k : Nat) (hk : k < 8) (x : Int32) (hb : ¬ (0 ≤ x ∧ x ≤ 7)) : Kx l Z A yX4_swap wsX4_swap { frames := 7, cells := 1, slots := 6, locals := 110 } (Wd Z σ) [.ref (Z.ad 0), .int (nI k), .int x] sIO := by
  refine Kx.of (cc := cX4_swap) (maxL := 3) (ret := (some .int)) hA hfl (by decide) rfl (Nat.le_of_ble_eq_true rfl) ?_
  intro X hXl S hAX hX
  subst hXl
  show J X 3 (Wd Z σ) 0 [some (.ref (Z.ad 0)), some (.int (nI k)), some (.int x)] []
  refine j_iload_n S dX4_swap_0 rfl ?_
  refine j_cSv S (n := 1) (rest := []) (k_X4_checkShaft X.l Z X.A hAX σ k hk) ⟨_, _, _, _, rfl, gX4_swap_X4_checkShaft, rfl, rfl, by decide +kernel, ⟨Nat.le_of_ble_eq_true rfl, Nat.le_of_ble_eq_true rfl⟩⟩ rfl (Nat.le_of_ble_eq_true rfl) rfl dX4_swap_1 ?_
  refine j_iload_n S dX4_swap_4 rfl ?_
  exact x_passS S hX (n := 1) (rest := []) (x_X4_checkShaft_b X.l Z X.A hAX hfl σ x hb) ⟨_, _, _, _, rfl, gX4_swap_X4_checkShaft, rfl, rfl, (by decide +kernel), ⟨(Nat.le_of_ble_eq_true rfl), (Nat.le_of_ble_eq_true rfl)⟩⟩ rfl (Nat.le_of_ble_eq_true rfl) rfl dX4_swap_5 (Nat.le_of_ble_eq_true rfl) (Nat.le_of_ble_eq_true rfl)

set_option maxRecDepth 100000 in
set_option maxHeartbeats 4000000 in
theorem x_X4_changedBy_c (l : Launch) (Z : Zx) (A : Nat → Prop) (hA : AdOk Z A) (hfl : l.stackTraces = false) (σ : St) (k : Nat) (hk : k < 8) (x : Int32) (hb : ¬ (0 ≤ x ∧ x ≤ 7)) : Kx l Z A yX4_changedBy wsX4_changedBy { frames := 7, cells := 1, slots := 6, locals := 110 } (Wd Z σ) [.ref (Z.ad 0), .int (nI k), .int x] sIO := by
  refine Kx.of (cc := cX4_changedBy) (maxL := 5) (ret := (some .int)) hA hfl (by decide) rfl (Nat.le_of_ble_eq_true rfl) ?_
  intro X hXl S hAX hX
  subst hXl
  show J X 5 (Wd Z σ) 0 [some (.ref (Z.ad 0)), some (.int (nI k)), some (.int x), none, none] []
  refine j_iload_n S dX4_changedBy_0 rfl ?_
  refine j_cSv S (n := 1) (rest := []) (k_X4_checkShaft X.l Z X.A hAX σ k hk) ⟨_, _, _, _, rfl, gX4_changedBy_X4_checkShaft, rfl, rfl, by decide +kernel, ⟨Nat.le_of_ble_eq_true rfl, Nat.le_of_ble_eq_true rfl⟩⟩ rfl (Nat.le_of_ble_eq_true rfl) rfl dX4_changedBy_1 ?_
  refine j_iload_n S dX4_changedBy_4 rfl ?_
  exact x_passS S hX (n := 1) (rest := []) (x_X4_checkShaft_b X.l Z X.A hAX hfl σ x hb) ⟨_, _, _, _, rfl, gX4_changedBy_X4_checkShaft, rfl, rfl, (by decide +kernel), ⟨(Nat.le_of_ble_eq_true rfl), (Nat.le_of_ble_eq_true rfl)⟩⟩ rfl (Nat.le_of_ble_eq_true rfl) rfl dX4_changedBy_5 (Nat.le_of_ble_eq_true rfl) (Nat.le_of_ble_eq_true rfl)

set_option maxRecDepth 100000 in
set_option maxHeartbeats 4000000 in
theorem x_X4_weaveTrialWith_c (l : Launch) (Z : Zx) (A : Nat → Prop) (hA : AdOk Z A) (hfl : l.stackTraces = false) (σ : St) (k : Nat) (hk : k < 8) (x : Int32) (hb : ¬ (0 ≤ x ∧ x ≤ 7)) : Kx l Z A yX4_weaveTrialWith wsX4_weaveTrialWith { frames := 7, cells := 1, slots := 6, locals := 110 } (Wd Z σ) [.ref (Z.ad 0), .int (nI k), .int x] sIO := by
  refine Kx.of (cc := cX4_weaveTrialWith) (maxL := 3) (ret := none) hA hfl (by decide) rfl (Nat.le_of_ble_eq_true rfl) ?_
  intro X hXl S hAX hX
  subst hXl
  show J X 3 (Wd Z σ) 0 [some (.ref (Z.ad 0)), some (.int (nI k)), some (.int x)] []
  refine j_iload_n S dX4_weaveTrialWith_0 rfl ?_
  refine j_cSv S (n := 1) (rest := []) (k_X4_checkTreadle X.l Z X.A hAX σ k hk) ⟨_, _, _, _, rfl, gX4_weaveTrialWith_X4_checkTreadle, rfl, rfl, by decide +kernel, ⟨Nat.le_of_ble_eq_true rfl, Nat.le_of_ble_eq_true rfl⟩⟩ rfl (Nat.le_of_ble_eq_true rfl) rfl dX4_weaveTrialWith_1 ?_
  refine j_iload_n S dX4_weaveTrialWith_4 rfl ?_
  exact x_passS S hX (n := 1) (rest := []) (x_X4_checkShaft_b X.l Z X.A hAX hfl σ x hb) ⟨_, _, _, _, rfl, gX4_weaveTrialWith_X4_checkShaft, rfl, rfl, (by decide +kernel), ⟨(Nat.le_of_ble_eq_true rfl), (Nat.le_of_ble_eq_true rfl)⟩⟩ rfl (Nat.le_of_ble_eq_true rfl) rfl dX4_weaveTrialWith_5 (Nat.le_of_ble_eq_true rfl) (Nat.le_of_ble_eq_true rfl)

set_option maxRecDepth 100000 in
set_option maxHeartbeats 4000000 in
theorem x_X4_floatWith_b (l : Launch) (Z : Zx) (A : Nat → Prop) (hA : AdOk Z A) (hfl : l.stackTraces = false) (σ : St) (x : Int32) (hb : ¬ (0 ≤ x ∧ x ≤ 7)) (y : Int32) : Kx l Z A yX4_floatWith wsX4_floatWith { frames := 8, cells := 1, slots := 6, locals := 132 } (Wd Z σ) [.ref (Z.ad 0), .int x, .int y] sIO := by
  refine Kx.of (cc := cX4_floatWith) (maxL := 3) (ret := (some .int)) hA hfl (by decide) rfl (Nat.le_of_ble_eq_true rfl) ?_
  intro X hXl S hAX hX
  subst hXl
  show J X 3 (Wd Z σ) 0 [some (.ref (Z.ad 0)), some (.int x), some (.int y)] []
  refine j_aload_n S dX4_floatWith_0 rfl ?_
  refine j_iload_n S dX4_floatWith_1 rfl ?_
  refine j_iload_n S dX4_floatWith_2 rfl ?_
  exact x_passV S hX (n := 2) (rest := []) (x_X4_weaveTrialWith_b X.l Z X.A hAX hfl σ x hb y) ⟨_, _, _, _, rfl, gX4_floatWith_X4_weaveTrialWith, rfl, rfl, (by decide +kernel), ⟨(Nat.le_of_ble_eq_true rfl), (Nat.le_of_ble_eq_true rfl)⟩⟩ rd_loom rfl rfl (Nat.le_of_ble_eq_true rfl) rfl dX4_floatWith_3 (Nat.le_of_ble_eq_true rfl) (Nat.le_of_ble_eq_true rfl)

set_option maxRecDepth 100000 in
set_option maxHeartbeats 4000000 in
theorem x_X4_floatWith_c (l : Launch) (Z : Zx) (A : Nat → Prop) (hA : AdOk Z A) (hfl : l.stackTraces = false) (σ : St) (k : Nat) (hk : k < 8) (x : Int32) (hb : ¬ (0 ≤ x ∧ x ≤ 7)) : Kx l Z A yX4_floatWith wsX4_floatWith { frames := 8, cells := 1, slots := 6, locals := 132 } (Wd Z σ) [.ref (Z.ad 0), .int (nI k), .int x] sIO := by
  refine Kx.of (cc := cX4_floatWith) (maxL := 3) (ret := (some .int)) hA hfl (by decide) rfl (Nat.le_of_ble_eq_true rfl) ?_
  intro X hXl S hAX hX
  subst hXl
  show J X 3 (Wd Z σ) 0 [some (.ref (Z.ad 0)), some (.int (nI k)), some (.int x)] []
  refine j_aload_n S dX4_floatWith_0 rfl ?_
  refine j_iload_n S dX4_floatWith_1 rfl ?_
  refine j_iload_n S dX4_floatWith_2 rfl ?_
  exact x_passV S hX (n := 2) (rest := []) (x_X4_weaveTrialWith_c X.l Z X.A hAX hfl σ k hk x hb) ⟨_, _, _, _, rfl, gX4_floatWith_X4_weaveTrialWith, rfl, rfl, (by decide +kernel), ⟨(Nat.le_of_ble_eq_true rfl), (Nat.le_of_ble_eq_true rfl)⟩⟩ rd_loom rfl rfl (Nat.le_of_ble_eq_true rfl) rfl dX4_floatWith_3 (Nat.le_of_ble_eq_true rfl) (Nat.le_of_ble_eq_true rfl)

set_option maxRecDepth 100000 in
set_option maxHeartbeats 4000000 in
theorem x_X4_hangsWith_b (l : Launch) (Z : Zx) (A : Nat → Prop) (hA : AdOk Z A) (hfl : l.stackTraces = false) (σ : St) (x : Int32) (hb : ¬ (0 ≤ x ∧ x ≤ 7)) (y : Int32) : Kx l Z A yX4_hangsWith wsX4_hangsWith { frames := 8, cells := 1, slots := 6, locals := 132 } (Wd Z σ) [.ref (Z.ad 0), .int x, .int y] sIO := by
  refine Kx.of (cc := cX4_hangsWith) (maxL := 3) (ret := (some .boolean)) hA hfl (by decide) rfl (Nat.le_of_ble_eq_true rfl) ?_
  intro X hXl S hAX hX
  subst hXl
  show J X 3 (Wd Z σ) 0 [some (.ref (Z.ad 0)), some (.int x), some (.int y)] []
  refine j_aload_n S dX4_hangsWith_0 rfl ?_
  refine j_iload_n S dX4_hangsWith_1 rfl ?_
  refine j_iload_n S dX4_hangsWith_2 rfl ?_
  exact x_passV S hX (n := 2) (rest := []) (x_X4_weaveTrialWith_b X.l Z X.A hAX hfl σ x hb y) ⟨_, _, _, _, rfl, gX4_hangsWith_X4_weaveTrialWith, rfl, rfl, (by decide +kernel), ⟨(Nat.le_of_ble_eq_true rfl), (Nat.le_of_ble_eq_true rfl)⟩⟩ rd_loom rfl rfl (Nat.le_of_ble_eq_true rfl) rfl dX4_hangsWith_3 (Nat.le_of_ble_eq_true rfl) (Nat.le_of_ble_eq_true rfl)

set_option maxRecDepth 100000 in
set_option maxHeartbeats 4000000 in
theorem x_X4_hangsWith_c (l : Launch) (Z : Zx) (A : Nat → Prop) (hA : AdOk Z A) (hfl : l.stackTraces = false) (σ : St) (k : Nat) (hk : k < 8) (x : Int32) (hb : ¬ (0 ≤ x ∧ x ≤ 7)) : Kx l Z A yX4_hangsWith wsX4_hangsWith { frames := 8, cells := 1, slots := 6, locals := 132 } (Wd Z σ) [.ref (Z.ad 0), .int (nI k), .int x] sIO := by
  refine Kx.of (cc := cX4_hangsWith) (maxL := 3) (ret := (some .boolean)) hA hfl (by decide) rfl (Nat.le_of_ble_eq_true rfl) ?_
  intro X hXl S hAX hX
  subst hXl
  show J X 3 (Wd Z σ) 0 [some (.ref (Z.ad 0)), some (.int (nI k)), some (.int x)] []
  refine j_aload_n S dX4_hangsWith_0 rfl ?_
  refine j_iload_n S dX4_hangsWith_1 rfl ?_
  refine j_iload_n S dX4_hangsWith_2 rfl ?_
  exact x_passV S hX (n := 2) (rest := []) (x_X4_weaveTrialWith_c X.l Z X.A hAX hfl σ k hk x hb) ⟨_, _, _, _, rfl, gX4_hangsWith_X4_weaveTrialWith, rfl, rfl, (by decide +kernel), ⟨(Nat.le_of_ble_eq_true rfl), (Nat.le_of_ble_eq_true rfl)⟩⟩ rd_loom rfl rfl (Nat.le_of_ble_eq_true rfl) rfl dX4_hangsWith_3 (Nat.le_of_ble_eq_true rfl) (Nat.le_of_ble_eq_true rfl)

set_option maxRecDepth 100000 in
set_option maxHeartbeats 4000000 in
theorem x_X4_floats_b (l : Launch) (Z : Zx) (A : Nat → Prop) (hA : AdOk Z A) (hfl : l.stackTraces = false) (σ : St) (x : Int32) (hb : ¬ (1 ≤ x ∧ x ≤ 32)) : Kx l Z A yX4_floats wsX4_floats { frames := 7, cells := 1, slots := 6, locals := 110 } (Wd Z σ) [.ref (Z.ad 0), .int x] sIA := by
  refine Kx.of (cc := cX4_floats) (maxL := 2) (ret := (some .int)) hA hfl (by decide) rfl (Nat.le_of_ble_eq_true rfl) ?_
  intro X hXl S hAX hX
  subst hXl
  show J X 2 (Wd Z σ) 0 [some (.ref (Z.ad 0)), some (.int x)] []
  refine j_iload_n S dX4_floats_0 rfl ?_
  exact x_passS S hX (n := 1) (rest := []) (x_X4_checkLength_b X.l Z X.A hAX hfl σ x hb) ⟨_, _, _, _, rfl, gX4_floats_X4_checkLength, rfl, rfl, (by decide +kernel), ⟨(Nat.le_of_ble_eq_true rfl), (Nat.le_of_ble_eq_true rfl)⟩⟩ rfl (Nat.le_of_ble_eq_true rfl) rfl dX4_floats_1 (Nat.le_of_ble_eq_true rfl) (Nat.le_of_ble_eq_true rfl)

set_option maxRecDepth 100000 in
set_option maxHeartbeats 4000000 in
theorem x_X4_where_b (l : Launch) (Z : Zx) (A : Nat → Prop) (hA : AdOk Z A) (hfl : l.stackTraces = false) (σ : St) (x : Int32) (hb : ¬ (1 ≤ x ∧ x ≤ 32)) (y : Int32) : Kx l Z A yX4_where wsX4_where { frames := 7, cells := 1, slots := 6, locals := 110 } (Wd Z σ) [.ref (Z.ad 0), .int x, .int y] sIA := by
  refine Kx.of (cc := cX4_where) (maxL := 6) (ret := (some .int)) hA hfl (by decide) rfl (Nat.le_of_ble_eq_true rfl) ?_
  intro X hXl S hAX hX
  subst hXl
  show J X 6 (Wd Z σ) 0 [some (.ref (Z.ad 0)), some (.int x), some (.int y), none, none, none] []
  refine j_iload_n S dX4_where_0 rfl ?_
  exact x_passS S hX (n := 1) (rest := []) (x_X4_checkLength_b X.l Z X.A hAX hfl σ x hb) ⟨_, _, _, _, rfl, gX4_where_X4_checkLength, rfl, rfl, (by decide +kernel), ⟨(Nat.le_of_ble_eq_true rfl), (Nat.le_of_ble_eq_true rfl)⟩⟩ rfl (Nat.le_of_ble_eq_true rfl) rfl dX4_where_1 (Nat.le_of_ble_eq_true rfl) (Nat.le_of_ble_eq_true rfl)

set_option maxRecDepth 100000 in
set_option maxHeartbeats 4000000 in
theorem x_X4_field (l : Launch) (Z : Zx) (A : Nat → Prop) (hA : AdOk Z A) (hfl : l.stackTraces = false) (σ : St) (hC : Cons σ tok0 ties0) (x y z : Int32) : Kx l Z A yX4_field wsX4_field { frames := 7, cells := 1, slots := 6, locals := 111 } (Wd Z σ) [.ref (Z.ad 0), .int x, .int y, .int z] sIO := by
  refine Kx.of (cc := cX4_field) (maxL := 4) (ret := (some .int)) hA hfl (by decide) rfl (Nat.le_of_ble_eq_true rfl) ?_
  intro X hXl S hAX hX
  subst hXl
  show J X 4 (Wd Z σ) 0 [some (.ref (Z.ad 0)), some (.int x), some (.int y), some (.int z)] []
  refine j_aload_n S dX4_field_0 rfl ?_
  refine j_iload_n S dX4_field_1 rfl ?_
  exact x_passV S hX (n := 1) (rest := []) (x_X4_checkEnd_b X.l Z X.A hAX hfl σ hC x) ⟨_, _, _, _, rfl, gX4_field_X4_checkEnd, rfl, rfl, (by decide +kernel), ⟨(Nat.le_of_ble_eq_true rfl), (Nat.le_of_ble_eq_true rfl)⟩⟩ rd_loom rfl rfl (Nat.le_of_ble_eq_true rfl) rfl dX4_field_2 (Nat.le_of_ble_eq_true rfl) (Nat.le_of_ble_eq_true rfl)

set_option maxRecDepth 100000 in
set_option maxHeartbeats 4000000 in
theorem x_X4_ups (l : Launch) (Z : Zx) (A : Nat → Prop) (hA : AdOk Z A) (hfl : l.stackTraces = false) (σ : St) (hC : Cons σ tok0 ties0) (x y : Int32) : Kx l Z A yX4_ups wsX4_ups { frames := 7, cells := 1, slots := 6, locals := 111 } (Wd Z σ) [.ref (Z.ad 0), .int x, .int y] sIO := by
  refine Kx.of (cc := cX4_ups) (maxL := 3) (ret := (some .int)) hA hfl (by decide) rfl (Nat.le_of_ble_eq_true rfl) ?_
  intro X hXl S hAX hX
  subst hXl
  show J X 3 (Wd Z σ) 0 [some (.ref (Z.ad 0)), some (.int x), some (.int y)] []
  refine j_iload_n S dX4_ups_0 rfl ?_
  refine j_if_eq S 24 dX4_ups_1 (by decide) (fun h => ?_) (fun h => ?_)
  · skip
    refine j_aload_n S dX4_ups_24 rfl ?_
    refine j_iload_n S dX4_ups_25 rfl ?_
    exact x_passV S hX (n := 1) (rest := []) (x_X4_checkPick_b X.l Z X.A hAX hfl σ hC x) ⟨_, _, _, _, rfl, gX4_ups_X4_checkPick, rfl, rfl, (by decide +kernel), ⟨(Nat.le_of_ble_eq_true rfl), (Nat.le_of_ble_eq_true rfl)⟩⟩ rd_loom rfl rfl (Nat.le_of_ble_eq_true rfl) rfl dX4_ups_26 (Nat.le_of_ble_eq_true rfl) (Nat.le_of_ble_eq_true rfl)
  · skip
    refine j_aload_n S dX4_ups_4 rfl ?_
    refine j_iload_n S dX4_ups_5 rfl ?_
    exact x_passV S hX (n := 1) (rest := []) (x_X4_checkEnd_b X.l Z X.A hAX hfl σ hC x) ⟨_, _, _, _, rfl, gX4_ups_X4_checkEnd, rfl, rfl, (by decide +kernel), ⟨(Nat.le_of_ble_eq_true rfl), (Nat.le_of_ble_eq_true rfl)⟩⟩ rd_loom rfl rfl (Nat.le_of_ble_eq_true rfl) rfl dX4_ups_6 (Nat.le_of_ble_eq_true rfl) (Nat.le_of_ble_eq_true rfl)

set_option maxRecDepth 100000 in
set_option maxHeartbeats 4000000 in
theorem x_X4_seen_b (l : Launch) (Z : Zx) (A : Nat → Prop) (hA : AdOk Z A) (hfl : l.stackTraces = false) (σ : St) (x : Int32) (hb : ¬ (0 ≤ x ∧ x ≤ 7)) : Kx l Z A yX4_seen wsX4_seen { frames := 6, cells := 1, slots := 6, locals := 90 } (Wd Z σ) [.ref (Z.ad 0), .int x] sIA := by
  refine Kx.of (cc := cX4_seen) (maxL := 5) (ret := (some .int)) hA hfl (by decide) rfl (Nat.le_of_ble_eq_true rfl) ?_
  intro X hXl S hAX hX
  subst hXl
  show J X 5 (Wd Z σ) 0 [some (.ref (Z.ad 0)), some (.int x), none, none, none] []
  refine j_iload_n S dX4_seen_0 rfl ?_
  refine j_if_lt S 10 dX4_seen_1 (by decide) (fun h => ?_) (fun h => ?_)
  · skip
    exact x_throw S hX hX.1.2.2.2.2 (by decide) (ik := 70) (is := 219) (ic := 74) (text := "colour is not 0 to 7") (by decide +kernel) (by decide +kernel) (by decide) (by decide +kernel) (by decide +kernel) (by decide +kernel) dX4_seen_10 dX4_seen_13 dX4_seen_14 dX4_seen_16 dX4_seen_19 (Nat.le_of_ble_eq_true rfl) (Nat.le_of_ble_eq_true rfl) (Nat.le_of_ble_eq_true rfl) (Nat.le_of_ble_eq_true rfl)
  · skip
    refine j_iload_n S dX4_seen_4 rfl ?_
    refine j_bipush S 8 dX4_seen_5 (by decide) ?_
    refine j_icmp_lt S 20 dX4_seen_7 (by decide) (fun h9 => absurd h9 (fun h9 => hb ⟨Int32.not_lt.mp h, lt_le (by decide) h9⟩)) (fun _ => ?_)
    exact x_throw S hX hX.1.2.2.2.2 (by decide) (ik := 70) (is := 219) (ic := 74) (text := "colour is not 0 to 7") (by decide +kernel) (by decide +kernel) (by decide) (by decide +kernel) (by decide +kernel) (by decide +kernel) dX4_seen_10 dX4_seen_13 dX4_seen_14 dX4_seen_16 dX4_seen_19 (Nat.le_of_ble_eq_true rfl) (Nat.le_of_ble_eq_true rfl) (Nat.le_of_ble_eq_true rfl) (Nat.le_of_ble_eq_true rfl)

set_option maxRecDepth 100000 in
set_option maxHeartbeats 4000000 in
theorem x_X4_untoken_t (l : Launch) (Z : Zx) (A : Nat → Prop) (hA : AdOk Z A) (hfl : l.stackTraces = false) (σ : St) (k : Nat) (hk : k < 10) (x : Int32) (hb : ¬ (1 ≤ x ∧ x ≤ 40)) : Kx l Z A yX4_untoken wsX4_untoken { frames := 6, cells := 1, slots := 6, locals := 90 } (Wd Z σ) [.ref (Z.ad 0), .int (nI k), .int x] sIA := by
  refine Kx.of (cc := cX4_untoken) (maxL := 4) (ret := (some .int)) hA hfl (by decide) rfl (Nat.le_of_ble_eq_true rfl) ?_
  intro X hXl S hAX hX
  subst hXl
  show J X 4 (Wd Z σ) 0 [some (.ref (Z.ad 0)), some (.int (nI k)), some (.int x), none] []
  refine j_aload_n S dX4_untoken_0 rfl ?_
  refine j_iload_n S dX4_untoken_1 rfl ?_
  refine j_cVr S (n := 1) (rest := []) (k_X4_programAt X.l Z X.A hAX σ k hk) ⟨_, _, _, _, rfl, gX4_untoken_X4_programAt, rfl, rfl, by decide +kernel, ⟨Nat.le_of_ble_eq_true rfl, Nat.le_of_ble_eq_true rfl⟩⟩ rd_loom rfl rfl (Nat.le_of_ble_eq_true rfl) rfl dX4_untoken_2 ?_
  refine j_astore_n S [some (.ref (Z.ad 0)), some (.int (nI k)), some (.int x), some (.ref (Z.ad (po k)))] dX4_untoken_5 (by decide) rfl rfl ?_
  refine j_iload_n S dX4_untoken_6 rfl ?_
  refine j_iconst S 1 dX4_untoken_7 (by decide) ?_
  refine j_icmp_lt S 17 dX4_untoken_8 (by decide) (fun h => ?_) (fun h => ?_)
  · skip
    exact x_throw S hX hX.1.2.2.2.2 (by decide) (ik := 70) (is := 72) (ic := 74) (text := "many is not 1 to 40") (by decide +kernel) (by decide +kernel) (by decide) (by decide +kernel) (by decide +kernel) (by decide +kernel) dX4_untoken_17 dX4_untoken_20 dX4_untoken_21 dX4_untoken_23 dX4_untoken_26 (Nat.le_of_ble_eq_true rfl) (Nat.le_of_ble_eq_true rfl) (Nat.le_of_ble_eq_true rfl) (Nat.le_of_ble_eq_true rfl)
  · skip
    refine j_iload_n S dX4_untoken_11 rfl ?_
    refine j_bipush S 40 dX4_untoken_12 (by decide) ?_
    refine j_icmp_le S 27 dX4_untoken_14 (by decide) (fun h9 => absurd h9 (fun h9 => hb ⟨Int32.not_lt.mp h, h9⟩)) (fun _ => ?_)
    exact x_throw S hX hX.1.2.2.2.2 (by decide) (ik := 70) (is := 72) (ic := 74) (text := "many is not 1 to 40") (by decide +kernel) (by decide +kernel) (by decide) (by decide +kernel) (by decide +kernel) (by decide +kernel) dX4_untoken_17 dX4_untoken_20 dX4_untoken_21 dX4_untoken_23 dX4_untoken_26 (Nat.le_of_ble_eq_true rfl) (Nat.le_of_ble_eq_true rfl) (Nat.le_of_ble_eq_true rfl) (Nat.le_of_ble_eq_true rfl)

set_option maxRecDepth 100000 in
set_option maxHeartbeats 4000000 in
theorem x_X4_number (l : Launch) (Z : Zx) (A : Nat → Prop) (hA : AdOk Z A) (hfl : l.stackTraces = false) (σ : St) (hC : Cons σ tok0 ties0) (k : Nat) (hk : k < 10) (x : Int32) : Kx l Z A yX4_number wsX4_number { frames := 6, cells := 1, slots := 6, locals := 90 } (Wd Z σ) [.ref (Z.ad 0), .int (nI k), .int x] sIO := by
  refine Kx.of (cc := cX4_number) (maxL := 4) (ret := (some .int)) hA hfl (by decide) rfl (Nat.le_of_ble_eq_true rfl) ?_
  intro X hXl S hAX hX
  subst hXl
  show J X 4 (Wd Z σ) 0 [some (.ref (Z.ad 0)), some (.int (nI k)), some (.int x), none] []
  refine j_aload_n S dX4_number_0 rfl ?_
  refine j_iload_n S dX4_number_1 rfl ?_
  refine j_cVr S (n := 1) (rest := []) (k_X4_programAt X.l Z X.A hAX σ k hk) ⟨_, _, _, _, rfl, gX4_number_X4_programAt, rfl, rfl, by decide +kernel, ⟨Nat.le_of_ble_eq_true rfl, Nat.le_of_ble_eq_true rfl⟩⟩ rd_loom rfl rfl (Nat.le_of_ble_eq_true rfl) rfl dX4_number_2 ?_
  refine j_getN S (C := RX2) (T := TX2) (N := 4) (by decide +kernel) (rd_prog (by omega)) rfl (v := .ref (Z.ad (ro (9 + 2 * k)))) 1 (by decide) 4 rfl rfl rfl dX4_number_5 ?_
  refine j_astore_n S [some (.ref (Z.ad 0)), some (.int (nI k)), some (.int x), some (.ref (Z.ad (ro (9 + 2 * k))))] dX4_number_8 (by decide) rfl rfl ?_
  refine j_iload_n S dX4_number_9 rfl ?_
  refine j_if_lt S 21 dX4_number_10 (by decide) (fun h => ?_) (fun h => ?_)
  · skip
    exact x_throw S hX hX.1.2.2.2.1 (by decide) (ik := 91) (is := 93) (ic := 95) (text := "no such place") (by decide +kernel) (by decide +kernel) (by decide) (by decide +kernel) (by decide +kernel) (by decide +kernel) dX4_number_21 dX4_number_24 dX4_number_25 dX4_number_27 dX4_number_30 (Nat.le_of_ble_eq_true rfl) (Nat.le_of_ble_eq_true rfl) (Nat.le_of_ble_eq_true rfl) (Nat.le_of_ble_eq_true rfl)
  · skip
    refine j_iload_n S dX4_number_13 rfl ?_
    refine j_aload_n S dX4_number_14 rfl ?_
    refine j_getN S (C := RX3) (T := TX3) (N := 2) (by decide +kernel) (rd_row (by omega)) rfl (v := .int (nI (σ.row (9 + 2 * k)).length)) 1 (by decide) 3 rfl rfl rfl dX4_number_15 ?_
    refine j_icmp_lt S 31 dX4_number_18 (by decide) (fun h9 => absurd h9 (fun h9 => by rw [num_0 hC hk] at h9; exact h h9)) (fun _ => ?_)
    exact x_throw S hX hX.1.2.2.2.1 (by decide) (ik := 91) (is := 93) (ic := 95) (text := "no such place") (by decide +kernel) (by decide +kernel) (by decide) (by decide +kernel) (by decide +kernel) (by decide +kernel) dX4_number_21 dX4_number_24 dX4_number_25 dX4_number_27 dX4_number_30 (Nat.le_of_ble_eq_true rfl) (Nat.le_of_ble_eq_true rfl) (Nat.le_of_ble_eq_true rfl) (Nat.le_of_ble_eq_true rfl)

theorem out_of {x a b : Int32} (h : ¬ (a ≤ x ∧ x ≤ b)) : x.toInt < a.toInt ∨ b.toInt < x.toInt := by
  rw [Int32.le_iff_toInt_le, Int32.le_iff_toInt_le] at h
  omega

set_option maxRecDepth 100000 in
set_option maxHeartbeats 4000000 in
theorem x_X4_cloth_b (l : Launch) (Z : Zx) (A : Nat → Prop) (hA : AdOk Z A) (hfl : l.stackTraces = false) (σ : St) (x : Int32) (hb : ¬ (0 ≤ x ∧ x ≤ 9)) : Kx l Z A yX4_cloth wsX4_cloth { frames := 6, cells := 1, slots := 6, locals := 90 } (Wd Z σ) [.ref (Z.ad 0), .int x] sIA := by
  refine Kx.of (cc := cX4_cloth) (maxL := 2) (ret := (some .int)) hA hfl (by decide) rfl (Nat.le_of_ble_eq_true rfl) ?_
  intro X hXl S hAX hX
  subst hXl
  show J X 2 (Wd Z σ) 0 [some (.ref (Z.ad 0)), some (.int x)] []
  refine j_iload_n S dX4_cloth_0 rfl ?_
  refine j_tableOut S 169 dX4_cloth_1 (out_of (a := 0) (b := 9) hb) (by decide) ?_
  exact x_throw S hX hX.1.2.2.2.2 (by decide) (ik := 70) (is := 178) (ic := 74) (text := "what is not 0 to 9") (by decide +kernel) (by decide +kernel) (by decide) (by decide +kernel) (by decide +kernel) (by decide +kernel) dX4_cloth_169 dX4_cloth_172 dX4_cloth_173 dX4_cloth_175 dX4_cloth_178 (Nat.le_of_ble_eq_true rfl) (Nat.le_of_ble_eq_true rfl) (Nat.le_of_ble_eq_true rfl) (Nat.le_of_ble_eq_true rfl)

set_option maxRecDepth 100000 in
set_option maxHeartbeats 4000000 in
theorem x_X4_ofProgram_t (l : Launch) (Z : Zx) (A : Nat → Prop) (hA : AdOk Z A) (hfl : l.stackTraces = false) (σ : St) (k : Nat) (hk : k < 10) (x : Int32) (hb : ¬ (0 ≤ x ∧ x ≤ 3)) : Kx l Z A yX4_ofProgram wsX4_ofProgram { frames := 6, cells := 1, slots := 6, locals := 90 } (Wd Z σ) [.ref (Z.ad 0), .int (nI k), .int x] sIA := by
  refine Kx.of (cc := cX4_ofProgram) (maxL := 4) (ret := (some .int)) hA hfl (by decide) rfl (Nat.le_of_ble_eq_true rfl) ?_
  intro X hXl S hAX hX
  subst hXl
  show J X 4 (Wd Z σ) 0 [some (.ref (Z.ad 0)), some (.int (nI k)), some (.int x), none] []
  refine j_aload_n S dX4_ofProgram_0 rfl ?_
  refine j_iload_n S dX4_ofProgram_1 rfl ?_
  refine j_cVr S (n := 1) (rest := []) (k_X4_programAt X.l Z X.A hAX σ k hk) ⟨_, _, _, _, rfl, gX4_ofProgram_X4_programAt, rfl, rfl, by decide +kernel, ⟨Nat.le_of_ble_eq_true rfl, Nat.le_of_ble_eq_true rfl⟩⟩ rd_loom rfl rfl (Nat.le_of_ble_eq_true rfl) rfl dX4_ofProgram_2 ?_
  refine j_astore_n S [some (.ref (Z.ad 0)), some (.int (nI k)), some (.int x), some (.ref (Z.ad (po k)))] dX4_ofProgram_5 (by decide) rfl rfl ?_
  refine j_iload_n S dX4_ofProgram_6 rfl ?_
  refine j_tableOut S 62 dX4_ofProgram_7 (out_of (a := 0) (b := 3) hb) (by decide) ?_
  exact x_throw S hX hX.1.2.2.2.2 (by decide) (ik := 70) (is := 89) (ic := 74) (text := "what is not 0 to 3") (by decide +kernel) (by decide +kernel) (by decide) (by decide +kernel) (by decide +kernel) (by decide +kernel) dX4_ofProgram_62 dX4_ofProgram_65 dX4_ofProgram_66 dX4_ofProgram_68 dX4_ofProgram_71 (Nat.le_of_ble_eq_true rfl) (Nat.le_of_ble_eq_true rfl) (Nat.le_of_ble_eq_true rfl) (Nat.le_of_ble_eq_true rfl)

set_option maxRecDepth 100000 in
set_option maxHeartbeats 4000000 in
theorem x_X4_tie_t (l : Launch) (Z : Zx) (A : Nat → Prop) (hA : AdOk Z A) (hfl : l.stackTraces = false) (σ : St) (k : Nat) (hk : k < 8) (x : Int32) (hb : ¬ (0 ≤ x ∧ x ≤ 255)) : Kx l Z A yX4_tie wsX4_tie { frames := 6, cells := 1, slots := 6, locals := 90 } (Wd Z σ) [.ref (Z.ad 0), .int (nI k), .int x] sIA := by
  refine Kx.of (cc := cX4_tie) (maxL := 4) (ret := (some .int)) hA hfl (by decide) rfl (Nat.le_of_ble_eq_true rfl) ?_
  intro X hXl S hAX hX
  subst hXl
  show J X 4 (Wd Z σ) 0 [some (.ref (Z.ad 0)), some (.int (nI k)), some (.int x), none] []
  refine j_iload_n S dX4_tie_0 rfl ?_
  refine j_cSv S (n := 1) (rest := []) (k_X4_checkTreadle X.l Z X.A hAX σ k hk) ⟨_, _, _, _, rfl, gX4_tie_X4_checkTreadle, rfl, rfl, by decide +kernel, ⟨Nat.le_of_ble_eq_true rfl, Nat.le_of_ble_eq_true rfl⟩⟩ rfl (Nat.le_of_ble_eq_true rfl) rfl dX4_tie_1 ?_
  refine j_iload_n S dX4_tie_4 rfl ?_
  refine j_if_lt S 15 dX4_tie_5 (by decide) (fun h => ?_) (fun h => ?_)
  · skip
    exact x_throw S hX hX.1.2.2.2.2 (by decide) (ik := 70) (is := 127) (ic := 74) (text := "shafts is not 0 to 255") (by decide +kernel) (by decide +kernel) (by decide) (by decide +kernel) (by decide +kernel) (by decide +kernel) dX4_tie_15 dX4_tie_18 dX4_tie_19 dX4_tie_21 dX4_tie_24 (Nat.le_of_ble_eq_true rfl) (Nat.le_of_ble_eq_true rfl) (Nat.le_of_ble_eq_true rfl) (Nat.le_of_ble_eq_true rfl)
  · skip
    refine j_iload_n S dX4_tie_8 rfl ?_
    refine j_sipush S 255 dX4_tie_9 (by decide) ?_
    refine j_icmp_le S 25 dX4_tie_12 (by decide) (fun h9 => absurd h9 (fun h9 => hb ⟨Int32.not_lt.mp h, h9⟩)) (fun _ => ?_)
    exact x_throw S hX hX.1.2.2.2.2 (by decide) (ik := 70) (is := 127) (ic := 74) (text := "shafts is not 0 to 255") (by decide +kernel) (by decide +kernel) (by decide) (by decide +kernel) (by decide +kernel) (by decide +kernel) dX4_tie_15 dX4_tie_18 dX4_tie_19 dX4_tie_21 dX4_tie_24 (Nat.le_of_ble_eq_true rfl) (Nat.le_of_ble_eq_true rfl) (Nat.le_of_ble_eq_true rfl) (Nat.le_of_ble_eq_true rfl)

set_option maxRecDepth 100000 in
set_option maxHeartbeats 4000000 in
theorem k_X4_isTokenN (l : Launch) (Z : Zx) (A : Nat → Prop) (hA : AdOk Z A) (σ : St) (x : Int32) (hb : ¬ ((0 ≤ x ∧ x ≤ 7) ∨ x = 10 ∨ x = 11 ∨ (22 ≤ x ∧ x ≤ 33) ∨ 44 ≤ x ∧ x ≤ 49)) : Km l Z A yX4_isToken wsX4_isToken { frames := 0, cells := 0, slots := 0, locals := 0 } (Wd Z σ) [.int x] (Qi (Wd Z σ) A (fun v => v = b2i false)) := by
  refine Km.of (cc := cX4_isToken) (maxL := 1) (ret := (some .boolean)) (by decide) rfl (Nat.le_of_ble_eq_true rfl) hA ?_
  intro X hXl S hAX hRT hXA hQ hXk hXn
  show J X 1 (Wd Z σ) 0 [some (.int x)] []
  refine j_iload_n S dX4_isToken_0 rfl ?_
  refine j_if_lt S 10 dX4_isToken_1 (by decide) (fun h0 => ?_) (fun h0 => ?_)
  · skip
    refine j_iload_n S dX4_isToken_10 rfl ?_
    refine j_bipush S 10 dX4_isToken_11 (by decide) ?_
    refine j_icmp_eq S 46 dX4_isToken_13 (by decide) (fun h1 => ?_) (fun h1 => ?_)
    · skip
      refine j_iconst S 1 dX4_isToken_46 (by decide) ?_
      refine j_goto S 51 dX4_isToken_47 (by decide) ?_
      exact absurd (by first | exact Or.inl ⟨(by first | assumption | exact Int32.not_lt.mp (by assumption) | exact Int32.le_of_lt (by assumption)), (by first | assumption | exact Int32.not_lt.mp (by assumption) | exact Int32.le_of_lt (by assumption))⟩ | exact Or.inr (Or.inl (by first | assumption | exact Int32.not_lt.mp (by assumption) | exact Int32.le_of_lt (by assumption))) | exact Or.inr (Or.inr (Or.inl (by first | assumption | exact Int32.not_lt.mp (by assumption) | exact Int32.le_of_lt (by assumption)))) | exact Or.inr (Or.inr (Or.inr (Or.inl ⟨(by first | assumption | exact Int32.not_lt.mp (by assumption) | exact Int32.le_of_lt (by assumption)), (by first | assumption | exact Int32.not_lt.mp (by assumption) | exact Int32.le_of_lt (by assumption))⟩))) | exact Or.inr (Or.inr (Or.inr (Or.inr ⟨(by first | assumption | exact Int32.not_lt.mp (by assumption) | exact Int32.le_of_lt (by assumption)), (by first | assumption | exact Int32.not_lt.mp (by assumption) | exact Int32.le_of_lt (by assumption))⟩)))) hb
    · skip
      refine j_iload_n S dX4_isToken_16 rfl ?_
      refine j_bipush S 11 dX4_isToken_17 (by decide) ?_
      refine j_icmp_eq S 46 dX4_isToken_19 (by decide) (fun h2 => ?_) (fun h2 => ?_)
      · skip
        refine j_iconst S 1 dX4_isToken_46 (by decide) ?_
        refine j_goto S 51 dX4_isToken_47 (by decide) ?_
        exact absurd (by first | exact Or.inl ⟨(by first | assumption | exact Int32.not_lt.mp (by assumption) | exact Int32.le_of_lt (by assumption)), (by first | assumption | exact Int32.not_lt.mp (by assumption) | exact Int32.le_of_lt (by assumption))⟩ | exact Or.inr (Or.inl (by first | assumption | exact Int32.not_lt.mp (by assumption) | exact Int32.le_of_lt (by assumption))) | exact Or.inr (Or.inr (Or.inl (by first | assumption | exact Int32.not_lt.mp (by assumption) | exact Int32.le_of_lt (by assumption)))) | exact Or.inr (Or.inr (Or.inr (Or.inl ⟨(by first | assumption | exact Int32.not_lt.mp (by assumption) | exact Int32.le_of_lt (by assumption)), (by first | assumption | exact Int32.not_lt.mp (by assumption) | exact Int32.le_of_lt (by assumption))⟩))) | exact Or.inr (Or.inr (Or.inr (Or.inr ⟨(by first | assumption | exact Int32.not_lt.mp (by assumption) | exact Int32.le_of_lt (by assumption)), (by first | assumption | exact Int32.not_lt.mp (by assumption) | exact Int32.le_of_lt (by assumption))⟩)))) hb
      · skip
        refine j_iload_n S dX4_isToken_22 rfl ?_
        refine j_bipush S 22 dX4_isToken_23 (by decide) ?_
        refine j_icmp_lt S 34 dX4_isToken_25 (by decide) (fun h3 => ?_) (fun h3 => ?_)
        · skip
          refine j_iload_n S dX4_isToken_34 rfl ?_
          refine j_bipush S 44 dX4_isToken_35 (by decide) ?_
          refine j_icmp_lt S 50 dX4_isToken_37 (by decide) (fun h4 => ?_) (fun h4 => ?_)
          · skip
            refine j_iconst S 0 dX4_isToken_50 (by decide) ?_
            exact j_ireturn S hRT hXA hQ hXk hXn dX4_isToken_51 rfl rfl (fun H h => h)
          · skip
            refine j_iload_n S dX4_isToken_40 rfl ?_
            refine j_bipush S 49 dX4_isToken_41 (by decide) ?_
            refine j_icmp_gt S 50 dX4_isToken_43 (by decide) (fun h5 => ?_) (fun h5 => ?_)
            · skip
              refine j_iconst S 0 dX4_isToken_50 (by decide) ?_
              exact j_ireturn S hRT hXA hQ hXk hXn dX4_isToken_51 rfl rfl (fun H h => h)
            · skip
              refine j_iconst S 1 dX4_isToken_46 (by decide) ?_
              refine j_goto S 51 dX4_isToken_47 (by decide) ?_
              exact absurd (by first | exact Or.inl ⟨(by first | assumption | exact Int32.not_lt.mp (by assumption) | exact Int32.le_of_lt (by assumption)), (by first | assumption | exact Int32.not_lt.mp (by assumption) | exact Int32.le_of_lt (by assumption))⟩ | exact Or.inr (Or.inl (by first | assumption | exact Int32.not_lt.mp (by assumption) | exact Int32.le_of_lt (by assumption))) | exact Or.inr (Or.inr (Or.inl (by first | assumption | exact Int32.not_lt.mp (by assumption) | exact Int32.le_of_lt (by assumption)))) | exact Or.inr (Or.inr (Or.inr (Or.inl ⟨(by first | assumption | exact Int32.not_lt.mp (by assumption) | exact Int32.le_of_lt (by assumption)), (by first | assumption | exact Int32.not_lt.mp (by assumption) | exact Int32.le_of_lt (by assumption))⟩))) | exact Or.inr (Or.inr (Or.inr (Or.inr ⟨(by first | assumption | exact Int32.not_lt.mp (by assumption) | exact Int32.le_of_lt (by assumption)), (by first | assumption | exact Int32.not_lt.mp (by assumption) | exact Int32.le_of_lt (by assumption))⟩)))) hb
        · skip
          refine j_iload_n S dX4_isToken_28 rfl ?_
          refine j_bipush S 33 dX4_isToken_29 (by decide) ?_
          refine j_icmp_le S 46 dX4_isToken_31 (by decide) (fun h4 => ?_) (fun h4 => ?_)
          · skip
            refine j_iconst S 1 dX4_isToken_46 (by decide) ?_
            refine j_goto S 51 dX4_isToken_47 (by decide) ?_
            exact absurd (by first | exact Or.inl ⟨(by first | assumption | exact Int32.not_lt.mp (by assumption) | exact Int32.le_of_lt (by assumption)), (by first | assumption | exact Int32.not_lt.mp (by assumption) | exact Int32.le_of_lt (by assumption))⟩ | exact Or.inr (Or.inl (by first | assumption | exact Int32.not_lt.mp (by assumption) | exact Int32.le_of_lt (by assumption))) | exact Or.inr (Or.inr (Or.inl (by first | assumption | exact Int32.not_lt.mp (by assumption) | exact Int32.le_of_lt (by assumption)))) | exact Or.inr (Or.inr (Or.inr (Or.inl ⟨(by first | assumption | exact Int32.not_lt.mp (by assumption) | exact Int32.le_of_lt (by assumption)), (by first | assumption | exact Int32.not_lt.mp (by assumption) | exact Int32.le_of_lt (by assumption))⟩))) | exact Or.inr (Or.inr (Or.inr (Or.inr ⟨(by first | assumption | exact Int32.not_lt.mp (by assumption) | exact Int32.le_of_lt (by assumption)), (by first | assumption | exact Int32.not_lt.mp (by assumption) | exact Int32.le_of_lt (by assumption))⟩)))) hb
          · skip
            refine j_iload_n S dX4_isToken_34 rfl ?_
            refine j_bipush S 44 dX4_isToken_35 (by decide) ?_
            refine j_icmp_lt S 50 dX4_isToken_37 (by decide) (fun h5 => ?_) (fun h5 => ?_)
            · skip
              refine j_iconst S 0 dX4_isToken_50 (by decide) ?_
              exact j_ireturn S hRT hXA hQ hXk hXn dX4_isToken_51 rfl rfl (fun H h => h)
            · skip
              refine j_iload_n S dX4_isToken_40 rfl ?_
              refine j_bipush S 49 dX4_isToken_41 (by decide) ?_
              refine j_icmp_gt S 50 dX4_isToken_43 (by decide) (fun h6 => ?_) (fun h6 => ?_)
              · skip
                refine j_iconst S 0 dX4_isToken_50 (by decide) ?_
                exact j_ireturn S hRT hXA hQ hXk hXn dX4_isToken_51 rfl rfl (fun H h => h)
              · skip
                refine j_iconst S 1 dX4_isToken_46 (by decide) ?_
                refine j_goto S 51 dX4_isToken_47 (by decide) ?_
                exact absurd (by first | exact Or.inl ⟨(by first | assumption | exact Int32.not_lt.mp (by assumption) | exact Int32.le_of_lt (by assumption)), (by first | assumption | exact Int32.not_lt.mp (by assumption) | exact Int32.le_of_lt (by assumption))⟩ | exact Or.inr (Or.inl (by first | assumption | exact Int32.not_lt.mp (by assumption) | exact Int32.le_of_lt (by assumption))) | exact Or.inr (Or.inr (Or.inl (by first | assumption | exact Int32.not_lt.mp (by assumption) | exact Int32.le_of_lt (by assumption)))) | exact Or.inr (Or.inr (Or.inr (Or.inl ⟨(by first | assumption | exact Int32.not_lt.mp (by assumption) | exact Int32.le_of_lt (by assumption)), (by first | assumption | exact Int32.not_lt.mp (by assumption) | exact Int32.le_of_lt (by assumption))⟩))) | exact Or.inr (Or.inr (Or.inr (Or.inr ⟨(by first | assumption | exact Int32.not_lt.mp (by assumption) | exact Int32.le_of_lt (by assumption)), (by first | assumption | exact Int32.not_lt.mp (by assumption) | exact Int32.le_of_lt (by assumption))⟩)))) hb
  · skip
    refine j_iload_n S dX4_isToken_4 rfl ?_
    refine j_bipush S 7 dX4_isToken_5 (by decide) ?_
    refine j_icmp_le S 46 dX4_isToken_7 (by decide) (fun h1 => ?_) (fun h1 => ?_)
    · skip
      refine j_iconst S 1 dX4_isToken_46 (by decide) ?_
      refine j_goto S 51 dX4_isToken_47 (by decide) ?_
      exact absurd (by first | exact Or.inl ⟨(by first | assumption | exact Int32.not_lt.mp (by assumption) | exact Int32.le_of_lt (by assumption)), (by first | assumption | exact Int32.not_lt.mp (by assumption) | exact Int32.le_of_lt (by assumption))⟩ | exact Or.inr (Or.inl (by first | assumption | exact Int32.not_lt.mp (by assumption) | exact Int32.le_of_lt (by assumption))) | exact Or.inr (Or.inr (Or.inl (by first | assumption | exact Int32.not_lt.mp (by assumption) | exact Int32.le_of_lt (by assumption)))) | exact Or.inr (Or.inr (Or.inr (Or.inl ⟨(by first | assumption | exact Int32.not_lt.mp (by assumption) | exact Int32.le_of_lt (by assumption)), (by first | assumption | exact Int32.not_lt.mp (by assumption) | exact Int32.le_of_lt (by assumption))⟩))) | exact Or.inr (Or.inr (Or.inr (Or.inr ⟨(by first | assumption | exact Int32.not_lt.mp (by assumption) | exact Int32.le_of_lt (by assumption)), (by first | assumption | exact Int32.not_lt.mp (by assumption) | exact Int32.le_of_lt (by assumption))⟩)))) hb
    · skip
      refine j_iload_n S dX4_isToken_10 rfl ?_
      refine j_bipush S 10 dX4_isToken_11 (by decide) ?_
      refine j_icmp_eq S 46 dX4_isToken_13 (by decide) (fun h2 => ?_) (fun h2 => ?_)
      · skip
        refine j_iconst S 1 dX4_isToken_46 (by decide) ?_
        refine j_goto S 51 dX4_isToken_47 (by decide) ?_
        exact absurd (by first | exact Or.inl ⟨(by first | assumption | exact Int32.not_lt.mp (by assumption) | exact Int32.le_of_lt (by assumption)), (by first | assumption | exact Int32.not_lt.mp (by assumption) | exact Int32.le_of_lt (by assumption))⟩ | exact Or.inr (Or.inl (by first | assumption | exact Int32.not_lt.mp (by assumption) | exact Int32.le_of_lt (by assumption))) | exact Or.inr (Or.inr (Or.inl (by first | assumption | exact Int32.not_lt.mp (by assumption) | exact Int32.le_of_lt (by assumption)))) | exact Or.inr (Or.inr (Or.inr (Or.inl ⟨(by first | assumption | exact Int32.not_lt.mp (by assumption) | exact Int32.le_of_lt (by assumption)), (by first | assumption | exact Int32.not_lt.mp (by assumption) | exact Int32.le_of_lt (by assumption))⟩))) | exact Or.inr (Or.inr (Or.inr (Or.inr ⟨(by first | assumption | exact Int32.not_lt.mp (by assumption) | exact Int32.le_of_lt (by assumption)), (by first | assumption | exact Int32.not_lt.mp (by assumption) | exact Int32.le_of_lt (by assumption))⟩)))) hb
      · skip
        refine j_iload_n S dX4_isToken_16 rfl ?_
        refine j_bipush S 11 dX4_isToken_17 (by decide) ?_
        refine j_icmp_eq S 46 dX4_isToken_19 (by decide) (fun h3 => ?_) (fun h3 => ?_)
        · skip
          refine j_iconst S 1 dX4_isToken_46 (by decide) ?_
          refine j_goto S 51 dX4_isToken_47 (by decide) ?_
          exact absurd (by first | exact Or.inl ⟨(by first | assumption | exact Int32.not_lt.mp (by assumption) | exact Int32.le_of_lt (by assumption)), (by first | assumption | exact Int32.not_lt.mp (by assumption) | exact Int32.le_of_lt (by assumption))⟩ | exact Or.inr (Or.inl (by first | assumption | exact Int32.not_lt.mp (by assumption) | exact Int32.le_of_lt (by assumption))) | exact Or.inr (Or.inr (Or.inl (by first | assumption | exact Int32.not_lt.mp (by assumption) | exact Int32.le_of_lt (by assumption)))) | exact Or.inr (Or.inr (Or.inr (Or.inl ⟨(by first | assumption | exact Int32.not_lt.mp (by assumption) | exact Int32.le_of_lt (by assumption)), (by first | assumption | exact Int32.not_lt.mp (by assumption) | exact Int32.le_of_lt (by assumption))⟩))) | exact Or.inr (Or.inr (Or.inr (Or.inr ⟨(by first | assumption | exact Int32.not_lt.mp (by assumption) | exact Int32.le_of_lt (by assumption)), (by first | assumption | exact Int32.not_lt.mp (by assumption) | exact Int32.le_of_lt (by assumption))⟩)))) hb
        · skip
          refine j_iload_n S dX4_isToken_22 rfl ?_
          refine j_bipush S 22 dX4_isToken_23 (by decide) ?_
          refine j_icmp_lt S 34 dX4_isToken_25 (by decide) (fun h4 => ?_) (fun h4 => ?_)
          · skip
            refine j_iload_n S dX4_isToken_34 rfl ?_
            refine j_bipush S 44 dX4_isToken_35 (by decide) ?_
            refine j_icmp_lt S 50 dX4_isToken_37 (by decide) (fun h5 => ?_) (fun h5 => ?_)
            · skip
              refine j_iconst S 0 dX4_isToken_50 (by decide) ?_
              exact j_ireturn S hRT hXA hQ hXk hXn dX4_isToken_51 rfl rfl (fun H h => h)
            · skip
              refine j_iload_n S dX4_isToken_40 rfl ?_
              refine j_bipush S 49 dX4_isToken_41 (by decide) ?_
              refine j_icmp_gt S 50 dX4_isToken_43 (by decide) (fun h6 => ?_) (fun h6 => ?_)
              · skip
                refine j_iconst S 0 dX4_isToken_50 (by decide) ?_
                exact j_ireturn S hRT hXA hQ hXk hXn dX4_isToken_51 rfl rfl (fun H h => h)
              · skip
                refine j_iconst S 1 dX4_isToken_46 (by decide) ?_
                refine j_goto S 51 dX4_isToken_47 (by decide) ?_
                exact absurd (by first | exact Or.inl ⟨(by first | assumption | exact Int32.not_lt.mp (by assumption) | exact Int32.le_of_lt (by assumption)), (by first | assumption | exact Int32.not_lt.mp (by assumption) | exact Int32.le_of_lt (by assumption))⟩ | exact Or.inr (Or.inl (by first | assumption | exact Int32.not_lt.mp (by assumption) | exact Int32.le_of_lt (by assumption))) | exact Or.inr (Or.inr (Or.inl (by first | assumption | exact Int32.not_lt.mp (by assumption) | exact Int32.le_of_lt (by assumption)))) | exact Or.inr (Or.inr (Or.inr (Or.inl ⟨(by first | assumption | exact Int32.not_lt.mp (by assumption) | exact Int32.le_of_lt (by assumption)), (by first | assumption | exact Int32.not_lt.mp (by assumption) | exact Int32.le_of_lt (by assumption))⟩))) | exact Or.inr (Or.inr (Or.inr (Or.inr ⟨(by first | assumption | exact Int32.not_lt.mp (by assumption) | exact Int32.le_of_lt (by assumption)), (by first | assumption | exact Int32.not_lt.mp (by assumption) | exact Int32.le_of_lt (by assumption))⟩)))) hb
          · skip
            refine j_iload_n S dX4_isToken_28 rfl ?_
            refine j_bipush S 33 dX4_isToken_29 (by decide) ?_
            refine j_icmp_le S 46 dX4_isToken_31 (by decide) (fun h5 => ?_) (fun h5 => ?_)
            · skip
              refine j_iconst S 1 dX4_isToken_46 (by decide) ?_
              refine j_goto S 51 dX4_isToken_47 (by decide) ?_
              exact absurd (by first | exact Or.inl ⟨(by first | assumption | exact Int32.not_lt.mp (by assumption) | exact Int32.le_of_lt (by assumption)), (by first | assumption | exact Int32.not_lt.mp (by assumption) | exact Int32.le_of_lt (by assumption))⟩ | exact Or.inr (Or.inl (by first | assumption | exact Int32.not_lt.mp (by assumption) | exact Int32.le_of_lt (by assumption))) | exact Or.inr (Or.inr (Or.inl (by first | assumption | exact Int32.not_lt.mp (by assumption) | exact Int32.le_of_lt (by assumption)))) | exact Or.inr (Or.inr (Or.inr (Or.inl ⟨(by first | assumption | exact Int32.not_lt.mp (by assumption) | exact Int32.le_of_lt (by assumption)), (by first | assumption | exact Int32.not_lt.mp (by assumption) | exact Int32.le_of_lt (by assumption))⟩))) | exact Or.inr (Or.inr (Or.inr (Or.inr ⟨(by first | assumption | exact Int32.not_lt.mp (by assumption) | exact Int32.le_of_lt (by assumption)), (by first | assumption | exact Int32.not_lt.mp (by assumption) | exact Int32.le_of_lt (by assumption))⟩)))) hb
            · skip
              refine j_iload_n S dX4_isToken_34 rfl ?_
              refine j_bipush S 44 dX4_isToken_35 (by decide) ?_
              refine j_icmp_lt S 50 dX4_isToken_37 (by decide) (fun h6 => ?_) (fun h6 => ?_)
              · skip
                refine j_iconst S 0 dX4_isToken_50 (by decide) ?_
                exact j_ireturn S hRT hXA hQ hXk hXn dX4_isToken_51 rfl rfl (fun H h => h)
              · skip
                refine j_iload_n S dX4_isToken_40 rfl ?_
                refine j_bipush S 49 dX4_isToken_41 (by decide) ?_
                refine j_icmp_gt S 50 dX4_isToken_43 (by decide) (fun h7 => ?_) (fun h7 => ?_)
                · skip
                  refine j_iconst S 0 dX4_isToken_50 (by decide) ?_
                  exact j_ireturn S hRT hXA hQ hXk hXn dX4_isToken_51 rfl rfl (fun H h => h)
                · skip
                  refine j_iconst S 1 dX4_isToken_46 (by decide) ?_
                  refine j_goto S 51 dX4_isToken_47 (by decide) ?_
                  exact absurd (by first | exact Or.inl ⟨(by first | assumption | exact Int32.not_lt.mp (by assumption) | exact Int32.le_of_lt (by assumption)), (by first | assumption | exact Int32.not_lt.mp (by assumption) | exact Int32.le_of_lt (by assumption))⟩ | exact Or.inr (Or.inl (by first | assumption | exact Int32.not_lt.mp (by assumption) | exact Int32.le_of_lt (by assumption))) | exact Or.inr (Or.inr (Or.inl (by first | assumption | exact Int32.not_lt.mp (by assumption) | exact Int32.le_of_lt (by assumption)))) | exact Or.inr (Or.inr (Or.inr (Or.inl ⟨(by first | assumption | exact Int32.not_lt.mp (by assumption) | exact Int32.le_of_lt (by assumption)), (by first | assumption | exact Int32.not_lt.mp (by assumption) | exact Int32.le_of_lt (by assumption))⟩))) | exact Or.inr (Or.inr (Or.inr (Or.inr ⟨(by first | assumption | exact Int32.not_lt.mp (by assumption) | exact Int32.le_of_lt (by assumption)), (by first | assumption | exact Int32.not_lt.mp (by assumption) | exact Int32.le_of_lt (by assumption))⟩)))) hb

set_option maxRecDepth 100000 in
set_option maxHeartbeats 4000000 in
theorem x_X4_programForToken_t (l : Launch) (Z : Zx) (A : Nat → Prop) (hA : AdOk Z A) (hfl : l.stackTraces = false) (σ : St) (k : Nat) (hk : k < 10) (x : Int32) (hb : ¬ ((0 ≤ x ∧ x ≤ 7) ∨ x = 10 ∨ x = 11 ∨ (22 ≤ x ∧ x ≤ 33) ∨ 44 ≤ x ∧ x ≤ 49)) : Kx l Z A yX4_programForToken wsX4_programForToken { frames := 6, cells := 1, slots := 6, locals := 90 } (Wd Z σ) [.ref (Z.ad 0), .int (nI k), .int x] sIA := by
  refine Kx.of (cc := cX4_programForToken) (maxL := 4) (ret := (some (.object "TreadleLoom$Program"))) hA hfl (by decide) rfl (Nat.le_of_ble_eq_true rfl) ?_
  intro X hXl S hAX hX
  subst hXl
  show J X 4 (Wd Z σ) 0 [some (.ref (Z.ad 0)), some (.int (nI k)), some (.int x), none] []
  refine j_aload_n S dX4_programForToken_0 rfl ?_
  refine j_iload_n S dX4_programForToken_1 rfl ?_
  refine j_cVr S (n := 1) (rest := []) (k_X4_programAt X.l Z X.A hAX σ k hk) ⟨_, _, _, _, rfl, gX4_programForToken_X4_programAt, rfl, rfl, by decide +kernel, ⟨Nat.le_of_ble_eq_true rfl, Nat.le_of_ble_eq_true rfl⟩⟩ rd_loom rfl rfl (Nat.le_of_ble_eq_true rfl) rfl dX4_programForToken_2 ?_
  refine j_astore_n S [some (.ref (Z.ad 0)), some (.int (nI k)), some (.int x), some (.ref (Z.ad (po k)))] dX4_programForToken_5 (by decide) rfl rfl ?_
  refine j_iload_n S dX4_programForToken_6 rfl ?_
  refine j_cSi S (n := 1) (rest := []) (k_X4_isTokenN X.l Z X.A hAX σ x hb) ⟨_, _, _, _, rfl, gX4_programForToken_X4_isToken, rfl, rfl, by decide +kernel, ⟨Nat.le_of_ble_eq_true rfl, Nat.le_of_ble_eq_true rfl⟩⟩ rfl (Nat.le_of_ble_eq_true rfl) rfl dX4_programForToken_7 (fun v9 hv9 => ?_)
  subst hv9
  refine j_if_ne S 23 dX4_programForToken_10 (by decide) (fun h9 => absurd (by decide) h9) (fun _ => ?_)
  exact x_throw S hX hX.1.2.2.2.2 (by decide) (ik := 70) (is := 110) (ic := 74) (text := "no such token") (by decide +kernel) (by decide +kernel) (by decide) (by decide +kernel) (by decide +kernel) (by decide +kernel) dX4_programForToken_13 dX4_programForToken_16 dX4_programForToken_17 dX4_programForToken_19 dX4_programForToken_22 (Nat.le_of_ble_eq_true rfl) (Nat.le_of_ble_eq_true rfl) (Nat.le_of_ble_eq_true rfl) (Nat.le_of_ble_eq_true rfl)

set_option maxRecDepth 100000 in
set_option maxHeartbeats 4000000 in
theorem x_X4_token_t (l : Launch) (Z : Zx) (A : Nat → Prop) (hA : AdOk Z A) (hfl : l.stackTraces = false) (σ : St) (k : Nat) (hk : k < 10) (x : Int32) (hb : ¬ ((0 ≤ x ∧ x ≤ 7) ∨ x = 10 ∨ x = 11 ∨ (22 ≤ x ∧ x ≤ 33) ∨ 44 ≤ x ∧ x ≤ 49)) : Kx l Z A yX4_token wsX4_token { frames := 7, cells := 1, slots := 6, locals := 113 } (Wd Z σ) [.ref (Z.ad 0), .int (nI k), .int x] sIA := by
  refine Kx.of (cc := cX4_token) (maxL := 4) (ret := (some .int)) hA hfl (by decide) rfl (Nat.le_of_ble_eq_true rfl) ?_
  intro X hXl S hAX hX
  subst hXl
  show J X 4 (Wd Z σ) 0 [some (.ref (Z.ad 0)), some (.int (nI k)), some (.int x), none] []
  refine j_aload_n S dX4_token_0 rfl ?_
  refine j_iload_n S dX4_token_1 rfl ?_
  refine j_iload_n S dX4_token_2 rfl ?_
  exact x_passV S hX (n := 2) (rest := []) (x_X4_programForToken_t X.l Z X.A hAX hfl σ k hk x hb) ⟨_, _, _, _, rfl, gX4_token_X4_programForToken, rfl, rfl, (by decide +kernel), ⟨(Nat.le_of_ble_eq_true rfl), (Nat.le_of_ble_eq_true rfl)⟩⟩ rd_loom rfl rfl (Nat.le_of_ble_eq_true rfl) rfl dX4_token_3 (Nat.le_of_ble_eq_true rfl) (Nat.le_of_ble_eq_true rfl)

set_option maxRecDepth 100000 in
set_option maxHeartbeats 4000000 in
theorem x_X4_lengthWith_t (l : Launch) (Z : Zx) (A : Nat → Prop) (hA : AdOk Z A) (hfl : l.stackTraces = false) (σ : St) (k : Nat) (hk : k < 10) (x : Int32) (hb : ¬ ((0 ≤ x ∧ x ≤ 7) ∨ x = 10 ∨ x = 11 ∨ (22 ≤ x ∧ x ≤ 33) ∨ 44 ≤ x ∧ x ≤ 49)) : Kx l Z A yX4_lengthWith wsX4_lengthWith { frames := 7, cells := 1, slots := 6, locals := 113 } (Wd Z σ) [.ref (Z.ad 0), .int (nI k), .int x] sIA := by
  refine Kx.of (cc := cX4_lengthWith) (maxL := 4) (ret := (some .int)) hA hfl (by decide) rfl (Nat.le_of_ble_eq_true rfl) ?_
  intro X hXl S hAX hX
  subst hXl
  show J X 4 (Wd Z σ) 0 [some (.ref (Z.ad 0)), some (.int (nI k)), some (.int x), none] []
  refine j_aload_n S dX4_lengthWith_0 rfl ?_
  refine j_iload_n S dX4_lengthWith_1 rfl ?_
  refine j_iload_n S dX4_lengthWith_2 rfl ?_
  exact x_passV S hX (n := 2) (rest := []) (x_X4_programForToken_t X.l Z X.A hAX hfl σ k hk x hb) ⟨_, _, _, _, rfl, gX4_lengthWith_X4_programForToken, rfl, rfl, (by decide +kernel), ⟨(Nat.le_of_ble_eq_true rfl), (Nat.le_of_ble_eq_true rfl)⟩⟩ rd_loom rfl rfl (Nat.le_of_ble_eq_true rfl) rfl dX4_lengthWith_3 (Nat.le_of_ble_eq_true rfl) (Nat.le_of_ble_eq_true rfl)

set_option maxRecDepth 100000 in
set_option maxHeartbeats 4000000 in
theorem x_X4_twill_n (l : Launch) (Z : Zx) (A : Nat → Prop) (hA : AdOk Z A) (hfl : l.stackTraces = false) (σ : St) (x y : Int32) (hb : ¬ (2 ≤ x ∧ x ≤ 8)) : Kx l Z A yX4_twill wsX4_twill { frames := 6, cells := 1, slots := 6, locals := 90 } (Wd Z σ) [.ref (Z.ad 0), .int x, .int y] sIA := by
  refine Kx.of (cc := cX4_twill) (maxL := 6) (ret := (some .int)) hA hfl (by decide) rfl (Nat.le_of_ble_eq_true rfl) ?_
  intro X hXl S hAX hX
  subst hXl
  show J X 6 (Wd Z σ) 0 [some (.ref (Z.ad 0)), some (.int x), some (.int y), none, none, none] []
  refine j_iload_n S dX4_twill_0 rfl ?_
  refine j_iconst S 2 dX4_twill_1 (by decide) ?_
  refine j_icmp_lt S 11 dX4_twill_2 (by decide) (fun h => ?_) (fun h => ?_)
  · skip
    exact x_throw S hX hX.1.2.2.2.2 (by decide) (ik := 70) (is := 133) (ic := 74) (text := "n is not 2 to 8") (by decide +kernel) (by decide +kernel) (by decide) (by decide +kernel) (by decide +kernel) (by decide +kernel) dX4_twill_11 dX4_twill_14 dX4_twill_15 dX4_twill_17 dX4_twill_20 (Nat.le_of_ble_eq_true rfl) (Nat.le_of_ble_eq_true rfl) (Nat.le_of_ble_eq_true rfl) (Nat.le_of_ble_eq_true rfl)
  · skip
    refine j_iload_n S dX4_twill_5 rfl ?_
    refine j_bipush S 8 dX4_twill_6 (by decide) ?_
    refine j_icmp_le S 21 dX4_twill_8 (by decide) (fun h9 => absurd h9 (fun h9 => hb ⟨Int32.not_lt.mp h, h9⟩)) (fun _ => ?_)
    exact x_throw S hX hX.1.2.2.2.2 (by decide) (ik := 70) (is := 133) (ic := 74) (text := "n is not 2 to 8") (by decide +kernel) (by decide +kernel) (by decide) (by decide +kernel) (by decide +kernel) (by decide +kernel) dX4_twill_11 dX4_twill_14 dX4_twill_15 dX4_twill_17 dX4_twill_20 (Nat.le_of_ble_eq_true rfl) (Nat.le_of_ble_eq_true rfl) (Nat.le_of_ble_eq_true rfl) (Nat.le_of_ble_eq_true rfl)

set_option maxRecDepth 100000 in
set_option maxHeartbeats 4000000 in
theorem x_X4_twill_u (l : Launch) (Z : Zx) (A : Nat → Prop) (hA : AdOk Z A) (hfl : l.stackTraces = false) (σ : St) (x y : Int32) (hg : 2 ≤ x ∧ x ≤ 8) (hb : ¬ (1 ≤ y ∧ y ≤ x)) : Kx l Z A yX4_twill wsX4_twill { frames := 6, cells := 1, slots := 6, locals := 90 } (Wd Z σ) [.ref (Z.ad 0), .int x, .int y] sIA := by
  refine Kx.of (cc := cX4_twill) (maxL := 6) (ret := (some .int)) hA hfl (by decide) rfl (Nat.le_of_ble_eq_true rfl) ?_
  intro X hXl S hAX hX
  subst hXl
  show J X 6 (Wd Z σ) 0 [some (.ref (Z.ad 0)), some (.int x), some (.int y), none, none, none] []
  refine j_iload_n S dX4_twill_0 rfl ?_
  refine j_iconst S 2 dX4_twill_1 (by decide) ?_
  refine j_icmp_lt S 11 dX4_twill_2 (by decide) (fun h9 => absurd h9 (Int32.not_lt.mpr hg.1)) (fun _ => ?_)
  refine j_iload_n S dX4_twill_5 rfl ?_
  refine j_bipush S 8 dX4_twill_6 (by decide) ?_
  refine j_icmp_le S 21 dX4_twill_8 (by decide) (fun _ => ?_) (fun h9 => absurd hg.2 h9)
  refine j_iload_n S dX4_twill_21 rfl ?_
  refine j_iconst S 1 dX4_twill_22 (by decide) ?_
  refine j_icmp_lt S 31 dX4_twill_23 (by decide) (fun h => ?_) (fun h => ?_)
  · skip
    exact x_throw S hX hX.1.2.2.2.2 (by decide) (ik := 70) (is := 135) (ic := 74) (text := "up is not 1 to n") (by decide +kernel) (by decide +kernel) (by decide) (by decide +kernel) (by decide +kernel) (by decide +kernel) dX4_twill_31 dX4_twill_34 dX4_twill_35 dX4_twill_37 dX4_twill_40 (Nat.le_of_ble_eq_true rfl) (Nat.le_of_ble_eq_true rfl) (Nat.le_of_ble_eq_true rfl) (Nat.le_of_ble_eq_true rfl)
  · skip
    refine j_iload_n S dX4_twill_26 rfl ?_
    refine j_iload_n S dX4_twill_27 rfl ?_
    refine j_icmp_le S 41 dX4_twill_28 (by decide) (fun h9 => absurd h9 (fun h9 => hb ⟨Int32.not_lt.mp h, h9⟩)) (fun _ => ?_)
    exact x_throw S hX hX.1.2.2.2.2 (by decide) (ik := 70) (is := 135) (ic := 74) (text := "up is not 1 to n") (by decide +kernel) (by decide +kernel) (by decide) (by decide +kernel) (by decide +kernel) (by decide +kernel) dX4_twill_31 dX4_twill_34 dX4_twill_35 dX4_twill_37 dX4_twill_40 (Nat.le_of_ble_eq_true rfl) (Nat.le_of_ble_eq_true rfl) (Nat.le_of_ble_eq_true rfl) (Nat.le_of_ble_eq_true rfl)
