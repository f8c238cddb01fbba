set_option maxRecDepth 100000 in
set_option maxHeartbeats 4000000 in
theorem w_token_b (l : Launch) (Z : Zx) (cL : ClassId) (o : Nat) (f : Nat → Int64) (hZ : AdOk Z (LZ Z)) (ho : ¬ LZ Z o) (hfl : l.stackTraces = false) (x : Int32) (hb : ¬ (0 ≤ x ∧ x ≤ 9)) (y : Int32) : Kw l Z cL o f yL_token wsL_token { frames := 9, cells := 1, slots := 6, locals := 157 } [.ref (Z.ad 0), .int x, .int y, .ref o] 1 0 := by
  refine Kw.of (cc := cL_token) (maxL := 5) (ret := some .int) (hh := [(0, 10, 13, 13), (0, 10, 17, 15), (0, 10, 21, 17)]) hZ ho (by decide) rfl (Nat.le_of_ble_eq_true rfl) ?_
  intro X hXl S hW hRT
  subst hXl
  have F0 := S.at 0 0 (Nat.le_of_ble_eq_true rfl) (Nat.le_of_ble_eq_true rfl)
  show J (X.at 0 0) 5 (FL Z cL (WL Z tok0 ties0) o f) 0 [some (.ref (Z.ad 0)), some (.int x), some (.int y), some (.ref o), none] []
  refine j_aload_n F0 dL_token_0 rfl ?_
  refine j_iconst F0 0 dL_token_1 (by decide) ?_
  refine j_aload_n F0 dL_token_2 rfl ?_
  refine j_iload_n F0 dL_token_3 rfl ?_
  refine j_iload_n F0 dL_token_4 rfl ?_
  refine w_catch S hW (E := sIO) (name := "java/lang/IndexOutOfBoundsException") (n1 := 2) (rest := [.int 0, .ref o]) (fun σ hC => x_X4_token_b X.l Z (LZ Z) hZ hfl σ x hb y) ⟨_, _, _, _, rfl, gL_token_X4_token, rfl, rfl, (by decide +kernel), ⟨(Nat.le_of_ble_eq_true rfl), (Nat.le_of_ble_eq_true rfl)⟩⟩ rd_loomL rfl rfl (Nat.le_of_ble_eq_true rfl) rfl dL_token_5 (Nat.le_of_ble_eq_true rfl) (Nat.le_of_ble_eq_true rfl) [] ⟨0, 10, 13, 13⟩ [⟨0, 10, 17, 15⟩, ⟨0, 10, 21, 17⟩] rfl (fun z hz => absurd hz List.not_mem_nil) (by decide) (by decide) (by decide +kernel) (hW.2.1.2.2.2.1 _ (by decide)) (fun q => ?_)
  have F1 := S.at 1 6 (Nat.le_of_ble_eq_true rfl) (Nat.le_of_ble_eq_true rfl)
  refine j_astore F1 [some (.ref (Z.ad 0)), some (.int x), some (.int y), some (.ref o), some (.ref q)] dL_token_13 (by decide) rfl rfl ?_
  refine j_iconst F1 1 dL_token_15 (by decide) ?_
  exact w_ret S hW hRT (Nat.le_of_ble_eq_true rfl) (Nat.le_of_ble_eq_true rfl) dL_token_16 (fun h9 => absurd h9 (by decide))

set_option maxRecDepth 100000 in
set_option maxHeartbeats 4000000 in
theorem w_token_t (l : Launch) (Z : Zx) (cL : ClassId) (o : Nat) (f : Nat → Int64) (hZ : AdOk Z (LZ Z)) (ho : ¬ LZ Z o) (hfl : l.stackTraces = false) (k : Nat) (hk : k < 10) (x : Int32) (hb : ¬ ((0 ≤ x ∧ x ≤ 7) ∨ x = 10 ∨ x = 11 ∨ (22 ≤ x ∧ x ≤ 33) ∨ 44 ≤ x ∧ x ≤ 49)) : Kw l Z cL o f yL_token wsL_token { frames := 8, cells := 1, slots := 6, locals := 136 } [.ref (Z.ad 0), .int (nI k), .int x, .ref o] 2 0 := by
  refine Kw.of (cc := cL_token) (maxL := 5) (ret := some .int) (hh := [(0, 10, 13, 13), (0, 10, 17, 15), (0, 10, 21, 17)]) hZ ho (by decide) rfl (Nat.le_of_ble_eq_true rfl) ?_
  intro X hXl S hW hRT
  subst hXl
  have F0 := S.at 0 0 (Nat.le_of_ble_eq_true rfl) (Nat.le_of_ble_eq_true rfl)
  show J (X.at 0 0) 5 (FL Z cL (WL Z tok0 ties0) o f) 0 [some (.ref (Z.ad 0)), some (.int (nI k)), some (.int x), some (.ref o), none] []
  refine j_aload_n F0 dL_token_0 rfl ?_
  refine j_iconst F0 0 dL_token_1 (by decide) ?_
  refine j_aload_n F0 dL_token_2 rfl ?_
  refine j_iload_n F0 dL_token_3 rfl ?_
  refine j_iload_n F0 dL_token_4 rfl ?_
  refine w_catch S hW (E := sIA) (name := "java/lang/IllegalArgumentException") (n1 := 2) (rest := [.int 0, .ref o]) (fun σ hC => x_X4_token_t X.l Z (LZ Z) hZ hfl σ k hk x hb) ⟨_, _, _, _, rfl, gL_token_X4_token, rfl, rfl, (by decide +kernel), ⟨(Nat.le_of_ble_eq_true rfl), (Nat.le_of_ble_eq_true rfl)⟩⟩ rd_loomL rfl rfl (Nat.le_of_ble_eq_true rfl) rfl dL_token_5 (Nat.le_of_ble_eq_true rfl) (Nat.le_of_ble_eq_true rfl) [⟨0, 10, 13, 13⟩] ⟨0, 10, 17, 15⟩ [⟨0, 10, 21, 17⟩] rfl (fun z hz => by
    rcases List.mem_cons.mp hz with rfl | h9
    · exact ⟨by decide, _, (by decide +kernel : Cond.classLink RL 13 "java/lang/IndexOutOfBoundsException" ∈ wsL_token), hW.2.2.1⟩
    · exact absurd h9 List.not_mem_nil) (by decide) (by decide) (by decide +kernel) (hW.2.1.2.2.2.2 _ (by decide)) (fun q => ?_)
  have F1 := S.at 1 6 (Nat.le_of_ble_eq_true rfl) (Nat.le_of_ble_eq_true rfl)
  refine j_astore F1 [some (.ref (Z.ad 0)), some (.int (nI k)), some (.int x), some (.ref o), some (.ref q)] dL_token_17 (by decide) rfl rfl ?_
  refine j_iconst F1 2 dL_token_19 (by decide) ?_
  exact w_ret S hW hRT (Nat.le_of_ble_eq_true rfl) (Nat.le_of_ble_eq_true rfl) dL_token_20 (fun h9 => absurd h9 (by decide))

set_option maxRecDepth 100000 in
set_option maxHeartbeats 4000000 in
theorem w_lengthWith_b (l : Launch) (Z : Zx) (cL : ClassId) (o : Nat) (f : Nat → Int64) (hZ : AdOk Z (LZ Z)) (ho : ¬ LZ Z o) (hfl : l.stackTraces = false) (x : Int32) (hb : ¬ (0 ≤ x ∧ x ≤ 9)) (y : Int32) : Kw l Z cL o f yL_lengthWith wsL_lengthWith { frames := 9, cells := 1, slots := 6, locals := 157 } [.ref (Z.ad 0), .int x, .int y, .ref o] 1 0 := by
  refine Kw.of (cc := cL_lengthWith) (maxL := 5) (ret := some .int) (hh := [(0, 10, 13, 13), (0, 10, 17, 15), (0, 10, 21, 17)]) hZ ho (by decide) rfl (Nat.le_of_ble_eq_true rfl) ?_
  intro X hXl S hW hRT
  subst hXl
  have F0 := S.at 0 0 (Nat.le_of_ble_eq_true rfl) (Nat.le_of_ble_eq_true rfl)
  show J (X.at 0 0) 5 (FL Z cL (WL Z tok0 ties0) o f) 0 [some (.ref (Z.ad 0)), some (.int x), some (.int y), some (.ref o), none] []
  refine j_aload_n F0 dL_lengthWith_0 rfl ?_
  refine j_iconst F0 0 dL_lengthWith_1 (by decide) ?_
  refine j_aload_n F0 dL_lengthWith_2 rfl ?_
  refine j_iload_n F0 dL_lengthWith_3 rfl ?_
  refine j_iload_n F0 dL_lengthWith_4 rfl ?_
  refine w_catch S hW (E := sIO) (name := "java/lang/IndexOutOfBoundsException") (n1 := 2) (rest := [.int 0, .ref o]) (fun σ hC => x_X4_lengthWith_b X.l Z (LZ Z) hZ hfl σ x hb y) ⟨_, _, _, _, rfl, gL_lengthWith_X4_lengthWith, rfl, rfl, (by decide +kernel), ⟨(Nat.le_of_ble_eq_true rfl), (Nat.le_of_ble_eq_true rfl)⟩⟩ rd_loomL rfl rfl (Nat.le_of_ble_eq_true rfl) rfl dL_lengthWith_5 (Nat.le_of_ble_eq_true rfl) (Nat.le_of_ble_eq_true rfl) [] ⟨0, 10, 13, 13⟩ [⟨0, 10, 17, 15⟩, ⟨0, 10, 21, 17⟩] rfl (fun z hz => absurd hz List.not_mem_nil) (by decide) (by decide) (by decide +kernel) (hW.2.1.2.2.2.1 _ (by decide)) (fun q => ?_)
  have F1 := S.at 1 6 (Nat.le_of_ble_eq_true rfl) (Nat.le_of_ble_eq_true rfl)
  refine j_astore F1 [some (.ref (Z.ad 0)), some (.int x), some (.int y), some (.ref o), some (.ref q)] dL_lengthWith_13 (by decide) rfl rfl ?_
  refine j_iconst F1 1 dL_lengthWith_15 (by decide) ?_
  exact w_ret S hW hRT (Nat.le_of_ble_eq_true rfl) (Nat.le_of_ble_eq_true rfl) dL_lengthWith_16 (fun h9 => absurd h9 (by decide))

set_option maxRecDepth 100000 in
set_option maxHeartbeats 4000000 in
theorem w_lengthWith_t (l : Launch) (Z : Zx) (cL : ClassId) (o : Nat) (f : Nat → Int64) (hZ : AdOk Z (LZ Z)) (ho : ¬ LZ Z o) (hfl : l.stackTraces = false) (k : Nat) (hk : k < 10) (x : Int32) (hb : ¬ ((0 ≤ x ∧ x ≤ 7) ∨ x = 10 ∨ x = 11 ∨ (22 ≤ x ∧ x ≤ 33) ∨ 44 ≤ x ∧ x ≤ 49)) : Kw l Z cL o f yL_lengthWith wsL_lengthWith { frames := 8, cells := 1, slots := 6, locals := 136 } [.ref (Z.ad 0), .int (nI k), .int x, .ref o] 2 0 := by
  refine Kw.of (cc := cL_lengthWith) (maxL := 5) (ret := some .int) (hh := [(0, 10, 13, 13), (0, 10, 17, 15), (0, 10, 21, 17)]) hZ ho (by decide) rfl (Nat.le_of_ble_eq_true rfl) ?_
  intro X hXl S hW hRT
  subst hXl
  have F0 := S.at 0 0 (Nat.le_of_ble_eq_true rfl) (Nat.le_of_ble_eq_true rfl)
  show J (X.at 0 0) 5 (FL Z cL (WL Z tok0 ties0) o f) 0 [some (.ref (Z.ad 0)), some (.int (nI k)), some (.int x), some (.ref o), none] []
  refine j_aload_n F0 dL_lengthWith_0 rfl ?_
  refine j_iconst F0 0 dL_lengthWith_1 (by decide) ?_
  refine j_aload_n F0 dL_lengthWith_2 rfl ?_
  refine j_iload_n F0 dL_lengthWith_3 rfl ?_
  refine j_iload_n F0 dL_lengthWith_4 rfl ?_
  refine w_catch S hW (E := sIA) (name := "java/lang/IllegalArgumentException") (n1 := 2) (rest := [.int 0, .ref o]) (fun σ hC => x_X4_lengthWith_t X.l Z (LZ Z) hZ hfl σ k hk x hb) ⟨_, _, _, _, rfl, gL_lengthWith_X4_lengthWith, rfl, rfl, (by decide +kernel), ⟨(Nat.le_of_ble_eq_true rfl), (Nat.le_of_ble_eq_true rfl)⟩⟩ rd_loomL rfl rfl (Nat.le_of_ble_eq_true rfl) rfl dL_lengthWith_5 (Nat.le_of_ble_eq_true rfl) (Nat.le_of_ble_eq_true rfl) [⟨0, 10, 13, 13⟩] ⟨0, 10, 17, 15⟩ [⟨0, 10, 21, 17⟩] rfl (fun z hz => by
    rcases List.mem_cons.mp hz with rfl | h9
    · exact ⟨by decide, _, (by decide +kernel : Cond.classLink RL 13 "java/lang/IndexOutOfBoundsException" ∈ wsL_lengthWith), hW.2.2.1⟩
    · exact absurd h9 List.not_mem_nil) (by decide) (by decide) (by decide +kernel) (hW.2.1.2.2.2.2 _ (by decide)) (fun q => ?_)
  have F1 := S.at 1 6 (Nat.le_of_ble_eq_true rfl) (Nat.le_of_ble_eq_true rfl)
  refine j_astore F1 [some (.ref (Z.ad 0)), some (.int (nI k)), some (.int x), some (.ref o), some (.ref q)] dL_lengthWith_17 (by decide) rfl rfl ?_
  refine j_iconst F1 2 dL_lengthWith_19 (by decide) ?_
  exact w_ret S hW hRT (Nat.le_of_ble_eq_true rfl) (Nat.le_of_ble_eq_true rfl) dL_lengthWith_20 (fun h9 => absurd h9 (by decide))

set_option maxRecDepth 100000 in
set_option maxHeartbeats 4000000 in
theorem w_token (l : Launch) (Z : Zx) (cL : ClassId) (o : Nat) (f : Nat → Int64) (hZ : AdOk Z (LZ Z)) (ho : ¬ LZ Z o) (k j : Nat) (hk : k < 10) (hj : tokN j) : Kw l Z cL o f yL_token wsL_token { frames := 7, cells := 1, slots := 6, locals := 162 } [.ref (Z.ad 0), .int (nI k), .int (nI j), .ref o] 0 (nI ((tok0 k).length + 1)).toInt64 := by
  refine Kw.of (cc := cL_token) (maxL := 5) (ret := some .int) (hh := [(0, 10, 13, 13), (0, 10, 17, 15), (0, 10, 21, 17)]) hZ ho (by decide) rfl (Nat.le_of_ble_eq_true rfl) ?_
  intro X hXl S hW hRT
  subst hXl
  have F0 := S.at 0 0 (Nat.le_of_ble_eq_true rfl) (Nat.le_of_ble_eq_true rfl)
  show J (X.at 0 0) 5 (FL Z cL (WL Z tok0 ties0) o f) 0 [some (.ref (Z.ad 0)), some (.int (nI k)), some (.int (nI j)), some (.ref o), none] []
  refine j_aload_n F0 dL_token_0 rfl ?_
  refine j_iconst F0 0 dL_token_1 (by decide) ?_
  refine j_aload_n F0 dL_token_2 rfl ?_
  refine j_iload_n F0 dL_token_3 rfl ?_
  refine j_iload_n F0 dL_token_4 rfl ?_
  refine w_cVi S hW (n1 := 2) (rest := [.int 0, .ref o]) (k_X4_token X.l Z (LZ Z) hZ tok0 ties0 k j hk hj (by show 0 < 40; decide)) ⟨_, _, _, _, rfl, gL_token_X4_token, rfl, rfl, (by decide +kernel), ⟨(Nat.le_of_ble_eq_true rfl), (Nat.le_of_ble_eq_true rfl)⟩⟩ rd_loomL rfl rfl (Nat.le_of_ble_eq_true rfl) rfl dL_token_5 (fun r hr => ?_)
  subst hr
  refine j_i2l F0 (nI ((tok0 k).length + 1)).toInt64 dL_token_8 rfl ?_
  refine w_last S hW dL_token_9 (fun g hg => ?_)
  refine j_goto F0 25 dL_token_10 (by decide) ?_
  refine j_iconst F0 0 dL_token_25 (by decide) ?_
  exact w_ret S hW hRT (Nat.le_of_ble_eq_true rfl) (Nat.le_of_ble_eq_true rfl) dL_token_26 (fun _ => hg)

set_option maxRecDepth 100000 in
set_option maxHeartbeats 4000000 in
theorem w_lengthWith (l : Launch) (Z : Zx) (cL : ClassId) (o : Nat) (f : Nat → Int64) (hZ : AdOk Z (LZ Z)) (ho : ¬ LZ Z o) (k j : Nat) (hk : k < 10) (hj : tokN j) : Kw l Z cL o f yL_lengthWith wsL_lengthWith { frames := 6, cells := 1, slots := 6, locals := 139 } [.ref (Z.ad 0), .int (nI k), .int (nI j), .ref o] 0 (lengthI (up tok0 k (tok0 k ++ [nI j])) k).toInt64 := by
  refine Kw.of (cc := cL_lengthWith) (maxL := 5) (ret := some .int) (hh := [(0, 10, 13, 13), (0, 10, 17, 15), (0, 10, 21, 17)]) hZ ho (by decide) rfl (Nat.le_of_ble_eq_true rfl) ?_
  intro X hXl S hW hRT
  subst hXl
  have F0 := S.at 0 0 (Nat.le_of_ble_eq_true rfl) (Nat.le_of_ble_eq_true rfl)
  show J (X.at 0 0) 5 (FL Z cL (WL Z tok0 ties0) o f) 0 [some (.ref (Z.ad 0)), some (.int (nI k)), some (.int (nI j)), some (.ref o), none] []
  refine j_aload_n F0 dL_lengthWith_0 rfl ?_
  refine j_iconst F0 0 dL_lengthWith_1 (by decide) ?_
  refine j_aload_n F0 dL_lengthWith_2 rfl ?_
  refine j_iload_n F0 dL_lengthWith_3 rfl ?_
  refine j_iload_n F0 dL_lengthWith_4 rfl ?_
  refine w_cVi S hW (n1 := 2) (rest := [.int 0, .ref o]) (k_X4_lengthWith X.l Z (LZ Z) hZ tok0 ties0 k j hk hj (by show 0 < 40; decide)) ⟨_, _, _, _, rfl, gL_lengthWith_X4_lengthWith, rfl, rfl, (by decide +kernel), ⟨(Nat.le_of_ble_eq_true rfl), (Nat.le_of_ble_eq_true rfl)⟩⟩ rd_loomL rfl rfl (Nat.le_of_ble_eq_true rfl) rfl dL_lengthWith_5 (fun r hr => ?_)
  subst hr
  refine j_i2l F0 (lengthI (up tok0 k (tok0 k ++ [nI j])) k).toInt64 dL_lengthWith_8 rfl ?_
  refine w_last S hW dL_lengthWith_9 (fun g hg => ?_)
  refine j_goto F0 25 dL_lengthWith_10 (by decide) ?_
  refine j_iconst F0 0 dL_lengthWith_25 (by decide) ?_
  exact w_ret S hW hRT (Nat.le_of_ble_eq_true rfl) (Nat.le_of_ble_eq_true rfl) dL_lengthWith_26 (fun _ => hg)

set_option maxRecDepth 100000 in
set_option maxHeartbeats 4000000 in
theorem w_untoken_b (l : Launch) (Z : Zx) (cL : ClassId) (o : Nat) (f : Nat → Int64) (hZ : AdOk Z (LZ Z)) (ho : ¬ LZ Z o) (hfl : l.stackTraces = false) (x : Int32) (hb : ¬ (0 ≤ x ∧ x ≤ 9)) (y : Int32) : Kw l Z cL o f yL_untoken wsL_untoken { frames := 8, cells := 1, slots := 6, locals := 134 } [.ref (Z.ad 0), .int x, .int y, .ref o] 1 0 := by
  refine Kw.of (cc := cL_untoken) (maxL := 5) (ret := some .int) (hh := [(0, 10, 13, 13), (0, 10, 17, 15)]) hZ ho (by decide) rfl (Nat.le_of_ble_eq_true rfl) ?_
  intro X hXl S hW hRT
  subst hXl
  have F0 := S.at 0 0 (Nat.le_of_ble_eq_true rfl) (Nat.le_of_ble_eq_true rfl)
  show J (X.at 0 0) 5 (FL Z cL (WL Z tok0 ties0) o f) 0 [some (.ref (Z.ad 0)), some (.int x), some (.int y), some (.ref o), none] []
  refine j_aload_n F0 dL_untoken_0 rfl ?_
  refine j_iconst F0 0 dL_untoken_1 (by decide) ?_
  refine j_aload_n F0 dL_untoken_2 rfl ?_
  refine j_iload_n F0 dL_untoken_3 rfl ?_
  refine j_iload_n F0 dL_untoken_4 rfl ?_
  refine w_catch S hW (E := sIO) (name := "java/lang/IndexOutOfBoundsException") (n1 := 2) (rest := [.int 0, .ref o]) (fun σ hC => x_X4_untoken_b X.l Z (LZ Z) hZ hfl σ x hb y) ⟨_, _, _, _, rfl, gL_untoken_X4_untoken, rfl, rfl, (by decide +kernel), ⟨(Nat.le_of_ble_eq_true rfl), (Nat.le_of_ble_eq_true rfl)⟩⟩ rd_loomL rfl rfl (Nat.le_of_ble_eq_true rfl) rfl dL_untoken_5 (Nat.le_of_ble_eq_true rfl) (Nat.le_of_ble_eq_true rfl) [] ⟨0, 10, 13, 13⟩ [⟨0, 10, 17, 15⟩] rfl (fun z hz => absurd hz List.not_mem_nil) (by decide) (by decide) (by decide +kernel) (hW.2.1.2.2.2.1 _ (by decide)) (fun q => ?_)
  have F1 := S.at 1 6 (Nat.le_of_ble_eq_true rfl) (Nat.le_of_ble_eq_true rfl)
  refine j_astore F1 [some (.ref (Z.ad 0)), some (.int x), some (.int y), some (.ref o), some (.ref q)] dL_untoken_13 (by decide) rfl rfl ?_
  refine j_iconst F1 1 dL_untoken_15 (by decide) ?_
  exact w_ret S hW hRT (Nat.le_of_ble_eq_true rfl) (Nat.le_of_ble_eq_true rfl) dL_untoken_16 (fun h9 => absurd h9 (by decide))

set_option maxRecDepth 100000 in
set_option maxHeartbeats 4000000 in
theorem w_untoken_t (l : Launch) (Z : Zx) (cL : ClassId) (o : Nat) (f : Nat → Int64) (hZ : AdOk Z (LZ Z)) (ho : ¬ LZ Z o) (hfl : l.stackTraces = false) (k : Nat) (hk : k < 10) (x : Int32) (hb : ¬ (1 ≤ x ∧ x ≤ 40)) : Kw l Z cL o f yL_untoken wsL_untoken { frames := 7, cells := 1, slots := 6, locals := 113 } [.ref (Z.ad 0), .int (nI k), .int x, .ref o] 2 0 := by
  refine Kw.of (cc := cL_untoken) (maxL := 5) (ret := some .int) (hh := [(0, 10, 13, 13), (0, 10, 17, 15)]) hZ ho (by decide) rfl (Nat.le_of_ble_eq_true rfl) ?_
  intro X hXl S hW hRT
  subst hXl
  have F0 := S.at 0 0 (Nat.le_of_ble_eq_true rfl) (Nat.le_of_ble_eq_true rfl)
  show J (X.at 0 0) 5 (FL Z cL (WL Z tok0 ties0) o f) 0 [some (.ref (Z.ad 0)), some (.int (nI k)), some (.int x), some (.ref o), none] []
  refine j_aload_n F0 dL_untoken_0 rfl ?_
  refine j_iconst F0 0 dL_untoken_1 (by decide) ?_
  refine j_aload_n F0 dL_untoken_2 rfl ?_
  refine j_iload_n F0 dL_untoken_3 rfl ?_
  refine j_iload_n F0 dL_untoken_4 rfl ?_
  refine w_catch S hW (E := sIA) (name := "java/lang/IllegalArgumentException") (n1 := 2) (rest := [.int 0, .ref o]) (fun σ hC => x_X4_untoken_t X.l Z (LZ Z) hZ hfl σ k hk x hb) ⟨_, _, _, _, rfl, gL_untoken_X4_untoken, rfl, rfl, (by decide +kernel), ⟨(Nat.le_of_ble_eq_true rfl), (Nat.le_of_ble_eq_true rfl)⟩⟩ rd_loomL rfl rfl (Nat.le_of_ble_eq_true rfl) rfl dL_untoken_5 (Nat.le_of_ble_eq_true rfl) (Nat.le_of_ble_eq_true rfl) [⟨0, 10, 13, 13⟩] ⟨0, 10, 17, 15⟩ [] rfl (fun z hz => by
    rcases List.mem_cons.mp hz with rfl | h9
    · exact ⟨by decide, _, (by decide +kernel : Cond.classLink RL 13 "java/lang/IndexOutOfBoundsException" ∈ wsL_untoken), hW.2.2.1⟩
    · exact absurd h9 List.not_mem_nil) (by decide) (by decide) (by decide +kernel) (hW.2.1.2.2.2.2 _ (by decide)) (fun q => ?_)
  have F1 := S.at 1 6 (Nat.le_of_ble_eq_true rfl) (Nat.le_of_ble_eq_true rfl)
  refine j_astore F1 [some (.ref (Z.ad 0)), some (.int (nI k)), some (.int x), some (.ref o), some (.ref q)] dL_untoken_17 (by decide) rfl rfl ?_
  refine j_iconst F1 2 dL_untoken_19 (by decide) ?_
  exact w_ret S hW hRT (Nat.le_of_ble_eq_true rfl) (Nat.le_of_ble_eq_true rfl) dL_untoken_20 (fun h9 => absurd h9 (by decide))

set_option maxRecDepth 100000 in
set_option maxHeartbeats 4000000 in
theorem w_untoken (l : Launch) (Z : Zx) (cL : ClassId) (o : Nat) (f : Nat → Int64) (hZ : AdOk Z (LZ Z)) (ho : ¬ LZ Z o) (k j : Nat) (hk : k < 10) (h1 : 1 ≤ j) (h2 : j ≤ 40) : Kw l Z cL o f yL_untoken wsL_untoken { frames := 7, cells := 1, slots := 6, locals := 162 } [.ref (Z.ad 0), .int (nI k), .int (nI j), .ref o] 0 (nI ((tok0 k).length - j)).toInt64 := by
  refine Kw.of (cc := cL_untoken) (maxL := 5) (ret := some .int) (hh := [(0, 10, 13, 13), (0, 10, 17, 15)]) hZ ho (by decide) rfl (Nat.le_of_ble_eq_true rfl) ?_
  intro X hXl S hW hRT
  subst hXl
  have F0 := S.at 0 0 (Nat.le_of_ble_eq_true rfl) (Nat.le_of_ble_eq_true rfl)
  show J (X.at 0 0) 5 (FL Z cL (WL Z tok0 ties0) o f) 0 [some (.ref (Z.ad 0)), some (.int (nI k)), some (.int (nI j)), some (.ref o), none] []
  refine j_aload_n F0 dL_untoken_0 rfl ?_
  refine j_iconst F0 0 dL_untoken_1 (by decide) ?_
  refine j_aload_n F0 dL_untoken_2 rfl ?_
  refine j_iload_n F0 dL_untoken_3 rfl ?_
  refine j_iload_n F0 dL_untoken_4 rfl ?_
  refine w_cVi S hW (n1 := 2) (rest := [.int 0, .ref o]) (k_X4_untoken X.l Z (LZ Z) hZ tok0 ties0 k j hk h1 h2) ⟨_, _, _, _, rfl, gL_untoken_X4_untoken, rfl, rfl, (by decide +kernel), ⟨(Nat.le_of_ble_eq_true rfl), (Nat.le_of_ble_eq_true rfl)⟩⟩ rd_loomL rfl rfl (Nat.le_of_ble_eq_true rfl) rfl dL_untoken_5 (fun r hr => ?_)
  subst hr
  refine j_i2l F0 (nI ((tok0 k).length - j)).toInt64 dL_untoken_8 rfl ?_
  refine w_last S hW dL_untoken_9 (fun g hg => ?_)
  refine j_goto F0 21 dL_untoken_10 (by decide) ?_
  refine j_iconst F0 0 dL_untoken_21 (by decide) ?_
  exact w_ret S hW hRT (Nat.le_of_ble_eq_true rfl) (Nat.le_of_ble_eq_true rfl) dL_untoken_22 (fun _ => hg)

set_option maxRecDepth 100000 in
set_option maxHeartbeats 4000000 in
theorem w_ofProgram_b (l : Launch) (Z : Zx) (cL : ClassId) (o : Nat) (f : Nat → Int64) (hZ : AdOk Z (LZ Z)) (ho : ¬ LZ Z o) (hfl : l.stackTraces = false) (x : Int32) (hb : ¬ (0 ≤ x ∧ x ≤ 9)) (y : Int32) : Kw l Z cL o f yL_ofProgram wsL_ofProgram { frames := 8, cells := 1, slots := 6, locals := 134 } [.ref (Z.ad 0), .int x, .int y, .ref o] 1 0 := by
  refine Kw.of (cc := cL_ofProgram) (maxL := 5) (ret := some .int) (hh := [(0, 10, 13, 13), (0, 10, 17, 15)]) hZ ho (by decide) rfl (Nat.le_of_ble_eq_true rfl) ?_
  intro X hXl S hW hRT
  subst hXl
  have F0 := S.at 0 0 (Nat.le_of_ble_eq_true rfl) (Nat.le_of_ble_eq_true rfl)
  show J (X.at 0 0) 5 (FL Z cL (WL Z tok0 ties0) o f) 0 [some (.ref (Z.ad 0)), some (.int x), some (.int y), some (.ref o), none] []
  refine j_aload_n F0 dL_ofProgram_0 rfl ?_
  refine j_iconst F0 0 dL_ofProgram_1 (by decide) ?_
  refine j_aload_n F0 dL_ofProgram_2 rfl ?_
  refine j_iload_n F0 dL_ofProgram_3 rfl ?_
  refine j_iload_n F0 dL_ofProgram_4 rfl ?_
  refine w_catch S hW (E := sIO) (name := "java/lang/IndexOutOfBoundsException") (n1 := 2) (rest := [.int 0, .ref o]) (fun σ hC => x_X4_ofProgram_b X.l Z (LZ Z) hZ hfl σ x hb y) ⟨_, _, _, _, rfl, gL_ofProgram_X4_ofProgram, rfl, rfl, (by decide +kernel), ⟨(Nat.le_of_ble_eq_true rfl), (Nat.le_of_ble_eq_true rfl)⟩⟩ rd_loomL rfl rfl (Nat.le_of_ble_eq_true rfl) rfl dL_ofProgram_5 (Nat.le_of_ble_eq_true rfl) (Nat.le_of_ble_eq_true rfl) [] ⟨0, 10, 13, 13⟩ [⟨0, 10, 17, 15⟩] rfl (fun z hz => absurd hz List.not_mem_nil) (by decide) (by decide) (by decide +kernel) (hW.2.1.2.2.2.1 _ (by decide)) (fun q => ?_)
  have F1 := S.at 1 6 (Nat.le_of_ble_eq_true rfl) (Nat.le_of_ble_eq_true rfl)
  refine j_astore F1 [some (.ref (Z.ad 0)), some (.int x), some (.int y), some (.ref o), some (.ref q)] dL_ofProgram_13 (by decide) rfl rfl ?_
  refine j_iconst F1 1 dL_ofProgram_15 (by decide) ?_
  exact w_ret S hW hRT (Nat.le_of_ble_eq_true rfl) (Nat.le_of_ble_eq_true rfl) dL_ofProgram_16 (fun h9 => absurd h9 (by decide))

set_option maxRecDepth 100000 in
set_option maxHeartbeats 4000000 in
theorem w_ofProgram_t (l : Launch) (Z : Zx) (cL : ClassId) (o : Nat) (f : Nat → Int64) (hZ : AdOk Z (LZ Z)) (ho : ¬ LZ Z o) (hfl : l.stackTraces = false) (k : Nat) (hk : k < 10) (x : Int32) (hb : ¬ (0 ≤ x ∧ x ≤ 3)) : Kw l Z cL o f yL_ofProgram wsL_ofProgram { frames := 7, cells := 1, slots := 6, locals := 113 } [.ref (Z.ad 0), .int (nI k), .int x, .ref o] 2 0 := by
  refine Kw.of (cc := cL_ofProgram) (maxL := 5) (ret := some .int) (hh := [(0, 10, 13, 13), (0, 10, 17, 15)]) hZ ho (by decide) rfl (Nat.le_of_ble_eq_true rfl) ?_
  intro X hXl S hW hRT
  subst hXl
  have F0 := S.at 0 0 (Nat.le_of_ble_eq_true rfl) (Nat.le_of_ble_eq_true rfl)
  show J (X.at 0 0) 5 (FL Z cL (WL Z tok0 ties0) o f) 0 [some (.ref (Z.ad 0)), some (.int (nI k)), some (.int x), some (.ref o), none] []
  refine j_aload_n F0 dL_ofProgram_0 rfl ?_
  refine j_iconst F0 0 dL_ofProgram_1 (by decide) ?_
  refine j_aload_n F0 dL_ofProgram_2 rfl ?_
  refine j_iload_n F0 dL_ofProgram_3 rfl ?_
  refine j_iload_n F0 dL_ofProgram_4 rfl ?_
  refine w_catch S hW (E := sIA) (name := "java/lang/IllegalArgumentException") (n1 := 2) (rest := [.int 0, .ref o]) (fun σ hC => x_X4_ofProgram_t X.l Z (LZ Z) hZ hfl σ k hk x hb) ⟨_, _, _, _, rfl, gL_ofProgram_X4_ofProgram, rfl, rfl, (by decide +kernel), ⟨(Nat.le_of_ble_eq_true rfl), (Nat.le_of_ble_eq_true rfl)⟩⟩ rd_loomL rfl rfl (Nat.le_of_ble_eq_true rfl) rfl dL_ofProgram_5 (Nat.le_of_ble_eq_true rfl) (Nat.le_of_ble_eq_true rfl) [⟨0, 10, 13, 13⟩] ⟨0, 10, 17, 15⟩ [] rfl (fun z hz => by
    rcases List.mem_cons.mp hz with rfl | h9
    · exact ⟨by decide, _, (by decide +kernel : Cond.classLink RL 13 "java/lang/IndexOutOfBoundsException" ∈ wsL_ofProgram), hW.2.2.1⟩
    · exact absurd h9 List.not_mem_nil) (by decide) (by decide) (by decide +kernel) (hW.2.1.2.2.2.2 _ (by decide)) (fun q => ?_)
  have F1 := S.at 1 6 (Nat.le_of_ble_eq_true rfl) (Nat.le_of_ble_eq_true rfl)
  refine j_astore F1 [some (.ref (Z.ad 0)), some (.int (nI k)), some (.int x), some (.ref o), some (.ref q)] dL_ofProgram_17 (by decide) rfl rfl ?_
  refine j_iconst F1 2 dL_ofProgram_19 (by decide) ?_
  exact w_ret S hW hRT (Nat.le_of_ble_eq_true rfl) (Nat.le_of_ble_eq_true rfl) dL_ofProgram_20 (fun h9 => absurd h9 (by decide))

set_option maxRecDepth 100000 in
set_option maxHeartbeats 4000000 in
theorem w_ofProgram (l : Launch) (Z : Zx) (cL : ClassId) (o : Nat) (f : Nat → Int64) (hZ : AdOk Z (LZ Z)) (ho : ¬ LZ Z o) (k j : Nat) (hk : k < 10) (hj : j ≤ 3) : Kw l Z cL o f yL_ofProgram wsL_ofProgram { frames := 2, cells := 1, slots := 6, locals := 44 } [.ref (Z.ad 0), .int (nI k), .int (nI j), .ref o] 0 (progI tok0 k j).toInt64 := by
  refine Kw.of (cc := cL_ofProgram) (maxL := 5) (ret := some .int) (hh := [(0, 10, 13, 13), (0, 10, 17, 15)]) hZ ho (by decide) rfl (Nat.le_of_ble_eq_true rfl) ?_
  intro X hXl S hW hRT
  subst hXl
  have F0 := S.at 0 0 (Nat.le_of_ble_eq_true rfl) (Nat.le_of_ble_eq_true rfl)
  show J (X.at 0 0) 5 (FL Z cL (WL Z tok0 ties0) o f) 0 [some (.ref (Z.ad 0)), some (.int (nI k)), some (.int (nI j)), some (.ref o), none] []
  refine j_aload_n F0 dL_ofProgram_0 rfl ?_
  refine j_iconst F0 0 dL_ofProgram_1 (by decide) ?_
  refine j_aload_n F0 dL_ofProgram_2 rfl ?_
  refine j_iload_n F0 dL_ofProgram_3 rfl ?_
  refine j_iload_n F0 dL_ofProgram_4 rfl ?_
  refine w_cVi S hW (n1 := 2) (rest := [.int 0, .ref o]) (k_X4_ofProgram X.l Z (LZ Z) hZ tok0 ties0 k j hk hj) ⟨_, _, _, _, rfl, gL_ofProgram_X4_ofProgram, rfl, rfl, (by decide +kernel), ⟨(Nat.le_of_ble_eq_true rfl), (Nat.le_of_ble_eq_true rfl)⟩⟩ rd_loomL rfl rfl (Nat.le_of_ble_eq_true rfl) rfl dL_ofProgram_5 (fun r hr => ?_)
  subst hr
  refine j_i2l F0 (progI tok0 k j).toInt64 dL_ofProgram_8 rfl ?_
  refine w_last S hW dL_ofProgram_9 (fun g hg => ?_)
  refine j_goto F0 21 dL_ofProgram_10 (by decide) ?_
  refine j_iconst F0 0 dL_ofProgram_21 (by decide) ?_
  exact w_ret S hW hRT (Nat.le_of_ble_eq_true rfl) (Nat.le_of_ble_eq_true rfl) dL_ofProgram_22 (fun _ => hg)

set_option maxRecDepth 100000 in
set_option maxHeartbeats 4000000 in
theorem w_number_b (l : Launch) (Z : Zx) (cL : ClassId) (o : Nat) (f : Nat → Int64) (hZ : AdOk Z (LZ Z)) (ho : ¬ LZ Z o) (hfl : l.stackTraces = false) (x : Int32) (hb : ¬ (0 ≤ x ∧ x ≤ 9)) (y : Int32) : Kw l Z cL o f yL_number wsL_number { frames := 8, cells := 1, slots := 6, locals := 134 } [.ref (Z.ad 0), .int x, .int y, .ref o] 1 0 := by
  refine Kw.of (cc := cL_number) (maxL := 5) (ret := some .int) (hh := [(0, 10, 13, 13)]) hZ ho (by decide) rfl (Nat.le_of_ble_eq_true rfl) ?_
  intro X hXl S hW hRT
  subst hXl
  have F0 := S.at 0 0 (Nat.le_of_ble_eq_true rfl) (Nat.le_of_ble_eq_true rfl)
  show J (X.at 0 0) 5 (FL Z cL (WL Z tok0 ties0) o f) 0 [some (.ref (Z.ad 0)), some (.int x), some (.int y), some (.ref o), none] []
  refine j_aload_n F0 dL_number_0 rfl ?_
  refine j_iconst F0 0 dL_number_1 (by decide) ?_
  refine j_aload_n F0 dL_number_2 rfl ?_
  refine j_iload_n F0 dL_number_3 rfl ?_
  refine j_iload_n F0 dL_number_4 rfl ?_
  refine w_catch S hW (E := sIO) (name := "java/lang/IndexOutOfBoundsException") (n1 := 2) (rest := [.int 0, .ref o]) (fun σ hC => x_X4_number_b X.l Z (LZ Z) hZ hfl σ x hb y) ⟨_, _, _, _, rfl, gL_number_X4_number, rfl, rfl, (by decide +kernel), ⟨(Nat.le_of_ble_eq_true rfl), (Nat.le_of_ble_eq_true rfl)⟩⟩ rd_loomL rfl rfl (Nat.le_of_ble_eq_true rfl) rfl dL_number_5 (Nat.le_of_ble_eq_true rfl) (Nat.le_of_ble_eq_true rfl) [] ⟨0, 10, 13, 13⟩ [] rfl (fun z hz => absurd hz List.not_mem_nil) (by decide) (by decide) (by decide +kernel) (hW.2.1.2.2.2.1 _ (by decide)) (fun q => ?_)
  have F1 := S.at 1 6 (Nat.le_of_ble_eq_true rfl) (Nat.le_of_ble_eq_true rfl)
  refine j_astore F1 [some (.ref (Z.ad 0)), some (.int x), some (.int y), some (.ref o), some (.ref q)] dL_number_13 (by decide) rfl rfl ?_
  refine j_iconst F1 1 dL_number_15 (by decide) ?_
  exact w_ret S hW hRT (Nat.le_of_ble_eq_true rfl) (Nat.le_of_ble_eq_true rfl) dL_number_16 (fun h9 => absurd h9 (by decide))

set_option maxRecDepth 100000 in
set_option maxHeartbeats 4000000 in
theorem w_number (l : Launch) (Z : Zx) (cL : ClassId) (o : Nat) (f : Nat → Int64) (hZ : AdOk Z (LZ Z)) (ho : ¬ LZ Z o) (hfl : l.stackTraces = false) (k : Nat) (hk : k < 10) (x : Int32) : Kw l Z cL o f yL_number wsL_number { frames := 7, cells := 1, slots := 6, locals := 113 } [.ref (Z.ad 0), .int (nI k), .int x, .ref o] 1 0 := by
  refine Kw.of (cc := cL_number) (maxL := 5) (ret := some .int) (hh := [(0, 10, 13, 13)]) hZ ho (by decide) rfl (Nat.le_of_ble_eq_true rfl) ?_
  intro X hXl S hW hRT
  subst hXl
  have F0 := S.at 0 0 (Nat.le_of_ble_eq_true rfl) (Nat.le_of_ble_eq_true rfl)
  show J (X.at 0 0) 5 (FL Z cL (WL Z tok0 ties0) o f) 0 [some (.ref (Z.ad 0)), some (.int (nI k)), some (.int x), some (.ref o), none] []
  refine j_aload_n F0 dL_number_0 rfl ?_
  refine j_iconst F0 0 dL_number_1 (by decide) ?_
  refine j_aload_n F0 dL_number_2 rfl ?_
  refine j_iload_n F0 dL_number_3 rfl ?_
  refine j_iload_n F0 dL_number_4 rfl ?_
  refine w_catch S hW (E := sIO) (name := "java/lang/IndexOutOfBoundsException") (n1 := 2) (rest := [.int 0, .ref o]) (fun σ hC => x_X4_number X.l Z (LZ Z) hZ hfl σ hC k hk x) ⟨_, _, _, _, rfl, gL_number_X4_number, rfl, rfl, (by decide +kernel), ⟨(Nat.le_of_ble_eq_true rfl), (Nat.le_of_ble_eq_true rfl)⟩⟩ rd_loomL rfl rfl (Nat.le_of_ble_eq_true rfl) rfl dL_number_5 (Nat.le_of_ble_eq_true rfl) (Nat.le_of_ble_eq_true rfl) [] ⟨0, 10, 13, 13⟩ [] rfl (fun z hz => absurd hz List.not_mem_nil) (by decide) (by decide) (by decide +kernel) (hW.2.1.2.2.2.1 _ (by decide)) (fun q => ?_)
  have F1 := S.at 1 6 (Nat.le_of_ble_eq_true rfl) (Nat.le_of_ble_eq_true rfl)
  refine j_astore F1 [some (.ref (Z.ad 0)), some (.int (nI k)), some (.int x), some (.ref o), some (.ref q)] dL_number_13 (by decide) rfl rfl ?_
  refine j_iconst F1 1 dL_number_15 (by decide) ?_
  exact w_ret S hW hRT (Nat.le_of_ble_eq_true rfl) (Nat.le_of_ble_eq_true rfl) dL_number_16 (fun h9 => absurd h9 (by decide))

set_option maxRecDepth 100000 in
set_option maxHeartbeats 4000000 in
theorem w_period_b (l : Launch) (Z : Zx) (cL : ClassId) (o : Nat) (f : Nat → Int64) (hZ : AdOk Z (LZ Z)) (ho : ¬ LZ Z o) (hfl : l.stackTraces = false) (x : Int32) (hb : ¬ (0 ≤ x ∧ x ≤ 9)) : Kw l Z cL o f yL_period wsL_period { frames := 8, cells := 1, slots := 6, locals := 132 } [.ref (Z.ad 0), .int x, .ref o] 1 0 := by
  refine Kw.of (cc := cL_period) (maxL := 4) (ret := some .int) (hh := [(0, 9, 12, 13)]) hZ ho (by decide) rfl (Nat.le_of_ble_eq_true rfl) ?_
  intro X hXl S hW hRT
  subst hXl
  have F0 := S.at 0 0 (Nat.le_of_ble_eq_true rfl) (Nat.le_of_ble_eq_true rfl)
  show J (X.at 0 0) 4 (FL Z cL (WL Z tok0 ties0) o f) 0 [some (.ref (Z.ad 0)), some (.int x), some (.ref o), none] []
  refine j_aload_n F0 dL_period_0 rfl ?_
  refine j_iconst F0 0 dL_period_1 (by decide) ?_
  refine j_aload_n F0 dL_period_2 rfl ?_
  refine j_iload_n F0 dL_period_3 rfl ?_
  refine w_catch S hW (E := sIO) (name := "java/lang/IndexOutOfBoundsException") (n1 := 1) (rest := [.int 0, .ref o]) (fun σ hC => x_X4_period_b X.l Z (LZ Z) hZ hfl σ x hb) ⟨_, _, _, _, rfl, gL_period_X4_period, rfl, rfl, (by decide +kernel), ⟨(Nat.le_of_ble_eq_true rfl), (Nat.le_of_ble_eq_true rfl)⟩⟩ rd_loomL rfl rfl (Nat.le_of_ble_eq_true rfl) rfl dL_period_4 (Nat.le_of_ble_eq_true rfl) (Nat.le_of_ble_eq_true rfl) [] ⟨0, 9, 12, 13⟩ [] rfl (fun z hz => absurd hz List.not_mem_nil) (by decide) (by decide) (by decide +kernel) (hW.2.1.2.2.2.1 _ (by decide)) (fun q => ?_)
  have F1 := S.at 1 6 (Nat.le_of_ble_eq_true rfl) (Nat.le_of_ble_eq_true rfl)
  refine j_astore_n F1 [some (.ref (Z.ad 0)), some (.int x), some (.ref o), some (.ref q)] dL_period_12 (by decide) rfl rfl ?_
  refine j_iconst F1 1 dL_period_13 (by decide) ?_
  exact w_ret S hW hRT (Nat.le_of_ble_eq_true rfl) (Nat.le_of_ble_eq_true rfl) dL_period_14 (fun h9 => absurd h9 (by decide))

set_option maxRecDepth 100000 in
set_option maxHeartbeats 4000000 in
theorem w_period (l : Launch) (Z : Zx) (cL : ClassId) (o : Nat) (f : Nat → Int64) (hZ : AdOk Z (LZ Z)) (ho : ¬ LZ Z o) (k : Nat) (hk : k < 10) : Kw l Z cL o f yL_period wsL_period { frames := 4, cells := 1, slots := 6, locals := 85 } [.ref (Z.ad 0), .int (nI k), .ref o] 0 (periodI (num tok0 k)).toInt64 := by
  refine Kw.of (cc := cL_period) (maxL := 4) (ret := some .int) (hh := [(0, 9, 12, 13)]) hZ ho (by decide) rfl (Nat.le_of_ble_eq_true rfl) ?_
  intro X hXl S hW hRT
  subst hXl
  have F0 := S.at 0 0 (Nat.le_of_ble_eq_true rfl) (Nat.le_of_ble_eq_true rfl)
  show J (X.at 0 0) 4 (FL Z cL (WL Z tok0 ties0) o f) 0 [some (.ref (Z.ad 0)), some (.int (nI k)), some (.ref o), none] []
  refine j_aload_n F0 dL_period_0 rfl ?_
  refine j_iconst F0 0 dL_period_1 (by decide) ?_
  refine j_aload_n F0 dL_period_2 rfl ?_
  refine j_iload_n F0 dL_period_3 rfl ?_
  refine w_cVi S hW (n1 := 1) (rest := [.int 0, .ref o]) (k_X4_period X.l Z (LZ Z) hZ tok0 ties0 k hk) ⟨_, _, _, _, rfl, gL_period_X4_period, rfl, rfl, (by decide +kernel), ⟨(Nat.le_of_ble_eq_true rfl), (Nat.le_of_ble_eq_true rfl)⟩⟩ rd_loomL rfl rfl (Nat.le_of_ble_eq_true rfl) rfl dL_period_4 (fun r hr => ?_)
  subst hr
  refine j_i2l F0 (periodI (num tok0 k)).toInt64 dL_period_7 rfl ?_
  refine w_last S hW dL_period_8 (fun g hg => ?_)
  refine j_goto F0 15 dL_period_9 (by decide) ?_
  refine j_iconst F0 0 dL_period_15 (by decide) ?_
  exact w_ret S hW hRT (Nat.le_of_ble_eq_true rfl) (Nat.le_of_ble_eq_true rfl) dL_period_16 (fun _ => hg)

set_option maxRecDepth 100000 in
set_option maxHeartbeats 4000000 in
theorem w_tie_b (l : Launch) (Z : Zx) (cL : ClassId) (o : Nat) (f : Nat → Int64) (hZ : AdOk Z (LZ Z)) (ho : ¬ LZ Z o) (hfl : l.stackTraces = false) (x : Int32) (hb : ¬ (0 ≤ x ∧ x ≤ 7)) (y : Int32) : Kw l Z cL o f yL_tie wsL_tie { frames := 8, cells := 1, slots := 6, locals := 133 } [.ref (Z.ad 0), .int x, .int y, .ref o] 1 0 := by
  refine Kw.of (cc := cL_tie) (maxL := 5) (ret := some .int) (hh := [(0, 10, 13, 13), (0, 10, 17, 15)]) hZ ho (by decide) rfl (Nat.le_of_ble_eq_true rfl) ?_
  intro X hXl S hW hRT
  subst hXl
  have F0 := S.at 0 0 (Nat.le_of_ble_eq_true rfl) (Nat.le_of_ble_eq_true rfl)
  show J (X.at 0 0) 5 (FL Z cL (WL Z tok0 ties0) o f) 0 [some (.ref (Z.ad 0)), some (.int x), some (.int y), some (.ref o), none] []
  refine j_aload_n F0 dL_tie_0 rfl ?_
  refine j_iconst F0 0 dL_tie_1 (by decide) ?_
  refine j_aload_n F0 dL_tie_2 rfl ?_
  refine j_iload_n F0 dL_tie_3 rfl ?_
  refine j_iload_n F0 dL_tie_4 rfl ?_
  refine w_catch S hW (E := sIO) (name := "java/lang/IndexOutOfBoundsException") (n1 := 2) (rest := [.int 0, .ref o]) (fun σ hC => x_X4_tie_b X.l Z (LZ Z) hZ hfl σ x hb y) ⟨_, _, _, _, rfl, gL_tie_X4_tie, rfl, rfl, (by decide +kernel), ⟨(Nat.le_of_ble_eq_true rfl), (Nat.le_of_ble_eq_true rfl)⟩⟩ rd_loomL rfl rfl (Nat.le_of_ble_eq_true rfl) rfl dL_tie_5 (Nat.le_of_ble_eq_true rfl) (Nat.le_of_ble_eq_true rfl) [] ⟨0, 10, 13, 13⟩ [⟨0, 10, 17, 15⟩] rfl (fun z hz => absurd hz List.not_mem_nil) (by decide) (by decide) (by decide +kernel) (hW.2.1.2.2.2.1 _ (by decide)) (fun q => ?_)
  have F1 := S.at 1 6 (Nat.le_of_ble_eq_true rfl) (Nat.le_of_ble_eq_true rfl)
  refine j_astore F1 [some (.ref (Z.ad 0)), some (.int x), some (.int y), some (.ref o), some (.ref q)] dL_tie_13 (by decide) rfl rfl ?_
  refine j_iconst F1 1 dL_tie_15 (by decide) ?_
  exact w_ret S hW hRT (Nat.le_of_ble_eq_true rfl) (Nat.le_of_ble_eq_true rfl) dL_tie_16 (fun h9 => absurd h9 (by decide))

set_option maxRecDepth 100000 in
set_option maxHeartbeats 4000000 in
theorem w_tie_t (l : Launch) (Z : Zx) (cL : ClassId) (o : Nat) (f : Nat → Int64) (hZ : AdOk Z (LZ Z)) (ho : ¬ LZ Z o) (hfl : l.stackTraces = false) (k : Nat) (hk : k < 8) (x : Int32) (hb : ¬ (0 ≤ x ∧ x ≤ 255)) : Kw l Z cL o f yL_tie wsL_tie { frames := 7, cells := 1, slots := 6, locals := 113 } [.ref (Z.ad 0), .int (nI k), .int x, .ref o] 2 0 := by
  refine Kw.of (cc := cL_tie) (maxL := 5) (ret := some .int) (hh := [(0, 10, 13, 13), (0, 10, 17, 15)]) hZ ho (by decide) rfl (Nat.le_of_ble_eq_true rfl) ?_
  intro X hXl S hW hRT
  subst hXl
  have F0 := S.at 0 0 (Nat.le_of_ble_eq_true rfl) (Nat.le_of_ble_eq_true rfl)
  show J (X.at 0 0) 5 (FL Z cL (WL Z tok0 ties0) o f) 0 [some (.ref (Z.ad 0)), some (.int (nI k)), some (.int x), some (.ref o), none] []
  refine j_aload_n F0 dL_tie_0 rfl ?_
  refine j_iconst F0 0 dL_tie_1 (by decide) ?_
  refine j_aload_n F0 dL_tie_2 rfl ?_
  refine j_iload_n F0 dL_tie_3 rfl ?_
  refine j_iload_n F0 dL_tie_4 rfl ?_
  refine w_catch S hW (E := sIA) (name := "java/lang/IllegalArgumentException") (n1 := 2) (rest := [.int 0, .ref o]) (fun σ hC => x_X4_tie_t X.l Z (LZ Z) hZ hfl σ k hk x hb) ⟨_, _, _, _, rfl, gL_tie_X4_tie, rfl, rfl, (by decide +kernel), ⟨(Nat.le_of_ble_eq_true rfl), (Nat.le_of_ble_eq_true rfl)⟩⟩ rd_loomL rfl rfl (Nat.le_of_ble_eq_true rfl) rfl dL_tie_5 (Nat.le_of_ble_eq_true rfl) (Nat.le_of_ble_eq_true rfl) [⟨0, 10, 13, 13⟩] ⟨0, 10, 17, 15⟩ [] rfl (fun z hz => by
    rcases List.mem_cons.mp hz with rfl | h9
    · exact ⟨by decide, _, (by decide +kernel : Cond.classLink RL 13 "java/lang/IndexOutOfBoundsException" ∈ wsL_tie), hW.2.2.1⟩
    · exact absurd h9 List.not_mem_nil) (by decide) (by decide) (by decide +kernel) (hW.2.1.2.2.2.2 _ (by decide)) (fun q => ?_)
  have F1 := S.at 1 6 (Nat.le_of_ble_eq_true rfl) (Nat.le_of_ble_eq_true rfl)
  refine j_astore F1 [some (.ref (Z.ad 0)), some (.int (nI k)), some (.int x), some (.ref o), some (.ref q)] dL_tie_17 (by decide) rfl rfl ?_
  refine j_iconst F1 2 dL_tie_19 (by decide) ?_
  exact w_ret S hW hRT (Nat.le_of_ble_eq_true rfl) (Nat.le_of_ble_eq_true rfl) dL_tie_20 (fun h9 => absurd h9 (by decide))

set_option maxRecDepth 100000 in
set_option maxHeartbeats 4000000 in
theorem w_tie (l : Launch) (Z : Zx) (cL : ClassId) (o : Nat) (f : Nat → Int64) (hZ : AdOk Z (LZ Z)) (ho : ¬ LZ Z o) (k j : Nat) (hk : k < 8) (hj : j < 256) : Kw l Z cL o f yL_tie wsL_tie { frames := 4, cells := 1, slots := 6, locals := 92 } [.ref (Z.ad 0), .int (nI k), .int (nI j), .ref o] 0 (ties0.getD k 0).toInt64 := by
  refine Kw.of (cc := cL_tie) (maxL := 5) (ret := some .int) (hh := [(0, 10, 13, 13), (0, 10, 17, 15)]) hZ ho (by decide) rfl (Nat.le_of_ble_eq_true rfl) ?_
  intro X hXl S hW hRT
  subst hXl
  have F0 := S.at 0 0 (Nat.le_of_ble_eq_true rfl) (Nat.le_of_ble_eq_true rfl)
  show J (X.at 0 0) 5 (FL Z cL (WL Z tok0 ties0) o f) 0 [some (.ref (Z.ad 0)), some (.int (nI k)), some (.int (nI j)), some (.ref o), none] []
  refine j_aload_n F0 dL_tie_0 rfl ?_
  refine j_iconst F0 0 dL_tie_1 (by decide) ?_
  refine j_aload_n F0 dL_tie_2 rfl ?_
  refine j_iload_n F0 dL_tie_3 rfl ?_
  refine j_iload_n F0 dL_tie_4 rfl ?_
  refine w_cVi S hW (n1 := 2) (rest := [.int 0, .ref o]) (k_X4_tie X.l Z (LZ Z) hZ tok0 ties0 k j hk hj) ⟨_, _, _, _, rfl, gL_tie_X4_tie, rfl, rfl, (by decide +kernel), ⟨(Nat.le_of_ble_eq_true rfl), (Nat.le_of_ble_eq_true rfl)⟩⟩ rd_loomL rfl rfl (Nat.le_of_ble_eq_true rfl) rfl dL_tie_5 (fun r hr => ?_)
  subst hr
  refine j_i2l F0 (ties0.getD k 0).toInt64 dL_tie_8 rfl ?_
  refine w_last S hW dL_tie_9 (fun g hg => ?_)
  refine j_goto F0 21 dL_tie_10 (by decide) ?_
  refine j_iconst F0 0 dL_tie_21 (by decide) ?_
  exact w_ret S hW hRT (Nat.le_of_ble_eq_true rfl) (Nat.le_of_ble_eq_true rfl) dL_tie_22 (fun _ => hg)

set_option maxRecDepth 100000 in
set_option maxHeartbeats 4000000 in
theorem w_tied_b (l : Launch) (Z : Zx) (cL : ClassId) (o : Nat) (f : Nat → Int64) (hZ : AdOk Z (LZ Z)) (ho : ¬ LZ Z o) (hfl : l.stackTraces = false) (x : Int32) (hb : ¬ (0 ≤ x ∧ x ≤ 7)) : Kw l Z cL o f yL_tied wsL_tied { frames := 8, cells := 1, slots := 6, locals := 131 } [.ref (Z.ad 0), .int x, .ref o] 1 0 := by
  refine Kw.of (cc := cL_tied) (maxL := 4) (ret := some .int) (hh := [(0, 9, 12, 13)]) hZ ho (by decide) rfl (Nat.le_of_ble_eq_true rfl) ?_
  intro X hXl S hW hRT
  subst hXl
  have F0 := S.at 0 0 (Nat.le_of_ble_eq_true rfl) (Nat.le_of_ble_eq_true rfl)
  show J (X.at 0 0) 4 (FL Z cL (WL Z tok0 ties0) o f) 0 [some (.ref (Z.ad 0)), some (.int x), some (.ref o), none] []
  refine j_aload_n F0 dL_tied_0 rfl ?_
  refine j_iconst F0 0 dL_tied_1 (by decide) ?_
  refine j_aload_n F0 dL_tied_2 rfl ?_
  refine j_iload_n F0 dL_tied_3 rfl ?_
  refine w_catch S hW (E := sIO) (name := "java/lang/IndexOutOfBoundsException") (n1 := 1) (rest := [.int 0, .ref o]) (fun σ hC => x_X4_tied_b X.l Z (LZ Z) hZ hfl σ x hb) ⟨_, _, _, _, rfl, gL_tied_X4_tied, rfl, rfl, (by decide +kernel), ⟨(Nat.le_of_ble_eq_true rfl), (Nat.le_of_ble_eq_true rfl)⟩⟩ rd_loomL rfl rfl (Nat.le_of_ble_eq_true rfl) rfl dL_tied_4 (Nat.le_of_ble_eq_true rfl) (Nat.le_of_ble_eq_true rfl) [] ⟨0, 9, 12, 13⟩ [] rfl (fun z hz => absurd hz List.not_mem_nil) (by decide) (by decide) (by decide +kernel) (hW.2.1.2.2.2.1 _ (by decide)) (fun q => ?_)
  have F1 := S.at 1 6 (Nat.le_of_ble_eq_true rfl) (Nat.le_of_ble_eq_true rfl)
  refine j_astore_n F1 [some (.ref (Z.ad 0)), some (.int x), some (.ref o), some (.ref q)] dL_tied_12 (by decide) rfl rfl ?_
  refine j_iconst F1 1 dL_tied_13 (by decide) ?_
  exact w_ret S hW hRT (Nat.le_of_ble_eq_true rfl) (Nat.le_of_ble_eq_true rfl) dL_tied_14 (fun h9 => absurd h9 (by decide))

set_option maxRecDepth 100000 in
set_option maxHeartbeats 4000000 in
theorem w_tied (l : Launch) (Z : Zx) (cL : ClassId) (o : Nat) (f : Nat → Int64) (hZ : AdOk Z (LZ Z)) (ho : ¬ LZ Z o) (k : Nat) (hk : k < 8) : Kw l Z cL o f yL_tied wsL_tied { frames := 2, cells := 1, slots := 6, locals := 42 } [.ref (Z.ad 0), .int (nI k), .ref o] 0 (ties0.getD k 0).toInt64 := by
  refine Kw.of (cc := cL_tied) (maxL := 4) (ret := some .int) (hh := [(0, 9, 12, 13)]) hZ ho (by decide) rfl (Nat.le_of_ble_eq_true rfl) ?_
  intro X hXl S hW hRT
  subst hXl
  have F0 := S.at 0 0 (Nat.le_of_ble_eq_true rfl) (Nat.le_of_ble_eq_true rfl)
  show J (X.at 0 0) 4 (FL Z cL (WL Z tok0 ties0) o f) 0 [some (.ref (Z.ad 0)), some (.int (nI k)), some (.ref o), none] []
  refine j_aload_n F0 dL_tied_0 rfl ?_
  refine j_iconst F0 0 dL_tied_1 (by decide) ?_
  refine j_aload_n F0 dL_tied_2 rfl ?_
  refine j_iload_n F0 dL_tied_3 rfl ?_
  refine w_cVi S hW (n1 := 1) (rest := [.int 0, .ref o]) (k_X4_tied X.l Z (LZ Z) hZ tok0 ties0 k hk) ⟨_, _, _, _, rfl, gL_tied_X4_tied, rfl, rfl, (by decide +kernel), ⟨(Nat.le_of_ble_eq_true rfl), (Nat.le_of_ble_eq_true rfl)⟩⟩ rd_loomL rfl rfl (Nat.le_of_ble_eq_true rfl) rfl dL_tied_4 (fun r hr => ?_)
  subst hr
  refine j_i2l F0 (ties0.getD k 0).toInt64 dL_tied_7 rfl ?_
  refine w_last S hW dL_tied_8 (fun g hg => ?_)
  refine j_goto F0 15 dL_tied_9 (by decide) ?_
  refine j_iconst F0 0 dL_tied_15 (by decide) ?_
  exact w_ret S hW hRT (Nat.le_of_ble_eq_true rfl) (Nat.le_of_ble_eq_true rfl) dL_tied_16 (fun _ => hg)

set_option maxRecDepth 100000 in
set_option maxHeartbeats 4000000 in
theorem w_twill_n (l : Launch) (Z : Zx) (cL : ClassId) (o : Nat) (f : Nat → Int64) (hZ : AdOk Z (LZ Z)) (ho : ¬ LZ Z o) (hfl : l.stackTraces = false) (x y : Int32) (hb : ¬ (2 ≤ x ∧ x ≤ 8)) : Kw l Z cL o f yL_twill wsL_twill { frames := 7, cells := 1, slots := 6, locals := 115 } [.ref (Z.ad 0), .int x, .int y, .ref o] 1 0 := by
  refine Kw.of (cc := cL_twill) (maxL := 5) (ret := some .int) (hh := [(0, 10, 13, 15)]) hZ ho (by decide) rfl (Nat.le_of_ble_eq_true rfl) ?_
  intro X hXl S hW hRT
  subst hXl
  have F0 := S.at 0 0 (Nat.le_of_ble_eq_true rfl) (Nat.le_of_ble_eq_true rfl)
  show J (X.at 0 0) 5 (FL Z cL (WL Z tok0 ties0) o f) 0 [some (.ref (Z.ad 0)), some (.int x), some (.int y), some (.ref o), none] []
  refine j_aload_n F0 dL_twill_0 rfl ?_
  refine j_iconst F0 0 dL_twill_1 (by decide) ?_
  refine j_aload_n F0 dL_twill_2 rfl ?_
  refine j_iload_n F0 dL_twill_3 rfl ?_
  refine j_iload_n F0 dL_twill_4 rfl ?_
  refine w_catch S hW (E := sIA) (name := "java/lang/IllegalArgumentException") (n1 := 2) (rest := [.int 0, .ref o]) (fun σ hC => x_X4_twill_n X.l Z (LZ Z) hZ hfl σ x y hb) ⟨_, _, _, _, rfl, gL_twill_X4_twill, rfl, rfl, (by decide +kernel), ⟨(Nat.le_of_ble_eq_true rfl), (Nat.le_of_ble_eq_true rfl)⟩⟩ rd_loomL rfl rfl (Nat.le_of_ble_eq_true rfl) rfl dL_twill_5 (Nat.le_of_ble_eq_true rfl) (Nat.le_of_ble_eq_true rfl) [] ⟨0, 10, 13, 15⟩ [] rfl (fun z hz => absurd hz List.not_mem_nil) (by decide) (by decide) (by decide +kernel) (hW.2.1.2.2.2.2 _ (by decide)) (fun q => ?_)
  have F1 := S.at 1 6 (Nat.le_of_ble_eq_true rfl) (Nat.le_of_ble_eq_true rfl)
  refine j_astore F1 [some (.ref (Z.ad 0)), some (.int x), some (.int y), some (.ref o), some (.ref q)] dL_twill_13 (by decide) rfl rfl ?_
  refine j_iconst F1 1 dL_twill_15 (by decide) ?_
  exact w_ret S hW hRT (Nat.le_of_ble_eq_true rfl) (Nat.le_of_ble_eq_true rfl) dL_twill_16 (fun h9 => absurd h9 (by decide))

set_option maxRecDepth 100000 in
set_option maxHeartbeats 4000000 in
theorem w_twill_u (l : Launch) (Z : Zx) (cL : ClassId) (o : Nat) (f : Nat → Int64) (hZ : AdOk Z (LZ Z)) (ho : ¬ LZ Z o) (hfl : l.stackTraces = false) (x y : Int32) (hg : 2 ≤ x ∧ x ≤ 8) (hb : ¬ (1 ≤ y ∧ y ≤ x)) : Kw l Z cL o f yL_twill wsL_twill { frames := 7, cells := 1, slots := 6, locals := 115 } [.ref (Z.ad 0), .int x, .int y, .ref o] 1 0 := by
  refine Kw.of (cc := cL_twill) (maxL := 5) (ret := some .int) (hh := [(0, 10, 13, 15)]) hZ ho (by decide) rfl (Nat.le_of_ble_eq_true rfl) ?_
  intro X hXl S hW hRT
  subst hXl
  have F0 := S.at 0 0 (Nat.le_of_ble_eq_true rfl) (Nat.le_of_ble_eq_true rfl)
  show J (X.at 0 0) 5 (FL Z cL (WL Z tok0 ties0) o f) 0 [some (.ref (Z.ad 0)), some (.int x), some (.int y), some (.ref o), none] []
  refine j_aload_n F0 dL_twill_0 rfl ?_
  refine j_iconst F0 0 dL_twill_1 (by decide) ?_
  refine j_aload_n F0 dL_twill_2 rfl ?_
  refine j_iload_n F0 dL_twill_3 rfl ?_
  refine j_iload_n F0 dL_twill_4 rfl ?_
  refine w_catch S hW (E := sIA) (name := "java/lang/IllegalArgumentException") (n1 := 2) (rest := [.int 0, .ref o]) (fun σ hC => x_X4_twill_u X.l Z (LZ Z) hZ hfl σ x y hg hb) ⟨_, _, _, _, rfl, gL_twill_X4_twill, rfl, rfl, (by decide +kernel), ⟨(Nat.le_of_ble_eq_true rfl), (Nat.le_of_ble_eq_true rfl)⟩⟩ rd_loomL rfl rfl (Nat.le_of_ble_eq_true rfl) rfl dL_twill_5 (Nat.le_of_ble_eq_true rfl) (Nat.le_of_ble_eq_true rfl) [] ⟨0, 10, 13, 15⟩ [] rfl (fun z hz => absurd hz List.not_mem_nil) (by decide) (by decide) (by decide +kernel) (hW.2.1.2.2.2.2 _ (by decide)) (fun q => ?_)
  have F1 := S.at 1 6 (Nat.le_of_ble_eq_true rfl) (Nat.le_of_ble_eq_true rfl)
  refine j_astore F1 [some (.ref (Z.ad 0)), some (.int x), some (.int y), some (.ref o), some (.ref q)] dL_twill_13 (by decide) rfl rfl ?_
  refine j_iconst F1 1 dL_twill_15 (by decide) ?_
  exact w_ret S hW hRT (Nat.le_of_ble_eq_true rfl) (Nat.le_of_ble_eq_true rfl) dL_twill_16 (fun h9 => absurd h9 (by decide))

set_option maxRecDepth 100000 in
set_option maxHeartbeats 4000000 in
theorem w_twill (l : Launch) (Z : Zx) (cL : ClassId) (o : Nat) (f : Nat → Int64) (hZ : AdOk Z (LZ Z)) (ho : ¬ LZ Z o) (k j : Nat) (h2 : 2 ≤ k) (h8 : k ≤ 8) (hu1 : 1 ≤ j) (hu : j ≤ k) : Kw l Z cL o f yL_twill wsL_twill { frames := 5, cells := 1, slots := 6, locals := 116 } [.ref (Z.ad 0), .int (nI k), .int (nI j), .ref o] 0 (diffT ties0 (twL k j 8)).toInt64 := by
  refine Kw.of (cc := cL_twill) (maxL := 5) (ret := some .int) (hh := [(0, 10, 13, 15)]) hZ ho (by decide) rfl (Nat.le_of_ble_eq_true rfl) ?_
  intro X hXl S hW hRT
  subst hXl
  have F0 := S.at 0 0 (Nat.le_of_ble_eq_true rfl) (Nat.le_of_ble_eq_true rfl)
  show J (X.at 0 0) 5 (FL Z cL (WL Z tok0 ties0) o f) 0 [some (.ref (Z.ad 0)), some (.int (nI k)), some (.int (nI j)), some (.ref o), none] []
  refine j_aload_n F0 dL_twill_0 rfl ?_
  refine j_iconst F0 0 dL_twill_1 (by decide) ?_
  refine j_aload_n F0 dL_twill_2 rfl ?_
  refine j_iload_n F0 dL_twill_3 rfl ?_
  refine j_iload_n F0 dL_twill_4 rfl ?_
  refine w_cVi S hW (n1 := 2) (rest := [.int 0, .ref o]) (k_X4_twill X.l Z (LZ Z) hZ tok0 ties0 k j h2 h8 hu1 hu) ⟨_, _, _, _, rfl, gL_twill_X4_twill, rfl, rfl, (by decide +kernel), ⟨(Nat.le_of_ble_eq_true rfl), (Nat.le_of_ble_eq_true rfl)⟩⟩ rd_loomL rfl rfl (Nat.le_of_ble_eq_true rfl) rfl dL_twill_5 (fun r hr => ?_)
  subst hr
  refine j_i2l F0 (diffT ties0 (twL k j 8)).toInt64 dL_twill_8 rfl ?_
  refine w_last S hW dL_twill_9 (fun g hg => ?_)
  refine j_goto F0 17 dL_twill_10 (by decide) ?_
  refine j_iconst F0 0 dL_twill_17 (by decide) ?_
  exact w_ret S hW hRT (Nat.le_of_ble_eq_true rfl) (Nat.le_of_ble_eq_true rfl) dL_twill_18 (fun _ => hg)

set_option maxRecDepth 100000 in
set_option maxHeartbeats 4000000 in
theorem w_swap_b (l : Launch) (Z : Zx) (cL : ClassId) (o : Nat) (f : Nat → Int64) (hZ : AdOk Z (LZ Z)) (ho : ¬ LZ Z o) (hfl : l.stackTraces = false) (x : Int32) (hb : ¬ (0 ≤ x ∧ x ≤ 7)) (y : Int32) : Kw l Z cL o f yL_swap wsL_swap { frames := 8, cells := 1, slots := 6, locals := 132 } [.ref (Z.ad 0), .int x, .int y, .ref o] 1 0 := by
  refine Kw.of (cc := cL_swap) (maxL := 5) (ret := some .int) (hh := [(0, 10, 13, 13)]) hZ ho (by decide) rfl (Nat.le_of_ble_eq_true rfl) ?_
  intro X hXl S hW hRT
  subst hXl
  have F0 := S.at 0 0 (Nat.le_of_ble_eq_true rfl) (Nat.le_of_ble_eq_true rfl)
  show J (X.at 0 0) 5 (FL Z cL (WL Z tok0 ties0) o f) 0 [some (.ref (Z.ad 0)), some (.int x), some (.int y), some (.ref o), none] []
  refine j_aload_n F0 dL_swap_0 rfl ?_
  refine j_iconst F0 0 dL_swap_1 (by decide) ?_
  refine j_aload_n F0 dL_swap_2 rfl ?_
  refine j_iload_n F0 dL_swap_3 rfl ?_
  refine j_iload_n F0 dL_swap_4 rfl ?_
  refine w_catch S hW (E := sIO) (name := "java/lang/IndexOutOfBoundsException") (n1 := 2) (rest := [.int 0, .ref o]) (fun σ hC => x_X4_swap_b X.l Z (LZ Z) hZ hfl σ x hb y) ⟨_, _, _, _, rfl, gL_swap_X4_swap, rfl, rfl, (by decide +kernel), ⟨(Nat.le_of_ble_eq_true rfl), (Nat.le_of_ble_eq_true rfl)⟩⟩ rd_loomL rfl rfl (Nat.le_of_ble_eq_true rfl) rfl dL_swap_5 (Nat.le_of_ble_eq_true rfl) (Nat.le_of_ble_eq_true rfl) [] ⟨0, 10, 13, 13⟩ [] rfl (fun z hz => absurd hz List.not_mem_nil) (by decide) (by decide) (by decide +kernel) (hW.2.1.2.2.2.1 _ (by decide)) (fun q => ?_)
  have F1 := S.at 1 6 (Nat.le_of_ble_eq_true rfl) (Nat.le_of_ble_eq_true rfl)
  refine j_astore F1 [some (.ref (Z.ad 0)), some (.int x), some (.int y), some (.ref o), some (.ref q)] dL_swap_13 (by decide) rfl rfl ?_
  refine j_iconst F1 1 dL_swap_15 (by decide) ?_
  exact w_ret S hW hRT (Nat.le_of_ble_eq_true rfl) (Nat.le_of_ble_eq_true rfl) dL_swap_16 (fun h9 => absurd h9 (by decide))

set_option maxRecDepth 100000 in
set_option maxHeartbeats 4000000 in
theorem w_swap_c (l : Launch) (Z : Zx) (cL : ClassId) (o : Nat) (f : Nat → Int64) (hZ : AdOk Z (LZ Z)) (ho : ¬ LZ Z o) (hfl : l.stackTraces = false) (k : Nat) (hk : k < 8) (x : Int32) (hb : ¬ (0 ≤ x ∧ x ≤ 7)) : Kw l Z cL o f yL_swap wsL_swap { frames := 8, cells := 1, slots := 6, locals := 132 } [.ref (Z.ad 0), .int (nI k), .int x, .ref o] 1 0 := by
  refine Kw.of (cc := cL_swap) (maxL := 5) (ret := some .int) (hh := [(0, 10, 13, 13)]) hZ ho (by decide) rfl (Nat.le_of_ble_eq_true rfl) ?_
  intro X hXl S hW hRT
  subst hXl
  have F0 := S.at 0 0 (Nat.le_of_ble_eq_true rfl) (Nat.le_of_ble_eq_true rfl)
  show J (X.at 0 0) 5 (FL Z cL (WL Z tok0 ties0) o f) 0 [some (.ref (Z.ad 0)), some (.int (nI k)), some (.int x), some (.ref o), none] []
  refine j_aload_n F0 dL_swap_0 rfl ?_
  refine j_iconst F0 0 dL_swap_1 (by decide) ?_
  refine j_aload_n F0 dL_swap_2 rfl ?_
  refine j_iload_n F0 dL_swap_3 rfl ?_
  refine j_iload_n F0 dL_swap_4 rfl ?_
  refine w_catch S hW (E := sIO) (name := "java/lang/IndexOutOfBoundsException") (n1 := 2) (rest := [.int 0, .ref o]) (fun σ hC => x_X4_swap_c X.l Z (LZ Z) hZ hfl σ k hk x hb) ⟨_, _, _, _, rfl, gL_swap_X4_swap, rfl, rfl, (by decide +kernel), ⟨(Nat.le_of_ble_eq_true rfl), (Nat.le_of_ble_eq_true rfl)⟩⟩ rd_loomL rfl rfl (Nat.le_of_ble_eq_true rfl) rfl dL_swap_5 (Nat.le_of_ble_eq_true rfl) (Nat.le_of_ble_eq_true rfl) [] ⟨0, 10, 13, 13⟩ [] rfl (fun z hz => absurd hz List.not_mem_nil) (by decide) (by decide) (by decide +kernel) (hW.2.1.2.2.2.1 _ (by decide)) (fun q => ?_)
  have F1 := S.at 1 6 (Nat.le_of_ble_eq_true rfl) (Nat.le_of_ble_eq_true rfl)
  refine j_astore F1 [some (.ref (Z.ad 0)), some (.int (nI k)), some (.int x), some (.ref o), some (.ref q)] dL_swap_13 (by decide) rfl rfl ?_
  refine j_iconst F1 1 dL_swap_15 (by decide) ?_
  exact w_ret S hW hRT (Nat.le_of_ble_eq_true rfl) (Nat.le_of_ble_eq_true rfl) dL_swap_16 (fun h9 => absurd h9 (by decide))

set_option maxRecDepth 100000 in
set_option maxHeartbeats 4000000 in
theorem w_changedBy_b (l : Launch) (Z : Zx) (cL : ClassId) (o : Nat) (f : Nat → Int64) (hZ : AdOk Z (LZ Z)) (ho : ¬ LZ Z o) (hfl : l.stackTraces = false) (x : Int32) (hb : ¬ (0 ≤ x ∧ x ≤ 7)) (y : Int32) : Kw l Z cL o f yL_changedBy wsL_changedBy { frames := 8, cells := 1, slots := 6, locals := 134 } [.ref (Z.ad 0), .int x, .int y, .ref o] 1 0 := by
  refine Kw.of (cc := cL_changedBy) (maxL := 5) (ret := some .int) (hh := [(0, 10, 13, 13)]) hZ ho (by decide) rfl (Nat.le_of_ble_eq_true rfl) ?_
  intro X hXl S hW hRT
  subst hXl
  have F0 := S.at 0 0 (Nat.le_of_ble_eq_true rfl) (Nat.le_of_ble_eq_true rfl)
  show J (X.at 0 0) 5 (FL Z cL (WL Z tok0 ties0) o f) 0 [some (.ref (Z.ad 0)), some (.int x), some (.int y), some (.ref o), none] []
  refine j_aload_n F0 dL_changedBy_0 rfl ?_
  refine j_iconst F0 0 dL_changedBy_1 (by decide) ?_
  refine j_aload_n F0 dL_changedBy_2 rfl ?_
  refine j_iload_n F0 dL_changedBy_3 rfl ?_
  refine j_iload_n F0 dL_changedBy_4 rfl ?_
  refine w_catch S hW (E := sIO) (name := "java/lang/IndexOutOfBoundsException") (n1 := 2) (rest := [.int 0, .ref o]) (fun σ hC => x_X4_changedBy_b X.l Z (LZ Z) hZ hfl σ x hb y) ⟨_, _, _, _, rfl, gL_changedBy_X4_changedBy, rfl, rfl, (by decide +kernel), ⟨(Nat.le_of_ble_eq_true rfl), (Nat.le_of_ble_eq_true rfl)⟩⟩ rd_loomL rfl rfl (Nat.le_of_ble_eq_true rfl) rfl dL_changedBy_5 (Nat.le_of_ble_eq_true rfl) (Nat.le_of_ble_eq_true rfl) [] ⟨0, 10, 13, 13⟩ [] rfl (fun z hz => absurd hz List.not_mem_nil) (by decide) (by decide) (by decide +kernel) (hW.2.1.2.2.2.1 _ (by decide)) (fun q => ?_)
  have F1 := S.at 1 6 (Nat.le_of_ble_eq_true rfl) (Nat.le_of_ble_eq_true rfl)
  refine j_astore F1 [some (.ref (Z.ad 0)), some (.int x), some (.int y), some (.ref o), some (.ref q)] dL_changedBy_13 (by decide) rfl rfl ?_
  refine j_iconst F1 1 dL_changedBy_15 (by decide) ?_
  exact w_ret S hW hRT (Nat.le_of_ble_eq_true rfl) (Nat.le_of_ble_eq_true rfl) dL_changedBy_16 (fun h9 => absurd h9 (by decide))

set_option maxRecDepth 100000 in
set_option maxHeartbeats 4000000 in
theorem w_changedBy_c (l : Launch) (Z : Zx) (cL : ClassId) (o : Nat) (f : Nat → Int64) (hZ : AdOk Z (LZ Z)) (ho : ¬ LZ Z o) (hfl : l.stackTraces = false) (k : Nat) (hk : k < 8) (x : Int32) (hb : ¬ (0 ≤ x ∧ x ≤ 7)) : Kw l Z cL o f yL_changedBy wsL_changedBy { frames := 8, cells := 1, slots := 6, locals := 134 } [.ref (Z.ad 0), .int (nI k), .int x, .ref o] 1 0 := by
  refine Kw.of (cc := cL_changedBy) (maxL := 5) (ret := some .int) (hh := [(0, 10, 13, 13)]) hZ ho (by decide) rfl (Nat.le_of_ble_eq_true rfl) ?_
  intro X hXl S hW hRT
  subst hXl
  have F0 := S.at 0 0 (Nat.le_of_ble_eq_true rfl) (Nat.le_of_ble_eq_true rfl)
  show J (X.at 0 0) 5 (FL Z cL (WL Z tok0 ties0) o f) 0 [some (.ref (Z.ad 0)), some (.int (nI k)), some (.int x), some (.ref o), none] []
  refine j_aload_n F0 dL_changedBy_0 rfl ?_
  refine j_iconst F0 0 dL_changedBy_1 (by decide) ?_
  refine j_aload_n F0 dL_changedBy_2 rfl ?_
  refine j_iload_n F0 dL_changedBy_3 rfl ?_
  refine j_iload_n F0 dL_changedBy_4 rfl ?_
  refine w_catch S hW (E := sIO) (name := "java/lang/IndexOutOfBoundsException") (n1 := 2) (rest := [.int 0, .ref o]) (fun σ hC => x_X4_changedBy_c X.l Z (LZ Z) hZ hfl σ k hk x hb) ⟨_, _, _, _, rfl, gL_changedBy_X4_changedBy, rfl, rfl, (by decide +kernel), ⟨(Nat.le_of_ble_eq_true rfl), (Nat.le_of_ble_eq_true rfl)⟩⟩ rd_loomL rfl rfl (Nat.le_of_ble_eq_true rfl) rfl dL_changedBy_5 (Nat.le_of_ble_eq_true rfl) (Nat.le_of_ble_eq_true rfl) [] ⟨0, 10, 13, 13⟩ [] rfl (fun z hz => absurd hz List.not_mem_nil) (by decide) (by decide) (by decide +kernel) (hW.2.1.2.2.2.1 _ (by decide)) (fun q => ?_)
  have F1 := S.at 1 6 (Nat.le_of_ble_eq_true rfl) (Nat.le_of_ble_eq_true rfl)
  refine j_astore F1 [some (.ref (Z.ad 0)), some (.int (nI k)), some (.int x), some (.ref o), some (.ref q)] dL_changedBy_13 (by decide) rfl rfl ?_
  refine j_iconst F1 1 dL_changedBy_15 (by decide) ?_
  exact w_ret S hW hRT (Nat.le_of_ble_eq_true rfl) (Nat.le_of_ble_eq_true rfl) dL_changedBy_16 (fun h9 => absurd h9 (by decide))

set_option maxRecDepth 100000 in
set_option maxHeartbeats 4000000 in
theorem w_floatWith_b (l : Launch) (Z : Zx) (cL : ClassId) (o : Nat) (f : Nat → Int64) (hZ : AdOk Z (LZ Z)) (ho : ¬ LZ Z o) (hfl : l.stackTraces = false) (x : Int32) (hb : ¬ (0 ≤ x ∧ x ≤ 7)) (y : Int32) : Kw l Z cL o f yL_floatWith wsL_floatWith { frames := 9, cells := 1, slots := 6, locals := 154 } [.ref (Z.ad 0), .int x, .int y, .ref o] 1 0 := by
  refine Kw.of (cc := cL_floatWith) (maxL := 5) (ret := some .int) (hh := [(0, 10, 13, 13)]) hZ ho (by decide) rfl (Nat.le_of_ble_eq_true rfl) ?_
  intro X hXl S hW hRT
  subst hXl
  have F0 := S.at 0 0 (Nat.le_of_ble_eq_true rfl) (Nat.le_of_ble_eq_true rfl)
  show J (X.at 0 0) 5 (FL Z cL (WL Z tok0 ties0) o f) 0 [some (.ref (Z.ad 0)), some (.int x), some (.int y), some (.ref o), none] []
  refine j_aload_n F0 dL_floatWith_0 rfl ?_
  refine j_iconst F0 0 dL_floatWith_1 (by decide) ?_
  refine j_aload_n F0 dL_floatWith_2 rfl ?_
  refine j_iload_n F0 dL_floatWith_3 rfl ?_
  refine j_iload_n F0 dL_floatWith_4 rfl ?_
  refine w_catch S hW (E := sIO) (name := "java/lang/IndexOutOfBoundsException") (n1 := 2) (rest := [.int 0, .ref o]) (fun σ hC => x_X4_floatWith_b X.l Z (LZ Z) hZ hfl σ x hb y) ⟨_, _, _, _, rfl, gL_floatWith_X4_floatWith, rfl, rfl, (by decide +kernel), ⟨(Nat.le_of_ble_eq_true rfl), (Nat.le_of_ble_eq_true rfl)⟩⟩ rd_loomL rfl rfl (Nat.le_of_ble_eq_true rfl) rfl dL_floatWith_5 (Nat.le_of_ble_eq_true rfl) (Nat.le_of_ble_eq_true rfl) [] ⟨0, 10, 13, 13⟩ [] rfl (fun z hz => absurd hz List.not_mem_nil) (by decide) (by decide) (by decide +kernel) (hW.2.1.2.2.2.1 _ (by decide)) (fun q => ?_)
  have F1 := S.at 1 6 (Nat.le_of_ble_eq_true rfl) (Nat.le_of_ble_eq_true rfl)
  refine j_astore F1 [some (.ref (Z.ad 0)), some (.int x), some (.int y), some (.ref o), some (.ref q)] dL_floatWith_13 (by decide) rfl rfl ?_
  refine j_iconst F1 1 dL_floatWith_15 (by decide) ?_
  exact w_ret S hW hRT (Nat.le_of_ble_eq_true rfl) (Nat.le_of_ble_eq_true rfl) dL_floatWith_16 (fun h9 => absurd h9 (by decide))

set_option maxRecDepth 100000 in
set_option maxHeartbeats 4000000 in
theorem w_floatWith_c (l : Launch) (Z : Zx) (cL : ClassId) (o : Nat) (f : Nat → Int64) (hZ : AdOk Z (LZ Z)) (ho : ¬ LZ Z o) (hfl : l.stackTraces = false) (k : Nat) (hk : k < 8) (x : Int32) (hb : ¬ (0 ≤ x ∧ x ≤ 7)) : Kw l Z cL o f yL_floatWith wsL_floatWith { frames := 9, cells := 1, slots := 6, locals := 154 } [.ref (Z.ad 0), .int (nI k), .int x, .ref o] 1 0 := by
  refine Kw.of (cc := cL_floatWith) (maxL := 5) (ret := some .int) (hh := [(0, 10, 13, 13)]) hZ ho (by decide) rfl (Nat.le_of_ble_eq_true rfl) ?_
  intro X hXl S hW hRT
  subst hXl
  have F0 := S.at 0 0 (Nat.le_of_ble_eq_true rfl) (Nat.le_of_ble_eq_true rfl)
  show J (X.at 0 0) 5 (FL Z cL (WL Z tok0 ties0) o f) 0 [some (.ref (Z.ad 0)), some (.int (nI k)), some (.int x), some (.ref o), none] []
  refine j_aload_n F0 dL_floatWith_0 rfl ?_
  refine j_iconst F0 0 dL_floatWith_1 (by decide) ?_
  refine j_aload_n F0 dL_floatWith_2 rfl ?_
  refine j_iload_n F0 dL_floatWith_3 rfl ?_
  refine j_iload_n F0 dL_floatWith_4 rfl ?_
  refine w_catch S hW (E := sIO) (name := "java/lang/IndexOutOfBoundsException") (n1 := 2) (rest := [.int 0, .ref o]) (fun σ hC => x_X4_floatWith_c X.l Z (LZ Z) hZ hfl σ k hk x hb) ⟨_, _, _, _, rfl, gL_floatWith_X4_floatWith, rfl, rfl, (by decide +kernel), ⟨(Nat.le_of_ble_eq_true rfl), (Nat.le_of_ble_eq_true rfl)⟩⟩ rd_loomL rfl rfl (Nat.le_of_ble_eq_true rfl) rfl dL_floatWith_5 (Nat.le_of_ble_eq_true rfl) (Nat.le_of_ble_eq_true rfl) [] ⟨0, 10, 13, 13⟩ [] rfl (fun z hz => absurd hz List.not_mem_nil) (by decide) (by decide) (by decide +kernel) (hW.2.1.2.2.2.1 _ (by decide)) (fun q => ?_)
  have F1 := S.at 1 6 (Nat.le_of_ble_eq_true rfl) (Nat.le_of_ble_eq_true rfl)
  refine j_astore F1 [some (.ref (Z.ad 0)), some (.int (nI k)), some (.int x), some (.ref o), some (.ref q)] dL_floatWith_13 (by decide) rfl rfl ?_
  refine j_iconst F1 1 dL_floatWith_15 (by decide) ?_
  exact w_ret S hW hRT (Nat.le_of_ble_eq_true rfl) (Nat.le_of_ble_eq_true rfl) dL_floatWith_16 (fun h9 => absurd h9 (by decide))

set_option maxRecDepth 100000 in
set_option maxHeartbeats 4000000 in
theorem w_hangsWith_b (l : Launch) (Z : Zx) (cL : ClassId) (o : Nat) (f : Nat → Int64) (hZ : AdOk Z (LZ Z)) (ho : ¬ LZ Z o) (hfl : l.stackTraces = false) (x : Int32) (hb : ¬ (0 ≤ x ∧ x ≤ 7)) (y : Int32) : Kw l Z cL o f yL_hangsWith wsL_hangsWith { frames := 9, cells := 1, slots := 6, locals := 154 } [.ref (Z.ad 0), .int x, .int y, .ref o] 1 0 := by
  refine Kw.of (cc := cL_hangsWith) (maxL := 5) (ret := some .int) (hh := [(0, 17, 20, 13)]) hZ ho (by decide) rfl (Nat.le_of_ble_eq_true rfl) ?_
  intro X hXl S hW hRT
  subst hXl
  have F0 := S.at 0 0 (Nat.le_of_ble_eq_true rfl) (Nat.le_of_ble_eq_true rfl)
  show J (X.at 0 0) 5 (FL Z cL (WL Z tok0 ties0) o f) 0 [some (.ref (Z.ad 0)), some (.int x), some (.int y), some (.ref o), none] []
  refine j_aload_n F0 dL_hangsWith_0 rfl ?_
  refine j_iconst F0 0 dL_hangsWith_1 (by decide) ?_
  refine j_aload_n F0 dL_hangsWith_2 rfl ?_
  refine j_iload_n F0 dL_hangsWith_3 rfl ?_
  refine j_iload_n F0 dL_hangsWith_4 rfl ?_
  refine w_catch S hW (E := sIO) (name := "java/lang/IndexOutOfBoundsException") (n1 := 2) (rest := [.int 0, .ref o]) (fun σ hC => x_X4_hangsWith_b X.l Z (LZ Z) hZ hfl σ x hb y) ⟨_, _, _, _, rfl, gL_hangsWith_X4_hangsWith, rfl, rfl, (by decide +kernel), ⟨(Nat.le_of_ble_eq_true rfl), (Nat.le_of_ble_eq_true rfl)⟩⟩ rd_loomL rfl rfl (Nat.le_of_ble_eq_true rfl) rfl dL_hangsWith_5 (Nat.le_of_ble_eq_true rfl) (Nat.le_of_ble_eq_true rfl) [] ⟨0, 17, 20, 13⟩ [] rfl (fun z hz => absurd hz List.not_mem_nil) (by decide) (by decide) (by decide +kernel) (hW.2.1.2.2.2.1 _ (by decide)) (fun q => ?_)
  have F1 := S.at 1 6 (Nat.le_of_ble_eq_true rfl) (Nat.le_of_ble_eq_true rfl)
  refine j_astore F1 [some (.ref (Z.ad 0)), some (.int x), some (.int y), some (.ref o), some (.ref q)] dL_hangsWith_20 (by decide) rfl rfl ?_
  refine j_iconst F1 1 dL_hangsWith_22 (by decide) ?_
  exact w_ret S hW hRT (Nat.le_of_ble_eq_true rfl) (Nat.le_of_ble_eq_true rfl) dL_hangsWith_23 (fun h9 => absurd h9 (by decide))

set_option maxRecDepth 100000 in
set_option maxHeartbeats 4000000 in
theorem w_hangsWith_c (l : Launch) (Z : Zx) (cL : ClassId) (o : Nat) (f : Nat → Int64) (hZ : AdOk Z (LZ Z)) (ho : ¬ LZ Z o) (hfl : l.stackTraces = false) (k : Nat) (hk : k < 8) (x : Int32) (hb : ¬ (0 ≤ x ∧ x ≤ 7)) : Kw l Z cL o f yL_hangsWith wsL_hangsWith { frames := 9, cells := 1, slots := 6, locals := 154 } [.ref (Z.ad 0), .int (nI k), .int x, .ref o] 1 0 := by
  refine Kw.of (cc := cL_hangsWith) (maxL := 5) (ret := some .int) (hh := [(0, 17, 20, 13)]) hZ ho (by decide) rfl (Nat.le_of_ble_eq_true rfl) ?_
  intro X hXl S hW hRT
  subst hXl
  have F0 := S.at 0 0 (Nat.le_of_ble_eq_true rfl) (Nat.le_of_ble_eq_true rfl)
  show J (X.at 0 0) 5 (FL Z cL (WL Z tok0 ties0) o f) 0 [some (.ref (Z.ad 0)), some (.int (nI k)), some (.int x), some (.ref o), none] []
  refine j_aload_n F0 dL_hangsWith_0 rfl ?_
  refine j_iconst F0 0 dL_hangsWith_1 (by decide) ?_
  refine j_aload_n F0 dL_hangsWith_2 rfl ?_
  refine j_iload_n F0 dL_hangsWith_3 rfl ?_
  refine j_iload_n F0 dL_hangsWith_4 rfl ?_
  refine w_catch S hW (E := sIO) (name := "java/lang/IndexOutOfBoundsException") (n1 := 2) (rest := [.int 0, .ref o]) (fun σ hC => x_X4_hangsWith_c X.l Z (LZ Z) hZ hfl σ k hk x hb) ⟨_, _, _, _, rfl, gL_hangsWith_X4_hangsWith, rfl, rfl, (by decide +kernel), ⟨(Nat.le_of_ble_eq_true rfl), (Nat.le_of_ble_eq_true rfl)⟩⟩ rd_loomL rfl rfl (Nat.le_of_ble_eq_true rfl) rfl dL_hangsWith_5 (Nat.le_of_ble_eq_true rfl) (Nat.le_of_ble_eq_true rfl) [] ⟨0, 17, 20, 13⟩ [] rfl (fun z hz => absurd hz List.not_mem_nil) (by decide) (by decide) (by decide +kernel) (hW.2.1.2.2.2.1 _ (by decide)) (fun q => ?_)
  have F1 := S.at 1 6 (Nat.le_of_ble_eq_true rfl) (Nat.le_of_ble_eq_true rfl)
  refine j_astore F1 [some (.ref (Z.ad 0)), some (.int (nI k)), some (.int x), some (.ref o), some (.ref q)] dL_hangsWith_20 (by decide) rfl rfl ?_
  refine j_iconst F1 1 dL_hangsWith_22 (by decide) ?_
  exact w_ret S hW hRT (Nat.le_of_ble_eq_true rfl) (Nat.le_of_ble_eq_true rfl) dL_hangsWith_23 (fun h9 => absurd h9 (by decide))

set_option maxRecDepth 100000 in
set_option maxHeartbeats 4000000 in
theorem w_swap (l : Launch) (Z : Zx) (cL : ClassId) (o : Nat) (f : Nat → Int64) (hZ : AdOk Z (LZ Z)) (ho : ¬ LZ Z o) (k j : Nat) (hk : k < 8) (hj : j < 8) : Kw l Z cL o f yL_swap wsL_swap { frames := 5, cells := 1, slots := 6, locals := 113 } [.ref (Z.ad 0), .int (nI k), .int (nI j), .ref o] 0 (diffT ties0 (swT ties0 (nI k) (nI j) 8)).toInt64 := by
  refine Kw.of (cc := cL_swap) (maxL := 5) (ret := some .int) (hh := [(0, 10, 13, 13)]) hZ ho (by decide) rfl (Nat.le_of_ble_eq_true rfl) ?_
  intro X hXl S hW hRT
  subst hXl
  have F0 := S.at 0 0 (Nat.le_of_ble_eq_true rfl) (Nat.le_of_ble_eq_true rfl)
  show J (X.at 0 0) 5 (FL Z cL (WL Z tok0 ties0) o f) 0 [some (.ref (Z.ad 0)), some (.int (nI k)), some (.int (nI j)), some (.ref o), none] []
  refine j_aload_n F0 dL_swap_0 rfl ?_
  refine j_iconst F0 0 dL_swap_1 (by decide) ?_
  refine j_aload_n F0 dL_swap_2 rfl ?_
  refine j_iload_n F0 dL_swap_3 rfl ?_
  refine j_iload_n F0 dL_swap_4 rfl ?_
  refine w_cVi S hW (n1 := 2) (rest := [.int 0, .ref o]) (k_X4_swap X.l Z (LZ Z) hZ tok0 ties0 k j hk hj) ⟨_, _, _, _, rfl, gL_swap_X4_swap, rfl, rfl, (by decide +kernel), ⟨(Nat.le_of_ble_eq_true rfl), (Nat.le_of_ble_eq_true rfl)⟩⟩ rd_loomL rfl rfl (Nat.le_of_ble_eq_true rfl) rfl dL_swap_5 (fun r hr => ?_)
  subst hr
  refine j_i2l F0 (diffT ties0 (swT ties0 (nI k) (nI j) 8)).toInt64 dL_swap_8 rfl ?_
  refine w_last S hW dL_swap_9 (fun g hg => ?_)
  refine j_goto F0 17 dL_swap_10 (by decide) ?_
  refine j_iconst F0 0 dL_swap_17 (by decide) ?_
  exact w_ret S hW hRT (Nat.le_of_ble_eq_true rfl) (Nat.le_of_ble_eq_true rfl) dL_swap_18 (fun _ => hg)

set_option maxRecDepth 100000 in
set_option maxHeartbeats 4000000 in
theorem w_changedBy (l : Launch) (Z : Zx) (cL : ClassId) (o : Nat) (f : Nat → Int64) (hZ : AdOk Z (LZ Z)) (ho : ¬ LZ Z o) (k j : Nat) (hk : k < 8) (hj : j < 8) : Kw l Z cL o f yL_changedBy wsL_changedBy { frames := 4, cells := 1, slots := 6, locals := 93 } [.ref (Z.ad 0), .int (nI k), .int (nI j), .ref o] 0 (changedI (EE tok0 ties0) (EE tok0 (swT ties0 (nI k) (nI j) 8))).toInt64 := by
  refine Kw.of (cc := cL_changedBy) (maxL := 5) (ret := some .int) (hh := [(0, 10, 13, 13)]) hZ ho (by decide) rfl (Nat.le_of_ble_eq_true rfl) ?_
  intro X hXl S hW hRT
  subst hXl
  have F0 := S.at 0 0 (Nat.le_of_ble_eq_true rfl) (Nat.le_of_ble_eq_true rfl)
  show J (X.at 0 0) 5 (FL Z cL (WL Z tok0 ties0) o f) 0 [some (.ref (Z.ad 0)), some (.int (nI k)), some (.int (nI j)), some (.ref o), none] []
  refine j_aload_n F0 dL_changedBy_0 rfl ?_
  refine j_iconst F0 0 dL_changedBy_1 (by decide) ?_
  refine j_aload_n F0 dL_changedBy_2 rfl ?_
  refine j_iload_n F0 dL_changedBy_3 rfl ?_
  refine j_iload_n F0 dL_changedBy_4 rfl ?_
  refine w_cVi S hW (n1 := 2) (rest := [.int 0, .ref o]) (k_X4_changedBy X.l Z (LZ Z) hZ tok0 ties0 k j hk hj) ⟨_, _, _, _, rfl, gL_changedBy_X4_changedBy, rfl, rfl, (by decide +kernel), ⟨(Nat.le_of_ble_eq_true rfl), (Nat.le_of_ble_eq_true rfl)⟩⟩ rd_loomL rfl rfl (Nat.le_of_ble_eq_true rfl) rfl dL_changedBy_5 (fun r hr => ?_)
  subst hr
  refine j_i2l F0 (changedI (EE tok0 ties0) (EE tok0 (swT ties0 (nI k) (nI j) 8))).toInt64 dL_changedBy_8 rfl ?_
  refine w_last S hW dL_changedBy_9 (fun g hg => ?_)
  refine j_goto F0 17 dL_changedBy_10 (by decide) ?_
  refine j_iconst F0 0 dL_changedBy_17 (by decide) ?_
  exact w_ret S hW hRT (Nat.le_of_ble_eq_true rfl) (Nat.le_of_ble_eq_true rfl) dL_changedBy_18 (fun _ => hg)

set_option maxRecDepth 100000 in
set_option maxHeartbeats 4000000 in
theorem w_floatWith (l : Launch) (Z : Zx) (cL : ClassId) (o : Nat) (f : Nat → Int64) (hZ : AdOk Z (LZ Z)) (ho : ¬ LZ Z o) (k j : Nat) (hk : k < 8) (hj : j < 8) : Kw l Z cL o f yL_floatWith wsL_floatWith { frames := 5, cells := 1, slots := 6, locals := 113 } [.ref (Z.ad 0), .int (nI k), .int (nI j), .ref o] 0 (longestC (EE tok0 (flipT ties0 k (nI j))) (PP tok0 (flipT ties0 k (nI j)))).toInt64 := by
  refine Kw.of (cc := cL_floatWith) (maxL := 5) (ret := some .int) (hh := [(0, 10, 13, 13)]) hZ ho (by decide) rfl (Nat.le_of_ble_eq_true rfl) ?_
  intro X hXl S hW hRT
  subst hXl
  have F0 := S.at 0 0 (Nat.le_of_ble_eq_true rfl) (Nat.le_of_ble_eq_true rfl)
  show J (X.at 0 0) 5 (FL Z cL (WL Z tok0 ties0) o f) 0 [some (.ref (Z.ad 0)), some (.int (nI k)), some (.int (nI j)), some (.ref o), none] []
  refine j_aload_n F0 dL_floatWith_0 rfl ?_
  refine j_iconst F0 0 dL_floatWith_1 (by decide) ?_
  refine j_aload_n F0 dL_floatWith_2 rfl ?_
  refine j_iload_n F0 dL_floatWith_3 rfl ?_
  refine j_iload_n F0 dL_floatWith_4 rfl ?_
  refine w_cVi S hW (n1 := 2) (rest := [.int 0, .ref o]) (k_X4_floatWith X.l Z (LZ Z) hZ tok0 ties0 k j hk hj) ⟨_, _, _, _, rfl, gL_floatWith_X4_floatWith, rfl, rfl, (by decide +kernel), ⟨(Nat.le_of_ble_eq_true rfl), (Nat.le_of_ble_eq_true rfl)⟩⟩ rd_loomL rfl rfl (Nat.le_of_ble_eq_true rfl) rfl dL_floatWith_5 (fun r hr => ?_)
  subst hr
  refine j_i2l F0 (longestC (EE tok0 (flipT ties0 k (nI j))) (PP tok0 (flipT ties0 k (nI j)))).toInt64 dL_floatWith_8 rfl ?_
  refine w_last S hW dL_floatWith_9 (fun g hg => ?_)
  refine j_goto F0 17 dL_floatWith_10 (by decide) ?_
  refine j_iconst F0 0 dL_floatWith_17 (by decide) ?_
  exact w_ret S hW hRT (Nat.le_of_ble_eq_true rfl) (Nat.le_of_ble_eq_true rfl) dL_floatWith_18 (fun _ => hg)

set_option maxRecDepth 100000 in
set_option maxHeartbeats 4000000 in
theorem w_hangsWith (l : Launch) (Z : Zx) (cL : ClassId) (o : Nat) (f : Nat → Int64) (hZ : AdOk Z (LZ Z)) (ho : ¬ LZ Z o) (k j : Nat) (hk : k < 8) (hj : j < 8) : Kw l Z cL o f yL_hangsWith wsL_hangsWith { frames := 7, cells := 1, slots := 6, locals := 155 } [.ref (Z.ad 0), .int (nI k), .int (nI j), .ref o] 0 0 := by
  refine Kw.of (cc := cL_hangsWith) (maxL := 5) (ret := some .int) (hh := [(0, 17, 20, 13)]) hZ ho (by decide) rfl (Nat.le_of_ble_eq_true rfl) ?_
  intro X hXl S hW hRT
  subst hXl
  have F0 := S.at 0 0 (Nat.le_of_ble_eq_true rfl) (Nat.le_of_ble_eq_true rfl)
  show J (X.at 0 0) 5 (FL Z cL (WL Z tok0 ties0) o f) 0 [some (.ref (Z.ad 0)), some (.int (nI k)), some (.int (nI j)), some (.ref o), none] []
  refine j_aload_n F0 dL_hangsWith_0 rfl ?_
  refine j_iconst F0 0 dL_hangsWith_1 (by decide) ?_
  refine j_aload_n F0 dL_hangsWith_2 rfl ?_
  refine j_iload_n F0 dL_hangsWith_3 rfl ?_
  refine j_iload_n F0 dL_hangsWith_4 rfl ?_
  refine w_cVi S hW (n1 := 2) (rest := [.int 0, .ref o]) (k_X4_hangsWith X.l Z (LZ Z) hZ tok0 ties0 k j hk hj) ⟨_, _, _, _, rfl, gL_hangsWith_X4_hangsWith, rfl, rfl, (by decide +kernel), ⟨(Nat.le_of_ble_eq_true rfl), (Nat.le_of_ble_eq_true rfl)⟩⟩ rd_loomL rfl rfl (Nat.le_of_ble_eq_true rfl) rfl dL_hangsWith_5 (fun r hr => ?_)
  have hr0 : r = 0 := hr.trans (by rfl)
  subst hr0
  refine j_if_eq F0 15 dL_hangsWith_8 (by decide) (fun _ => ?_) (fun h9 => absurd rfl h9)
  refine m_lconst F0 0 dL_hangsWith_15 (by decide) ?_
  refine w_last S hW dL_hangsWith_16 (fun g hg => ?_)
  refine j_goto F0 24 dL_hangsWith_17 (by decide) ?_
  refine j_iconst F0 0 dL_hangsWith_24 (by decide) ?_
  exact w_ret S hW hRT (Nat.le_of_ble_eq_true rfl) (Nat.le_of_ble_eq_true rfl) dL_hangsWith_25 (fun _ => hg)

set_option maxRecDepth 100000 in
set_option maxHeartbeats 4000000 in
theorem w_cloth_b (l : Launch) (Z : Zx) (cL : ClassId) (o : Nat) (f : Nat → Int64) (hZ : AdOk Z (LZ Z)) (ho : ¬ LZ Z o) (hfl : l.stackTraces = false) (x : Int32) (hb : ¬ (0 ≤ x ∧ x ≤ 9)) : Kw l Z cL o f yL_cloth wsL_cloth { frames := 7, cells := 1, slots := 6, locals := 111 } [.ref (Z.ad 0), .int x, .ref o] 1 0 := by
  refine Kw.of (cc := cL_cloth) (maxL := 4) (ret := some .int) (hh := [(0, 9, 12, 15)]) hZ ho (by decide) rfl (Nat.le_of_ble_eq_true rfl) ?_
  intro X hXl S hW hRT
  subst hXl
  have F0 := S.at 0 0 (Nat.le_of_ble_eq_true rfl) (Nat.le_of_ble_eq_true rfl)
  show J (X.at 0 0) 4 (FL Z cL (WL Z tok0 ties0) o f) 0 [some (.ref (Z.ad 0)), some (.int x), some (.ref o), none] []
  refine j_aload_n F0 dL_cloth_0 rfl ?_
  refine j_iconst F0 0 dL_cloth_1 (by decide) ?_
  refine j_aload_n F0 dL_cloth_2 rfl ?_
  refine j_iload_n F0 dL_cloth_3 rfl ?_
  refine w_catch S hW (E := sIA) (name := "java/lang/IllegalArgumentException") (n1 := 1) (rest := [.int 0, .ref o]) (fun σ hC => x_X4_cloth_b X.l Z (LZ Z) hZ hfl σ x hb) ⟨_, _, _, _, rfl, gL_cloth_X4_cloth, rfl, rfl, (by decide +kernel), ⟨(Nat.le_of_ble_eq_true rfl), (Nat.le_of_ble_eq_true rfl)⟩⟩ rd_loomL rfl rfl (Nat.le_of_ble_eq_true rfl) rfl dL_cloth_4 (Nat.le_of_ble_eq_true rfl) (Nat.le_of_ble_eq_true rfl) [] ⟨0, 9, 12, 15⟩ [] rfl (fun z hz => absurd hz List.not_mem_nil) (by decide) (by decide) (by decide +kernel) (hW.2.1.2.2.2.2 _ (by decide)) (fun q => ?_)
  have F1 := S.at 1 6 (Nat.le_of_ble_eq_true rfl) (Nat.le_of_ble_eq_true rfl)
  refine j_astore_n F1 [some (.ref (Z.ad 0)), some (.int x), some (.ref o), some (.ref q)] dL_cloth_12 (by decide) rfl rfl ?_
  refine j_iconst F1 1 dL_cloth_13 (by decide) ?_
  exact w_ret S hW hRT (Nat.le_of_ble_eq_true rfl) (Nat.le_of_ble_eq_true rfl) dL_cloth_14 (fun h9 => absurd h9 (by decide))

set_option maxRecDepth 100000 in
set_option maxHeartbeats 4000000 in
theorem w_cloth (l : Launch) (Z : Zx) (cL : ClassId) (o : Nat) (f : Nat → Int64) (hZ : AdOk Z (LZ Z)) (ho : ¬ LZ Z o) (k : Nat) (hk : k ≤ 9) : Kw l Z cL o f yL_cloth wsL_cloth { frames := 4, cells := 1, slots := 6, locals := 86 } [.ref (Z.ad 0), .int (nI k), .ref o] 0 (clothI tok0 ties0 k).toInt64 := by
  refine Kw.of (cc := cL_cloth) (maxL := 4) (ret := some .int) (hh := [(0, 9, 12, 15)]) hZ ho (by decide) rfl (Nat.le_of_ble_eq_true rfl) ?_
  intro X hXl S hW hRT
  subst hXl
  have F0 := S.at 0 0 (Nat.le_of_ble_eq_true rfl) (Nat.le_of_ble_eq_true rfl)
  show J (X.at 0 0) 4 (FL Z cL (WL Z tok0 ties0) o f) 0 [some (.ref (Z.ad 0)), some (.int (nI k)), some (.ref o), none] []
  refine j_aload_n F0 dL_cloth_0 rfl ?_
  refine j_iconst F0 0 dL_cloth_1 (by decide) ?_
  refine j_aload_n F0 dL_cloth_2 rfl ?_
  refine j_iload_n F0 dL_cloth_3 rfl ?_
  refine w_cVi S hW (n1 := 1) (rest := [.int 0, .ref o]) (k_X4_cloth X.l Z (LZ Z) hZ tok0 ties0 k hk) ⟨_, _, _, _, rfl, gL_cloth_X4_cloth, rfl, rfl, (by decide +kernel), ⟨(Nat.le_of_ble_eq_true rfl), (Nat.le_of_ble_eq_true rfl)⟩⟩ rd_loomL rfl rfl (Nat.le_of_ble_eq_true rfl) rfl dL_cloth_4 (fun r hr => ?_)
  subst hr
  refine j_i2l F0 (clothI tok0 ties0 k).toInt64 dL_cloth_7 rfl ?_
  refine w_last S hW dL_cloth_8 (fun g hg => ?_)
  refine j_goto F0 15 dL_cloth_9 (by decide) ?_
  refine j_iconst F0 0 dL_cloth_15 (by decide) ?_
  exact w_ret S hW hRT (Nat.le_of_ble_eq_true rfl) (Nat.le_of_ble_eq_true rfl) dL_cloth_16 (fun _ => hg)

set_option maxRecDepth 100000 in
set_option maxHeartbeats 4000000 in
theorem w_field (l : Launch) (Z : Zx) (cL : ClassId) (o : Nat) (f : Nat → Int64) (hZ : AdOk Z (LZ Z)) (ho : ¬ LZ Z o) (hfl : l.stackTraces = false) (x y z : Int32) : Kw l Z cL o f yL_field wsL_field { frames := 8, cells := 1, slots := 6, locals := 134 } [.ref (Z.ad 0), .int x, .int y, .int z, .ref o] 1 0 := by
  refine Kw.of (cc := cL_field) (maxL := 6) (ret := some .int) (hh := [(0, 12, 15, 13), (0, 12, 19, 15)]) hZ ho (by decide) rfl (Nat.le_of_ble_eq_true rfl) ?_
  intro X hXl S hW hRT
  subst hXl
  have F0 := S.at 0 0 (Nat.le_of_ble_eq_true rfl) (Nat.le_of_ble_eq_true rfl)
  show J (X.at 0 0) 6 (FL Z cL (WL Z tok0 ties0) o f) 0 [some (.ref (Z.ad 0)), some (.int x), some (.int y), some (.int z), some (.ref o), none] []
  refine j_aload F0 dL_field_0 rfl ?_
  refine j_iconst F0 0 dL_field_2 (by decide) ?_
  refine j_aload_n F0 dL_field_3 rfl ?_
  refine j_iload_n F0 dL_field_4 rfl ?_
  refine j_iload_n F0 dL_field_5 rfl ?_
  refine j_iload_n F0 dL_field_6 rfl ?_
  refine w_catch S hW (E := sIO) (name := "java/lang/IndexOutOfBoundsException") (n1 := 3) (rest := [.int 0, .ref o]) (fun σ hC => x_X4_field X.l Z (LZ Z) hZ hfl σ hC x y z) ⟨_, _, _, _, rfl, gL_field_X4_field, rfl, rfl, (by decide +kernel), ⟨(Nat.le_of_ble_eq_true rfl), (Nat.le_of_ble_eq_true rfl)⟩⟩ rd_loomL rfl rfl (Nat.le_of_ble_eq_true rfl) rfl dL_field_7 (Nat.le_of_ble_eq_true rfl) (Nat.le_of_ble_eq_true rfl) [] ⟨0, 12, 15, 13⟩ [⟨0, 12, 19, 15⟩] rfl (fun z hz => absurd hz List.not_mem_nil) (by decide) (by decide) (by decide +kernel) (hW.2.1.2.2.2.1 _ (by decide)) (fun q => ?_)
  have F1 := S.at 1 6 (Nat.le_of_ble_eq_true rfl) (Nat.le_of_ble_eq_true rfl)
  refine j_astore F1 [some (.ref (Z.ad 0)), some (.int x), some (.int y), some (.int z), some (.ref o), some (.ref q)] dL_field_15 (by decide) rfl rfl ?_
  refine j_iconst F1 1 dL_field_17 (by decide) ?_
  exact w_ret S hW hRT (Nat.le_of_ble_eq_true rfl) (Nat.le_of_ble_eq_true rfl) dL_field_18 (fun h9 => absurd h9 (by decide))

set_option maxRecDepth 100000 in
set_option maxHeartbeats 4000000 in
theorem w_floats_b (l : Launch) (Z : Zx) (cL : ClassId) (o : Nat) (f : Nat → Int64) (hZ : AdOk Z (LZ Z)) (ho : ¬ LZ Z o) (hfl : l.stackTraces = false) (x : Int32) (hb : ¬ (1 ≤ x ∧ x ≤ 32)) : Kw l Z cL o f yL_floats wsL_floats { frames := 8, cells := 1, slots := 6, locals := 131 } [.ref (Z.ad 0), .int x, .ref o] 1 0 := by
  refine Kw.of (cc := cL_floats) (maxL := 4) (ret := some .int) (hh := [(0, 9, 12, 15)]) hZ ho (by decide) rfl (Nat.le_of_ble_eq_true rfl) ?_
  intro X hXl S hW hRT
  subst hXl
  have F0 := S.at 0 0 (Nat.le_of_ble_eq_true rfl) (Nat.le_of_ble_eq_true rfl)
  show J (X.at 0 0) 4 (FL Z cL (WL Z tok0 ties0) o f) 0 [some (.ref (Z.ad 0)), some (.int x), some (.ref o), none] []
  refine j_aload_n F0 dL_floats_0 rfl ?_
  refine j_iconst F0 0 dL_floats_1 (by decide) ?_
  refine j_aload_n F0 dL_floats_2 rfl ?_
  refine j_iload_n F0 dL_floats_3 rfl ?_
  refine w_catch S hW (E := sIA) (name := "java/lang/IllegalArgumentException") (n1 := 1) (rest := [.int 0, .ref o]) (fun σ hC => x_X4_floats_b X.l Z (LZ Z) hZ hfl σ x hb) ⟨_, _, _, _, rfl, gL_floats_X4_floats, rfl, rfl, (by decide +kernel), ⟨(Nat.le_of_ble_eq_true rfl), (Nat.le_of_ble_eq_true rfl)⟩⟩ rd_loomL rfl rfl (Nat.le_of_ble_eq_true rfl) rfl dL_floats_4 (Nat.le_of_ble_eq_true rfl) (Nat.le_of_ble_eq_true rfl) [] ⟨0, 9, 12, 15⟩ [] rfl (fun z hz => absurd hz List.not_mem_nil) (by decide) (by decide) (by decide +kernel) (hW.2.1.2.2.2.2 _ (by decide)) (fun q => ?_)
  have F1 := S.at 1 6 (Nat.le_of_ble_eq_true rfl) (Nat.le_of_ble_eq_true rfl)
  refine j_astore_n F1 [some (.ref (Z.ad 0)), some (.int x), some (.ref o), some (.ref q)] dL_floats_12 (by decide) rfl rfl ?_
  refine j_iconst F1 1 dL_floats_13 (by decide) ?_
  exact w_ret S hW hRT (Nat.le_of_ble_eq_true rfl) (Nat.le_of_ble_eq_true rfl) dL_floats_14 (fun h9 => absurd h9 (by decide))

set_option maxRecDepth 100000 in
set_option maxHeartbeats 4000000 in
theorem w_floats (l : Launch) (Z : Zx) (cL : ClassId) (o : Nat) (f : Nat → Int64) (hZ : AdOk Z (LZ Z)) (ho : ¬ LZ Z o) (k : Nat) (h1 : 1 ≤ k) (h2 : k ≤ 32) : Kw l Z cL o f yL_floats wsL_floats { frames := 4, cells := 1, slots := 6, locals := 88 } [.ref (Z.ad 0), .int (nI k), .ref o] 0 (floatsI (EE tok0 ties0) (PP tok0 ties0) k).toInt64 := by
  refine Kw.of (cc := cL_floats) (maxL := 4) (ret := some .int) (hh := [(0, 9, 12, 15)]) hZ ho (by decide) rfl (Nat.le_of_ble_eq_true rfl) ?_
  intro X hXl S hW hRT
  subst hXl
  have F0 := S.at 0 0 (Nat.le_of_ble_eq_true rfl) (Nat.le_of_ble_eq_true rfl)
  show J (X.at 0 0) 4 (FL Z cL (WL Z tok0 ties0) o f) 0 [some (.ref (Z.ad 0)), some (.int (nI k)), some (.ref o), none] []
  refine j_aload_n F0 dL_floats_0 rfl ?_
  refine j_iconst F0 0 dL_floats_1 (by decide) ?_
  refine j_aload_n F0 dL_floats_2 rfl ?_
  refine j_iload_n F0 dL_floats_3 rfl ?_
  refine w_cVi S hW (n1 := 1) (rest := [.int 0, .ref o]) (k_X4_floats X.l Z (LZ Z) hZ tok0 ties0 k h1 h2) ⟨_, _, _, _, rfl, gL_floats_X4_floats, rfl, rfl, (by decide +kernel), ⟨(Nat.le_of_ble_eq_true rfl), (Nat.le_of_ble_eq_true rfl)⟩⟩ rd_loomL rfl rfl (Nat.le_of_ble_eq_true rfl) rfl dL_floats_4 (fun r hr => ?_)
  subst hr
  refine j_i2l F0 (floatsI (EE tok0 ties0) (PP tok0 ties0) k).toInt64 dL_floats_7 rfl ?_
  refine w_last S hW dL_floats_8 (fun g hg => ?_)
  refine j_goto F0 15 dL_floats_9 (by decide) ?_
  refine j_iconst F0 0 dL_floats_15 (by decide) ?_
  exact w_ret S hW hRT (Nat.le_of_ble_eq_true rfl) (Nat.le_of_ble_eq_true rfl) dL_floats_16 (fun _ => hg)

set_option maxRecDepth 100000 in
set_option maxHeartbeats 4000000 in
theorem w_where_b (l : Launch) (Z : Zx) (cL : ClassId) (o : Nat) (f : Nat → Int64) (hZ : AdOk Z (LZ Z)) (ho : ¬ LZ Z o) (hfl : l.stackTraces = false) (x : Int32) (hb : ¬ (1 ≤ x ∧ x ≤ 32)) (y : Int32) : Kw l Z cL o f yL_where wsL_where { frames := 8, cells := 1, slots := 6, locals := 135 } [.ref (Z.ad 0), .int x, .int y, .ref o] 1 0 := by
  refine Kw.of (cc := cL_where) (maxL := 5) (ret := some .int) (hh := [(0, 10, 13, 15)]) hZ ho (by decide) rfl (Nat.le_of_ble_eq_true rfl) ?_
  intro X hXl S hW hRT
  subst hXl
  have F0 := S.at 0 0 (Nat.le_of_ble_eq_true rfl) (Nat.le_of_ble_eq_true rfl)
  show J (X.at 0 0) 5 (FL Z cL (WL Z tok0 ties0) o f) 0 [some (.ref (Z.ad 0)), some (.int x), some (.int y), some (.ref o), none] []
  refine j_aload_n F0 dL_where_0 rfl ?_
  refine j_iconst F0 0 dL_where_1 (by decide) ?_
  refine j_aload_n F0 dL_where_2 rfl ?_
  refine j_iload_n F0 dL_where_3 rfl ?_
  refine j_iload_n F0 dL_where_4 rfl ?_
  refine w_catch S hW (E := sIA) (name := "java/lang/IllegalArgumentException") (n1 := 2) (rest := [.int 0, .ref o]) (fun σ hC => x_X4_where_b X.l Z (LZ Z) hZ hfl σ x hb y) ⟨_, _, _, _, rfl, gL_where_X4_where, rfl, rfl, (by decide +kernel), ⟨(Nat.le_of_ble_eq_true rfl), (Nat.le_of_ble_eq_true rfl)⟩⟩ rd_loomL rfl rfl (Nat.le_of_ble_eq_true rfl) rfl dL_where_5 (Nat.le_of_ble_eq_true rfl) (Nat.le_of_ble_eq_true rfl) [] ⟨0, 10, 13, 15⟩ [] rfl (fun z hz => absurd hz List.not_mem_nil) (by decide) (by decide) (by decide +kernel) (hW.2.1.2.2.2.2 _ (by decide)) (fun q => ?_)
  have F1 := S.at 1 6 (Nat.le_of_ble_eq_true rfl) (Nat.le_of_ble_eq_true rfl)
  refine j_astore F1 [some (.ref (Z.ad 0)), some (.int x), some (.int y), some (.ref o), some (.ref q)] dL_where_13 (by decide) rfl rfl ?_
  refine j_iconst F1 1 dL_where_15 (by decide) ?_
  exact w_ret S hW hRT (Nat.le_of_ble_eq_true rfl) (Nat.le_of_ble_eq_true rfl) dL_where_16 (fun h9 => absurd h9 (by decide))

set_option maxRecDepth 100000 in
set_option maxHeartbeats 4000000 in
theorem w_where (l : Launch) (Z : Zx) (cL : ClassId) (o : Nat) (f : Nat → Int64) (hZ : AdOk Z (LZ Z)) (ho : ¬ LZ Z o) (k : Nat) (h1 : 1 ≤ k) (h2 : k ≤ 32) (b : Bool) : Kw l Z cL o f yL_where wsL_where { frames := 3, cells := 1, slots := 6, locals := 70 } [.ref (Z.ad 0), .int (nI k), .int (b2i b), .ref o] 0 (whereI (EE tok0 ties0) (PP tok0 ties0) k b).toInt64 := by
  refine Kw.of (cc := cL_where) (maxL := 5) (ret := some .int) (hh := [(0, 10, 13, 15)]) hZ ho (by decide) rfl (Nat.le_of_ble_eq_true rfl) ?_
  intro X hXl S hW hRT
  subst hXl
  have F0 := S.at 0 0 (Nat.le_of_ble_eq_true rfl) (Nat.le_of_ble_eq_true rfl)
  show J (X.at 0 0) 5 (FL Z cL (WL Z tok0 ties0) o f) 0 [some (.ref (Z.ad 0)), some (.int (nI k)), some (.int (b2i b)), some (.ref o), none] []
  refine j_aload_n F0 dL_where_0 rfl ?_
  refine j_iconst F0 0 dL_where_1 (by decide) ?_
  refine j_aload_n F0 dL_where_2 rfl ?_
  refine j_iload_n F0 dL_where_3 rfl ?_
  refine j_iload_n F0 dL_where_4 rfl ?_
  refine w_cVi S hW (n1 := 2) (rest := [.int 0, .ref o]) (k_X4_where X.l Z (LZ Z) hZ tok0 ties0 k h1 h2 b) ⟨_, _, _, _, rfl, gL_where_X4_where, rfl, rfl, (by decide +kernel), ⟨(Nat.le_of_ble_eq_true rfl), (Nat.le_of_ble_eq_true rfl)⟩⟩ rd_loomL rfl rfl (Nat.le_of_ble_eq_true rfl) rfl dL_where_5 (fun r hr => ?_)
  subst hr
  refine j_i2l F0 (whereI (EE tok0 ties0) (PP tok0 ties0) k b).toInt64 dL_where_8 rfl ?_
  refine w_last S hW dL_where_9 (fun g hg => ?_)
  refine j_goto F0 17 dL_where_10 (by decide) ?_
  refine j_iconst F0 0 dL_where_17 (by decide) ?_
  exact w_ret S hW hRT (Nat.le_of_ble_eq_true rfl) (Nat.le_of_ble_eq_true rfl) dL_where_18 (fun _ => hg)

set_option maxRecDepth 100000 in
set_option maxHeartbeats 4000000 in
theorem w_ups (l : Launch) (Z : Zx) (cL : ClassId) (o : Nat) (f : Nat → Int64) (hZ : AdOk Z (LZ Z)) (ho : ¬ LZ Z o) (hfl : l.stackTraces = false) (x y : Int32) : Kw l Z cL o f yL_ups wsL_ups { frames := 8, cells := 1, slots := 6, locals := 133 } [.ref (Z.ad 0), .int x, .int y, .ref o] 1 0 := by
  refine Kw.of (cc := cL_ups) (maxL := 5) (ret := some .int) (hh := [(0, 10, 13, 13)]) hZ ho (by decide) rfl (Nat.le_of_ble_eq_true rfl) ?_
  intro X hXl S hW hRT
  subst hXl
  have F0 := S.at 0 0 (Nat.le_of_ble_eq_true rfl) (Nat.le_of_ble_eq_true rfl)
  show J (X.at 0 0) 5 (FL Z cL (WL Z tok0 ties0) o f) 0 [some (.ref (Z.ad 0)), some (.int x), some (.int y), some (.ref o), none] []
  refine j_aload_n F0 dL_ups_0 rfl ?_
  refine j_iconst F0 0 dL_ups_1 (by decide) ?_
  refine j_aload_n F0 dL_ups_2 rfl ?_
  refine j_iload_n F0 dL_ups_3 rfl ?_
  refine j_iload_n F0 dL_ups_4 rfl ?_
  refine w_catch S hW (E := sIO) (name := "java/lang/IndexOutOfBoundsException") (n1 := 2) (rest := [.int 0, .ref o]) (fun σ hC => x_X4_ups X.l Z (LZ Z) hZ hfl σ hC x y) ⟨_, _, _, _, rfl, gL_ups_X4_ups, rfl, rfl, (by decide +kernel), ⟨(Nat.le_of_ble_eq_true rfl), (Nat.le_of_ble_eq_true rfl)⟩⟩ rd_loomL rfl rfl (Nat.le_of_ble_eq_true rfl) rfl dL_ups_5 (Nat.le_of_ble_eq_true rfl) (Nat.le_of_ble_eq_true rfl) [] ⟨0, 10, 13, 13⟩ [] rfl (fun z hz => absurd hz List.not_mem_nil) (by decide) (by decide) (by decide +kernel) (hW.2.1.2.2.2.1 _ (by decide)) (fun q => ?_)
  have F1 := S.at 1 6 (Nat.le_of_ble_eq_true rfl) (Nat.le_of_ble_eq_true rfl)
  refine j_astore F1 [some (.ref (Z.ad 0)), some (.int x), some (.int y), some (.ref o), some (.ref q)] dL_ups_13 (by decide) rfl rfl ?_
  refine j_iconst F1 1 dL_ups_15 (by decide) ?_
  exact w_ret S hW hRT (Nat.le_of_ble_eq_true rfl) (Nat.le_of_ble_eq_true rfl) dL_ups_16 (fun h9 => absurd h9 (by decide))

set_option maxRecDepth 100000 in
set_option maxHeartbeats 4000000 in
theorem w_seen_b (l : Launch) (Z : Zx) (cL : ClassId) (o : Nat) (f : Nat → Int64) (hZ : AdOk Z (LZ Z)) (ho : ¬ LZ Z o) (hfl : l.stackTraces = false) (x : Int32) (hb : ¬ (0 ≤ x ∧ x ≤ 7)) : Kw l Z cL o f yL_seen wsL_seen { frames := 7, cells := 1, slots := 6, locals := 114 } [.ref (Z.ad 0), .int x, .ref o] 1 0 := by
  refine Kw.of (cc := cL_seen) (maxL := 4) (ret := some .int) (hh := [(0, 9, 12, 15)]) hZ ho (by decide) rfl (Nat.le_of_ble_eq_true rfl) ?_
  intro X hXl S hW hRT
  subst hXl
  have F0 := S.at 0 0 (Nat.le_of_ble_eq_true rfl) (Nat.le_of_ble_eq_true rfl)
  show J (X.at 0 0) 4 (FL Z cL (WL Z tok0 ties0) o f) 0 [some (.ref (Z.ad 0)), some (.int x), some (.ref o), none] []
  refine j_aload_n F0 dL_seen_0 rfl ?_
  refine j_iconst F0 0 dL_seen_1 (by decide) ?_
  refine j_aload_n F0 dL_seen_2 rfl ?_
  refine j_iload_n F0 dL_seen_3 rfl ?_
  refine w_catch S hW (E := sIA) (name := "java/lang/IllegalArgumentException") (n1 := 1) (rest := [.int 0, .ref o]) (fun σ hC => x_X4_seen_b X.l Z (LZ Z) hZ hfl σ x hb) ⟨_, _, _, _, rfl, gL_seen_X4_seen, rfl, rfl, (by decide +kernel), ⟨(Nat.le_of_ble_eq_true rfl), (Nat.le_of_ble_eq_true rfl)⟩⟩ rd_loomL rfl rfl (Nat.le_of_ble_eq_true rfl) rfl dL_seen_4 (Nat.le_of_ble_eq_true rfl) (Nat.le_of_ble_eq_true rfl) [] ⟨0, 9, 12, 15⟩ [] rfl (fun z hz => absurd hz List.not_mem_nil) (by decide) (by decide) (by decide +kernel) (hW.2.1.2.2.2.2 _ (by decide)) (fun q => ?_)
  have F1 := S.at 1 6 (Nat.le_of_ble_eq_true rfl) (Nat.le_of_ble_eq_true rfl)
  refine j_astore_n F1 [some (.ref (Z.ad 0)), some (.int x), some (.ref o), some (.ref q)] dL_seen_12 (by decide) rfl rfl ?_
  refine j_iconst F1 1 dL_seen_13 (by decide) ?_
  exact w_ret S hW hRT (Nat.le_of_ble_eq_true rfl) (Nat.le_of_ble_eq_true rfl) dL_seen_14 (fun h9 => absurd h9 (by decide))

set_option maxRecDepth 100000 in
set_option maxHeartbeats 4000000 in
theorem w_seen (l : Launch) (Z : Zx) (cL : ClassId) (o : Nat) (f : Nat → Int64) (hZ : AdOk Z (LZ Z)) (ho : ¬ LZ Z o) (k : Nat) (hk : k < 8) : Kw l Z cL o f yL_seen wsL_seen { frames := 4, cells := 1, slots := 6, locals := 89 } [.ref (Z.ad 0), .int (nI k), .ref o] 0 (seenI tok0 ties0 (nI k)).toInt64 := by
  refine Kw.of (cc := cL_seen) (maxL := 4) (ret := some .int) (hh := [(0, 9, 12, 15)]) hZ ho (by decide) rfl (Nat.le_of_ble_eq_true rfl) ?_
  intro X hXl S hW hRT
  subst hXl
  have F0 := S.at 0 0 (Nat.le_of_ble_eq_true rfl) (Nat.le_of_ble_eq_true rfl)
  show J (X.at 0 0) 4 (FL Z cL (WL Z tok0 ties0) o f) 0 [some (.ref (Z.ad 0)), some (.int (nI k)), some (.ref o), none] []
  refine j_aload_n F0 dL_seen_0 rfl ?_
  refine j_iconst F0 0 dL_seen_1 (by decide) ?_
  refine j_aload_n F0 dL_seen_2 rfl ?_
  refine j_iload_n F0 dL_seen_3 rfl ?_
  refine w_cVi S hW (n1 := 1) (rest := [.int 0, .ref o]) (k_X4_seen X.l Z (LZ Z) hZ tok0 ties0 k hk) ⟨_, _, _, _, rfl, gL_seen_X4_seen, rfl, rfl, (by decide +kernel), ⟨(Nat.le_of_ble_eq_true rfl), (Nat.le_of_ble_eq_true rfl)⟩⟩ rd_loomL rfl rfl (Nat.le_of_ble_eq_true rfl) rfl dL_seen_4 (fun r hr => ?_)
  subst hr
  refine j_i2l F0 (seenI tok0 ties0 (nI k)).toInt64 dL_seen_7 rfl ?_
  refine w_last S hW dL_seen_8 (fun g hg => ?_)
  refine j_goto F0 15 dL_seen_9 (by decide) ?_
  refine j_iconst F0 0 dL_seen_15 (by decide) ?_
  exact w_ret S hW hRT (Nat.le_of_ble_eq_true rfl) (Nat.le_of_ble_eq_true rfl) dL_seen_16 (fun _ => hg)
