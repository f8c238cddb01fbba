theorem Hand.toks_len {σ : St} {tok : Nat → List Int32} {ties : List Int32} (h : Hand σ tok ties) (hcap : ∀ r, r < 30 → (σ.row r).length ≤ cap r) {i : Nat} (hi : i < 10) : (tok i).length ≤ 40 := by
  have h1 := hcap (8 + 2 * i) (by omega)
  rw [cap_even (by omega), h.1 i hi] at h1
  exact h1
theorem tok_app {l : List Int32} {j : Nat} (h : ∀ x ∈ l, tokOk x) (hj : tokN j) : ∀ x ∈ l ++ [nI j], tokOk x := fun x hx => by
  rcases List.mem_append.mp hx with q | q
  · exact h x q
  · rw [List.mem_singleton.mp q]; exact ⟨j, hj, rfl⟩
theorem cut_sub {l : List Int32} {m : Nat} (hl : l.length ≤ 40) (hm : m ≤ 40) : cutI l (nI l.length - nI m) = l.take (l.length - m) := by
  by_cases h : m ≤ l.length
  · rw [pk_sub h, cutI_nI _ (by omega)]
  · rw [cutI_neg (pk_sneg (by omega) (by omega)), show l.length - m = 0 by omega, List.take_zero]

set_option maxRecDepth 100000 in
set_option maxHeartbeats 4000000 in
theorem k_X4_token (l : Launch) (Z : Zx) (A : Nat → Prop) (hA : AdOk Z A) (tok : Nat → List Int32) (ties : List Int32) (k j : Nat) (hk : k < 10) (hj : tokN j) (hl : (tok k).length < 40) : Km l Z A yX4_token wsX4_token { frames := 6, cells := 0, slots := 0, locals := 139 } (WL Z tok ties) [.ref (Z.ad 0), .int (nI k), .int (nI j)] (Qi (WL Z (up tok k (tok k ++ [nI j])) ties) A (fun v => v = nI ((tok k).length + 1))) := by
  refine Km.of (cc := cX4_token) (maxL := 4) (ret := (some .int)) (by decide) rfl (Nat.le_of_ble_eq_true rfl) hA ?_
  intro X hXl S hAX hRT hXA hQ hXk hXn
  show J X 4 (WL Z tok ties) 0 [some (.ref (Z.ad 0)), some (.int (nI k)), some (.int (nI j)), none] []
  refine J.WL (fun σ hC => ?_)
  obtain ⟨hH, hG, hEE, hPP⟩ := id hC
  refine J.caps (fun hcap => ?_)
  refine j_aload_n S dX4_token_0 rfl ?_
  refine j_iload_n S dX4_token_1 rfl ?_
  refine j_iload_n S dX4_token_2 rfl ?_
  refine j_cVr S (n := 2) (rest := []) (k_X4_programForToken X.l Z X.A hAX σ k j hk hj (by rw [hH.1 k hk]; exact hl)) ⟨_, _, _, _, rfl, gX4_token_X4_programForToken, rfl, rfl, by decide +kernel, ⟨Nat.le_of_ble_eq_true rfl, Nat.le_of_ble_eq_true rfl⟩⟩ rd_loom rfl rfl (Nat.le_of_ble_eq_true rfl) rfl dX4_token_3 ?_
  show J X 4 (Wd Z σ) 6 [some (.ref (Z.ad 0)), some (.int (nI k)), some (.int (nI j)), none] [.ref (Z.ad (po k))]
  refine j_astore_n S [some (.ref (Z.ad 0)), some (.int (nI k)), some (.int (nI j)), some (.ref (Z.ad (po k)))] dX4_token_6 (by decide) rfl rfl ?_
  refine j_aload_n S dX4_token_7 rfl ?_
  refine j_getN S (C := RX2) (T := TX2) (N := 4) (by decide +kernel) (rd_prog (by omega)) rfl (v := .ref (Z.ad (ro (8 + 2 * k)))) 0 (by decide) 2 rfl rfl rfl dX4_token_8 ?_
  refine j_iload_n S dX4_token_11 rfl ?_
  refine j_cVv S (n := 1) (rest := []) (k_X3_add X.l Z X.A hAX σ (8 + 2 * k) (by omega) (nI j)) ⟨_, _, _, _, rfl, gX4_token_X3_add, rfl, rfl, by decide +kernel, ⟨Nat.le_of_ble_eq_true rfl, Nat.le_of_ble_eq_true rfl⟩⟩ (rd_row (by omega)) rfl rfl (Nat.le_of_ble_eq_true rfl) rfl dX4_token_12 ?_
  show J X 4 (Wd Z (σ.setRow (8 + 2 * k) (addI (cap (8 + 2 * k)) (σ.row (8 + 2 * k)) (nI j)))) 15 [some (.ref (Z.ad 0)), some (.int (nI k)), some (.int (nI j)), some (.ref (Z.ad (po k)))] []
  refine j_aload_n S dX4_token_15 rfl ?_
  refine j_iload_n S dX4_token_16 rfl ?_
  rw [hH.1 k hk, cap_even (by omega), addI_lt (by omega)]
  have hH2 := hH.tok (k := k) (tok_app (j := j) (hH.2.1 k hk) hj)
  have hG2 : ∀ i, i < 10 → ((k < 4 ∧ i ≠ k) ∨ (4 ≤ i ∧ i < k)) → Good (σ.setRow (8 + 2 * k) (tok k ++ [nI j])) (up tok k (tok k ++ [nI j])) i := fun i hi h9 => (hG i hi).tok _ hi h9
  refine j_cVv S (n := 1) (rest := []) (k_X4_renewFrom X.l Z X.A hAX _ _ ties k hk hH2 hG2) ⟨_, _, _, _, rfl, gX4_token_X4_renewFrom, rfl, rfl, by decide +kernel, ⟨Nat.le_of_ble_eq_true rfl, Nat.le_of_ble_eq_true rfl⟩⟩ rd_loom rfl rfl (Nat.le_of_ble_eq_true rfl) rfl dX4_token_17 ?_
  refine J.WL (fun σ2 hC2 => ?_)
  refine j_aload_n S dX4_token_20 rfl ?_
  refine j_getN S (C := RX2) (T := TX2) (N := 4) (by decide +kernel) (rd_prog (by omega)) rfl (v := .ref (Z.ad (ro (8 + 2 * k)))) 0 (by decide) 2 rfl rfl rfl dX4_token_21 ?_
  refine j_getN S (C := RX3) (T := TX3) (N := 2) (by decide +kernel) (rd_row (by omega)) rfl (v := .int (nI (σ2.row (8 + 2 * k)).length)) 1 (by decide) 3 rfl rfl rfl dX4_token_24 ?_
  exact j_ireturn S hRT hXA hQ hXk hXn dX4_token_27 rfl (by rw [hC2.1.1 k hk, up_self, List.length_append]; rfl) (fun H h9 => ⟨σ2, hC2, h9⟩)

set_option maxRecDepth 100000 in
set_option maxHeartbeats 4000000 in
theorem k_X4_untoken (l : Launch) (Z : Zx) (A : Nat → Prop) (hA : AdOk Z A) (tok : Nat → List Int32) (ties : List Int32) (k m : Nat) (hk : k < 10) (hm1 : 1 ≤ m) (hm2 : m ≤ 40) : Km l Z A yX4_untoken wsX4_untoken { frames := 6, cells := 0, slots := 0, locals := 139 } (WL Z tok ties) [.ref (Z.ad 0), .int (nI k), .int (nI m)] (Qi (WL Z (up tok k ((tok k).take ((tok k).length - m))) ties) A (fun v => v = nI ((tok k).length - m))) := by
  refine Km.of (cc := cX4_untoken) (maxL := 4) (ret := (some .int)) (by decide) rfl (Nat.le_of_ble_eq_true rfl) hA ?_
  intro X hXl S hAX hRT hXA hQ hXk hXn
  show J X 4 (WL Z tok ties) 0 [some (.ref (Z.ad 0)), some (.int (nI k)), some (.int (nI m)), none] []
  refine J.WL (fun σ hC => ?_)
  obtain ⟨hH, hG, hEE, hPP⟩ := id hC
  refine J.caps (fun hcap => ?_)
  have hl := hH.toks_len hcap hk
  refine j_aload_n S dX4_untoken_0 rfl ?_
  refine j_iload_n S dX4_untoken_1 rfl ?_
  refine j_cVr S (n := 1) (rest := []) (k_X4_programAt X.l Z X.A hAX σ k hk) ⟨_, _, _, _, rfl, gX4_untoken_X4_programAt, rfl, rfl, by decide +kernel, ⟨Nat.le_of_ble_eq_true rfl, Nat.le_of_ble_eq_true rfl⟩⟩ rd_loom rfl rfl (Nat.le_of_ble_eq_true rfl) rfl dX4_untoken_2 ?_
  show J X 4 (Wd Z σ) 5 [some (.ref (Z.ad 0)), some (.int (nI k)), some (.int (nI m)), none] [.ref (Z.ad (po k))]
  refine j_astore_n S [some (.ref (Z.ad 0)), some (.int (nI k)), some (.int (nI m)), some (.ref (Z.ad (po k)))] dX4_untoken_5 (by decide) rfl rfl ?_
  refine j_iload_n S dX4_untoken_6 rfl ?_
  refine j_iconst S 1 dX4_untoken_7 (by decide) ?_
  refine j_icmp_lt S 17 dX4_untoken_8 (by decide) (fun h9 => absurd h9 (by rw [show (1 : Int32) = nI 1 from rfl, nI_ltI (by omega) (by omega)]; omega)) (fun _ => ?_)
  refine j_iload_n S dX4_untoken_11 rfl ?_
  refine j_bipush S 40 dX4_untoken_12 (by decide) ?_
  refine j_icmp_le S 27 dX4_untoken_14 (by decide) (fun _ => ?_) (fun h9 => absurd (by rw [show (40 : Int32) = nI 40 from rfl, nI_leI (by omega) (by omega)]; omega) h9)
  refine j_aload_n S dX4_untoken_27 rfl ?_
  refine j_getN S (C := RX2) (T := TX2) (N := 4) (by decide +kernel) (rd_prog (by omega)) rfl (v := .ref (Z.ad (ro (8 + 2 * k)))) 0 (by decide) 2 rfl rfl rfl dX4_untoken_28 ?_
  refine j_aload_n S dX4_untoken_31 rfl ?_
  refine j_getN S (C := RX2) (T := TX2) (N := 4) (by decide +kernel) (rd_prog (by omega)) rfl (v := .ref (Z.ad (ro (8 + 2 * k)))) 0 (by decide) 2 rfl rfl rfl dX4_untoken_32 ?_
  refine j_getN S (C := RX3) (T := TX3) (N := 2) (by decide +kernel) (rd_row (by omega)) rfl (v := .int (nI (σ.row (8 + 2 * k)).length)) 1 (by decide) 3 rfl rfl rfl dX4_untoken_35 ?_
  refine j_iload_n S dX4_untoken_38 rfl ?_
  refine j_isub S ((nI (σ.row (8 + 2 * k)).length) - (nI m)) dX4_untoken_39 rfl ?_
  refine j_cVv S (n := 1) (rest := []) (k_X3_cutTo X.l Z X.A hAX σ (8 + 2 * k) (by omega) ((nI (σ.row (8 + 2 * k)).length) - (nI m))) ⟨_, _, _, _, rfl, gX4_untoken_X3_cutTo, rfl, rfl, by decide +kernel, ⟨Nat.le_of_ble_eq_true rfl, Nat.le_of_ble_eq_true rfl⟩⟩ (rd_row (by omega)) rfl rfl (Nat.le_of_ble_eq_true rfl) rfl dX4_untoken_40 ?_
  show J X 4 (Wd Z (σ.setRow (8 + 2 * k) (cutI (σ.row (8 + 2 * k)) ((nI (σ.row (8 + 2 * k)).length) - (nI m))))) 43 [some (.ref (Z.ad 0)), some (.int (nI k)), some (.int (nI m)), some (.ref (Z.ad (po k)))] []
  refine j_aload_n S dX4_untoken_43 rfl ?_
  refine j_iload_n S dX4_untoken_44 rfl ?_
  rw [hH.1 k hk, cut_sub hl (by omega)]
  have hH2 := hH.tok (k := k) (l := (tok k).take ((tok k).length - m)) (fun x hx => hH.2.1 k hk x (List.mem_of_mem_take hx))
  have hG2 : ∀ i, i < 10 → ((k < 4 ∧ i ≠ k) ∨ (4 ≤ i ∧ i < k)) → Good (σ.setRow (8 + 2 * k) ((tok k).take ((tok k).length - m))) (up tok k ((tok k).take ((tok k).length - m))) i := fun i hi h9 => (hG i hi).tok _ hi h9
  refine j_cVv S (n := 1) (rest := []) (k_X4_renewFrom X.l Z X.A hAX _ _ ties k hk hH2 hG2) ⟨_, _, _, _, rfl, gX4_untoken_X4_renewFrom, rfl, rfl, by decide +kernel, ⟨Nat.le_of_ble_eq_true rfl, Nat.le_of_ble_eq_true rfl⟩⟩ rd_loom rfl rfl (Nat.le_of_ble_eq_true rfl) rfl dX4_untoken_45 ?_
  refine J.WL (fun σ2 hC2 => ?_)
  refine j_aload_n S dX4_untoken_48 rfl ?_
  refine j_getN S (C := RX2) (T := TX2) (N := 4) (by decide +kernel) (rd_prog (by omega)) rfl (v := .ref (Z.ad (ro (8 + 2 * k)))) 0 (by decide) 2 rfl rfl rfl dX4_untoken_49 ?_
  refine j_getN S (C := RX3) (T := TX3) (N := 2) (by decide +kernel) (rd_row (by omega)) rfl (v := .int (nI (σ2.row (8 + 2 * k)).length)) 1 (by decide) 3 rfl rfl rfl dX4_untoken_52 ?_
  exact j_ireturn S hRT hXA hQ hXk hXn dX4_untoken_55 rfl (by rw [hC2.1.1 k hk, up_self, List.length_take, Nat.min_eq_left (Nat.sub_le _ _)]) (fun H h9 => ⟨σ2, hC2, h9⟩)

set_option maxRecDepth 100000 in
set_option maxHeartbeats 4000000 in
theorem k_X4_tie (l : Launch) (Z : Zx) (A : Nat → Prop) (hA : AdOk Z A) (tok : Nat → List Int32) (ties : List Int32) (k s : Nat) (hk : k < 8) (hs : s < 256) : Km l Z A yX4_tie wsX4_tie { frames := 3, cells := 0, slots := 0, locals := 69 } (WL Z tok ties) [.ref (Z.ad 0), .int (nI k), .int (nI s)] (Qi (WL Z tok (ties.set k (nI s))) A (fun v => v = ties.getD k 0)) := by
  refine Km.of (cc := cX4_tie) (maxL := 4) (ret := (some .int)) (by decide) rfl (Nat.le_of_ble_eq_true rfl) hA ?_
  intro X hXl S hAX hRT hXA hQ hXk hXn
  show J X 4 (WL Z tok ties) 0 [some (.ref (Z.ad 0)), some (.int (nI k)), some (.int (nI s)), none] []
  refine J.WL (fun σ hC => ?_)
  obtain ⟨hH, hG, hEE, hPP⟩ := id hC
  refine j_iload_n S dX4_tie_0 rfl ?_
  refine j_cSv S (n := 1) (rest := []) (k_X4_checkTreadle X.l Z X.A hAX σ k hk) ⟨_, _, _, _, rfl, gX4_tie_X4_checkTreadle, rfl, rfl, by decide +kernel, ⟨Nat.le_of_ble_eq_true rfl, Nat.le_of_ble_eq_true rfl⟩⟩ rfl (Nat.le_of_ble_eq_true rfl) rfl dX4_tie_1 ?_
  show J X 4 (Wd Z σ) 4 [some (.ref (Z.ad 0)), some (.int (nI k)), some (.int (nI s)), none] []
  refine j_iload_n S dX4_tie_4 rfl ?_
  refine j_if_lt S 15 dX4_tie_5 (by decide) (fun h9 => absurd h9 (nI_pos (by omega))) (fun _ => ?_)
  refine j_iload_n S dX4_tie_8 rfl ?_
  refine j_sipush S 255 dX4_tie_9 (by decide) ?_
  refine j_icmp_le S 25 dX4_tie_12 (by decide) (fun _ => ?_) (fun h9 => absurd (by rw [show (255 : Int32) = nI 255 from rfl, nI_leI (by omega) (by omega)]; omega) h9)
  refine j_aload_n S dX4_tie_25 rfl ?_
  refine j_get S (C := RX4) (T := TX4) (N := 7) (by decide +kernel) rd_loom rfl (v := .ref (Z.ad (ro 0))) 2 (by decide) (by decide +kernel) rfl rfl dX4_tie_26 ?_
  refine j_iload_n S dX4_tie_29 rfl ?_
  refine j_cVi S (n := 1) (rest := []) (k_X3_at X.l Z X.A hAX σ 0 (by omega) (nI k)) ⟨_, _, _, _, rfl, gX4_tie_X3_at, rfl, rfl, by decide +kernel, ⟨Nat.le_of_ble_eq_true rfl, Nat.le_of_ble_eq_true rfl⟩⟩ (rd_row (by omega)) rfl rfl (Nat.le_of_ble_eq_true rfl) rfl dX4_tie_30 (fun v9 hv9 => ?_)
  subst hv9
  show J X 4 (Wd Z σ) 33 [some (.ref (Z.ad 0)), some (.int (nI k)), some (.int (nI s)), none] [.int (atI (σ.row 0) (nI k))]
  refine j_istore_n S [some (.ref (Z.ad 0)), some (.int (nI k)), some (.int (nI s)), some (.int (atI (σ.row 0) (nI k)))] dX4_tie_33 (by decide) rfl rfl ?_
  refine j_aload_n S dX4_tie_34 rfl ?_
  refine j_get S (C := RX4) (T := TX4) (N := 7) (by decide +kernel) rd_loom rfl (v := .ref (Z.ad (ro 0))) 2 (by decide) (by decide +kernel) rfl rfl dX4_tie_35 ?_
  refine j_iload_n S dX4_tie_38 rfl ?_
  refine j_iload_n S dX4_tie_39 rfl ?_
  refine j_cVv S (n := 2) (rest := []) (k_X3_put X.l Z X.A hAX σ 0 (by omega) (nI k) (nI s)) ⟨_, _, _, _, rfl, gX4_tie_X3_put, rfl, rfl, by decide +kernel, ⟨Nat.le_of_ble_eq_true rfl, Nat.le_of_ble_eq_true rfl⟩⟩ (rd_row (by omega)) rfl rfl (Nat.le_of_ble_eq_true rfl) rfl dX4_tie_40 ?_
  show J X 4 (Wd Z (σ.setRow 0 (putI (σ.row 0) (nI k) (nI s)))) 43 [some (.ref (Z.ad 0)), some (.int (nI k)), some (.int (nI s)), some (.int (atI (σ.row 0) (nI k)))] []
  refine j_aload_n S dX4_tie_43 rfl ?_
  rw [hH.2.2.1, atI_nI _ (by omega), putI_nI _ _ (by omega)]
  have hH2 := hH.tie (l := ties.set k (nI s)) (by rw [List.length_set]; exact hH.2.2.2)
  refine j_cVv S (n := 0) (rest := []) (k_X4_weave X.l Z X.A hAX (σ.setRow 0 (ties.set k (nI s)))) ⟨_, _, _, _, rfl, gX4_tie_X4_weave, rfl, rfl, by decide +kernel, ⟨Nat.le_of_ble_eq_true rfl, Nat.le_of_ble_eq_true rfl⟩⟩ rd_loom rfl rfl (Nat.le_of_ble_eq_true rfl) rfl dX4_tie_44 ?_
  show J X 4 (Wd Z ((σ.setRow 0 (ties.set k (nI s))).setCl 0 (wE ((σ.setRow 0 (ties.set k (nI s))).row 0) ((σ.setRow 0 (ties.set k (nI s))).row 9) ((σ.setRow 0 (ties.set k (nI s))).row 11) ((σ.setRow 0 (ties.set k (nI s))).row 11).length) (wP ((σ.setRow 0 (ties.set k (nI s))).row 0) ((σ.setRow 0 (ties.set k (nI s))).row 9) ((σ.setRow 0 (ties.set k (nI s))).row 11) ((σ.setRow 0 (ties.set k (nI s))).row 11).length))) 47 [some (.ref (Z.ad 0)), some (.int (nI k)), some (.int (nI s)), some (.int (ties.getD k 0))] []
  refine j_iload_n S dX4_tie_47 rfl ?_
  exact j_ireturn S hRT hXA hQ hXk hXn dX4_tie_48 rfl rfl (fun H h9 => ⟨_, Cons.woven hH2 (fun i hi => (hG i hi).tie _), h9⟩)

set_option maxRecDepth 100000 in
set_option maxHeartbeats 4000000 in
theorem k_X4_swapInTrialTies (l : Launch) (Z : Zx) (A : Nat → Prop) (hA : AdOk Z A) (σ : St) (tok : Nat → List Int32) (ties : List Int32) (hH : Hand σ tok ties) (a b : Int32) : Km l Z A yX4_swapInTrialTies wsX4_swapInTrialTies { frames := 1, cells := 0, slots := 0, locals := 21 } (Wd Z σ) [.ref (Z.ad 0), .int a, .int b] (Qv (Wd Z (σ.setRow 1 (swT ties a b 8))) A) := by
  refine Km.of (cc := cX4_swapInTrialTies) (maxL := 6) (ret := none) (by decide) rfl (Nat.le_of_ble_eq_true rfl) hA ?_
  intro X hXl S hAX hRT hXA hQ hXk hXn
  show J X 6 (Wd Z σ) 0 [some (.ref (Z.ad 0)), some (.int a), some (.int b), none, none, none] []
  have h8 := hH.2.2.2
  have loop : ∀ (f i : Nat) (σ1 : St), i + f = 8 → σ1 = σ.setRow 1 (swT ties a b i) → J X 6 (Wd Z σ1) 9 [some (.ref (Z.ad 0)), some (.int a), some (.int b), some (.int (nI i)), none, none] [] := by
    intro f
    induction f with
    | zero =>
      intro i σ1 hi he
      refine j_iload_n S dX4_swapInTrialTies_9 rfl ?_
      refine j_bipush S 8 dX4_swapInTrialTies_10 (by decide) ?_
      refine j_icmp_ge S 63 dX4_swapInTrialTies_12 (by decide) (fun _ => ?_) (fun h9 => absurd (by rw [show (8 : Int32) = nI 8 from rfl, nI_leI (by omega) (by omega)]; omega) h9)
      exact j_return S hRT hXA hQ hXk hXn dX4_swapInTrialTies_63 (fun H h9 => by rw [he, show i = 8 by omega] at h9; exact h9)
    | succ f ih =>
      intro i σ1 hi he
      have e0 : σ1.row 0 = ties := by rw [he, St.row_ne _ _ (by omega)]; exact hH.2.2.1
      have e1 : σ1.row 1 = swT ties a b i := by rw [he, St.row_self]
      refine j_iload_n S dX4_swapInTrialTies_9 rfl ?_
      refine j_bipush S 8 dX4_swapInTrialTies_10 (by decide) ?_
      refine j_icmp_ge S 63 dX4_swapInTrialTies_12 (by decide) (fun h9 => absurd h9 (by rw [show (8 : Int32) = nI 8 from rfl, nI_leI (by omega) (by omega)]; omega)) (fun _ => ?_)
      refine j_aload_n S dX4_swapInTrialTies_15 rfl ?_
      refine j_get S (C := RX4) (T := TX4) (N := 7) (by decide +kernel) rd_loom rfl (v := .ref (Z.ad (ro 0))) 2 (by decide) (by decide +kernel) rfl rfl dX4_swapInTrialTies_16 ?_
      refine j_iload_n S dX4_swapInTrialTies_19 rfl ?_
      refine j_cVi S (n := 1) (rest := []) (k_X3_at X.l Z X.A hAX σ1 0 (by omega) (nI i)) ⟨_, _, _, _, rfl, gX4_swapInTrialTies_X3_at, rfl, rfl, by decide +kernel, ⟨Nat.le_of_ble_eq_true rfl, Nat.le_of_ble_eq_true rfl⟩⟩ (rd_row (by omega)) rfl rfl (Nat.le_of_ble_eq_true rfl) rfl dX4_swapInTrialTies_20 (fun v9 hv9 => ?_)
      subst hv9
      show J X 6 (Wd Z σ1) 23 [some (.ref (Z.ad 0)), some (.int a), some (.int b), some (.int (nI i)), none, none] [.int (atI (σ1.row 0) (nI i))]
      rw [e0, atI_nI _ (by omega)]
      refine j_istore S [some (.ref (Z.ad 0)), some (.int a), some (.int b), some (.int (nI i)), some (.int (ties.getD i 0)), none] dX4_swapInTrialTies_23 (by decide) rfl rfl ?_
      refine j_iload S dX4_swapInTrialTies_25 rfl ?_
      refine j_iload_n S dX4_swapInTrialTies_27 rfl ?_
      refine j_ishr S (sshr (ties.getD i 0) a) dX4_swapInTrialTies_28 rfl ?_
      refine j_iload S dX4_swapInTrialTies_29 rfl ?_
      refine j_iload_n S dX4_swapInTrialTies_31 rfl ?_
      refine j_ishr S (sshr (ties.getD i 0) b) dX4_swapInTrialTies_32 rfl ?_
      refine j_ixor S ((sshr (ties.getD i 0) a) ^^^ (sshr (ties.getD i 0) b)) dX4_swapInTrialTies_33 rfl ?_
      refine j_iconst S 1 dX4_swapInTrialTies_34 (by decide) ?_
      refine j_iand S (((sshr (ties.getD i 0) a) ^^^ (sshr (ties.getD i 0) b)) &&& 1) dX4_swapInTrialTies_35 rfl ?_
      refine j_istore S [some (.ref (Z.ad 0)), some (.int a), some (.int b), some (.int (nI i)), some (.int (ties.getD i 0)), some (.int (((sshr (ties.getD i 0) a) ^^^ (sshr (ties.getD i 0) b)) &&& 1))] dX4_swapInTrialTies_36 (by decide) rfl rfl ?_
      refine j_aload_n S dX4_swapInTrialTies_38 rfl ?_
      refine j_get S (C := RX4) (T := TX4) (N := 7) (by decide +kernel) rd_loom rfl (v := .ref (Z.ad (ro 1))) 5 (by decide) (by decide +kernel) rfl rfl dX4_swapInTrialTies_39 ?_
      refine j_iload S dX4_swapInTrialTies_42 rfl ?_
      refine j_iload S dX4_swapInTrialTies_44 rfl ?_
      refine j_iload_n S dX4_swapInTrialTies_46 rfl ?_
      refine j_ishl S (shl (((sshr (ties.getD i 0) a) ^^^ (sshr (ties.getD i 0) b)) &&& 1) a) dX4_swapInTrialTies_47 rfl ?_
      refine j_iload S dX4_swapInTrialTies_48 rfl ?_
      refine j_iload_n S dX4_swapInTrialTies_50 rfl ?_
      refine j_ishl S (shl (((sshr (ties.getD i 0) a) ^^^ (sshr (ties.getD i 0) b)) &&& 1) b) dX4_swapInTrialTies_51 rfl ?_
      refine j_ior S ((shl (((sshr (ties.getD i 0) a) ^^^ (sshr (ties.getD i 0) b)) &&& 1) a) ||| (shl (((sshr (ties.getD i 0) a) ^^^ (sshr (ties.getD i 0) b)) &&& 1) b)) dX4_swapInTrialTies_52 rfl ?_
      refine j_ixor S (swOne (ties.getD i 0) a b) dX4_swapInTrialTies_53 rfl ?_
      refine j_cVv S (n := 1) (rest := []) (k_X3_add X.l Z X.A hAX σ1 1 (by omega) (swOne (ties.getD i 0) a b)) ⟨_, _, _, _, rfl, gX4_swapInTrialTies_X3_add, rfl, rfl, by decide +kernel, ⟨Nat.le_of_ble_eq_true rfl, Nat.le_of_ble_eq_true rfl⟩⟩ (rd_row (by omega)) rfl rfl (Nat.le_of_ble_eq_true rfl) rfl dX4_swapInTrialTies_54 ?_
      show J X 6 (Wd Z (σ1.setRow 1 (addI (cap 1) (σ1.row 1) (swOne (ties.getD i 0) a b)))) 57 [some (.ref (Z.ad 0)), some (.int a), some (.int b), some (.int (nI i)), some (.int (ties.getD i 0)), some (.int (((sshr (ties.getD i 0) a) ^^^ (sshr (ties.getD i 0) b)) &&& 1))] []
      refine j_iinc S (nI (i + 1)) [some (.ref (Z.ad 0)), some (.int a), some (.int b), some (.int (nI (i + 1))), some (.int (ties.getD i 0)), some (.int (((sshr (ties.getD i 0) a) ^^^ (sshr (ties.getD i 0) b)) &&& 1))] dX4_swapInTrialTies_57 rfl (nI_1 i) (by decide) rfl rfl ?_
      refine j_goto S 9 dX4_swapInTrialTies_60 (by decide) ?_
      refine J.less [some (.ref (Z.ad 0)), some (.int a), some (.int b), some (.int (nI (i + 1))), none, none] ⟨rfl, rfl, rfl, rfl, trivial⟩ ?_
      refine ih (i + 1) _ (by omega) ?_
      rw [e1, he, St.setRow_twice, show cap 1 = 8 from rfl, addI_lt (by rw [swT_len]; omega)]
      rfl
  refine j_aload_n S dX4_swapInTrialTies_0 rfl ?_
  refine j_get S (C := RX4) (T := TX4) (N := 7) (by decide +kernel) rd_loom rfl (v := .ref (Z.ad (ro 1))) 5 (by decide) (by decide +kernel) rfl rfl dX4_swapInTrialTies_1 ?_
  refine j_cVv S (n := 0) (rest := []) (k_X3_clear X.l Z X.A hAX σ 1 (by omega)) ⟨_, _, _, _, rfl, gX4_swapInTrialTies_X3_clear, rfl, rfl, by decide +kernel, ⟨Nat.le_of_ble_eq_true rfl, Nat.le_of_ble_eq_true rfl⟩⟩ (rd_row (by omega)) rfl rfl (Nat.le_of_ble_eq_true rfl) rfl dX4_swapInTrialTies_4 ?_
  show J X 6 (Wd Z (σ.setRow 1 [])) 7 [some (.ref (Z.ad 0)), some (.int a), some (.int b), none, none, none] []
  refine j_iconst S 0 dX4_swapInTrialTies_7 (by decide) ?_
  refine j_istore_n S [some (.ref (Z.ad 0)), some (.int a), some (.int b), some (.int 0), none, none] dX4_swapInTrialTies_8 (by decide) rfl rfl ?_
  exact loop 8 0 _ rfl rfl

set_option maxRecDepth 100000 in
set_option maxHeartbeats 4000000 in
theorem k_X4_takeTrialTies (l : Launch) (Z : Zx) (A : Nat → Prop) (hA : AdOk Z A) (σ : St) (tok : Nat → List Int32) (ties : List Int32) (hC : Cons σ tok ties) (tt : List Int32) (h1 : σ.row 1 = tt) (hl8 : tt.length = 8) : Km l Z A yX4_takeTrialTies wsX4_takeTrialTies { frames := 3, cells := 0, slots := 0, locals := 69 } (Wd Z σ) [.ref (Z.ad 0)] (Qi (WL Z tok tt) A (fun v => v = diffT ties tt)) := by
  refine Km.of (cc := cX4_takeTrialTies) (maxL := 3) (ret := (some .int)) (by decide) rfl (Nat.le_of_ble_eq_true rfl) hA ?_
  intro X hXl S hAX hRT hXA hQ hXk hXn
  show J X 3 (Wd Z σ) 0 [some (.ref (Z.ad 0)), none, none] []
  obtain ⟨hH, hG, -, -⟩ := id hC
  have h8 := hH.2.2.2
  have loop : ∀ (f i : Nat), i + f = 8 → J X 3 (Wd Z σ) 4 [some (.ref (Z.ad 0)), some (.int (foldN (fun a k => if ties.getD k 0 = tt.getD k 0 then a else a + 1) i)), some (.int (nI i))] [] := by
    intro f
    induction f with
    | zero =>
      intro i hi
      refine j_iload_n S dX4_takeTrialTies_4 rfl ?_
      refine j_bipush S 8 dX4_takeTrialTies_5 (by decide) ?_
      refine j_icmp_ge S 38 dX4_takeTrialTies_7 (by decide) (fun _ => ?_) (fun h9 => absurd (by rw [show (8 : Int32) = nI 8 from rfl, nI_leI (by omega) (by omega)]; omega) h9)
      refine j_aload_n S dX4_takeTrialTies_38 rfl ?_
      refine j_get S (C := RX4) (T := TX4) (N := 7) (by decide +kernel) rd_loom rfl (v := .ref (Z.ad (ro 0))) 2 (by decide) (by decide +kernel) rfl rfl dX4_takeTrialTies_39 ?_
      refine j_aload_n S dX4_takeTrialTies_42 rfl ?_
      refine j_get S (C := RX4) (T := TX4) (N := 7) (by decide +kernel) rd_loom rfl (v := .ref (Z.ad (ro 1))) 5 (by decide) (by decide +kernel) rfl rfl dX4_takeTrialTies_43 ?_
      refine j_cVv S (n := 1) (rest := []) (k_X3_copyFrom X.l Z X.A hAX σ 0 1 (by omega) (by omega) (by omega)) ⟨_, _, _, _, rfl, gX4_takeTrialTies_X3_copyFrom, rfl, rfl, by decide +kernel, ⟨Nat.le_of_ble_eq_true rfl, Nat.le_of_ble_eq_true rfl⟩⟩ (rd_row (by omega)) rfl rfl (Nat.le_of_ble_eq_true rfl) rfl dX4_takeTrialTies_46 ?_
      show J X 3 (Wd Z (σ.setRow 0 (addAllI (cap 0) [] (σ.row 1)))) 49 [some (.ref (Z.ad 0)), some (.int (foldN (fun a k => if ties.getD k 0 = tt.getD k 0 then a else a + 1) i)), some (.int (nI i))] []
      rw [h1, show addAllI (cap 0) [] tt = tt from by unfold addAllI; rw [List.nil_append]; exact List.take_of_length_le (by rw [hl8]; exact Nat.le_refl _)]
      have hH2 := hH.tie (l := tt) hl8
      refine j_aload_n S dX4_takeTrialTies_49 rfl ?_
      refine j_cVv S (n := 0) (rest := []) (k_X4_weave X.l Z X.A hAX (σ.setRow 0 tt)) ⟨_, _, _, _, rfl, gX4_takeTrialTies_X4_weave, rfl, rfl, by decide +kernel, ⟨Nat.le_of_ble_eq_true rfl, Nat.le_of_ble_eq_true rfl⟩⟩ rd_loom rfl rfl (Nat.le_of_ble_eq_true rfl) rfl dX4_takeTrialTies_50 ?_
      show J X 3 (Wd Z ((σ.setRow 0 tt).setCl 0 (wE ((σ.setRow 0 tt).row 0) ((σ.setRow 0 tt).row 9) ((σ.setRow 0 tt).row 11) ((σ.setRow 0 tt).row 11).length) (wP ((σ.setRow 0 tt).row 0) ((σ.setRow 0 tt).row 9) ((σ.setRow 0 tt).row 11) ((σ.setRow 0 tt).row 11).length))) 53 [some (.ref (Z.ad 0)), some (.int (foldN (fun a k => if ties.getD k 0 = tt.getD k 0 then a else a + 1) i)), some (.int (nI i))] []
      refine j_iload_n S dX4_takeTrialTies_53 rfl ?_
      obtain rfl : i = 8 := by omega
      exact j_ireturn S hRT hXA hQ hXk hXn dX4_takeTrialTies_54 rfl rfl (fun H h9 => ⟨_, Cons.woven hH2 (fun i hi => (hG i hi).tie _), h9⟩)
    | succ f ih =>
      intro i hi
      refine j_iload_n S dX4_takeTrialTies_4 rfl ?_
      refine j_bipush S 8 dX4_takeTrialTies_5 (by decide) ?_
      refine j_icmp_ge S 38 dX4_takeTrialTies_7 (by decide) (fun h9 => absurd h9 (by rw [show (8 : Int32) = nI 8 from rfl, nI_leI (by omega) (by omega)]; omega)) (fun _ => ?_)
      refine j_aload_n S dX4_takeTrialTies_10 rfl ?_
      refine j_get S (C := RX4) (T := TX4) (N := 7) (by decide +kernel) rd_loom rfl (v := .ref (Z.ad (ro 0))) 2 (by decide) (by decide +kernel) rfl rfl dX4_takeTrialTies_11 ?_
      refine j_iload_n S dX4_takeTrialTies_14 rfl ?_
      refine j_cVi S (n := 1) (rest := []) (k_X3_at X.l Z X.A hAX σ 0 (by omega) (nI i)) ⟨_, _, _, _, rfl, gX4_takeTrialTies_X3_at, rfl, rfl, by decide +kernel, ⟨Nat.le_of_ble_eq_true rfl, Nat.le_of_ble_eq_true rfl⟩⟩ (rd_row (by omega)) rfl rfl (Nat.le_of_ble_eq_true rfl) rfl dX4_takeTrialTies_15 (fun v9 hv9 => ?_)
      subst hv9
      show J X 3 (Wd Z σ) 18 [some (.ref (Z.ad 0)), some (.int (foldN (fun a k => if ties.getD k 0 = tt.getD k 0 then a else a + 1) i)), some (.int (nI i))] [.int (atI (σ.row 0) (nI i))]
      refine j_aload_n S dX4_takeTrialTies_18 rfl ?_
      refine j_get S (C := RX4) (T := TX4) (N := 7) (by decide +kernel) rd_loom rfl (v := .ref (Z.ad (ro 1))) 5 (by decide) (by decide +kernel) rfl rfl dX4_takeTrialTies_19 ?_
      refine j_iload_n S dX4_takeTrialTies_22 rfl ?_
      refine j_cVi S (n := 1) (rest := [.int (atI (σ.row 0) (nI i))]) (k_X3_at X.l Z X.A hAX σ 1 (by omega) (nI i)) ⟨_, _, _, _, rfl, gX4_takeTrialTies_X3_at, rfl, rfl, by decide +kernel, ⟨Nat.le_of_ble_eq_true rfl, Nat.le_of_ble_eq_true rfl⟩⟩ (rd_row (by omega)) rfl rfl (Nat.le_of_ble_eq_true rfl) rfl dX4_takeTrialTies_23 (fun v9 hv9 => ?_)
      subst hv9
      show J X 3 (Wd Z σ) 26 [some (.ref (Z.ad 0)), some (.int (foldN (fun a k => if ties.getD k 0 = tt.getD k 0 then a else a + 1) i)), some (.int (nI i))] [.int (atI (σ.row 1) (nI i)), .int (atI (σ.row 0) (nI i))]
      rw [hH.2.2.1, h1, atI_nI _ (by omega), atI_nI _ (by omega)]
      refine j_icmp_eq S 32 dX4_takeTrialTies_26 (by decide) (fun h => ?_) (fun h => ?_)
      · skip
        have e9 : foldN (fun a k => if ties.getD k 0 = tt.getD k 0 then a else a + 1) i = foldN (fun a k => if ties.getD k 0 = tt.getD k 0 then a else a + 1) (i + 1) := (if_pos h).symm
        refine j_iinc S (nI (i + 1)) [some (.ref (Z.ad 0)), some (.int (foldN (fun a k => if ties.getD k 0 = tt.getD k 0 then a else a + 1) i)), some (.int (nI (i + 1)))] dX4_takeTrialTies_32 rfl (nI_1 i) (by decide) rfl rfl ?_
        refine j_goto S 4 dX4_takeTrialTies_35 (by decide) ?_
        rw [e9]
        exact ih (i + 1) (by omega)
      · skip
        refine j_iinc S (foldN (fun a k => if ties.getD k 0 = tt.getD k 0 then a else a + 1) (i + 1)) [some (.ref (Z.ad 0)), some (.int (foldN (fun a k => if ties.getD k 0 = tt.getD k 0 then a else a + 1) (i + 1))), some (.int (nI i))] dX4_takeTrialTies_29 rfl (if_neg h).symm (by decide) rfl rfl ?_
        refine j_iinc S (nI (i + 1)) [some (.ref (Z.ad 0)), some (.int (foldN (fun a k => if ties.getD k 0 = tt.getD k 0 then a else a + 1) (i + 1))), some (.int (nI (i + 1)))] dX4_takeTrialTies_32 rfl (nI_1 i) (by decide) rfl rfl ?_
        refine j_goto S 4 dX4_takeTrialTies_35 (by decide) ?_
        exact ih (i + 1) (by omega)
  refine j_iconst S 0 dX4_takeTrialTies_0 (by decide) ?_
  refine j_istore_n S [some (.ref (Z.ad 0)), some (.int 0), none] dX4_takeTrialTies_1 (by decide) rfl rfl ?_
  refine j_iconst S 0 dX4_takeTrialTies_2 (by decide) ?_
  refine j_istore_n S [some (.ref (Z.ad 0)), some (.int 0), some (.int 0)] dX4_takeTrialTies_3 (by decide) rfl rfl ?_
  exact loop 8 0 rfl

set_option maxRecDepth 100000 in
set_option maxHeartbeats 4000000 in
theorem k_X4_swap (l : Launch) (Z : Zx) (A : Nat → Prop) (hA : AdOk Z A) (tok : Nat → List Int32) (ties : List Int32) (a b : Nat) (ha : a < 8) (hb : b < 8) : Km l Z A yX4_swap wsX4_swap { frames := 4, cells := 0, slots := 0, locals := 91 } (WL Z tok ties) [.ref (Z.ad 0), .int (nI a), .int (nI b)] (Qi (WL Z tok (swT ties (nI a) (nI b) 8)) A (fun v => v = diffT ties (swT ties (nI a) (nI b) 8))) := by
  refine Km.of (cc := cX4_swap) (maxL := 3) (ret := (some .int)) (by decide) rfl (Nat.le_of_ble_eq_true rfl) hA ?_
  intro X hXl S hAX hRT hXA hQ hXk hXn
  show J X 3 (WL Z tok ties) 0 [some (.ref (Z.ad 0)), some (.int (nI a)), some (.int (nI b))] []
  refine J.WL (fun σ hC => ?_)
  obtain ⟨hH, hG, hEE, hPP⟩ := id hC
  refine j_iload_n S dX4_swap_0 rfl ?_
  refine j_cSv S (n := 1) (rest := []) (k_X4_checkShaft X.l Z X.A hAX σ a ha) ⟨_, _, _, _, rfl, gX4_swap_X4_checkShaft, rfl, rfl, by decide +kernel, ⟨Nat.le_of_ble_eq_true rfl, Nat.le_of_ble_eq_true rfl⟩⟩ rfl (Nat.le_of_ble_eq_true rfl) rfl dX4_swap_1 ?_
  show J X 3 (Wd Z σ) 4 [some (.ref (Z.ad 0)), some (.int (nI a)), some (.int (nI b))] []
  refine j_iload_n S dX4_swap_4 rfl ?_
  refine j_cSv S (n := 1) (rest := []) (k_X4_checkShaft X.l Z X.A hAX σ b hb) ⟨_, _, _, _, rfl, gX4_swap_X4_checkShaft, rfl, rfl, by decide +kernel, ⟨Nat.le_of_ble_eq_true rfl, Nat.le_of_ble_eq_true rfl⟩⟩ rfl (Nat.le_of_ble_eq_true rfl) rfl dX4_swap_5 ?_
  show J X 3 (Wd Z σ) 8 [some (.ref (Z.ad 0)), some (.int (nI a)), some (.int (nI b))] []
  refine j_aload_n S dX4_swap_8 rfl ?_
  refine j_iload_n S dX4_swap_9 rfl ?_
  refine j_iload_n S dX4_swap_10 rfl ?_
  refine j_cVv S (n := 2) (rest := []) (k_X4_swapInTrialTies X.l Z X.A hAX σ tok ties hH (nI a) (nI b)) ⟨_, _, _, _, rfl, gX4_swap_X4_swapInTrialTies, rfl, rfl, by decide +kernel, ⟨Nat.le_of_ble_eq_true rfl, Nat.le_of_ble_eq_true rfl⟩⟩ rd_loom rfl rfl (Nat.le_of_ble_eq_true rfl) rfl dX4_swap_11 ?_
  show J X 3 (Wd Z (σ.setRow 1 (swT ties (nI a) (nI b) 8))) 14 [some (.ref (Z.ad 0)), some (.int (nI a)), some (.int (nI b))] []
  refine j_aload_n S dX4_swap_14 rfl ?_
  refine j_cVi S (n := 0) (rest := []) (k_X4_takeTrialTies X.l Z X.A hAX (σ.setRow 1 (swT ties (nI a) (nI b) 8)) tok ties (hC.row1 _) (swT ties (nI a) (nI b) 8) (St.row_self _ _ _) (swT_len _ _ _ _)) ⟨_, _, _, _, rfl, gX4_swap_X4_takeTrialTies, rfl, rfl, by decide +kernel, ⟨Nat.le_of_ble_eq_true rfl, Nat.le_of_ble_eq_true rfl⟩⟩ rd_loom rfl rfl (Nat.le_of_ble_eq_true rfl) rfl dX4_swap_15 (fun v9 hv9 => ?_)
  subst hv9
  show J X 3 (WL Z tok (swT ties (nI a) (nI b) 8)) 18 [some (.ref (Z.ad 0)), some (.int (nI a)), some (.int (nI b))] [.int (diffT ties (swT ties (nI a) (nI b) 8))]
  exact j_ireturn S hRT hXA hQ hXk hXn dX4_swap_18 rfl rfl (fun H h9 => h9)

set_option maxRecDepth 100000 in
set_option maxHeartbeats 4000000 in
theorem k_X4_weaveTrialWith (l : Launch) (Z : Zx) (A : Nat → Prop) (hA : AdOk Z A) (σ : St) (tok : Nat → List Int32) (ties : List Int32) (hC : Cons σ tok ties) (k s : Nat) (hk : k < 8) (hs : s < 8) : Km l Z A yX4_weaveTrialWith wsX4_weaveTrialWith { frames := 3, cells := 0, slots := 0, locals := 69 } (Wd Z σ) [.ref (Z.ad 0), .int (nI k), .int (nI s)] (Qv (fun H => ∃ σ1 : St, Cons σ1 tok ties ∧ σ1.row 4 = (EE tok (flipT ties k (nI s))) ∧ σ1.row 5 = (PP tok (flipT ties k (nI s))) ∧ Wd Z σ1 H) A) := by
  refine Km.of (cc := cX4_weaveTrialWith) (maxL := 3) (ret := none) (by decide) rfl (Nat.le_of_ble_eq_true rfl) hA ?_
  intro X hXl S hAX hRT hXA hQ hXk hXn
  show J X 3 (Wd Z σ) 0 [some (.ref (Z.ad 0)), some (.int (nI k)), some (.int (nI s))] []
  obtain ⟨hH, hG, hEE, hPP⟩ := id hC
  have h8 := hH.2.2.2
  refine j_iload_n S dX4_weaveTrialWith_0 rfl ?_
  refine j_cSv S (n := 1) (rest := []) (k_X4_checkTreadle X.l Z X.A hAX σ k hk) ⟨_, _, _, _, rfl, gX4_weaveTrialWith_X4_checkTreadle, rfl, rfl, by decide +kernel, ⟨Nat.le_of_ble_eq_true rfl, Nat.le_of_ble_eq_true rfl⟩⟩ rfl (Nat.le_of_ble_eq_true rfl) rfl dX4_weaveTrialWith_1 ?_
  show J X 3 (Wd Z σ) 4 [some (.ref (Z.ad 0)), some (.int (nI k)), some (.int (nI s))] []
  refine j_iload_n S dX4_weaveTrialWith_4 rfl ?_
  refine j_cSv S (n := 1) (rest := []) (k_X4_checkShaft X.l Z X.A hAX σ s hs) ⟨_, _, _, _, rfl, gX4_weaveTrialWith_X4_checkShaft, rfl, rfl, by decide +kernel, ⟨Nat.le_of_ble_eq_true rfl, Nat.le_of_ble_eq_true rfl⟩⟩ rfl (Nat.le_of_ble_eq_true rfl) rfl dX4_weaveTrialWith_5 ?_
  show J X 3 (Wd Z σ) 8 [some (.ref (Z.ad 0)), some (.int (nI k)), some (.int (nI s))] []
  refine j_aload_n S dX4_weaveTrialWith_8 rfl ?_
  refine j_get S (C := RX4) (T := TX4) (N := 7) (by decide +kernel) rd_loom rfl (v := .ref (Z.ad (ro 1))) 5 (by decide) (by decide +kernel) rfl rfl dX4_weaveTrialWith_9 ?_
  refine j_aload_n S dX4_weaveTrialWith_12 rfl ?_
  refine j_get S (C := RX4) (T := TX4) (N := 7) (by decide +kernel) rd_loom rfl (v := .ref (Z.ad (ro 0))) 2 (by decide) (by decide +kernel) rfl rfl dX4_weaveTrialWith_13 ?_
  refine j_cVv S (n := 1) (rest := []) (k_X3_copyFrom X.l Z X.A hAX σ 1 0 (by omega) (by omega) (by omega)) ⟨_, _, _, _, rfl, gX4_weaveTrialWith_X3_copyFrom, rfl, rfl, by decide +kernel, ⟨Nat.le_of_ble_eq_true rfl, Nat.le_of_ble_eq_true rfl⟩⟩ (rd_row (by omega)) rfl rfl (Nat.le_of_ble_eq_true rfl) rfl dX4_weaveTrialWith_16 ?_
  show J X 3 (Wd Z (σ.setRow 1 (addAllI (cap 1) [] (σ.row 0)))) 19 [some (.ref (Z.ad 0)), some (.int (nI k)), some (.int (nI s))] []
  rw [hH.2.2.1, show addAllI (cap 1) [] ties = ties from by unfold addAllI; rw [List.nil_append]; exact List.take_of_length_le (by rw [h8]; exact Nat.le_refl _)]
  refine j_aload_n S dX4_weaveTrialWith_19 rfl ?_
  refine j_get S (C := RX4) (T := TX4) (N := 7) (by decide +kernel) rd_loom rfl (v := .ref (Z.ad (ro 1))) 5 (by decide) (by decide +kernel) rfl rfl dX4_weaveTrialWith_20 ?_
  refine j_iload_n S dX4_weaveTrialWith_23 rfl ?_
  refine j_aload_n S dX4_weaveTrialWith_24 rfl ?_
  refine j_get S (C := RX4) (T := TX4) (N := 7) (by decide +kernel) rd_loom rfl (v := .ref (Z.ad (ro 0))) 2 (by decide) (by decide +kernel) rfl rfl dX4_weaveTrialWith_25 ?_
  refine j_iload_n S dX4_weaveTrialWith_28 rfl ?_
  refine j_cVi S (n := 1) (rest := [.int (nI k), .ref (Z.ad (ro 1))]) (k_X3_at X.l Z X.A hAX (σ.setRow 1 ties) 0 (by omega) (nI k)) ⟨_, _, _, _, rfl, gX4_weaveTrialWith_X3_at, rfl, rfl, by decide +kernel, ⟨Nat.le_of_ble_eq_true rfl, Nat.le_of_ble_eq_true rfl⟩⟩ (rd_row (by omega)) rfl rfl (Nat.le_of_ble_eq_true rfl) rfl dX4_weaveTrialWith_29 (fun v9 hv9 => ?_)
  subst hv9
  show J X 3 (Wd Z (σ.setRow 1 ties)) 32 [some (.ref (Z.ad 0)), some (.int (nI k)), some (.int (nI s))] [.int (atI ((σ.setRow 1 ties).row 0) (nI k)), .int (nI k), .ref (Z.ad (ro 1))]
  refine j_iconst S 1 dX4_weaveTrialWith_32 (by decide) ?_
  refine j_iload_n S dX4_weaveTrialWith_33 rfl ?_
  refine j_ishl S (shl 1 (nI s)) dX4_weaveTrialWith_34 rfl ?_
  refine j_ixor S ((atI ((σ.setRow 1 ties).row 0) (nI k)) ^^^ (shl 1 (nI s))) dX4_weaveTrialWith_35 rfl ?_
  refine j_cVv S (n := 2) (rest := []) (k_X3_put X.l Z X.A hAX (σ.setRow 1 ties) 1 (by omega) (nI k) ((atI ((σ.setRow 1 ties).row 0) (nI k)) ^^^ (shl 1 (nI s)))) ⟨_, _, _, _, rfl, gX4_weaveTrialWith_X3_put, rfl, rfl, by decide +kernel, ⟨Nat.le_of_ble_eq_true rfl, Nat.le_of_ble_eq_true rfl⟩⟩ (rd_row (by omega)) rfl rfl (Nat.le_of_ble_eq_true rfl) rfl dX4_weaveTrialWith_36 ?_
  show J X 3 (Wd Z ((σ.setRow 1 ties).setRow 1 (putI ((σ.setRow 1 ties).row 1) (nI k) ((atI ((σ.setRow 1 ties).row 0) (nI k)) ^^^ (shl 1 (nI s)))))) 39 [some (.ref (Z.ad 0)), some (.int (nI k)), some (.int (nI s))] []
  rw [St.row_self, St.row_ne _ _ (show (0 : Nat) ≠ 1 by omega), hH.2.2.1, atI_nI _ (by omega), putI_nI _ _ (by omega), St.setRow_twice]
  show J X 3 (Wd Z (σ.setRow 1 (flipT ties k (nI s)))) 39 [some (.ref (Z.ad 0)), some (.int (nI k)), some (.int (nI s))] []
  have e9 : ∀ l : List Int32, (σ.setRow 1 l).row 9 = num tok 0 := fun l => (St.row_ne _ _ (by omega)).trans (hG 0 (by omega)).1
  have e11 : ∀ l : List Int32, (σ.setRow 1 l).row 11 = num tok 1 := fun l => (St.row_ne _ _ (by omega)).trans (hG 1 (by omega)).1
  refine j_aload_n S dX4_weaveTrialWith_39 rfl ?_
  refine j_cVv S (n := 0) (rest := []) (k_X4_weaveTrial X.l Z X.A hAX (σ.setRow 1 (flipT ties k (nI s)))) ⟨_, _, _, _, rfl, gX4_weaveTrialWith_X4_weaveTrial, rfl, rfl, by decide +kernel, ⟨Nat.le_of_ble_eq_true rfl, Nat.le_of_ble_eq_true rfl⟩⟩ rd_loom rfl rfl (Nat.le_of_ble_eq_true rfl) rfl dX4_weaveTrialWith_40 ?_
  show J X 3 (Wd Z ((σ.setRow 1 (flipT ties k (nI s))).setCl 1 (wE ((σ.setRow 1 (flipT ties k (nI s))).row 1) ((σ.setRow 1 (flipT ties k (nI s))).row 9) ((σ.setRow 1 (flipT ties k (nI s))).row 11) ((σ.setRow 1 (flipT ties k (nI s))).row 11).length) (wP ((σ.setRow 1 (flipT ties k (nI s))).row 1) ((σ.setRow 1 (flipT ties k (nI s))).row 9) ((σ.setRow 1 (flipT ties k (nI s))).row 11) ((σ.setRow 1 (flipT ties k (nI s))).row 11).length))) 43 [some (.ref (Z.ad 0)), some (.int (nI k)), some (.int (nI s))] []
  exact j_return S hRT hXA hQ hXk hXn dX4_weaveTrialWith_43 (fun H h9 => ⟨_, (hC.row1 _).trial _ _, by rw [show (4 : Nat) = 2 + 2 * 1 from rfl, setCl_e, St.row_self, e9, e11]; rfl, by rw [show (5 : Nat) = 3 + 2 * 1 from rfl, setCl_p, St.row_self, e9, e11]; rfl, h9⟩)

set_option maxRecDepth 100000 in
set_option maxHeartbeats 4000000 in
theorem k_X4_floatWith (l : Launch) (Z : Zx) (A : Nat → Prop) (hA : AdOk Z A) (tok : Nat → List Int32) (ties : List Int32) (k s : Nat) (hk : k < 8) (hs : s < 8) : Km l Z A yX4_floatWith wsX4_floatWith { frames := 4, cells := 0, slots := 0, locals := 91 } (WL Z tok ties) [.ref (Z.ad 0), .int (nI k), .int (nI s)] (Qi (WL Z tok ties) A (fun v => v = longestC (EE tok (flipT ties k (nI s))) (PP tok (flipT ties k (nI s))))) := by
  refine Km.of (cc := cX4_floatWith) (maxL := 3) (ret := (some .int)) (by decide) rfl (Nat.le_of_ble_eq_true rfl) hA ?_
  intro X hXl S hAX hRT hXA hQ hXk hXn
  show J X 3 (WL Z tok ties) 0 [some (.ref (Z.ad 0)), some (.int (nI k)), some (.int (nI s))] []
  refine J.WL (fun σ hC => ?_)
  obtain ⟨hH, hG, hEE, hPP⟩ := id hC
  refine j_aload_n S dX4_floatWith_0 rfl ?_
  refine j_iload_n S dX4_floatWith_1 rfl ?_
  refine j_iload_n S dX4_floatWith_2 rfl ?_
  refine j_cVv S (n := 2) (rest := []) (k_X4_weaveTrialWith X.l Z X.A hAX σ tok ties hC k s hk hs) ⟨_, _, _, _, rfl, gX4_floatWith_X4_weaveTrialWith, rfl, rfl, by decide +kernel, ⟨Nat.le_of_ble_eq_true rfl, Nat.le_of_ble_eq_true rfl⟩⟩ rd_loom rfl rfl (Nat.le_of_ble_eq_true rfl) rfl dX4_floatWith_3 ?_
  refine J.ex (fun σ1 => J.and (fun hC1 => J.and (fun e4 => J.and (fun e5 => ?_))))
  show J X 3 (Wd Z σ1) 6 [some (.ref (Z.ad 0)), some (.int (nI k)), some (.int (nI s))] []
  refine j_aload_n S dX4_floatWith_6 rfl ?_
  refine j_get S (C := RX4) (T := TX4) (N := 7) (by decide +kernel) rd_loom rfl (v := .ref (Z.ad (co 1))) 6 (by decide) (by decide +kernel) rfl rfl dX4_floatWith_7 ?_
  refine j_cVi S (n := 0) (rest := []) (k_X0_longestFloat X.l Z X.A hAX σ1 1 (by omega)) ⟨_, _, _, _, rfl, gX4_floatWith_X0_longestFloat, rfl, rfl, by decide +kernel, ⟨Nat.le_of_ble_eq_true rfl, Nat.le_of_ble_eq_true rfl⟩⟩ (rd_cloth (by omega)) rfl rfl (Nat.le_of_ble_eq_true rfl) rfl dX4_floatWith_10 (fun v9 hv9 => ?_)
  subst hv9
  show J X 3 (Wd Z σ1) 13 [some (.ref (Z.ad 0)), some (.int (nI k)), some (.int (nI s))] [.int (longestC (σ1.row 4) (σ1.row 5))]
  exact j_ireturn S hRT hXA hQ hXk hXn dX4_floatWith_13 rfl (by rw [e4, e5]) (fun H h9 => ⟨σ1, hC1, h9⟩)

set_option maxRecDepth 100000 in
set_option maxHeartbeats 4000000 in
theorem k_X4_hangsWith (l : Launch) (Z : Zx) (A : Nat → Prop) (hA : AdOk Z A) (tok : Nat → List Int32) (ties : List Int32) (k s : Nat) (hk : k < 8) (hs : s < 8) : Km l Z A yX4_hangsWith wsX4_hangsWith { frames := 6, cells := 0, slots := 0, locals := 133 } (WL Z tok ties) [.ref (Z.ad 0), .int (nI k), .int (nI s)] (Qi (WL Z tok ties) A (fun v => v = b2i (connI (EE tok (flipT ties k (nI s))) (PP tok (flipT ties k (nI s)))))) := by
  refine Km.of (cc := cX4_hangsWith) (maxL := 3) (ret := (some .boolean)) (by decide) rfl (Nat.le_of_ble_eq_true rfl) hA ?_
  intro X hXl S hAX hRT hXA hQ hXk hXn
  show J X 3 (WL Z tok ties) 0 [some (.ref (Z.ad 0)), some (.int (nI k)), some (.int (nI s))] []
  refine J.WL (fun σ hC => ?_)
  obtain ⟨hH, hG, hEE, hPP⟩ := id hC
  refine j_aload_n S dX4_hangsWith_0 rfl ?_
  refine j_iload_n S dX4_hangsWith_1 rfl ?_
  refine j_iload_n S dX4_hangsWith_2 rfl ?_
  refine j_cVv S (n := 2) (rest := []) (k_X4_weaveTrialWith X.l Z X.A hAX σ tok ties hC k s hk hs) ⟨_, _, _, _, rfl, gX4_hangsWith_X4_weaveTrialWith, rfl, rfl, by decide +kernel, ⟨Nat.le_of_ble_eq_true rfl, Nat.le_of_ble_eq_true rfl⟩⟩ rd_loom rfl rfl (Nat.le_of_ble_eq_true rfl) rfl dX4_hangsWith_3 ?_
  refine J.ex (fun σ1 => J.and (fun hC1 => J.and (fun e4 => J.and (fun e5 => ?_))))
  show J X 3 (Wd Z σ1) 6 [some (.ref (Z.ad 0)), some (.int (nI k)), some (.int (nI s))] []
  refine j_aload_n S dX4_hangsWith_6 rfl ?_
  refine j_get S (C := RX4) (T := TX4) (N := 7) (by decide +kernel) rd_loom rfl (v := .ref (Z.ad (co 1))) 6 (by decide) (by decide +kernel) rfl rfl dX4_hangsWith_7 ?_
  refine j_cVi S (n := 0) (rest := []) (k_X0_isConnected X.l Z X.A hAX σ1 1 (by omega)) ⟨_, _, _, _, rfl, gX4_hangsWith_X0_isConnected, rfl, rfl, by decide +kernel, ⟨Nat.le_of_ble_eq_true rfl, Nat.le_of_ble_eq_true rfl⟩⟩ (rd_cloth (by omega)) rfl rfl (Nat.le_of_ble_eq_true rfl) rfl dX4_hangsWith_10 (fun v9 hv9 => ?_)
  subst hv9
  show J X 3 (Wd Z σ1) 13 [some (.ref (Z.ad 0)), some (.int (nI k)), some (.int (nI s))] [.int (b2i (connI (σ1.row 4) (σ1.row 5)))]
  exact j_ireturn S hRT hXA hQ hXk hXn dX4_hangsWith_13 (b2i_nar _) (by rw [e4, e5]) (fun H h9 => ⟨σ1, hC1, h9⟩)

set_option maxRecDepth 100000 in
set_option maxHeartbeats 4000000 in
theorem k_X4_changedBy (l : Launch) (Z : Zx) (A : Nat → Prop) (hA : AdOk Z A) (tok : Nat → List Int32) (ties : List Int32) (a b : Nat) (ha : a < 8) (hb : b < 8) : Km l Z A yX4_changedBy wsX4_changedBy { frames := 3, cells := 0, slots := 0, locals := 69 } (WL Z tok ties) [.ref (Z.ad 0), .int (nI a), .int (nI b)] (Qi (WL Z tok ties) A (fun v => v = changedI (EE tok ties) (EE tok (swT ties (nI a) (nI b) 8)))) := by
  refine Km.of (cc := cX4_changedBy) (maxL := 5) (ret := (some .int)) (by decide) rfl (Nat.le_of_ble_eq_true rfl) hA ?_
  intro X hXl S hAX hRT hXA hQ hXk hXn
  show J X 5 (WL Z tok ties) 0 [some (.ref (Z.ad 0)), some (.int (nI a)), some (.int (nI b)), none, none] []
  refine J.WL (fun σ hC => ?_)
  obtain ⟨hH, hG, hEE, hPP⟩ := id hC
  refine J.caps (fun hcap => ?_)
  have h8 := hH.2.2.2
  have hE32 : (σ.row 2).length ≤ 32 := hcap 2 (by omega)
  rw [hEE] at hE32
  refine j_iload_n S dX4_changedBy_0 rfl ?_
  refine j_cSv S (n := 1) (rest := []) (k_X4_checkShaft X.l Z X.A hAX σ a ha) ⟨_, _, _, _, rfl, gX4_changedBy_X4_checkShaft, rfl, rfl, by decide +kernel, ⟨Nat.le_of_ble_eq_true rfl, Nat.le_of_ble_eq_true rfl⟩⟩ rfl (Nat.le_of_ble_eq_true rfl) rfl dX4_changedBy_1 ?_
  show J X 5 (Wd Z σ) 4 [some (.ref (Z.ad 0)), some (.int (nI a)), some (.int (nI b)), none, none] []
  refine j_iload_n S dX4_changedBy_4 rfl ?_
  refine j_cSv S (n := 1) (rest := []) (k_X4_checkShaft X.l Z X.A hAX σ b hb) ⟨_, _, _, _, rfl, gX4_changedBy_X4_checkShaft, rfl, rfl, by decide +kernel, ⟨Nat.le_of_ble_eq_true rfl, Nat.le_of_ble_eq_true rfl⟩⟩ rfl (Nat.le_of_ble_eq_true rfl) rfl dX4_changedBy_5 ?_
  show J X 5 (Wd Z σ) 8 [some (.ref (Z.ad 0)), some (.int (nI a)), some (.int (nI b)), none, none] []
  refine j_aload_n S dX4_changedBy_8 rfl ?_
  refine j_iload_n S dX4_changedBy_9 rfl ?_
  refine j_iload_n S dX4_changedBy_10 rfl ?_
  refine j_cVv S (n := 2) (rest := []) (k_X4_swapInTrialTies X.l Z X.A hAX σ tok ties hH (nI a) (nI b)) ⟨_, _, _, _, rfl, gX4_changedBy_X4_swapInTrialTies, rfl, rfl, by decide +kernel, ⟨Nat.le_of_ble_eq_true rfl, Nat.le_of_ble_eq_true rfl⟩⟩ rd_loom rfl rfl (Nat.le_of_ble_eq_true rfl) rfl dX4_changedBy_11 ?_
  show J X 5 (Wd Z (σ.setRow 1 (swT ties (nI a) (nI b) 8))) 14 [some (.ref (Z.ad 0)), some (.int (nI a)), some (.int (nI b)), none, none] []
  refine j_aload_n S dX4_changedBy_14 rfl ?_
  refine j_cVv S (n := 0) (rest := []) (k_X4_weaveTrial X.l Z X.A hAX (σ.setRow 1 (swT ties (nI a) (nI b) 8))) ⟨_, _, _, _, rfl, gX4_changedBy_X4_weaveTrial, rfl, rfl, by decide +kernel, ⟨Nat.le_of_ble_eq_true rfl, Nat.le_of_ble_eq_true rfl⟩⟩ rd_loom rfl rfl (Nat.le_of_ble_eq_true rfl) rfl dX4_changedBy_15 ?_
  show J X 5 (Wd Z ((σ.setRow 1 (swT ties (nI a) (nI b) 8)).setCl 1 (wE ((σ.setRow 1 (swT ties (nI a) (nI b) 8)).row 1) ((σ.setRow 1 (swT ties (nI a) (nI b) 8)).row 9) ((σ.setRow 1 (swT ties (nI a) (nI b) 8)).row 11) ((σ.setRow 1 (swT ties (nI a) (nI b) 8)).row 11).length) (wP ((σ.setRow 1 (swT ties (nI a) (nI b) 8)).row 1) ((σ.setRow 1 (swT ties (nI a) (nI b) 8)).row 9) ((σ.setRow 1 (swT ties (nI a) (nI b) 8)).row 11) ((σ.setRow 1 (swT ties (nI a) (nI b) 8)).row 11).length))) 18 [some (.ref (Z.ad 0)), some (.int (nI a)), some (.int (nI b)), none, none] []
  obtain ⟨σ1, hσ1⟩ : ∃ z : St, z = (σ.setRow 1 (swT ties (nI a) (nI b) 8)).setCl 1 (wE ((σ.setRow 1 (swT ties (nI a) (nI b) 8)).row 1) ((σ.setRow 1 (swT ties (nI a) (nI b) 8)).row 9) ((σ.setRow 1 (swT ties (nI a) (nI b) 8)).row 11) ((σ.setRow 1 (swT ties (nI a) (nI b) 8)).row 11).length) (wP ((σ.setRow 1 (swT ties (nI a) (nI b) 8)).row 1) ((σ.setRow 1 (swT ties (nI a) (nI b) 8)).row 9) ((σ.setRow 1 (swT ties (nI a) (nI b) 8)).row 11) ((σ.setRow 1 (swT ties (nI a) (nI b) 8)).row 11).length) := ⟨_, rfl⟩
  rw [← hσ1]
  have hC1 : Cons σ1 tok ties := by rw [hσ1]; exact (hC.row1 _).trial _ _
  have e9 : (σ.setRow 1 (swT ties (nI a) (nI b) 8)).row 9 = num tok 0 := (St.row_ne _ _ (by omega)).trans (hG 0 (by omega)).1
  have e11 : (σ.setRow 1 (swT ties (nI a) (nI b) 8)).row 11 = num tok 1 := (St.row_ne _ _ (by omega)).trans (hG 1 (by omega)).1
  have e4 : σ1.row 4 = (EE tok (swT ties (nI a) (nI b) 8)) := by rw [hσ1, show (4 : Nat) = 2 + 2 * 1 from rfl, setCl_e, St.row_self, e9, e11]; rfl
  have e2 : σ1.row 2 = EE tok ties := hC1.2.2.1
  have loop : ∀ (f i : Nat), i + f = (EE tok ties).length → J X 5 (Wd Z σ1) 23 [some (.ref (Z.ad 0)), some (.int (nI a)), some (.int (nI b)), some (.int (foldN (fun z i => z + bitC ((EE tok ties).getD i 0 ^^^ (EE tok (swT ties (nI a) (nI b) 8)).getD i 0)) i)), some (.int (nI i))] [] := by
    intro f
    induction f with
    | zero =>
      intro i hi
      refine j_iload S dX4_changedBy_23 rfl ?_
      refine j_aload_n S dX4_changedBy_25 rfl ?_
      refine j_get S (C := RX4) (T := TX4) (N := 7) (by decide +kernel) rd_loom rfl (v := .ref (Z.ad (co 0))) 3 (by decide) (by decide +kernel) rfl rfl dX4_changedBy_26 ?_
      refine j_getN S (C := RX0) (T := TX0) (N := 2) (by decide +kernel) (rd_cloth (by omega)) rfl (v := .ref (Z.ad (ro 2))) 0 (by decide) 0 rfl rfl rfl dX4_changedBy_29 ?_
      refine j_getN S (C := RX3) (T := TX3) (N := 2) (by decide +kernel) (rd_row (by omega)) rfl (v := .int (nI (σ1.row 2).length)) 1 (by decide) 3 rfl rfl rfl dX4_changedBy_32 ?_
      rw [e2]
      refine j_icmp_ge S 75 dX4_changedBy_35 (by decide) (fun _ => ?_) (fun h9 => absurd (by rw [nI_leI (by omega) (by omega)]; omega) h9)
      refine j_iload_n S dX4_changedBy_75 rfl ?_
      obtain rfl : i = (EE tok ties).length := by omega
      exact j_ireturn S hRT hXA hQ hXk hXn dX4_changedBy_76 rfl rfl (fun H h9 => ⟨σ1, hC1, h9⟩)
    | succ f ih =>
      intro i hi
      refine j_iload S dX4_changedBy_23 rfl ?_
      refine j_aload_n S dX4_changedBy_25 rfl ?_
      refine j_get S (C := RX4) (T := TX4) (N := 7) (by decide +kernel) rd_loom rfl (v := .ref (Z.ad (co 0))) 3 (by decide) (by decide +kernel) rfl rfl dX4_changedBy_26 ?_
      refine j_getN S (C := RX0) (T := TX0) (N := 2) (by decide +kernel) (rd_cloth (by omega)) rfl (v := .ref (Z.ad (ro 2))) 0 (by decide) 0 rfl rfl rfl dX4_changedBy_29 ?_
      refine j_getN S (C := RX3) (T := TX3) (N := 2) (by decide +kernel) (rd_row (by omega)) rfl (v := .int (nI (σ1.row 2).length)) 1 (by decide) 3 rfl rfl rfl dX4_changedBy_32 ?_
      rw [e2]
      refine j_icmp_ge S 75 dX4_changedBy_35 (by decide) (fun h9 => absurd h9 (by rw [nI_leI (by omega) (by omega)]; omega)) (fun _ => ?_)
      refine j_iload_n S dX4_changedBy_38 rfl ?_
      refine j_aload_n S dX4_changedBy_39 rfl ?_
      refine j_get S (C := RX4) (T := TX4) (N := 7) (by decide +kernel) rd_loom rfl (v := .ref (Z.ad (co 0))) 3 (by decide) (by decide +kernel) rfl rfl dX4_changedBy_40 ?_
      refine j_getN S (C := RX0) (T := TX0) (N := 2) (by decide +kernel) (rd_cloth (by omega)) rfl (v := .ref (Z.ad (ro 2))) 0 (by decide) 0 rfl rfl rfl dX4_changedBy_43 ?_
      refine j_iload S dX4_changedBy_46 rfl ?_
      refine j_cVi S (n := 1) (rest := [.int (foldN (fun z i => z + bitC ((EE tok ties).getD i 0 ^^^ (EE tok (swT ties (nI a) (nI b) 8)).getD i 0)) i)]) (k_X3_at X.l Z X.A hAX σ1 2 (by omega) (nI i)) ⟨_, _, _, _, rfl, gX4_changedBy_X3_at, rfl, rfl, by decide +kernel, ⟨Nat.le_of_ble_eq_true rfl, Nat.le_of_ble_eq_true rfl⟩⟩ (rd_row (by omega)) rfl rfl (Nat.le_of_ble_eq_true rfl) rfl dX4_changedBy_48 (fun v9 hv9 => ?_)
      subst hv9
      refine j_aload_n S dX4_changedBy_51 rfl ?_
      refine j_get S (C := RX4) (T := TX4) (N := 7) (by decide +kernel) rd_loom rfl (v := .ref (Z.ad (co 1))) 6 (by decide) (by decide +kernel) rfl rfl dX4_changedBy_52 ?_
      refine j_getN S (C := RX0) (T := TX0) (N := 2) (by decide +kernel) (rd_cloth (by omega)) rfl (v := .ref (Z.ad (ro 4))) 0 (by decide) 0 rfl rfl rfl dX4_changedBy_55 ?_
      refine j_iload S dX4_changedBy_58 rfl ?_
      refine j_cVi S (n := 1) (rest := [.int (atI (σ1.row 2) (nI i)), .int (foldN (fun z i => z + bitC ((EE tok ties).getD i 0 ^^^ (EE tok (swT ties (nI a) (nI b) 8)).getD i 0)) i)]) (k_X3_at X.l Z X.A hAX σ1 4 (by omega) (nI i)) ⟨_, _, _, _, rfl, gX4_changedBy_X3_at, rfl, rfl, by decide +kernel, ⟨Nat.le_of_ble_eq_true rfl, Nat.le_of_ble_eq_true rfl⟩⟩ (rd_row (by omega)) rfl rfl (Nat.le_of_ble_eq_true rfl) rfl dX4_changedBy_60 (fun v9 hv9 => ?_)
      subst hv9
      rw [e2, e4, atI_nI _ (by omega), atI_nI _ (by omega)]
      refine j_ixor S (((EE tok ties).getD i 0) ^^^ ((EE tok (swT ties (nI a) (nI b) 8)).getD i 0)) dX4_changedBy_63 rfl ?_
      refine j_cSi S (n := 1) (rest := [.int (foldN (fun z i => z + bitC ((EE tok ties).getD i 0 ^^^ (EE tok (swT ties (nI a) (nI b) 8)).getD i 0)) i)]) (k_J6_bitCount_0f7a4 X.l Z X.A hAX σ1 (((EE tok ties).getD i 0) ^^^ ((EE tok (swT ties (nI a) (nI b) 8)).getD i 0))) ⟨_, _, _, _, rfl, gX4_changedBy_J6_bitCount_0f7a4, rfl, rfl, by decide +kernel, ⟨Nat.le_of_ble_eq_true rfl, Nat.le_of_ble_eq_true rfl⟩⟩ rfl (Nat.le_of_ble_eq_true rfl) rfl dX4_changedBy_64 (fun v9 hv9 => ?_)
      subst hv9
      refine j_iadd S (foldN (fun z i => z + bitC ((EE tok ties).getD i 0 ^^^ (EE tok (swT ties (nI a) (nI b) 8)).getD i 0)) (i + 1)) dX4_changedBy_67 rfl ?_
      refine j_istore_n S [some (.ref (Z.ad 0)), some (.int (nI a)), some (.int (nI b)), some (.int (foldN (fun z i => z + bitC ((EE tok ties).getD i 0 ^^^ (EE tok (swT ties (nI a) (nI b) 8)).getD i 0)) (i + 1))), some (.int (nI i))] dX4_changedBy_68 (by decide) rfl rfl ?_
      refine j_iinc S (nI (i + 1)) [some (.ref (Z.ad 0)), some (.int (nI a)), some (.int (nI b)), some (.int (foldN (fun z i => z + bitC ((EE tok ties).getD i 0 ^^^ (EE tok (swT ties (nI a) (nI b) 8)).getD i 0)) (i + 1))), some (.int (nI (i + 1)))] dX4_changedBy_69 rfl (nI_1 i) (by decide) rfl rfl ?_
      refine j_goto S 23 dX4_changedBy_72 (by decide) ?_
      exact ih (i + 1) (by omega)
  refine j_iconst S 0 dX4_changedBy_18 (by decide) ?_
  refine j_istore_n S [some (.ref (Z.ad 0)), some (.int (nI a)), some (.int (nI b)), some (.int 0), none] dX4_changedBy_19 (by decide) rfl rfl ?_
  refine j_iconst S 0 dX4_changedBy_20 (by decide) ?_
  refine j_istore S [some (.ref (Z.ad 0)), some (.int (nI a)), some (.int (nI b)), some (.int 0), some (.int 0)] dX4_changedBy_21 (by decide) rfl rfl ?_
  exact loop (EE tok ties).length 0 (by omega)

theorem res_with {σ : St} {tok : Nat → List Int32} {k : Nat} {l : List Int32} (hk : k < 10) (hB : ∀ b, b < 10 → blkOf σ b = ((res tok b).1, (res tok b).2.1)) (hl : ∀ x ∈ l, tokOk x) : runC (blkOf σ) k l = res (up tok k l) k := by
  have e : ∀ b, b ≠ k → (k < 4 ∨ b < k) → 4 ≤ b → res (up tok k l) b = res tok b := fun b h1 h2 h3 => res_cong (up_ne h1) (fun c h4 h5 h6 => up_ne (by omega))
  rw [← up_self tok k l] at hl
  rcases Nat.lt_or_ge k 4 with h | h
  · have := res_prog (tok := up tok k l) (i := k) h (B := blkOf σ) (fun b h1 h2 => by rw [hB b h2, e b (by omega) (Or.inl h) h1]) hl
    rw [up_self] at this
    exact this
  · have := res_block (tok := up tok k l) (i := k) h hk (B := blkOf σ) (fun b h1 h2 => by rw [hB b (by omega), e b (by omega) (Or.inr h2) h1]) hl
    rw [up_self] at this
    exact this
def lengthI (tok : Nat → List Int32) (k : Nat) : Int32 := if (res tok k).2.1 = 0 then nI (num tok k).length else -1

set_option maxRecDepth 100000 in
set_option maxHeartbeats 4000000 in
theorem k_X4_lengthWith (l : Launch) (Z : Zx) (A : Nat → Prop) (hA : AdOk Z A) (tok : Nat → List Int32) (ties : List Int32) (k j : Nat) (hk : k < 10) (hj : tokN j) (hl : (tok k).length < 40) : Km l Z A yX4_lengthWith wsX4_lengthWith { frames := 5, cells := 0, slots := 0, locals := 116 } (WL Z tok ties) [.ref (Z.ad 0), .int (nI k), .int (nI j)] (Qi (WL Z tok ties) A (fun v => v = lengthI (up tok k (tok k ++ [nI j])) k)) := by
  refine Km.of (cc := cX4_lengthWith) (maxL := 4) (ret := (some .int)) (by decide) rfl (Nat.le_of_ble_eq_true rfl) hA ?_
  intro X hXl S hAX hRT hXA hQ hXk hXn
  show J X 4 (WL Z tok ties) 0 [some (.ref (Z.ad 0)), some (.int (nI k)), some (.int (nI j)), none] []
  refine J.WL (fun σ hC => ?_)
  obtain ⟨hH, hG, hEE, hPP⟩ := id hC
  refine J.caps (fun hcap => ?_)
  refine j_aload_n S dX4_lengthWith_0 rfl ?_
  refine j_iload_n S dX4_lengthWith_1 rfl ?_
  refine j_iload_n S dX4_lengthWith_2 rfl ?_
  refine j_cVr S (n := 2) (rest := []) (k_X4_programForToken X.l Z X.A hAX σ k j hk hj (by rw [hH.1 k hk]; exact hl)) ⟨_, _, _, _, rfl, gX4_lengthWith_X4_programForToken, rfl, rfl, by decide +kernel, ⟨Nat.le_of_ble_eq_true rfl, Nat.le_of_ble_eq_true rfl⟩⟩ rd_loom rfl rfl (Nat.le_of_ble_eq_true rfl) rfl dX4_lengthWith_3 ?_
  show J X 4 (Wd Z σ) 6 [some (.ref (Z.ad 0)), some (.int (nI k)), some (.int (nI j)), none] [.ref (Z.ad (po k))]
  refine j_astore_n S [some (.ref (Z.ad 0)), some (.int (nI k)), some (.int (nI j)), some (.ref (Z.ad (po k)))] dX4_lengthWith_6 (by decide) rfl rfl ?_
  refine j_aload_n S dX4_lengthWith_7 rfl ?_
  refine j_get S (C := RX4) (T := TX4) (N := 7) (by decide +kernel) rd_loom rfl (v := .ref (Z.ad (po 10))) 4 (by decide) (by decide +kernel) rfl rfl dX4_lengthWith_8 ?_
  refine j_getN S (C := RX2) (T := TX2) (N := 4) (by decide +kernel) (rd_prog (by omega)) rfl (v := .ref (Z.ad (ro 28))) 0 (by decide) 2 rfl rfl rfl dX4_lengthWith_11 ?_
  refine j_aload_n S dX4_lengthWith_14 rfl ?_
  refine j_getN S (C := RX2) (T := TX2) (N := 4) (by decide +kernel) (rd_prog (by omega)) rfl (v := .ref (Z.ad (ro (8 + 2 * k)))) 0 (by decide) 2 rfl rfl rfl dX4_lengthWith_15 ?_
  refine j_cVv S (n := 1) (rest := []) (k_X3_copyFrom X.l Z X.A hAX σ 28 (8 + 2 * k) (by omega) (by omega) (by omega)) ⟨_, _, _, _, rfl, gX4_lengthWith_X3_copyFrom, rfl, rfl, by decide +kernel, ⟨Nat.le_of_ble_eq_true rfl, Nat.le_of_ble_eq_true rfl⟩⟩ (rd_row (by omega)) rfl rfl (Nat.le_of_ble_eq_true rfl) rfl dX4_lengthWith_18 ?_
  show J X 4 (Wd Z (σ.setRow 28 (addAllI (cap 28) [] (σ.row (8 + 2 * k))))) 21 [some (.ref (Z.ad 0)), some (.int (nI k)), some (.int (nI j)), some (.ref (Z.ad (po k)))] []
  rw [hH.1 k hk, show addAllI (cap 28) [] (tok k) = tok k from by unfold addAllI; rw [List.nil_append]; exact List.take_of_length_le (by show (tok k).length ≤ 40; omega)]
  refine j_aload_n S dX4_lengthWith_21 rfl ?_
  refine j_get S (C := RX4) (T := TX4) (N := 7) (by decide +kernel) rd_loom rfl (v := .ref (Z.ad (po 10))) 4 (by decide) (by decide +kernel) rfl rfl dX4_lengthWith_22 ?_
  refine j_getN S (C := RX2) (T := TX2) (N := 4) (by decide +kernel) (rd_prog (by omega)) rfl (v := .ref (Z.ad (ro 28))) 0 (by decide) 2 rfl rfl rfl dX4_lengthWith_25 ?_
  refine j_iload_n S dX4_lengthWith_28 rfl ?_
  refine j_cVv S (n := 1) (rest := []) (k_X3_add X.l Z X.A hAX (σ.setRow 28 (tok k)) 28 (by omega) (nI j)) ⟨_, _, _, _, rfl, gX4_lengthWith_X3_add, rfl, rfl, by decide +kernel, ⟨Nat.le_of_ble_eq_true rfl, Nat.le_of_ble_eq_true rfl⟩⟩ (rd_row (by omega)) rfl rfl (Nat.le_of_ble_eq_true rfl) rfl dX4_lengthWith_29 ?_
  show J X 4 (Wd Z ((σ.setRow 28 (tok k)).setRow 28 (addI (cap 28) ((σ.setRow 28 (tok k)).row 28) (nI j)))) 32 [some (.ref (Z.ad 0)), some (.int (nI k)), some (.int (nI j)), some (.ref (Z.ad (po k)))] []
  rw [St.row_self, St.setRow_twice, show cap 28 = 40 from rfl, addI_lt hl]
  show J X 4 (Wd Z (σ.setRow 28 (tok k ++ [nI j]))) 32 [some (.ref (Z.ad 0)), some (.int (nI k)), some (.int (nI j)), some (.ref (Z.ad (po k)))] []
  refine j_aload_n S dX4_lengthWith_32 rfl ?_
  refine j_get S (C := RX4) (T := TX4) (N := 7) (by decide +kernel) rd_loom rfl (v := .ref (Z.ad 2)) 1 (by decide) (by decide +kernel) rfl rfl dX4_lengthWith_33 ?_
  refine j_aload_n S dX4_lengthWith_36 rfl ?_
  refine j_get S (C := RX4) (T := TX4) (N := 7) (by decide +kernel) rd_loom rfl (v := .ref (Z.ad 1)) 0 (by decide) (by decide +kernel) rfl rfl dX4_lengthWith_37 ?_
  refine j_iload_n S dX4_lengthWith_40 rfl ?_
  refine j_aload_n S dX4_lengthWith_41 rfl ?_
  refine j_get S (C := RX4) (T := TX4) (N := 7) (by decide +kernel) rd_loom rfl (v := .ref (Z.ad (po 10))) 4 (by decide) (by decide +kernel) rfl rfl dX4_lengthWith_42 ?_
  obtain ⟨σ1, hσ1⟩ : ∃ z : St, z = σ.setRow 28 (tok k ++ [nI j]) := ⟨_, rfl⟩
  rw [← hσ1]
  have hC1 : Cons σ1 tok ties := by rw [hσ1]; exact hC.row28 _
  have e28 : σ1.row (8 + 2 * 10) = tok k ++ [nI j] := by rw [hσ1]; exact St.row_self _ _ _
  have ht := tok_app (j := j) (hH.2.1 k hk) hj
  have er : runC (blkOf σ1) k (tok k ++ [nI j]) = res (up tok k (tok k ++ [nI j])) k := res_with hk (fun b hb => (hC1.2.1 b hb).blk) ht
  refine j_cVv S (n := 3) (rest := []) (k_X1_compile X.l Z X.A hAX σ1 k 10 hk (by omega) (by rw [e28]; exact ht)) ⟨_, _, _, _, rfl, gX4_lengthWith_X1_compile, rfl, rfl, by decide +kernel, ⟨Nat.le_of_ble_eq_true rfl, Nat.le_of_ble_eq_true rfl⟩⟩ rd_comp rfl rfl (Nat.le_of_ble_eq_true rfl) rfl dX4_lengthWith_45 ?_
  refine J.ex (fun c => ?_)
  rw [e28, er]
  refine j_aload_n S dX4_lengthWith_48 rfl ?_
  refine j_get S (C := RX4) (T := TX4) (N := 7) (by decide +kernel) rd_loom rfl (v := .ref (Z.ad (po 10))) 4 (by decide) (by decide +kernel) rfl rfl dX4_lengthWith_49 ?_
  refine j_getN S (C := RX2) (T := TX2) (N := 4) (by decide +kernel) (rd_prog (by omega)) rfl (v := .int (((σ1.setC c).setProg 10 (res (up tok k (tok k ++ [nI j])) k).1 (res (up tok k (tok k ++ [nI j])) k).2.1 (res (up tok k (tok k ++ [nI j])) k).2.2).fa 10)) 2 (by decide) 5 rfl rfl rfl dX4_lengthWith_52 ?_
  rw [setCP_fa]
  refine j_if_ne S 71 dX4_lengthWith_55 (by decide) (fun h => ?_) (fun h => ?_)
  · skip
    refine j_iconst S (-1) dX4_lengthWith_71 (by decide) ?_
    exact j_ireturn S hRT hXA hQ hXk hXn dX4_lengthWith_72 rfl (by unfold lengthI; rw [if_neg h]) (fun H h9 => ⟨_, hC1.draft c _ _ _, h9⟩)
  · skip
    refine j_aload_n S dX4_lengthWith_58 rfl ?_
    refine j_get S (C := RX4) (T := TX4) (N := 7) (by decide +kernel) rd_loom rfl (v := .ref (Z.ad (po 10))) 4 (by decide) (by decide +kernel) rfl rfl dX4_lengthWith_59 ?_
    refine j_getN S (C := RX2) (T := TX2) (N := 4) (by decide +kernel) (rd_prog (by omega)) rfl (v := .ref (Z.ad (ro 29))) 1 (by decide) 4 rfl rfl rfl dX4_lengthWith_62 ?_
    refine j_getN S (C := RX3) (T := TX3) (N := 2) (by decide +kernel) (rd_row (by omega)) rfl (v := .int (nI (((σ1.setC c).setProg 10 (res (up tok k (tok k ++ [nI j])) k).1 (res (up tok k (tok k ++ [nI j])) k).2.1 (res (up tok k (tok k ++ [nI j])) k).2.2).row 29).length)) 1 (by decide) 3 rfl rfl rfl dX4_lengthWith_65 ?_
    refine j_goto S 72 dX4_lengthWith_68 (by decide) ?_
    exact j_ireturn S hRT hXA hQ hXk hXn dX4_lengthWith_72 rfl (by unfold lengthI; rw [if_pos h, show (29 : Nat) = 9 + 2 * 10 from rfl, setCP_num]; rfl) (fun H h9 => ⟨_, hC1.draft c _ _ _, h9⟩)
