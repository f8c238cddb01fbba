set_option maxRecDepth 100000 in
set_option maxHeartbeats 4000000 in
theorem k_X4_checkTreadle (l : Launch) (Z : Zx) (A : Nat → Prop) (hA : AdOk Z A) (σ : St) (k : Nat) (hk : k < 8) : Km l Z A yX4_checkTreadle wsX4_checkTreadle { frames := 0, cells := 0, slots := 0, locals := 0 } (Wd Z σ) [.int (nI k)] (Qv (Wd Z σ) A) := by
  refine Km.of (cc := cX4_checkTreadle) (maxL := 1) (ret := none) (by decide) rfl (Nat.le_of_ble_eq_true rfl) hA ?_
  intro X hXl S hAX hRT hXA hQ hXk hXn
  show J X 1 (Wd Z σ) 0 [some (.int (nI k))] []
  refine j_iload_n S dX4_checkTreadle_0 rfl ?_
  refine j_if_lt S 10 dX4_checkTreadle_1 (by decide) (fun h9 => absurd h9 (nI_pos (by omega))) (fun _ => ?_)
  refine j_iload_n S dX4_checkTreadle_4 rfl ?_
  refine j_bipush S 8 dX4_checkTreadle_5 (by decide) ?_
  refine j_icmp_lt S 20 dX4_checkTreadle_7 (by decide) (fun _ => ?_) (fun h9 => absurd (by rw [show (8 : Int32) = nI 8 from rfl, nI_ltI (by omega) (by omega)]; exact hk) h9)
  exact j_return S hRT hXA hQ hXk hXn dX4_checkTreadle_20 (fun H h => h)

set_option maxRecDepth 100000 in
set_option maxHeartbeats 4000000 in
theorem k_X4_checkShaft (l : Launch) (Z : Zx) (A : Nat → Prop) (hA : AdOk Z A) (σ : St) (k : Nat) (hk : k < 8) : Km l Z A yX4_checkShaft wsX4_checkShaft { frames := 0, cells := 0, slots := 0, locals := 0 } (Wd Z σ) [.int (nI k)] (Qv (Wd Z σ) A) := by
  refine Km.of (cc := cX4_checkShaft) (maxL := 1) (ret := none) (by decide) rfl (Nat.le_of_ble_eq_true rfl) hA ?_
  intro X hXl S hAX hRT hXA hQ hXk hXn
  show J X 1 (Wd Z σ) 0 [some (.int (nI k))] []
  refine j_iload_n S dX4_checkShaft_0 rfl ?_
  refine j_if_lt S 10 dX4_checkShaft_1 (by decide) (fun h9 => absurd h9 (nI_pos (by omega))) (fun _ => ?_)
  refine j_iload_n S dX4_checkShaft_4 rfl ?_
  refine j_bipush S 8 dX4_checkShaft_5 (by decide) ?_
  refine j_icmp_lt S 20 dX4_checkShaft_7 (by decide) (fun _ => ?_) (fun h9 => absurd (by rw [show (8 : Int32) = nI 8 from rfl, nI_ltI (by omega) (by omega)]; exact hk) h9)
  exact j_return S hRT hXA hQ hXk hXn dX4_checkShaft_20 (fun H h => h)

set_option maxRecDepth 100000 in
set_option maxHeartbeats 4000000 in
theorem k_X4_checkLength (l : Launch) (Z : Zx) (A : Nat → Prop) (hA : AdOk Z A) (σ : St) (k : Nat) (hk0 : 1 ≤ k) (hk : k ≤ 32) : Km l Z A yX4_checkLength wsX4_checkLength { frames := 0, cells := 0, slots := 0, locals := 0 } (Wd Z σ) [.int (nI k)] (Qv (Wd Z σ) A) := by
  refine Km.of (cc := cX4_checkLength) (maxL := 1) (ret := none) (by decide) rfl (Nat.le_of_ble_eq_true rfl) hA ?_
  intro X hXl S hAX hRT hXA hQ hXk hXn
  show J X 1 (Wd Z σ) 0 [some (.int (nI k))] []
  refine j_iload_n S dX4_checkLength_0 rfl ?_
  refine j_iconst S 1 dX4_checkLength_1 (by decide) ?_
  refine j_icmp_lt S 11 dX4_checkLength_2 (by decide) (fun h9 => absurd h9 (by rw [show (1 : Int32) = nI 1 from rfl, nI_ltI (by omega) (by omega)]; omega)) (fun _ => ?_)
  refine j_iload_n S dX4_checkLength_5 rfl ?_
  refine j_bipush S 32 dX4_checkLength_6 (by decide) ?_
  refine j_icmp_le S 21 dX4_checkLength_8 (by decide) (fun _ => ?_) (fun h9 => absurd (by rw [show (32 : Int32) = nI 32 from rfl, nI_leI (by omega) (by omega)]; omega) h9)
  exact j_return S hRT hXA hQ hXk hXn dX4_checkLength_21 (fun H h => h)

set_option maxRecDepth 100000 in
set_option maxHeartbeats 4000000 in
theorem k_X4_programAt (l : Launch) (Z : Zx) (A : Nat → Prop) (hA : AdOk Z A) (σ : St) (k : Nat) (hk : k < 10) : Km l Z A yX4_programAt wsX4_programAt { frames := 0, cells := 0, slots := 0, locals := 0 } (Wd Z σ) [.ref (Z.ad 0), .int (nI k)] (Qr (Wd Z σ) A (Z.ad (po k))) := by
  refine Km.of (cc := cX4_programAt) (maxL := 2) (ret := (some (.object "TreadleLoom$Program"))) (by decide) rfl (Nat.le_of_ble_eq_true rfl) hA ?_
  intro X hXl S hAX hRT hXA hQ hXk hXn
  show J X 2 (Wd Z σ) 0 [some (.ref (Z.ad 0)), some (.int (nI k))] []
  refine j_iload_n S dX4_programAt_0 rfl ?_
  refine j_if_lt S 13 dX4_programAt_1 (by decide) (fun h9 => absurd h9 (nI_pos (by omega))) (fun _ => ?_)
  refine j_iload_n S dX4_programAt_4 rfl ?_
  refine j_aload_n S dX4_programAt_5 rfl ?_
  refine j_get S (C := RX4) (T := TX4) (N := 7) (by decide +kernel) rd_loom rfl (v := .ref (Z.ad 1)) 0 (by decide) (by decide +kernel) rfl rfl dX4_programAt_6 ?_
  refine j_alen S (v := 10) (t0 := 1) rd_progs rfl rfl dX4_programAt_9 ?_
  refine j_icmp_lt S 23 dX4_programAt_10 (by decide) (fun _ => ?_) (fun h9 => absurd (by rw [show (10 : Int32) = nI 10 from rfl, nI_ltI (by omega) (by omega)]; exact hk) h9)
  refine j_aload_n S dX4_programAt_23 rfl ?_
  refine j_get S (C := RX4) (T := TX4) (N := 7) (by decide +kernel) rd_loom rfl (v := .ref (Z.ad 1)) 0 (by decide) (by decide +kernel) rfl rfl dX4_programAt_24 ?_
  refine j_iload_n S dX4_programAt_27 rfl ?_
  refine j_aaload S (v := Z.ad (po k)) rd_progs (vp_in_nI hk (by omega)) (by show some (Z.ad (po (nI k).toNatClampNeg)) = _; rw [nI_clamp (by omega)]) dX4_programAt_28 ?_
  exact j_areturn S hRT hXA hQ hXk hXn dX4_programAt_29 (fun H h => h)

theorem isTok_le {j n : Nat} (hj : j < 50) (hn : n < 50) : nI j ≤ nI n ↔ j ≤ n := nI_leI (by omega) (by omega)
theorem isTok_lt {j n : Nat} (hj : j < 50) (hn : n < 50) : nI j < nI n ↔ j < n := nI_ltI (by omega) (by omega)
theorem isTok_eq {j n : Nat} (hj : j < 50) (hn : n < 50) : nI j = nI n ↔ j = n := nI_eq (by omega) (by omega)

set_option maxRecDepth 100000 in
set_option maxHeartbeats 4000000 in
theorem k_X4_isToken (l : Launch) (Z : Zx) (A : Nat → Prop) (hA : AdOk Z A) (σ : St) (j : Nat) (hj : tokN j) : Km l Z A yX4_isToken wsX4_isToken { frames := 0, cells := 0, slots := 0, locals := 0 } (Wd Z σ) [.int (nI j)] (Qi (Wd Z σ) A (fun v => v = b2i true)) := by
  refine Km.of (cc := cX4_isToken) (maxL := 1) (ret := (some .boolean)) (by decide) rfl (Nat.le_of_ble_eq_true rfl) hA ?_
  intro X hXl S hAX hRT hXA hQ hXk hXn
  show J X 1 (Wd Z σ) 0 [some (.int (nI j))] []
  have h50 := hj.lt
  unfold tokN at hj
  refine j_iload_n S dX4_isToken_0 rfl ?_
  refine j_if_lt S 10 dX4_isToken_1 (by decide) (fun h9 => absurd h9 (nI_pos (by omega))) (fun _ => ?_)
  refine j_iload_n S dX4_isToken_4 rfl ?_
  refine j_bipush S 7 dX4_isToken_5 (by decide) ?_
  refine j_icmp_le S 46 dX4_isToken_7 (by decide) (fun h => ?_) (fun h => ?_)
  · skip
    refine j_iconst S 1 dX4_isToken_46 (by decide) ?_
    refine j_goto S 51 dX4_isToken_47 (by decide) ?_
    exact j_ireturn S hRT hXA hQ hXk hXn dX4_isToken_51 rfl rfl (fun H h => h)
  · skip
    rw [show (7 : Int32) = nI 7 from rfl, isTok_le h50 (by omega)] at h
    refine j_iload_n S dX4_isToken_10 rfl ?_
    refine j_bipush S 10 dX4_isToken_11 (by decide) ?_
    refine j_icmp_eq S 46 dX4_isToken_13 (by decide) (fun h2 => ?_) (fun h2 => ?_)
    · skip
      refine j_iconst S 1 dX4_isToken_46 (by decide) ?_
      refine j_goto S 51 dX4_isToken_47 (by decide) ?_
      exact j_ireturn S hRT hXA hQ hXk hXn dX4_isToken_51 rfl rfl (fun H h => h)
    · skip
      rw [show (10 : Int32) = nI 10 from rfl, isTok_eq h50 (by omega)] at h2
      refine j_iload_n S dX4_isToken_16 rfl ?_
      refine j_bipush S 11 dX4_isToken_17 (by decide) ?_
      refine j_icmp_eq S 46 dX4_isToken_19 (by decide) (fun h3 => ?_) (fun h3 => ?_)
      · skip
        refine j_iconst S 1 dX4_isToken_46 (by decide) ?_
        refine j_goto S 51 dX4_isToken_47 (by decide) ?_
        exact j_ireturn S hRT hXA hQ hXk hXn dX4_isToken_51 rfl rfl (fun H h => h)
      · skip
        rw [show (11 : Int32) = nI 11 from rfl, isTok_eq h50 (by omega)] at h3
        refine j_iload_n S dX4_isToken_22 rfl ?_
        refine j_bipush S 22 dX4_isToken_23 (by decide) ?_
        refine j_icmp_lt S 34 dX4_isToken_25 (by decide) (fun h9 => absurd h9 (by rw [show (22 : Int32) = nI 22 from rfl, isTok_lt h50 (by omega)]; omega)) (fun _ => ?_)
        refine j_iload_n S dX4_isToken_28 rfl ?_
        refine j_bipush S 33 dX4_isToken_29 (by decide) ?_
        refine j_icmp_le S 46 dX4_isToken_31 (by decide) (fun h4 => ?_) (fun h4 => ?_)
        · skip
          refine j_iconst S 1 dX4_isToken_46 (by decide) ?_
          refine j_goto S 51 dX4_isToken_47 (by decide) ?_
          exact j_ireturn S hRT hXA hQ hXk hXn dX4_isToken_51 rfl rfl (fun H h => h)
        · skip
          rw [show (33 : Int32) = nI 33 from rfl, isTok_le h50 (by omega)] at h4
          refine j_iload_n S dX4_isToken_34 rfl ?_
          refine j_bipush S 44 dX4_isToken_35 (by decide) ?_
          refine j_icmp_lt S 50 dX4_isToken_37 (by decide) (fun h9 => absurd h9 (by rw [show (44 : Int32) = nI 44 from rfl, isTok_lt h50 (by omega)]; omega)) (fun _ => ?_)
          refine j_iload_n S dX4_isToken_40 rfl ?_
          refine j_bipush S 49 dX4_isToken_41 (by decide) ?_
          refine j_icmp_gt S 50 dX4_isToken_43 (by decide) (fun h9 => absurd h9 (by rw [show (49 : Int32) = nI 49 from rfl, isTok_lt (by omega) h50]; omega)) (fun _ => ?_)
          refine j_iconst S 1 dX4_isToken_46 (by decide) ?_
          refine j_goto S 51 dX4_isToken_47 (by decide) ?_
          exact j_ireturn S hRT hXA hQ hXk hXn dX4_isToken_51 rfl rfl (fun H h => h)

set_option maxRecDepth 100000 in
set_option maxHeartbeats 4000000 in
theorem k_X4_programForToken (l : Launch) (Z : Zx) (A : Nat → Prop) (hA : AdOk Z A) (σ : St) (k j : Nat) (hk : k < 10) (hj : tokN j) (hl : (σ.row (8 + 2 * k)).length < 40) : Km l Z A yX4_programForToken wsX4_programForToken { frames := 1, cells := 0, slots := 0, locals := 21 } (Wd Z σ) [.ref (Z.ad 0), .int (nI k), .int (nI j)] (Qr (Wd Z σ) A (Z.ad (po k))) := by
  refine Km.of (cc := cX4_programForToken) (maxL := 4) (ret := (some (.object "TreadleLoom$Program"))) (by decide) rfl (Nat.le_of_ble_eq_true rfl) hA ?_
  intro X hXl S hAX hRT hXA hQ hXk hXn
  show J X 4 (Wd Z σ) 0 [some (.ref (Z.ad 0)), some (.int (nI k)), some (.int (nI j)), none] []
  refine j_aload_n S dX4_programForToken_0 rfl ?_
  refine j_iload_n S dX4_programForToken_1 rfl ?_
  refine j_cVr S (n := 1) (rest := []) (k_X4_programAt X.l Z X.A hAX σ k hk) ⟨_, _, _, _, rfl, gX4_programForToken_X4_programAt, rfl, rfl, by decide +kernel, ⟨Nat.le_of_ble_eq_true rfl, Nat.le_of_ble_eq_true rfl⟩⟩ rd_loom rfl rfl (Nat.le_of_ble_eq_true rfl) rfl dX4_programForToken_2 ?_
  refine j_astore_n S [some (.ref (Z.ad 0)), some (.int (nI k)), some (.int (nI j)), some (.ref (Z.ad (po k)))] dX4_programForToken_5 (by decide) rfl rfl ?_
  refine j_iload_n S dX4_programForToken_6 rfl ?_
  refine j_cSi S (n := 1) (rest := []) (k_X4_isToken X.l Z X.A hAX σ j hj) ⟨_, _, _, _, rfl, gX4_programForToken_X4_isToken, rfl, rfl, by decide +kernel, ⟨Nat.le_of_ble_eq_true rfl, Nat.le_of_ble_eq_true rfl⟩⟩ rfl (Nat.le_of_ble_eq_true rfl) rfl dX4_programForToken_7 (fun v9 hv9 => ?_)
  subst hv9
  refine j_if_ne S 23 dX4_programForToken_10 (by decide) (fun _ => ?_) (fun h9 => absurd h9 (by decide))
  refine j_aload_n S dX4_programForToken_23 rfl ?_
  refine j_getN S (C := RX2) (T := TX2) (N := 4) (by decide +kernel) (rd_prog (by omega)) rfl (v := .ref (Z.ad (ro (8 + 2 * k)))) 0 (by decide) 2 rfl rfl rfl dX4_programForToken_24 ?_
  refine j_getN S (C := RX3) (T := TX3) (N := 2) (by decide +kernel) (rd_row (by omega)) rfl (v := .int (nI (σ.row (8 + 2 * k)).length)) 1 (by decide) 3 rfl rfl rfl dX4_programForToken_27 ?_
  refine j_bipush S 40 dX4_programForToken_30 (by decide) ?_
  refine j_icmp_lt S 45 dX4_programForToken_32 (by decide) (fun _ => ?_) (fun h9 => absurd (by rw [show (40 : Int32) = nI 40 from rfl, nI_ltI (by omega) (by omega)]; exact hl) h9)
  refine j_aload_n S dX4_programForToken_45 rfl ?_
  exact j_areturn S hRT hXA hQ hXk hXn dX4_programForToken_46 (fun H h => h)

set_option maxRecDepth 100000 in
set_option maxHeartbeats 4000000 in
theorem k_X4_weave (l : Launch) (Z : Zx) (A : Nat → Prop) (hA : AdOk Z A) (σ : St) : Km l Z A yX4_weave wsX4_weave { frames := 2, cells := 0, slots := 0, locals := 49 } (Wd Z σ) [.ref (Z.ad 0)] (Qv (Wd Z (σ.setCl 0 (wE (σ.row 0) (σ.row 9) (σ.row 11) (σ.row 11).length) (wP (σ.row 0) (σ.row 9) (σ.row 11) (σ.row 11).length))) A) := by
  refine Km.of (cc := cX4_weave) (maxL := 1) (ret := none) (by decide) rfl (Nat.le_of_ble_eq_true rfl) hA ?_
  intro X hXl S hAX hRT hXA hQ hXk hXn
  show J X 1 (Wd Z σ) 0 [some (.ref (Z.ad 0))] []
  refine j_aload_n S dX4_weave_0 rfl ?_
  refine j_get S (C := RX4) (T := TX4) (N := 7) (by decide +kernel) rd_loom rfl (v := .ref (Z.ad (co 0))) 3 (by decide) (by decide +kernel) rfl rfl dX4_weave_1 ?_
  refine j_aload_n S dX4_weave_4 rfl ?_
  refine j_get S (C := RX4) (T := TX4) (N := 7) (by decide +kernel) rd_loom rfl (v := .ref (Z.ad 1)) 0 (by decide) (by decide +kernel) rfl rfl dX4_weave_5 ?_
  refine j_iconst S 0 dX4_weave_8 (by decide) ?_
  refine j_aaload S (v := Z.ad (po 0)) rd_progs (show vp_in (nI 0) 10 from vp_in_nI (by decide) (by decide)) rfl dX4_weave_9 ?_
  refine j_getN S (C := RX2) (T := TX2) (N := 4) (by decide +kernel) (rd_prog (by omega)) rfl (v := .ref (Z.ad (ro 9))) 1 (by decide) 4 rfl rfl rfl dX4_weave_10 ?_
  refine j_aload_n S dX4_weave_13 rfl ?_
  refine j_get S (C := RX4) (T := TX4) (N := 7) (by decide +kernel) rd_loom rfl (v := .ref (Z.ad 1)) 0 (by decide) (by decide +kernel) rfl rfl dX4_weave_14 ?_
  refine j_iconst S 1 dX4_weave_17 (by decide) ?_
  refine j_aaload S (v := Z.ad (po 1)) rd_progs (show vp_in (nI 1) 10 from vp_in_nI (by decide) (by decide)) rfl dX4_weave_18 ?_
  refine j_getN S (C := RX2) (T := TX2) (N := 4) (by decide +kernel) (rd_prog (by omega)) rfl (v := .ref (Z.ad (ro 11))) 1 (by decide) 4 rfl rfl rfl dX4_weave_19 ?_
  refine j_aload_n S dX4_weave_22 rfl ?_
  refine j_get S (C := RX4) (T := TX4) (N := 7) (by decide +kernel) rd_loom rfl (v := .ref (Z.ad (ro 0))) 2 (by decide) (by decide +kernel) rfl rfl dX4_weave_23 ?_
  refine j_cVv S (n := 3) (rest := []) (k_X0_weave X.l Z X.A hAX σ 0 (by omega) 0 (by omega)) ⟨_, _, _, _, rfl, gX4_weave_X0_weave, rfl, rfl, by decide +kernel, ⟨Nat.le_of_ble_eq_true rfl, Nat.le_of_ble_eq_true rfl⟩⟩ (rd_cloth (by omega)) rfl rfl (Nat.le_of_ble_eq_true rfl) rfl dX4_weave_26 ?_
  show J X 1 (Wd Z (σ.setCl 0 (wE (σ.row 0) (σ.row 9) (σ.row 11) (σ.row 11).length) (wP (σ.row 0) (σ.row 9) (σ.row 11) (σ.row 11).length))) 29 [some (.ref (Z.ad 0))] []
  exact j_return S hRT hXA hQ hXk hXn dX4_weave_29 (fun H h => h)

set_option maxRecDepth 100000 in
set_option maxHeartbeats 4000000 in
theorem k_X4_weaveTrial (l : Launch) (Z : Zx) (A : Nat → Prop) (hA : AdOk Z A) (σ : St) : Km l Z A yX4_weaveTrial wsX4_weaveTrial { frames := 2, cells := 0, slots := 0, locals := 49 } (Wd Z σ) [.ref (Z.ad 0)] (Qv (Wd Z (σ.setCl 1 (wE (σ.row 1) (σ.row 9) (σ.row 11) (σ.row 11).length) (wP (σ.row 1) (σ.row 9) (σ.row 11) (σ.row 11).length))) A) := by
  refine Km.of (cc := cX4_weaveTrial) (maxL := 1) (ret := none) (by decide) rfl (Nat.le_of_ble_eq_true rfl) hA ?_
  intro X hXl S hAX hRT hXA hQ hXk hXn
  show J X 1 (Wd Z σ) 0 [some (.ref (Z.ad 0))] []
  refine j_aload_n S dX4_weaveTrial_0 rfl ?_
  refine j_get S (C := RX4) (T := TX4) (N := 7) (by decide +kernel) rd_loom rfl (v := .ref (Z.ad (co 1))) 6 (by decide) (by decide +kernel) rfl rfl dX4_weaveTrial_1 ?_
  refine j_aload_n S dX4_weaveTrial_4 rfl ?_
  refine j_get S (C := RX4) (T := TX4) (N := 7) (by decide +kernel) rd_loom rfl (v := .ref (Z.ad 1)) 0 (by decide) (by decide +kernel) rfl rfl dX4_weaveTrial_5 ?_
  refine j_iconst S 0 dX4_weaveTrial_8 (by decide) ?_
  refine j_aaload S (v := Z.ad (po 0)) rd_progs (show vp_in (nI 0) 10 from vp_in_nI (by decide) (by decide)) rfl dX4_weaveTrial_9 ?_
  refine j_getN S (C := RX2) (T := TX2) (N := 4) (by decide +kernel) (rd_prog (by omega)) rfl (v := .ref (Z.ad (ro 9))) 1 (by decide) 4 rfl rfl rfl dX4_weaveTrial_10 ?_
  refine j_aload_n S dX4_weaveTrial_13 rfl ?_
  refine j_get S (C := RX4) (T := TX4) (N := 7) (by decide +kernel) rd_loom rfl (v := .ref (Z.ad 1)) 0 (by decide) (by decide +kernel) rfl rfl dX4_weaveTrial_14 ?_
  refine j_iconst S 1 dX4_weaveTrial_17 (by decide) ?_
  refine j_aaload S (v := Z.ad (po 1)) rd_progs (show vp_in (nI 1) 10 from vp_in_nI (by decide) (by decide)) rfl dX4_weaveTrial_18 ?_
  refine j_getN S (C := RX2) (T := TX2) (N := 4) (by decide +kernel) (rd_prog (by omega)) rfl (v := .ref (Z.ad (ro 11))) 1 (by decide) 4 rfl rfl rfl dX4_weaveTrial_19 ?_
  refine j_aload_n S dX4_weaveTrial_22 rfl ?_
  refine j_get S (C := RX4) (T := TX4) (N := 7) (by decide +kernel) rd_loom rfl (v := .ref (Z.ad (ro 1))) 5 (by decide) (by decide +kernel) rfl rfl dX4_weaveTrial_23 ?_
  refine j_cVv S (n := 3) (rest := []) (k_X0_weave X.l Z X.A hAX σ 1 (by omega) 1 (by omega)) ⟨_, _, _, _, rfl, gX4_weaveTrial_X0_weave, rfl, rfl, by decide +kernel, ⟨Nat.le_of_ble_eq_true rfl, Nat.le_of_ble_eq_true rfl⟩⟩ (rd_cloth (by omega)) rfl rfl (Nat.le_of_ble_eq_true rfl) rfl dX4_weaveTrial_26 ?_
  show J X 1 (Wd Z (σ.setCl 1 (wE (σ.row 1) (σ.row 9) (σ.row 11) (σ.row 11).length) (wP (σ.row 1) (σ.row 9) (σ.row 11) (σ.row 11).length))) 29 [some (.ref (Z.ad 0))] []
  exact j_return S hRT hXA hQ hXk hXn dX4_weaveTrial_29 (fun H h => h)

set_option maxRecDepth 100000 in
set_option maxHeartbeats 4000000 in
theorem k_X4_renewFrom (l : Launch) (Z : Zx) (A : Nat → Prop) (hA : AdOk Z A) (σ : St) (tok : Nat → List Int32) (ties : List Int32) (p : Nat) (hp : p < 10) (hH : Hand σ tok ties) (hG : ∀ i, i < 10 → ((p < 4 ∧ i ≠ p) ∨ (4 ≤ i ∧ i < p)) → Good σ tok i) : Km l Z A yX4_renewFrom wsX4_renewFrom { frames := 5, cells := 0, slots := 0, locals := 116 } (Wd Z σ) [.ref (Z.ad 0), .int (nI p)] (Qv (WL Z tok ties) A) := by
  refine Km.of (cc := cX4_renewFrom) (maxL := 4) (ret := none) (by decide) rfl (Nat.le_of_ble_eq_true rfl) hA ?_
  intro X hXl S hAX hRT hXA hQ hXk hXn
  show J X 4 (Wd Z σ) 0 [some (.ref (Z.ad 0)), some (.int (nI p)), none, none] []
  have finish : ∀ σ1 : St, Hand σ1 tok ties → (∀ i, i < 10 → Good σ1 tok i) → ∀ v2 v3 : Int32, J X 4 (Wd Z σ1) 90 [some (.ref (Z.ad 0)), some (.int (nI p)), some (.int v2), some (.int v3)] [] := by
    intro σ1 hH1 hG1 v2 v3
    refine j_aload_n S dX4_renewFrom_90 rfl ?_
    refine j_cVv S (n := 0) (rest := []) (k_X4_weave X.l Z X.A hAX σ1) ⟨_, _, _, _, rfl, gX4_renewFrom_X4_weave, rfl, rfl, by decide +kernel, ⟨Nat.le_of_ble_eq_true rfl, Nat.le_of_ble_eq_true rfl⟩⟩ rd_loom rfl rfl (Nat.le_of_ble_eq_true rfl) rfl dX4_renewFrom_91 ?_
    exact j_return S hRT hXA hQ hXk hXn dX4_renewFrom_94 (fun H h9 => ⟨_, Cons.woven hH1 hG1, h9⟩)
  have rows : ∀ (bl : Bool) (f k : Nat) (σ1 : St), (bl = true ↔ 4 ≤ p) → k + f = 4 → Hand σ1 tok ties → (∀ i, 4 ≤ i → i < 10 → Good σ1 tok i) → (∀ i, i < 4 → (i < k ∨ (bl = false ∧ i ≠ p)) → Good σ1 tok i) → J X 4 (Wd Z σ1) 52 [some (.ref (Z.ad 0)), some (.int (nI p)), some (.int (b2i bl)), some (.int (nI k))] [] := by
    intro bl f
    induction f with
    | zero =>
      intro k σ1 hbl hk hH1 hGb hGr
      refine j_iload_n S dX4_renewFrom_52 rfl ?_
      refine j_iconst S 4 dX4_renewFrom_53 (by decide) ?_
      refine j_icmp_ge S 90 dX4_renewFrom_54 (by decide) (fun _ => ?_) (fun h9 => absurd (by rw [i4, nI_leI (by omega) (by omega)]; omega) h9)
      exact finish σ1 hH1 (fun i hi => by rcases Nat.lt_or_ge i 4 with q | q; exact hGr i q (Or.inl (by omega)); exact hGb i q hi) _ _
    | succ f ih =>
      intro k σ1 hbl hk hH1 hGb hGr
      have next : ∀ σ2 : St, Hand σ2 tok ties → (∀ i, 4 ≤ i → i < 10 → Good σ2 tok i) → (∀ i, i < 4 → (i < k + 1 ∨ (bl = false ∧ i ≠ p)) → Good σ2 tok i) → J X 4 (Wd Z σ2) 84 [some (.ref (Z.ad 0)), some (.int (nI p)), some (.int (b2i bl)), some (.int (nI k))] [] := by
        intro σ2 hH2 hGb2 hGr2
        refine j_iinc S (nI (k + 1)) [some (.ref (Z.ad 0)), some (.int (nI p)), some (.int (b2i bl)), some (.int (nI (k + 1)))] dX4_renewFrom_84 rfl (nI_1 k) (by decide) rfl rfl ?_
        refine j_goto S 52 dX4_renewFrom_87 (by decide) ?_
        exact ih (k + 1) σ2 hbl (by omega) hH2 hGb2 hGr2
      have one : (bl = true ∨ k = p) → J X 4 (Wd Z σ1) 66 [some (.ref (Z.ad 0)), some (.int (nI p)), some (.int (b2i bl)), some (.int (nI k))] [] := by
        intro _
        refine j_aload_n S dX4_renewFrom_66 rfl ?_
        refine j_get S (C := RX4) (T := TX4) (N := 7) (by decide +kernel) rd_loom rfl (v := .ref (Z.ad 2)) 1 (by decide) (by decide +kernel) rfl rfl dX4_renewFrom_67 ?_
        refine j_aload_n S dX4_renewFrom_70 rfl ?_
        refine j_get S (C := RX4) (T := TX4) (N := 7) (by decide +kernel) rd_loom rfl (v := .ref (Z.ad 1)) 0 (by decide) (by decide +kernel) rfl rfl dX4_renewFrom_71 ?_
        refine j_iload_n S dX4_renewFrom_74 rfl ?_
        refine j_aload_n S dX4_renewFrom_75 rfl ?_
        refine j_get S (C := RX4) (T := TX4) (N := 7) (by decide +kernel) rd_loom rfl (v := .ref (Z.ad 1)) 0 (by decide) (by decide +kernel) rfl rfl dX4_renewFrom_76 ?_
        refine j_iload_n S dX4_renewFrom_79 rfl ?_
        refine j_aaload S (v := Z.ad (po k)) rd_progs (vp_in_nI (show k < 10 by omega) (by omega)) (by show some (Z.ad (po (nI k).toNatClampNeg)) = _; rw [nI_clamp (by omega)]) dX4_renewFrom_80 ?_
        refine j_cVv S (n := 3) (rest := []) (k_X1_compile X.l Z X.A hAX σ1 k k (by omega) (by omega) (by rw [hH1.1 k (by omega)]; exact hH1.2.1 k (by omega))) ⟨_, _, _, _, rfl, gX4_renewFrom_X1_compile, rfl, rfl, by decide +kernel, ⟨Nat.le_of_ble_eq_true rfl, Nat.le_of_ble_eq_true rfl⟩⟩ rd_comp rfl rfl (Nat.le_of_ble_eq_true rfl) rfl dX4_renewFrom_81 ?_
        refine J.ex (fun c => ?_)
        rw [hH1.1 k (by omega)]
        have er : runC (blkOf σ1) k (tok k) = res tok k := res_prog (by omega) (fun b h1 h2 => (hGb b h1 h2).blk) (hH1.2.1 k (by omega))
        refine next _ (hH1.comp c _ _ _) (fun i h1 h2 => (hGb i h1 h2).comp_ne c _ _ _ (by omega)) (fun i h1 h2 => ?_)
        by_cases e : i = k
        · subst e; exact Good.comp_self c i er
        · exact (hGr i h1 (by rcases h2 with q | q; exact Or.inl (by omega); exact Or.inr q)).comp_ne c _ _ _ e
      refine j_iload_n S dX4_renewFrom_52 rfl ?_
      refine j_iconst S 4 dX4_renewFrom_53 (by decide) ?_
      refine j_icmp_ge S 90 dX4_renewFrom_54 (by decide) (fun h9 => absurd h9 (by rw [i4, nI_leI (by omega) (by omega)]; omega)) (fun _ => ?_)
      refine j_iload_n S dX4_renewFrom_57 rfl ?_
      refine j_if_ne S 66 dX4_renewFrom_58 (by decide) (fun h => ?_) (fun h => ?_)
      · skip
        exact one (Or.inl (b2i_n0.mp h))
      · skip
        have hbf := b2i_0.mp h
        refine j_iload_n S dX4_renewFrom_61 rfl ?_
        refine j_iload_n S dX4_renewFrom_62 rfl ?_
        refine j_icmp_ne S 84 dX4_renewFrom_63 (by decide) (fun h2 => ?_) (fun h2 => ?_)
        · skip
          rw [nI_eq (by omega) (by omega)] at h2
          refine next σ1 hH1 hGb (fun i h1 h3 => hGr i h1 ?_)
          rcases h3 with q | q
          · by_cases e : i = k
            · exact Or.inr ⟨hbf, by omega⟩
            · exact Or.inl (by omega)
          · exact Or.inr q
        · skip
          rw [nI_eq (by omega) (by omega)] at h2
          exact one (Or.inr h2)
  have blocks : 4 ≤ p → ∀ (f k : Nat) (σ1 : St), k + f = 10 → p ≤ k → Hand σ1 tok ties → (∀ i, 4 ≤ i → i < k → Good σ1 tok i) → J X 4 (Wd Z σ1) 13 [some (.ref (Z.ad 0)), some (.int (nI p)), some (.int 1), some (.int (nI k))] [] := by
    intro hp4 f
    induction f with
    | zero =>
      intro k σ1 hk hpk hH1 hGb
      refine j_iload_n S dX4_renewFrom_13 rfl ?_
      refine j_if_eq S 50 dX4_renewFrom_14 (by decide) (fun h9 => absurd h9 (by decide)) (fun _ => ?_)
      refine j_iload_n S dX4_renewFrom_17 rfl ?_
      refine j_aload_n S dX4_renewFrom_18 rfl ?_
      refine j_get S (C := RX4) (T := TX4) (N := 7) (by decide +kernel) rd_loom rfl (v := .ref (Z.ad 1)) 0 (by decide) (by decide +kernel) rfl rfl dX4_renewFrom_19 ?_
      refine j_alen S (v := 10) (t0 := 1) rd_progs rfl rfl dX4_renewFrom_22 ?_
      refine j_icmp_ge S 50 dX4_renewFrom_23 (by decide) (fun _ => ?_) (fun h9 => absurd (by rw [show (10 : Int32) = nI 10 from rfl, nI_leI (by omega) (by omega)]; omega) h9)
      refine j_iconst S 0 dX4_renewFrom_50 (by decide) ?_
      refine j_istore_n S [some (.ref (Z.ad 0)), some (.int (nI p)), some (.int 1), some (.int 0)] dX4_renewFrom_51 (by decide) rfl rfl ?_
      exact rows true 4 0 σ1 ⟨fun _ => hp4, fun _ => rfl⟩ rfl hH1 (fun i h1 h2 => hGb i h1 (by omega)) (fun i h1 h2 => by rcases h2 with q | q; omega; cases q.1)
    | succ f ih =>
      intro k σ1 hk hpk hH1 hGb
      refine j_iload_n S dX4_renewFrom_13 rfl ?_
      refine j_if_eq S 50 dX4_renewFrom_14 (by decide) (fun h9 => absurd h9 (by decide)) (fun _ => ?_)
      refine j_iload_n S dX4_renewFrom_17 rfl ?_
      refine j_aload_n S dX4_renewFrom_18 rfl ?_
      refine j_get S (C := RX4) (T := TX4) (N := 7) (by decide +kernel) rd_loom rfl (v := .ref (Z.ad 1)) 0 (by decide) (by decide +kernel) rfl rfl dX4_renewFrom_19 ?_
      refine j_alen S (v := 10) (t0 := 1) rd_progs rfl rfl dX4_renewFrom_22 ?_
      refine j_icmp_ge S 50 dX4_renewFrom_23 (by decide) (fun h9 => absurd h9 (by rw [show (10 : Int32) = nI 10 from rfl, nI_leI (by omega) (by omega)]; omega)) (fun _ => ?_)
      refine j_aload_n S dX4_renewFrom_26 rfl ?_
      refine j_get S (C := RX4) (T := TX4) (N := 7) (by decide +kernel) rd_loom rfl (v := .ref (Z.ad 2)) 1 (by decide) (by decide +kernel) rfl rfl dX4_renewFrom_27 ?_
      refine j_aload_n S dX4_renewFrom_30 rfl ?_
      refine j_get S (C := RX4) (T := TX4) (N := 7) (by decide +kernel) rd_loom rfl (v := .ref (Z.ad 1)) 0 (by decide) (by decide +kernel) rfl rfl dX4_renewFrom_31 ?_
      refine j_iload_n S dX4_renewFrom_34 rfl ?_
      refine j_aload_n S dX4_renewFrom_35 rfl ?_
      refine j_get S (C := RX4) (T := TX4) (N := 7) (by decide +kernel) rd_loom rfl (v := .ref (Z.ad 1)) 0 (by decide) (by decide +kernel) rfl rfl dX4_renewFrom_36 ?_
      refine j_iload_n S dX4_renewFrom_39 rfl ?_
      refine j_aaload S (v := Z.ad (po k)) rd_progs (vp_in_nI (show k < 10 by omega) (by omega)) (by show some (Z.ad (po (nI k).toNatClampNeg)) = _; rw [nI_clamp (by omega)]) dX4_renewFrom_40 ?_
      refine j_cVv S (n := 3) (rest := []) (k_X1_compile X.l Z X.A hAX σ1 k k (by omega) (by omega) (by rw [hH1.1 k (by omega)]; exact hH1.2.1 k (by omega))) ⟨_, _, _, _, rfl, gX4_renewFrom_X1_compile, rfl, rfl, by decide +kernel, ⟨Nat.le_of_ble_eq_true rfl, Nat.le_of_ble_eq_true rfl⟩⟩ rd_comp rfl rfl (Nat.le_of_ble_eq_true rfl) rfl dX4_renewFrom_41 ?_
      refine J.ex (fun c => ?_)
      rw [hH1.1 k (by omega)]
      have er : runC (blkOf σ1) k (tok k) = res tok k := res_block (by omega) (by omega) (fun b h1 h2 => (hGb b h1 h2).blk) (hH1.2.1 k (by omega))
      refine j_iinc S (nI (k + 1)) [some (.ref (Z.ad 0)), some (.int (nI p)), some (.int 1), some (.int (nI (k + 1)))] dX4_renewFrom_44 rfl (nI_1 k) (by decide) rfl rfl ?_
      refine j_goto S 13 dX4_renewFrom_47 (by decide) ?_
      refine ih (k + 1) _ (by omega) (by omega) (hH1.comp c _ _ _) (fun i h1 h2 => ?_)
      by_cases e : i = k
      · subst e; exact Good.comp_self c i er
      · exact (hGb i h1 (by omega)).comp_ne c _ _ _ e
  refine j_iload_n S dX4_renewFrom_0 rfl ?_
  refine j_iconst S 4 dX4_renewFrom_1 (by decide) ?_
  refine j_icmp_lt S 9 dX4_renewFrom_2 (by decide) (fun h => ?_) (fun h => ?_)
  · skip
    rw [i4, nI_ltI (by omega) (by omega)] at h
    refine j_iconst S 0 dX4_renewFrom_9 (by decide) ?_
    refine j_istore_n S [some (.ref (Z.ad 0)), some (.int (nI p)), some (.int 0), none] dX4_renewFrom_10 (by decide) rfl rfl ?_
    refine j_iload_n S dX4_renewFrom_11 rfl ?_
    refine j_istore_n S [some (.ref (Z.ad 0)), some (.int (nI p)), some (.int 0), some (.int (nI p))] dX4_renewFrom_12 (by decide) rfl rfl ?_
    refine j_iload_n S dX4_renewFrom_13 rfl ?_
    refine j_if_eq S 50 dX4_renewFrom_14 (by decide) (fun _ => ?_) (fun h9 => absurd rfl h9)
    refine j_iconst S 0 dX4_renewFrom_50 (by decide) ?_
    refine j_istore_n S [some (.ref (Z.ad 0)), some (.int (nI p)), some (.int 0), some (.int 0)] dX4_renewFrom_51 (by decide) rfl rfl ?_
    exact rows false 4 0 σ ⟨fun q => (by cases q), fun q => (by omega)⟩ rfl hH (fun i h1 h2 => hG i h2 (Or.inl ⟨by omega, by omega⟩)) (fun i h1 h2 => hG i (by omega) (Or.inl ⟨by omega, by rcases h2 with q | q; omega; exact q.2⟩))
  · skip
    rw [i4, nI_ltI (by omega) (by omega)] at h
    refine j_iconst S 1 dX4_renewFrom_5 (by decide) ?_
    refine j_goto S 10 dX4_renewFrom_6 (by decide) ?_
    refine j_istore_n S [some (.ref (Z.ad 0)), some (.int (nI p)), some (.int 1), none] dX4_renewFrom_10 (by decide) rfl rfl ?_
    refine j_iload_n S dX4_renewFrom_11 rfl ?_
    refine j_istore_n S [some (.ref (Z.ad 0)), some (.int (nI p)), some (.int 1), some (.int (nI p))] dX4_renewFrom_12 (by decide) rfl rfl ?_
    exact blocks (by omega) (10 - p) p σ (by omega) (Nat.le_refl _) hH (fun i h1 h2 => hG i (by omega) (Or.inr ⟨h1, h2⟩))
