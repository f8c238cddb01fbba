/-- what a program of one token comes to, of a fresh loom -/
theorem fr_lenA : ∀ p, p < 10 → ∀ j, j < 8 → lengthI (up tok0 p (tok0 p ++ [nI j])) p = 1 := by decide +kernel
theorem fr_lenX : ∀ p, p < 10 → ∀ j, j < 34 → (j = 10 ∨ j = 11 ∨ 22 ≤ j) → lengthI (up tok0 p (tok0 p ++ [nI j])) p = -1 := by decide +kernel
theorem fr_lenN : ∀ p, p < 10 → ∀ j, j < 50 → 44 ≤ j → 4 ≤ p → p ≤ j - 40 → lengthI (up tok0 p (tok0 p ++ [nI j])) p = -1 := by decide +kernel
theorem fr_lenE : ∀ p, p < 10 → ∀ j, j < 50 → 44 ≤ j → (p < 4 ∨ j - 40 < p) → lengthI (up tok0 p (tok0 p ++ [nI j])) p = 0 := by decide +kernel
set_option maxHeartbeats 4000000 in
theorem c_lengthWith {X : Cx} {G : RG} {o n1 b mo ka ta : Nat} {xs : Nat → Int32} {M : Wl} {f : Nat → Int64} (B : BX X G o n1 b mo ka ta xs M) (x y : Int32) (hx1 : xs 1 = x) (hx2 : xs 2 = y) : J (X.at 92 2484) 9 (LPc G X.s.heap.size o n1 (WL G.Z tok0 ties0) f M) 1431 [some (.ref b), some (.ref (G.Z.ad 0)), some (.ref mo), some (.ref o), some (.int 0), none, none, none, none] [] := by
  have hM := B.2.2.2.2
  have hZ := B.1.2.2.2.2.2.2.1
  have ho := B.1.2.2.2.2.2.2.2.1
  have hfl := B.1.2.2.2.2.2.2.2.2.2
  by_cases hb : 0 ≤ x ∧ x ≤ 9
  · obtain ⟨p, hp, rfl⟩ := nat_in (n := 9) (by decide) hb
    by_cases hc : TokP y
    · obtain ⟨j, hj, rfl⟩ := tok_nat hc
      have hj9 := hj
      unfold tokN at hj9
      rcases hj9 with h7 | rfl | rfl | ⟨h1, h2⟩ | ⟨h1, h2⟩
      · have hR := r_X8_lengthWithA X.l G (AM G X.s.heap.size o) M p hp (j + 128) (by omega) (by rw [vb_tok j (by omega)]; exact hc) j (by omega) (vb_tok j (by omega)) hM
        rw [vb_tok j (by omega)] at hR
        exact h_lengthWith B _ _ hx1 hx2 (w_lengthWith X.l G.Z G.cL o f hZ ho p j hp hj) rfl rfl ⟨(Nat.le_of_ble_eq_true rfl), (Nat.le_of_ble_eq_true rfl)⟩ (hR) ⟨_, _, _, _, rfl, gL_lawb_X8_lengthWith, rfl, rfl, (by decide +kernel), ⟨(Nat.le_of_ble_eq_true rfl), (Nat.le_of_ble_eq_true rfl)⟩⟩ (Nat.le_of_ble_eq_true rfl) (Nat.le_of_ble_eq_true rfl) (fun _ => by rw [fr_lenA p hp j (by omega)])
      · have hR := r_X8_lengthWithB X.l G (AM G X.s.heap.size o) M p hp (10 + 128) (by omega) (by rw [vb_tok 10 (by omega)]; exact hc) (by decide +kernel) hM
        rw [vb_tok 10 (by omega)] at hR
        exact h_lengthWith B _ _ hx1 hx2 (w_lengthWith X.l G.Z G.cL o f hZ ho p 10 hp hj) rfl rfl ⟨(Nat.le_of_ble_eq_true rfl), (Nat.le_of_ble_eq_true rfl)⟩ (hR) ⟨_, _, _, _, rfl, gL_lawb_X8_lengthWith, rfl, rfl, (by decide +kernel), ⟨(Nat.le_of_ble_eq_true rfl), (Nat.le_of_ble_eq_true rfl)⟩⟩ (Nat.le_of_ble_eq_true rfl) (Nat.le_of_ble_eq_true rfl) (fun _ => by rw [fr_lenX p hp 10 (by decide) (Or.inl rfl)])
      · have hR := r_X8_lengthWithC X.l G (AM G X.s.heap.size o) M p hp (11 + 128) (by omega) (by rw [vb_tok 11 (by omega)]; exact hc) (by decide +kernel) hM
        rw [vb_tok 11 (by omega)] at hR
        exact h_lengthWith B _ _ hx1 hx2 (w_lengthWith X.l G.Z G.cL o f hZ ho p 11 hp hj) rfl rfl ⟨(Nat.le_of_ble_eq_true rfl), (Nat.le_of_ble_eq_true rfl)⟩ (hR) ⟨_, _, _, _, rfl, gL_lawb_X8_lengthWith, rfl, rfl, (by decide +kernel), ⟨(Nat.le_of_ble_eq_true rfl), (Nat.le_of_ble_eq_true rfl)⟩⟩ (Nat.le_of_ble_eq_true rfl) (Nat.le_of_ble_eq_true rfl) (fun _ => by rw [fr_lenX p hp 11 (by decide) (Or.inr (Or.inl rfl))])
      · have hR := r_X8_lengthWithD X.l G (AM G X.s.heap.size o) M p hp (j + 128) (by omega) (by rw [vb_tok j (by omega)]; exact hc) j h1 h2 (vb_tok j (by omega)) hM
        rw [vb_tok j (by omega)] at hR
        exact h_lengthWith B _ _ hx1 hx2 (w_lengthWith X.l G.Z G.cL o f hZ ho p j hp hj) rfl rfl ⟨(Nat.le_of_ble_eq_true rfl), (Nat.le_of_ble_eq_true rfl)⟩ (hR) ⟨_, _, _, _, rfl, gL_lawb_X8_lengthWith, rfl, rfl, (by decide +kernel), ⟨(Nat.le_of_ble_eq_true rfl), (Nat.le_of_ble_eq_true rfl)⟩⟩ (Nat.le_of_ble_eq_true rfl) (Nat.le_of_ble_eq_true rfl) (fun _ => by rw [fr_lenX p hp j (by omega) (Or.inr (Or.inr h1))])
      · by_cases hp4 : p < 4
        · have hR := r_X8_lengthWithE X.l G (AM G X.s.heap.size o) M p hp (j + 128) (by omega) (by rw [vb_tok j (by omega)]; exact hc) j hp4 h1 h2 (vb_tok j (by omega)) hM
          rw [vb_tok j (by omega)] at hR
          exact h_lengthWith B _ _ hx1 hx2 (w_lengthWith X.l G.Z G.cL o f hZ ho p j hp hj) rfl rfl ⟨(Nat.le_of_ble_eq_true rfl), (Nat.le_of_ble_eq_true rfl)⟩ (hR) ⟨_, _, _, _, rfl, gL_lawb_X8_lengthWith, rfl, rfl, (by decide +kernel), ⟨(Nat.le_of_ble_eq_true rfl), (Nat.le_of_ble_eq_true rfl)⟩⟩ (Nat.le_of_ble_eq_true rfl) (Nat.le_of_ble_eq_true rfl) (fun _ => by rw [fr_lenE p hp j (by omega) h1 (Or.inl hp4)])
        · by_cases hpj : p ≤ j - 40
          · have hR := r_X8_lengthWithN X.l G (AM G X.s.heap.size o) M p hp (j + 128) (by omega) (by rw [vb_tok j (by omega)]; exact hc) j (by omega) hpj h1 h2 (vb_tok j (by omega)) hM
            rw [vb_tok j (by omega)] at hR
            exact h_lengthWith B _ _ hx1 hx2 (w_lengthWith X.l G.Z G.cL o f hZ ho p j hp hj) rfl rfl ⟨(Nat.le_of_ble_eq_true rfl), (Nat.le_of_ble_eq_true rfl)⟩ (hR) ⟨_, _, _, _, rfl, gL_lawb_X8_lengthWith, rfl, rfl, (by decide +kernel), ⟨(Nat.le_of_ble_eq_true rfl), (Nat.le_of_ble_eq_true rfl)⟩⟩ (Nat.le_of_ble_eq_true rfl) (Nat.le_of_ble_eq_true rfl) (fun _ => by rw [fr_lenN p hp j (by omega) h1 (by omega) hpj])
          · have hR := r_X8_lengthWithF X.l G (AM G X.s.heap.size o) M p hp (j + 128) (by omega) (by rw [vb_tok j (by omega)]; exact hc) j (by omega) (by omega) h1 h2 (vb_tok j (by omega)) hM
            rw [vb_tok j (by omega)] at hR
            exact h_lengthWith B _ _ hx1 hx2 (w_lengthWith X.l G.Z G.cL o f hZ ho p j hp hj) rfl rfl ⟨(Nat.le_of_ble_eq_true rfl), (Nat.le_of_ble_eq_true rfl)⟩ (hR) ⟨_, _, _, _, rfl, gL_lawb_X8_lengthWith, rfl, rfl, (by decide +kernel), ⟨(Nat.le_of_ble_eq_true rfl), (Nat.le_of_ble_eq_true rfl)⟩⟩ (Nat.le_of_ble_eq_true rfl) (Nat.le_of_ble_eq_true rfl) (fun _ => by rw [fr_lenE p hp j (by omega) h1 (Or.inr (by omega))])
    · exact h_lengthWith B _ _ hx1 hx2 (w_lengthWith_t X.l G.Z G.cL o f hZ ho hfl p hp y hc) rfl rfl ⟨(Nat.le_of_ble_eq_true rfl), (Nat.le_of_ble_eq_true rfl)⟩ (r_X8_lengthWith_t X.l G (AM G X.s.heap.size o) M p hp y hc hM) ⟨_, _, _, _, rfl, gL_law_X8_lengthWith, rfl, rfl, (by decide +kernel), ⟨(Nat.le_of_ble_eq_true rfl), (Nat.le_of_ble_eq_true rfl)⟩⟩ (Nat.le_of_ble_eq_true rfl) (Nat.le_of_ble_eq_true rfl) (fun h9 => absurd h9 (by decide))
  · exact h_lengthWith B _ _ hx1 hx2 (w_lengthWith_b X.l G.Z G.cL o f hZ ho hfl x hb y) rfl rfl ⟨(Nat.le_of_ble_eq_true rfl), (Nat.le_of_ble_eq_true rfl)⟩ (r_X8_lengthWith_b X.l G (AM G X.s.heap.size o) M x hb y hM) ⟨_, _, _, _, rfl, gL_law_X8_lengthWith, rfl, rfl, (by decide +kernel), ⟨(Nat.le_of_ble_eq_true rfl), (Nat.le_of_ble_eq_true rfl)⟩⟩ (Nat.le_of_ble_eq_true rfl) (Nat.le_of_ble_eq_true rfl) (fun h9 => absurd h9 (by decide))
theorem and31 (v : Int32) : ∃ m, m < 32 ∧ v &&& 31 = nI m := by
  obtain ⟨n, hn, e⟩ : ∃ n, n < 2 ^ 32 ∧ v = nI n := ⟨v.toBitVec.toNat, v.toBitVec.isLt, Int32.toBitVec_inj.mp (by show _ = BitVec.ofNat 32 _; simp)⟩
  refine ⟨n &&& 31, Nat.lt_of_le_of_lt Nat.and_le_right (by decide), ?_⟩
  rw [e]
  exact Int32.toBitVec_inj.mp (by show BitVec.ofNat 32 n &&& BitVec.ofNat 32 31 = BitVec.ofNat 32 (n &&& 31); simp [BitVec.ofNat_and])
theorem tsw_out : ∀ t, t < 32 → 24 ≤ t → (nI t).toInt < 0 ∨ 23 < (nI t).toInt := by decide +kernel
set_option maxHeartbeats 4000000 in
theorem lw_switch {X : Cx} {G : RG} {o n1 b mo ka ta : Nat} {xs : Nat → Int32} {M : Wl} {f : Nat → Int64} (B : BX X G o n1 b mo ka ta xs M) : J (X.at 92 2484) 9 (LPc G X.s.heap.size o n1 (WL G.Z tok0 ties0) f M) 32 [some (.ref b), some (.ref (G.Z.ad 0)), some (.ref mo), some (.ref o), some (.int 0), none, none, none, none] [] := by
  have S := B.1
  have F0 := S.fx (k := 92) (n := 2484) (Nat.le_of_ble_eq_true rfl) (Nat.le_of_ble_eq_true rfl)
  refine j_aload_n F0 dL_law_32 rfl ?_
  refine j_iload F0 dL_law_33 rfl ?_
  refine lw_sc F0 B.2.1 (j := 0) (by decide) (by unfold vp_in; decide) rfl dL_law_35 ?_
  refine j_bipush F0 31 dL_law_36 (by decide) ?_
  obtain ⟨t, ht, e⟩ := and31 (xs 0)
  refine j_iand F0 (nI t) dL_law_38 e ?_
  have h9 : t = 0 ∨ t = 1 ∨ t = 2 ∨ t = 3 ∨ t = 4 ∨ t = 5 ∨ t = 6 ∨ t = 7 ∨ t = 8 ∨ t = 9 ∨ t = 10 ∨ t = 11 ∨ t = 12 ∨ t = 13 ∨ t = 14 ∨ t = 15 ∨ t = 16 ∨ t = 17 ∨ t = 18 ∨ t = 19 ∨ t = 20 ∨ t = 21 ∨ t = 22 ∨ t = 23 ∨ 24 ≤ t := by omega
  rcases h9 with rfl | rfl | rfl | rfl | rfl | rfl | rfl | rfl | rfl | rfl | rfl | rfl | rfl | rfl | rfl | rfl | rfl | rfl | rfl | rfl | rfl | rfl | rfl | rfl | h9
  · exact j_table F0 148 dL_law_39 (by decide) (by decide) rfl (by decide) (c_token B _ _ rfl rfl)
  · exact j_table F0 216 dL_law_39 (by decide) (by decide) rfl (by decide) (c_untoken B _ _ rfl rfl)
  · exact j_table F0 284 dL_law_39 (by decide) (by decide) rfl (by decide) (c_ofProgram B _ _ rfl rfl)
  · exact j_table F0 352 dL_law_39 (by decide) (by decide) rfl (by decide) (c_number B _ _ rfl rfl)
  · exact j_table F0 420 dL_law_39 (by decide) (by decide) rfl (by decide) (c_period B _ rfl)
  · exact j_table F0 476 dL_law_39 (by decide) (by decide) rfl (by decide) (c_tie B _ _ rfl rfl)
  · exact j_table F0 544 dL_law_39 (by decide) (by decide) rfl (by decide) (c_tied B _ rfl)
  · exact j_table F0 600 dL_law_39 (by decide) (by decide) rfl (by decide) (c_twill B _ _ rfl rfl)
  · exact j_table F0 668 dL_law_39 (by decide) (by decide) rfl (by decide) (c_swap B _ _ rfl rfl)
  · exact j_table F0 736 dL_law_39 (by decide) (by decide) rfl (by decide) (c_cloth B _ rfl)
  · exact j_table F0 792 dL_law_39 (by decide) (by decide) rfl (by decide) (c_field B _ _ _ rfl rfl rfl)
  · exact j_table F0 872 dL_law_39 (by decide) (by decide) rfl (by decide) (c_floats B _ rfl)
  · exact j_table F0 928 dL_law_39 (by decide) (by decide) rfl (by decide) (c_where B _ _ rfl rfl)
  · exact j_table F0 1012 dL_law_39 (by decide) (by decide) rfl (by decide) (c_ups B _ _ rfl rfl)
  · exact j_table F0 1096 dL_law_39 (by decide) (by decide) rfl (by decide) (c_seen B _ rfl)
  · exact j_table F0 1152 dL_law_39 (by decide) (by decide) rfl (by decide) (c_repeat B _ rfl)
  · exact j_table F0 1193 dL_law_39 (by decide) (by decide) rfl (by decide) (c_hangs B)
  · exact j_table F0 1206 dL_law_39 (by decide) (by decide) rfl (by decide) (c_reach B _ rfl)
  · exact j_table F0 1247 dL_law_39 (by decide) (by decide) rfl (by decide) (c_meanFloat B)
  · exact j_table F0 1288 dL_law_39 (by decide) (by decide) rfl (by decide) (c_floatWith B _ _ rfl rfl)
  · exact j_table F0 1356 dL_law_39 (by decide) (by decide) rfl (by decide) (c_hangsWith B _ _ rfl rfl)
  · exact j_table F0 1431 dL_law_39 (by decide) (by decide) rfl (by decide) (c_lengthWith B _ _ rfl rfl)
  · exact j_table F0 1499 dL_law_39 (by decide) (by decide) rfl (by decide) (c_changedBy B _ _ rfl rfl)
  · exact j_table F0 1567 dL_law_39 (by decide) (by decide) rfl (by decide) (c_digest B)
  · exact j_tableOut F0 1581 dL_law_39 (tsw_out t ht h9) (by decide) (B.2.2.1 _ _ _ (Nat.le_of_ble_eq_true rfl) (Nat.le_of_ble_eq_true rfl))
set_option maxHeartbeats 4000000 in
/-- one pass of the loop, then the end -/
theorem lw_loop {X : Cx} {G : RG} {o n1 b mo ka ta L : Nat} {xs : Nat → Int32} {M : Wl} {f : Nat → Int64} (S : SL X G o n1) (hL : L ≤ 4) (hX : va_X b L xs X.s X.s.heap) (hbl : b < X.s.heap.size) (hbA : ¬ X.A b) (hD : va_D (AM G X.s.heap.size o) M) (hM : Mo G mo ka ta 0 M) (hEnd : ∀ (k n : Nat) (w : Heap → Prop) (pc : Nat) (lv : List (Option Value)), k ≤ room_1.cells → n ≤ room_1.slots → decode code pc = .ok (.ireturn, 1) → J (X.at k n) 9 w pc lv [.int 1]) : J (X.at 92 2484) 9 (LPc G X.s.heap.size o n1 (WL G.Z tok0 ties0) f M) 20 [some (.ref b), some (.ref (G.Z.ad 0)), some (.ref mo), some (.ref o), none, none, none, none, none] [] := by
  have F0 := S.fx (k := 92) (n := 2484) (Nat.le_of_ble_eq_true rfl) (Nat.le_of_ble_eq_true rfl)
  refine j_iconst F0 0 dL_law_20 (by decide) ?_
  refine j_istore F0 [some (.ref b), some (.ref (G.Z.ad 0)), some (.ref mo), some (.ref o), some (.int 0), none, none, none, none] dL_law_21 (by decide) rfl rfl ?_
  refine j_iload F0 dL_law_23 rfl ?_
  refine j_aload_n F0 dL_law_25 rfl ?_
  refine j_slen F0 hX hbl hbA dL_law_26 ?_
  refine j_iconst F0 4 dL_law_27 (by decide) ?_
  refine j_isub F0 (nI L - 4) dL_law_28 rfl ?_
  refine j_icmp_gt F0 1587 dL_law_29 (by decide) (fun _ => ?_) (fun h9 => ?_)
  · refine j_iconst F0 1 dL_law_1587 (by decide) ?_
    exact hEnd _ _ _ _ _ (Nat.le_of_ble_eq_true rfl) (Nat.le_of_ble_eq_true rfl) dL_law_1588
  · have hL4 : L = 4 := by
      have h8 : L = 0 ∨ L = 1 ∨ L = 2 ∨ L = 3 ∨ L = 4 := by omega
      rcases h8 with rfl | rfl | rfl | rfl | rfl
      · exact absurd (by decide) h9
      · exact absurd (by decide) h9
      · exact absurd (by decide) h9
      · exact absurd (by decide) h9
      · rfl
    subst hL4
    refine lw_switch ⟨S, ⟨hX, hbl, hbA⟩, fun k n w hk hn => ?_, hD, hM⟩
    have F := S.fx hk hn
    refine j_iinc F 4 [some (.ref b), some (.ref (G.Z.ad 0)), some (.ref mo), some (.ref o), some (.int 4), none, none, none, none] dL_law_1581 rfl (by decide) (by decide) rfl rfl ?_
    refine j_goto F 23 dL_law_1584 (by decide) ?_
    refine j_iload F dL_law_23 rfl ?_
    refine j_aload_n F dL_law_25 rfl ?_
    refine j_slen F hX hbl hbA dL_law_26 ?_
    refine j_iconst F 4 dL_law_27 (by decide) ?_
    refine j_isub F 0 dL_law_28 (by decide) ?_
    refine j_icmp_gt F 1587 dL_law_29 (by decide) (fun _ => ?_) (fun h9 => absurd (by decide) h9)
    refine j_iconst F 1 dL_law_1587 (by decide) ?_
    exact hEnd _ _ _ _ _ hk hn dL_law_1588
