/-! THE LAW's CASES: what is asked of a fresh loom, and of its model -/
theorem nat_in {x M : Int32} {n : Nat} (hM : M.toInt = n) (h : 0 ≤ x ∧ x ≤ M) : ∃ j, j < n + 1 ∧ x = nI j := by
  obtain ⟨j, h1, h2⟩ := nI_of2 hM (Int32.not_lt.mpr h.1) h.2
  exact ⟨j, by omega, h2⟩
theorem nat_in2 {x L M : Int32} {m n : Nat} (hm : n < 2 ^ 31) (hL : L = nI m) (hM : M.toInt = n) (hmn : m ≤ n) (h : L ≤ x ∧ x ≤ M) : ∃ j, m ≤ j ∧ j ≤ n ∧ x = nI j := by
  have h0 : 0 ≤ L := by rw [hL]; exact nI_pos' (by omega)
  obtain ⟨j, h1, rfl⟩ := nI_of2 hM (Int32.not_lt.mpr (Int32.le_trans h0 h.1)) h.2
  have h3 := h.1
  rw [hL, nI_leI (by omega) (by omega)] at h3
  exact ⟨j, h3, h1, rfl⟩
theorem tok_nat {y : Int32} (h : TokP y) : ∃ j, tokN j ∧ y = nI j := by
  rcases h with h | rfl | rfl | h | h
  · obtain ⟨j, h1, h2⟩ := nat_in (n := 7) (by decide) h
    exact ⟨j, Or.inl (by omega), h2⟩
  · exact ⟨10, Or.inr (Or.inl rfl), rfl⟩
  · exact ⟨11, Or.inr (Or.inr (Or.inl rfl)), rfl⟩
  · obtain ⟨j, h1, h2, h3⟩ := nat_in2 (m := 22) (n := 33) (by decide) rfl (by decide) (by decide) h
    exact ⟨j, Or.inr (Or.inr (Or.inr (Or.inl ⟨h1, h2⟩))), h3⟩
  · obtain ⟨j, h1, h2, h3⟩ := nat_in2 (m := 44) (n := 49) (by decide) rfl (by decide) (by decide) h
    exact ⟨j, Or.inr (Or.inr (Or.inr (Or.inr ⟨h1, h2⟩))), h3⟩
theorem tok_lt {j : Nat} (h : tokN j) : j < 50 := by
  unfold tokN at h
  omega
theorem vb_tok : ∀ j, j < 50 → vb_c (j + 128) = nI j := by decide +kernel

set_option maxHeartbeats 4000000 in
theorem c_token {X : Cx} {G : RG} {o n1 b mo ka ta : Nat} {xs : Nat → Int32} {M : Wl} {f : Nat → Int64} (B : BX X G o n1 b mo ka ta xs M) (x y : Int32) (hx1 : xs 1 = x) (hx2 : xs 2 = y) : J (X.at 92 2484) 9 (LPc G X.s.heap.size o n1 (WL G.Z tok0 ties0) f M) 148 [some (.ref b), some (.ref (G.Z.ad 0)), some (.ref mo), some (.ref o), some (.int 0), none, none, none, none] [] := by
  have hM := B.2.2.2.2
  have hZ := B.1.2.2.2.2.2.2.1
  have ho := B.1.2.2.2.2.2.2.2.1
  have hfl := B.1.2.2.2.2.2.2.2.2.2
  by_cases hb : 0 ≤ x ∧ x ≤ 9
  · obtain ⟨p, hp, rfl⟩ := nat_in (n := 9) (by decide) hb
    by_cases hc : TokP y
    · obtain ⟨j, hj, rfl⟩ := tok_nat hc
      have hR := r_X8_token X.l G (AM G X.s.heap.size o) M p hp (j + 128) (by have := tok_lt hj; omega) (by rw [vb_tok j (tok_lt hj)]; exact hc) hM
      rw [vb_tok j (tok_lt hj)] at hR
      exact h_token B _ _ hx1 hx2 (w_token X.l G.Z G.cL o f hZ ho p j hp hj) rfl rfl ⟨(Nat.le_of_ble_eq_true rfl), (Nat.le_of_ble_eq_true rfl)⟩ (hR) ⟨_, _, _, _, rfl, gL_law_X8_token, rfl, rfl, (by decide +kernel), ⟨(Nat.le_of_ble_eq_true rfl), (Nat.le_of_ble_eq_true rfl)⟩⟩ (Nat.le_of_ble_eq_true rfl) (Nat.le_of_ble_eq_true rfl) (fun _ => by rw [fr_token])
    · exact h_token B _ _ hx1 hx2 (w_token_t X.l G.Z G.cL o f hZ ho hfl p hp y hc) rfl rfl ⟨(Nat.le_of_ble_eq_true rfl), (Nat.le_of_ble_eq_true rfl)⟩ (r_X8_token_t X.l G (AM G X.s.heap.size o) M p hp y hc hM) ⟨_, _, _, _, rfl, gL_law_X8_token, rfl, rfl, (by decide +kernel), ⟨(Nat.le_of_ble_eq_true rfl), (Nat.le_of_ble_eq_true rfl)⟩⟩ (Nat.le_of_ble_eq_true rfl) (Nat.le_of_ble_eq_true rfl) (fun h9 => absurd h9 (by decide))
  · exact h_token B _ _ hx1 hx2 (w_token_b X.l G.Z G.cL o f hZ ho hfl x hb y) rfl rfl ⟨(Nat.le_of_ble_eq_true rfl), (Nat.le_of_ble_eq_true rfl)⟩ (r_X8_token_b X.l G (AM G X.s.heap.size o) M x hb y hM) ⟨_, _, _, _, rfl, gL_law_X8_token, rfl, rfl, (by decide +kernel), ⟨(Nat.le_of_ble_eq_true rfl), (Nat.le_of_ble_eq_true rfl)⟩⟩ (Nat.le_of_ble_eq_true rfl) (Nat.le_of_ble_eq_true rfl) (fun h9 => absurd h9 (by decide))
set_option maxHeartbeats 4000000 in
theorem c_untoken {X : Cx} {G : RG} {o n1 b mo ka ta : Nat} {xs : Nat → Int32} {M : Wl} {f : Nat → Int64} (B : BX X G o n1 b mo ka ta xs M) (x y : Int32) (hx1 : xs 1 = x) (hx2 : xs 2 = y) : J (X.at 92 2484) 9 (LPc G X.s.heap.size o n1 (WL G.Z tok0 ties0) f M) 216 [some (.ref b), some (.ref (G.Z.ad 0)), some (.ref mo), some (.ref o), some (.int 0), none, none, none, none] [] := by
  have hM := B.2.2.2.2
  have hZ := B.1.2.2.2.2.2.2.1
  have ho := B.1.2.2.2.2.2.2.2.1
  have hfl := B.1.2.2.2.2.2.2.2.2.2
  by_cases hb : 0 ≤ x ∧ x ≤ 9
  · obtain ⟨p, hp, rfl⟩ := nat_in (n := 9) (by decide) hb
    by_cases hc : 1 ≤ y ∧ y ≤ 40
    · obtain ⟨j, h1, h2, rfl⟩ := nat_in2 (m := 1) (n := 40) (by decide) rfl (by decide) (by decide) hc
      exact h_untoken B _ _ hx1 hx2 (w_untoken X.l G.Z G.cL o f hZ ho p j hp h1 h2) rfl rfl ⟨(Nat.le_of_ble_eq_true rfl), (Nat.le_of_ble_eq_true rfl)⟩ (r_X8_untoken X.l G (AM G X.s.heap.size o) M p hp (nI j) hc hM) ⟨_, _, _, _, rfl, gL_law_X8_untoken, rfl, rfl, (by decide +kernel), ⟨(Nat.le_of_ble_eq_true rfl), (Nat.le_of_ble_eq_true rfl)⟩⟩ (Nat.le_of_ble_eq_true rfl) (Nat.le_of_ble_eq_true rfl) (fun _ => by rw [fr_untoken])
    · exact h_untoken B _ _ hx1 hx2 (w_untoken_t X.l G.Z G.cL o f hZ ho hfl p hp y hc) rfl rfl ⟨(Nat.le_of_ble_eq_true rfl), (Nat.le_of_ble_eq_true rfl)⟩ (r_X8_untoken_t X.l G (AM G X.s.heap.size o) M p hp y hc hM) ⟨_, _, _, _, rfl, gL_law_X8_untoken, rfl, rfl, (by decide +kernel), ⟨(Nat.le_of_ble_eq_true rfl), (Nat.le_of_ble_eq_true rfl)⟩⟩ (Nat.le_of_ble_eq_true rfl) (Nat.le_of_ble_eq_true rfl) (fun h9 => absurd h9 (by decide))
  · exact h_untoken B _ _ hx1 hx2 (w_untoken_b X.l G.Z G.cL o f hZ ho hfl x hb y) rfl rfl ⟨(Nat.le_of_ble_eq_true rfl), (Nat.le_of_ble_eq_true rfl)⟩ (r_X8_untoken_b X.l G (AM G X.s.heap.size o) M x hb y hM) ⟨_, _, _, _, rfl, gL_law_X8_untoken, rfl, rfl, (by decide +kernel), ⟨(Nat.le_of_ble_eq_true rfl), (Nat.le_of_ble_eq_true rfl)⟩⟩ (Nat.le_of_ble_eq_true rfl) (Nat.le_of_ble_eq_true rfl) (fun h9 => absurd h9 (by decide))
set_option maxHeartbeats 4000000 in
theorem c_ofProgram {X : Cx} {G : RG} {o n1 b mo ka ta : Nat} {xs : Nat → Int32} {M : Wl} {f : Nat → Int64} (B : BX X G o n1 b mo ka ta xs M) (x y : Int32) (hx1 : xs 1 = x) (hx2 : xs 2 = y) : J (X.at 92 2484) 9 (LPc G X.s.heap.size o n1 (WL G.Z tok0 ties0) f M) 284 [some (.ref b), some (.ref (G.Z.ad 0)), some (.ref mo), some (.ref o), some (.int 0), none, none, none, none] [] := by
  have hM := B.2.2.2.2
  have hZ := B.1.2.2.2.2.2.2.1
  have ho := B.1.2.2.2.2.2.2.2.1
  have hfl := B.1.2.2.2.2.2.2.2.2.2
  by_cases hb : 0 ≤ x ∧ x ≤ 9
  · obtain ⟨p, hp, rfl⟩ := nat_in (n := 9) (by decide) hb
    by_cases hc : 0 ≤ y ∧ y ≤ 3
    · obtain ⟨j, hj, rfl⟩ := nat_in (n := 3) (by decide) hc
      exact h_ofProgram B _ _ hx1 hx2 (w_ofProgram X.l G.Z G.cL o f hZ ho p j hp (by omega)) rfl rfl ⟨(Nat.le_of_ble_eq_true rfl), (Nat.le_of_ble_eq_true rfl)⟩ (r_X8_ofProgram X.l G (AM G X.s.heap.size o) M p hp j hj hM) ⟨_, _, _, _, rfl, gL_lawb_X8_ofProgram, rfl, rfl, (by decide +kernel), ⟨(Nat.le_of_ble_eq_true rfl), (Nat.le_of_ble_eq_true rfl)⟩⟩ (Nat.le_of_ble_eq_true rfl) (Nat.le_of_ble_eq_true rfl) (fun _ => by rw [fr_prog p hp j hj])
    · exact h_ofProgram B _ _ hx1 hx2 (w_ofProgram_t X.l G.Z G.cL o f hZ ho hfl p hp y hc) rfl rfl ⟨(Nat.le_of_ble_eq_true rfl), (Nat.le_of_ble_eq_true rfl)⟩ (r_X8_ofProgram_t X.l G (AM G X.s.heap.size o) M p hp y hc hM) ⟨_, _, _, _, rfl, gL_lawb_X8_ofProgram, rfl, rfl, (by decide +kernel), ⟨(Nat.le_of_ble_eq_true rfl), (Nat.le_of_ble_eq_true rfl)⟩⟩ (Nat.le_of_ble_eq_true rfl) (Nat.le_of_ble_eq_true rfl) (fun h9 => absurd h9 (by decide))
  · exact h_ofProgram B _ _ hx1 hx2 (w_ofProgram_b X.l G.Z G.cL o f hZ ho hfl x hb y) rfl rfl ⟨(Nat.le_of_ble_eq_true rfl), (Nat.le_of_ble_eq_true rfl)⟩ (r_X8_ofProgram_b X.l G (AM G X.s.heap.size o) M x hb y hM) ⟨_, _, _, _, rfl, gL_lawb_X8_ofProgram, rfl, rfl, (by decide +kernel), ⟨(Nat.le_of_ble_eq_true rfl), (Nat.le_of_ble_eq_true rfl)⟩⟩ (Nat.le_of_ble_eq_true rfl) (Nat.le_of_ble_eq_true rfl) (fun h9 => absurd h9 (by decide))
set_option maxHeartbeats 4000000 in
theorem c_number {X : Cx} {G : RG} {o n1 b mo ka ta : Nat} {xs : Nat → Int32} {M : Wl} {f : Nat → Int64} (B : BX X G o n1 b mo ka ta xs M) (x y : Int32) (hx1 : xs 1 = x) (hx2 : xs 2 = y) : J (X.at 92 2484) 9 (LPc G X.s.heap.size o n1 (WL G.Z tok0 ties0) f M) 352 [some (.ref b), some (.ref (G.Z.ad 0)), some (.ref mo), some (.ref o), some (.int 0), none, none, none, none] [] := by
  have hM := B.2.2.2.2
  have hZ := B.1.2.2.2.2.2.2.1
  have ho := B.1.2.2.2.2.2.2.2.1
  have hfl := B.1.2.2.2.2.2.2.2.2.2
  by_cases hb : 0 ≤ x ∧ x ≤ 9
  · obtain ⟨p, hp, rfl⟩ := nat_in (n := 9) (by decide) hb
    exact h_number B _ _ hx1 hx2 (w_number X.l G.Z G.cL o f hZ ho hfl p hp y) rfl rfl ⟨(Nat.le_of_ble_eq_true rfl), (Nat.le_of_ble_eq_true rfl)⟩ (r_X8_number X.l G (AM G X.s.heap.size o) M p hp y hM) ⟨_, _, _, _, rfl, gL_lawb_X8_number, rfl, rfl, (by decide +kernel), ⟨(Nat.le_of_ble_eq_true rfl), (Nat.le_of_ble_eq_true rfl)⟩⟩ (Nat.le_of_ble_eq_true rfl) (Nat.le_of_ble_eq_true rfl) (fun h9 => absurd h9 (by decide))
  · exact h_number B _ _ hx1 hx2 (w_number_b X.l G.Z G.cL o f hZ ho hfl x hb y) rfl rfl ⟨(Nat.le_of_ble_eq_true rfl), (Nat.le_of_ble_eq_true rfl)⟩ (r_X8_number_b X.l G (AM G X.s.heap.size o) M x hb y hM) ⟨_, _, _, _, rfl, gL_lawb_X8_number, rfl, rfl, (by decide +kernel), ⟨(Nat.le_of_ble_eq_true rfl), (Nat.le_of_ble_eq_true rfl)⟩⟩ (Nat.le_of_ble_eq_true rfl) (Nat.le_of_ble_eq_true rfl) (fun h9 => absurd h9 (by decide))
set_option maxHeartbeats 4000000 in
theorem c_period {X : Cx} {G : RG} {o n1 b mo ka ta : Nat} {xs : Nat → Int32} {M : Wl} {f : Nat → Int64} (B : BX X G o n1 b mo ka ta xs M) (x : Int32) (hx1 : xs 1 = x) : J (X.at 92 2484) 9 (LPc G X.s.heap.size o n1 (WL G.Z tok0 ties0) f M) 420 [some (.ref b), some (.ref (G.Z.ad 0)), some (.ref mo), some (.ref o), some (.int 0), none, none, none, none] [] := by
  have hM := B.2.2.2.2
  have hZ := B.1.2.2.2.2.2.2.1
  have ho := B.1.2.2.2.2.2.2.2.1
  have hfl := B.1.2.2.2.2.2.2.2.2.2
  by_cases hb : 0 ≤ x ∧ x ≤ 9
  · obtain ⟨p, hp, rfl⟩ := nat_in (n := 9) (by decide) hb
    exact h_period B _ hx1 (w_period X.l G.Z G.cL o f hZ ho p hp) rfl rfl ⟨(Nat.le_of_ble_eq_true rfl), (Nat.le_of_ble_eq_true rfl)⟩ (r_X8_period X.l G (AM G X.s.heap.size o) M p hp hM) ⟨_, _, _, _, rfl, gL_lawb_X8_period, rfl, rfl, (by decide +kernel), ⟨(Nat.le_of_ble_eq_true rfl), (Nat.le_of_ble_eq_true rfl)⟩⟩ (Nat.le_of_ble_eq_true rfl) (Nat.le_of_ble_eq_true rfl) (fun _ => by rw [fr_period p hp])
  · exact h_period B _ hx1 (w_period_b X.l G.Z G.cL o f hZ ho hfl x hb) rfl rfl ⟨(Nat.le_of_ble_eq_true rfl), (Nat.le_of_ble_eq_true rfl)⟩ (r_X8_period_b X.l G (AM G X.s.heap.size o) M x hb hM) ⟨_, _, _, _, rfl, gL_lawb_X8_period, rfl, rfl, (by decide +kernel), ⟨(Nat.le_of_ble_eq_true rfl), (Nat.le_of_ble_eq_true rfl)⟩⟩ (Nat.le_of_ble_eq_true rfl) (Nat.le_of_ble_eq_true rfl) (fun h9 => absurd h9 (by decide))
set_option maxHeartbeats 4000000 in
theorem c_tie {X : Cx} {G : RG} {o n1 b mo ka ta : Nat} {xs : Nat → Int32} {M : Wl} {f : Nat → Int64} (B : BX X G o n1 b mo ka ta xs M) (x y : Int32) (hx1 : xs 1 = x) (hx2 : xs 2 = y) : J (X.at 92 2484) 9 (LPc G X.s.heap.size o n1 (WL G.Z tok0 ties0) f M) 476 [some (.ref b), some (.ref (G.Z.ad 0)), some (.ref mo), some (.ref o), some (.int 0), none, none, none, none] [] := by
  have hM := B.2.2.2.2
  have hZ := B.1.2.2.2.2.2.2.1
  have ho := B.1.2.2.2.2.2.2.2.1
  have hfl := B.1.2.2.2.2.2.2.2.2.2
  by_cases hb : 0 ≤ x ∧ x ≤ 7
  · obtain ⟨p, hp, rfl⟩ := nat_in (n := 7) (by decide) hb
    by_cases hc : 0 ≤ y ∧ y ≤ 255
    · obtain ⟨j, hj, rfl⟩ := nat_in (n := 255) (by decide) hc
      exact h_tie B _ _ hx1 hx2 (w_tie X.l G.Z G.cL o f hZ ho p j hp hj) rfl rfl ⟨(Nat.le_of_ble_eq_true rfl), (Nat.le_of_ble_eq_true rfl)⟩ (r_X8_tie X.l G (AM G X.s.heap.size o) M p hp (nI j) hc hM) ⟨_, _, _, _, rfl, gL_law_X8_tie, rfl, rfl, (by decide +kernel), ⟨(Nat.le_of_ble_eq_true rfl), (Nat.le_of_ble_eq_true rfl)⟩⟩ (Nat.le_of_ble_eq_true rfl) (Nat.le_of_ble_eq_true rfl) (fun _ => by rw [fr_tie p hp])
    · exact h_tie B _ _ hx1 hx2 (w_tie_t X.l G.Z G.cL o f hZ ho hfl p hp y hc) rfl rfl ⟨(Nat.le_of_ble_eq_true rfl), (Nat.le_of_ble_eq_true rfl)⟩ (r_X8_tie_t X.l G (AM G X.s.heap.size o) M p hp y hc hM) ⟨_, _, _, _, rfl, gL_law_X8_tie, rfl, rfl, (by decide +kernel), ⟨(Nat.le_of_ble_eq_true rfl), (Nat.le_of_ble_eq_true rfl)⟩⟩ (Nat.le_of_ble_eq_true rfl) (Nat.le_of_ble_eq_true rfl) (fun h9 => absurd h9 (by decide))
  · exact h_tie B _ _ hx1 hx2 (w_tie_b X.l G.Z G.cL o f hZ ho hfl x hb y) rfl rfl ⟨(Nat.le_of_ble_eq_true rfl), (Nat.le_of_ble_eq_true rfl)⟩ (r_X8_tie_b X.l G (AM G X.s.heap.size o) M x hb y hM) ⟨_, _, _, _, rfl, gL_law_X8_tie, rfl, rfl, (by decide +kernel), ⟨(Nat.le_of_ble_eq_true rfl), (Nat.le_of_ble_eq_true rfl)⟩⟩ (Nat.le_of_ble_eq_true rfl) (Nat.le_of_ble_eq_true rfl) (fun h9 => absurd h9 (by decide))
set_option maxHeartbeats 4000000 in
theorem c_tied {X : Cx} {G : RG} {o n1 b mo ka ta : Nat} {xs : Nat → Int32} {M : Wl} {f : Nat → Int64} (B : BX X G o n1 b mo ka ta xs M) (x : Int32) (hx1 : xs 1 = x) : J (X.at 92 2484) 9 (LPc G X.s.heap.size o n1 (WL G.Z tok0 ties0) f M) 544 [some (.ref b), some (.ref (G.Z.ad 0)), some (.ref mo), some (.ref o), some (.int 0), none, none, none, none] [] := by
  have hM := B.2.2.2.2
  have hZ := B.1.2.2.2.2.2.2.1
  have ho := B.1.2.2.2.2.2.2.2.1
  have hfl := B.1.2.2.2.2.2.2.2.2.2
  by_cases hb : 0 ≤ x ∧ x ≤ 7
  · obtain ⟨p, hp, rfl⟩ := nat_in (n := 7) (by decide) hb
    exact h_tied B _ hx1 (w_tied X.l G.Z G.cL o f hZ ho p hp) rfl rfl ⟨(Nat.le_of_ble_eq_true rfl), (Nat.le_of_ble_eq_true rfl)⟩ (r_X8_tied X.l G (AM G X.s.heap.size o) M p hp hM) ⟨_, _, _, _, rfl, gL_law_X8_tied, rfl, rfl, (by decide +kernel), ⟨(Nat.le_of_ble_eq_true rfl), (Nat.le_of_ble_eq_true rfl)⟩⟩ (Nat.le_of_ble_eq_true rfl) (Nat.le_of_ble_eq_true rfl) (fun _ => by rw [fr_tie p hp])
  · exact h_tied B _ hx1 (w_tied_b X.l G.Z G.cL o f hZ ho hfl x hb) rfl rfl ⟨(Nat.le_of_ble_eq_true rfl), (Nat.le_of_ble_eq_true rfl)⟩ (r_X8_tied_b X.l G (AM G X.s.heap.size o) M x hb hM) ⟨_, _, _, _, rfl, gL_law_X8_tied, rfl, rfl, (by decide +kernel), ⟨(Nat.le_of_ble_eq_true rfl), (Nat.le_of_ble_eq_true rfl)⟩⟩ (Nat.le_of_ble_eq_true rfl) (Nat.le_of_ble_eq_true rfl) (fun h9 => absurd h9 (by decide))
set_option maxHeartbeats 4000000 in
theorem c_twill {X : Cx} {G : RG} {o n1 b mo ka ta : Nat} {xs : Nat → Int32} {M : Wl} {f : Nat → Int64} (B : BX X G o n1 b mo ka ta xs M) (x y : Int32) (hx1 : xs 1 = x) (hx2 : xs 2 = y) : J (X.at 92 2484) 9 (LPc G X.s.heap.size o n1 (WL G.Z tok0 ties0) f M) 600 [some (.ref b), some (.ref (G.Z.ad 0)), some (.ref mo), some (.ref o), some (.int 0), none, none, none, none] [] := by
  have hM := B.2.2.2.2
  have hZ := B.1.2.2.2.2.2.2.1
  have ho := B.1.2.2.2.2.2.2.2.1
  have hfl := B.1.2.2.2.2.2.2.2.2.2
  by_cases hb : 2 ≤ x ∧ x ≤ 8
  · by_cases hc : 1 ≤ y ∧ y ≤ x
    · obtain ⟨p, hp2, hp8, rfl⟩ := nat_in2 (m := 2) (n := 8) (by decide) rfl (by decide) (by decide) hb
      obtain ⟨j, hj1, hj2, rfl⟩ := nat_in2 (m := 1) (n := p) (by omega) rfl (nI_toInt (by omega)) (by omega) hc
      exact h_twill B _ _ hx1 hx2 (w_twill X.l G.Z G.cL o f hZ ho p j hp2 hp8 hj1 hj2) rfl rfl ⟨(Nat.le_of_ble_eq_true rfl), (Nat.le_of_ble_eq_true rfl)⟩ (r_X8_twill X.l G (AM G X.s.heap.size o) M p j hp2 hp8 hj1 hj2 hM) ⟨_, _, _, _, rfl, gL_law_X8_twill, rfl, rfl, (by decide +kernel), ⟨(Nat.le_of_ble_eq_true rfl), (Nat.le_of_ble_eq_true rfl)⟩⟩ (Nat.le_of_ble_eq_true rfl) (Nat.le_of_ble_eq_true rfl) (fun _ => by rw [fr_twill p (by omega) j (by omega)])
    · exact h_twill B _ _ hx1 hx2 (w_twill_u X.l G.Z G.cL o f hZ ho hfl x y hb hc) rfl rfl ⟨(Nat.le_of_ble_eq_true rfl), (Nat.le_of_ble_eq_true rfl)⟩ (r_X8_twill_u X.l G (AM G X.s.heap.size o) M x y hb hc hM) ⟨_, _, _, _, rfl, gL_law_X8_twill, rfl, rfl, (by decide +kernel), ⟨(Nat.le_of_ble_eq_true rfl), (Nat.le_of_ble_eq_true rfl)⟩⟩ (Nat.le_of_ble_eq_true rfl) (Nat.le_of_ble_eq_true rfl) (fun h9 => absurd h9 (by decide))
  · exact h_twill B _ _ hx1 hx2 (w_twill_n X.l G.Z G.cL o f hZ ho hfl x y hb) rfl rfl ⟨(Nat.le_of_ble_eq_true rfl), (Nat.le_of_ble_eq_true rfl)⟩ (r_X8_twill_n X.l G (AM G X.s.heap.size o) M x y hb hM) ⟨_, _, _, _, rfl, gL_law_X8_twill, rfl, rfl, (by decide +kernel), ⟨(Nat.le_of_ble_eq_true rfl), (Nat.le_of_ble_eq_true rfl)⟩⟩ (Nat.le_of_ble_eq_true rfl) (Nat.le_of_ble_eq_true rfl) (fun h9 => absurd h9 (by decide))
set_option maxHeartbeats 4000000 in
theorem c_swap {X : Cx} {G : RG} {o n1 b mo ka ta : Nat} {xs : Nat → Int32} {M : Wl} {f : Nat → Int64} (B : BX X G o n1 b mo ka ta xs M) (x y : Int32) (hx1 : xs 1 = x) (hx2 : xs 2 = y) : J (X.at 92 2484) 9 (LPc G X.s.heap.size o n1 (WL G.Z tok0 ties0) f M) 668 [some (.ref b), some (.ref (G.Z.ad 0)), some (.ref mo), some (.ref o), some (.int 0), none, none, none, none] [] := by
  have hM := B.2.2.2.2
  have hZ := B.1.2.2.2.2.2.2.1
  have ho := B.1.2.2.2.2.2.2.2.1
  have hfl := B.1.2.2.2.2.2.2.2.2.2
  by_cases hb : 0 ≤ x ∧ x ≤ 7
  · obtain ⟨p, hp, rfl⟩ := nat_in (n := 7) (by decide) hb
    by_cases hc : 0 ≤ y ∧ y ≤ 7
    · obtain ⟨j, hj, rfl⟩ := nat_in (n := 7) (by decide) hc
      exact h_swap B _ _ hx1 hx2 (w_swap X.l G.Z G.cL o f hZ ho p j hp hj) rfl rfl ⟨(Nat.le_of_ble_eq_true rfl), (Nat.le_of_ble_eq_true rfl)⟩ (r_X8_swap X.l G (AM G X.s.heap.size o) M p j hp hj hM) ⟨_, _, _, _, rfl, gL_law_X8_swap, rfl, rfl, (by decide +kernel), ⟨(Nat.le_of_ble_eq_true rfl), (Nat.le_of_ble_eq_true rfl)⟩⟩ (Nat.le_of_ble_eq_true rfl) (Nat.le_of_ble_eq_true rfl) (fun _ => by rw [fr_swap p hp j hj])
    · exact h_swap B _ _ hx1 hx2 (w_swap_c X.l G.Z G.cL o f hZ ho hfl p hp y hc) rfl rfl ⟨(Nat.le_of_ble_eq_true rfl), (Nat.le_of_ble_eq_true rfl)⟩ (r_X8_swap_c X.l G (AM G X.s.heap.size o) M (nI p) y (fun h9 => h9 hb) hc hM) ⟨_, _, _, _, rfl, gL_law_X8_swap, rfl, rfl, (by decide +kernel), ⟨(Nat.le_of_ble_eq_true rfl), (Nat.le_of_ble_eq_true rfl)⟩⟩ (Nat.le_of_ble_eq_true rfl) (Nat.le_of_ble_eq_true rfl) (fun h9 => absurd h9 (by decide))
  · exact h_swap B _ _ hx1 hx2 (w_swap_b X.l G.Z G.cL o f hZ ho hfl x hb y) rfl rfl ⟨(Nat.le_of_ble_eq_true rfl), (Nat.le_of_ble_eq_true rfl)⟩ (r_X8_swap_b X.l G (AM G X.s.heap.size o) M x hb y hM) ⟨_, _, _, _, rfl, gL_law_X8_swap, rfl, rfl, (by decide +kernel), ⟨(Nat.le_of_ble_eq_true rfl), (Nat.le_of_ble_eq_true rfl)⟩⟩ (Nat.le_of_ble_eq_true rfl) (Nat.le_of_ble_eq_true rfl) (fun h9 => absurd h9 (by decide))
set_option maxHeartbeats 4000000 in
theorem c_cloth {X : Cx} {G : RG} {o n1 b mo ka ta : Nat} {xs : Nat → Int32} {M : Wl} {f : Nat → Int64} (B : BX X G o n1 b mo ka ta xs M) (x : Int32) (hx1 : xs 1 = x) : J (X.at 92 2484) 9 (LPc G X.s.heap.size o n1 (WL G.Z tok0 ties0) f M) 736 [some (.ref b), some (.ref (G.Z.ad 0)), some (.ref mo), some (.ref o), some (.int 0), none, none, none, none] [] := by
  have hM := B.2.2.2.2
  have hZ := B.1.2.2.2.2.2.2.1
  have ho := B.1.2.2.2.2.2.2.2.1
  have hfl := B.1.2.2.2.2.2.2.2.2.2
  by_cases hb : 0 ≤ x ∧ x ≤ 9
  · obtain ⟨p, hp, rfl⟩ := nat_in (n := 9) (by decide) hb
    exact h_cloth B _ hx1 (w_cloth X.l G.Z G.cL o f hZ ho p (by omega)) rfl rfl ⟨(Nat.le_of_ble_eq_true rfl), (Nat.le_of_ble_eq_true rfl)⟩ (r_X8_cloth__ X.l G (AM G X.s.heap.size o) M p hp hM) ⟨_, _, _, _, rfl, gL_lawb_X8_cloth__, rfl, rfl, (by decide +kernel), ⟨(Nat.le_of_ble_eq_true rfl), (Nat.le_of_ble_eq_true rfl)⟩⟩ (Nat.le_of_ble_eq_true rfl) (Nat.le_of_ble_eq_true rfl) (fun _ => by rw [fr_cloth p hp])
  · exact h_cloth B _ hx1 (w_cloth_b X.l G.Z G.cL o f hZ ho hfl x hb) rfl rfl ⟨(Nat.le_of_ble_eq_true rfl), (Nat.le_of_ble_eq_true rfl)⟩ (r_X8_cloth___b X.l G (AM G X.s.heap.size o) M x hb hM) ⟨_, _, _, _, rfl, gL_lawb_X8_cloth__, rfl, rfl, (by decide +kernel), ⟨(Nat.le_of_ble_eq_true rfl), (Nat.le_of_ble_eq_true rfl)⟩⟩ (Nat.le_of_ble_eq_true rfl) (Nat.le_of_ble_eq_true rfl) (fun h9 => absurd h9 (by decide))
set_option maxHeartbeats 4000000 in
theorem c_field {X : Cx} {G : RG} {o n1 b mo ka ta : Nat} {xs : Nat → Int32} {M : Wl} {f : Nat → Int64} (B : BX X G o n1 b mo ka ta xs M) (x y z : Int32) (hx1 : xs 1 = x) (hx2 : xs 2 = y) (hx3 : xs 3 = z) : J (X.at 92 2484) 9 (LPc G X.s.heap.size o n1 (WL G.Z tok0 ties0) f M) 792 [some (.ref b), some (.ref (G.Z.ad 0)), some (.ref mo), some (.ref o), some (.int 0), none, none, none, none] [] := by
  have hM := B.2.2.2.2
  have hZ := B.1.2.2.2.2.2.2.1
  have ho := B.1.2.2.2.2.2.2.2.1
  have hfl := B.1.2.2.2.2.2.2.2.2.2
  exact h_field B _ _ _ hx1 hx2 hx3 (w_field X.l G.Z G.cL o f hZ ho hfl x y z) rfl rfl ⟨(Nat.le_of_ble_eq_true rfl), (Nat.le_of_ble_eq_true rfl)⟩ (r_X8_field X.l G (AM G X.s.heap.size o) M x y z hM) ⟨_, _, _, _, rfl, gL_lawb_X8_field, rfl, rfl, (by decide +kernel), ⟨(Nat.le_of_ble_eq_true rfl), (Nat.le_of_ble_eq_true rfl)⟩⟩ (Nat.le_of_ble_eq_true rfl) (Nat.le_of_ble_eq_true rfl) (fun h9 => absurd h9 (by decide))
set_option maxHeartbeats 4000000 in
theorem c_floats {X : Cx} {G : RG} {o n1 b mo ka ta : Nat} {xs : Nat → Int32} {M : Wl} {f : Nat → Int64} (B : BX X G o n1 b mo ka ta xs M) (x : Int32) (hx1 : xs 1 = x) : J (X.at 92 2484) 9 (LPc G X.s.heap.size o n1 (WL G.Z tok0 ties0) f M) 872 [some (.ref b), some (.ref (G.Z.ad 0)), some (.ref mo), some (.ref o), some (.int 0), none, none, none, none] [] := by
  have hM := B.2.2.2.2
  have hZ := B.1.2.2.2.2.2.2.1
  have ho := B.1.2.2.2.2.2.2.2.1
  have hfl := B.1.2.2.2.2.2.2.2.2.2
  by_cases hb : 1 ≤ x ∧ x ≤ 32
  · obtain ⟨p, h1, h2, rfl⟩ := nat_in2 (m := 1) (n := 32) (by decide) rfl (by decide) (by decide) hb
    exact h_floats B _ hx1 (w_floats X.l G.Z G.cL o f hZ ho p h1 h2) rfl rfl ⟨(Nat.le_of_ble_eq_true rfl), (Nat.le_of_ble_eq_true rfl)⟩ (r_X8_floats X.l G (AM G X.s.heap.size o) M (nI p) hb hM) ⟨_, _, _, _, rfl, gL_lawb_X8_floats, rfl, rfl, (by decide +kernel), ⟨(Nat.le_of_ble_eq_true rfl), (Nat.le_of_ble_eq_true rfl)⟩⟩ (Nat.le_of_ble_eq_true rfl) (Nat.le_of_ble_eq_true rfl) (fun _ => by rw [fr_floats p (by omega)])
  · exact h_floats B _ hx1 (w_floats_b X.l G.Z G.cL o f hZ ho hfl x hb) rfl rfl ⟨(Nat.le_of_ble_eq_true rfl), (Nat.le_of_ble_eq_true rfl)⟩ (r_X8_floats_b X.l G (AM G X.s.heap.size o) M x hb hM) ⟨_, _, _, _, rfl, gL_lawb_X8_floats, rfl, rfl, (by decide +kernel), ⟨(Nat.le_of_ble_eq_true rfl), (Nat.le_of_ble_eq_true rfl)⟩⟩ (Nat.le_of_ble_eq_true rfl) (Nat.le_of_ble_eq_true rfl) (fun h9 => absurd h9 (by decide))
set_option maxHeartbeats 4000000 in
theorem c_where {X : Cx} {G : RG} {o n1 b mo ka ta : Nat} {xs : Nat → Int32} {M : Wl} {f : Nat → Int64} (B : BX X G o n1 b mo ka ta xs M) (x y : Int32) (hx1 : xs 1 = x) (hx2 : xs 2 = y) : J (X.at 92 2484) 9 (LPc G X.s.heap.size o n1 (WL G.Z tok0 ties0) f M) 928 [some (.ref b), some (.ref (G.Z.ad 0)), some (.ref mo), some (.ref o), some (.int 0), none, none, none, none] [] := by
  have hM := B.2.2.2.2
  have hZ := B.1.2.2.2.2.2.2.1
  have ho := B.1.2.2.2.2.2.2.2.1
  have hfl := B.1.2.2.2.2.2.2.2.2.2
  by_cases hb : 1 ≤ x ∧ x ≤ 32
  · obtain ⟨p, h1, h2, rfl⟩ := nat_in2 (m := 1) (n := 32) (by decide) rfl (by decide) (by decide) hb
    exact h_where B _ _ hx1 hx2 (w_where X.l G.Z G.cL o f hZ ho p h1 h2 (y != 0)) rfl rfl ⟨(Nat.le_of_ble_eq_true rfl), (Nat.le_of_ble_eq_true rfl)⟩ (r_X8_where X.l G (AM G X.s.heap.size o) M (nI p) hb _ hM) ⟨_, _, _, _, rfl, gL_lawb_X8_where, rfl, rfl, (by decide +kernel), ⟨(Nat.le_of_ble_eq_true rfl), (Nat.le_of_ble_eq_true rfl)⟩⟩ (Nat.le_of_ble_eq_true rfl) (Nat.le_of_ble_eq_true rfl) (fun _ => by rw [fr_where p (by omega)])
  · exact h_where B _ _ hx1 hx2 (w_where_b X.l G.Z G.cL o f hZ ho hfl x hb _) rfl rfl ⟨(Nat.le_of_ble_eq_true rfl), (Nat.le_of_ble_eq_true rfl)⟩ (r_X8_where_b X.l G (AM G X.s.heap.size o) M x hb _ hM) ⟨_, _, _, _, rfl, gL_lawb_X8_where, rfl, rfl, (by decide +kernel), ⟨(Nat.le_of_ble_eq_true rfl), (Nat.le_of_ble_eq_true rfl)⟩⟩ (Nat.le_of_ble_eq_true rfl) (Nat.le_of_ble_eq_true rfl) (fun h9 => absurd h9 (by decide))
set_option maxHeartbeats 4000000 in
theorem c_ups {X : Cx} {G : RG} {o n1 b mo ka ta : Nat} {xs : Nat → Int32} {M : Wl} {f : Nat → Int64} (B : BX X G o n1 b mo ka ta xs M) (x y : Int32) (hx1 : xs 1 = x) (hx2 : xs 2 = y) : J (X.at 92 2484) 9 (LPc G X.s.heap.size o n1 (WL G.Z tok0 ties0) f M) 1012 [some (.ref b), some (.ref (G.Z.ad 0)), some (.ref mo), some (.ref o), some (.int 0), none, none, none, none] [] := by
  have hM := B.2.2.2.2
  have hZ := B.1.2.2.2.2.2.2.1
  have ho := B.1.2.2.2.2.2.2.2.1
  have hfl := B.1.2.2.2.2.2.2.2.2.2
  exact h_ups B _ _ hx1 hx2 (w_ups X.l G.Z G.cL o f hZ ho hfl x _) rfl rfl ⟨(Nat.le_of_ble_eq_true rfl), (Nat.le_of_ble_eq_true rfl)⟩ (r_X8_ups X.l G (AM G X.s.heap.size o) M x _ hM) ⟨_, _, _, _, rfl, gL_lawb_X8_ups, rfl, rfl, (by decide +kernel), ⟨(Nat.le_of_ble_eq_true rfl), (Nat.le_of_ble_eq_true rfl)⟩⟩ (Nat.le_of_ble_eq_true rfl) (Nat.le_of_ble_eq_true rfl) (fun h9 => absurd h9 (by decide))
set_option maxHeartbeats 4000000 in
theorem c_seen {X : Cx} {G : RG} {o n1 b mo ka ta : Nat} {xs : Nat → Int32} {M : Wl} {f : Nat → Int64} (B : BX X G o n1 b mo ka ta xs M) (x : Int32) (hx1 : xs 1 = x) : J (X.at 92 2484) 9 (LPc G X.s.heap.size o n1 (WL G.Z tok0 ties0) f M) 1096 [some (.ref b), some (.ref (G.Z.ad 0)), some (.ref mo), some (.ref o), some (.int 0), none, none, none, none] [] := by
  have hM := B.2.2.2.2
  have hZ := B.1.2.2.2.2.2.2.1
  have ho := B.1.2.2.2.2.2.2.2.1
  have hfl := B.1.2.2.2.2.2.2.2.2.2
  by_cases hb : 0 ≤ x ∧ x ≤ 7
  · have hb2 := hb
    obtain ⟨p, hp, rfl⟩ := nat_in (n := 7) (by decide) hb
    exact h_seen B _ hx1 (w_seen X.l G.Z G.cL o f hZ ho p hp) rfl rfl ⟨(Nat.le_of_ble_eq_true rfl), (Nat.le_of_ble_eq_true rfl)⟩ (r_X8_seen X.l G (AM G X.s.heap.size o) M (nI p) (fun h9 => h9 hb2) hM) ⟨_, _, _, _, rfl, gL_lawb_X8_seen, rfl, rfl, (by decide +kernel), ⟨(Nat.le_of_ble_eq_true rfl), (Nat.le_of_ble_eq_true rfl)⟩⟩ (Nat.le_of_ble_eq_true rfl) (Nat.le_of_ble_eq_true rfl) (fun _ => by rw [fr_seen p hp])
  · exact h_seen B _ hx1 (w_seen_b X.l G.Z G.cL o f hZ ho hfl x hb) rfl rfl ⟨(Nat.le_of_ble_eq_true rfl), (Nat.le_of_ble_eq_true rfl)⟩ (r_X8_seen_b X.l G (AM G X.s.heap.size o) M x hb hM) ⟨_, _, _, _, rfl, gL_lawb_X8_seen, rfl, rfl, (by decide +kernel), ⟨(Nat.le_of_ble_eq_true rfl), (Nat.le_of_ble_eq_true rfl)⟩⟩ (Nat.le_of_ble_eq_true rfl) (Nat.le_of_ble_eq_true rfl) (fun h9 => absurd h9 (by decide))
set_option maxHeartbeats 4000000 in
theorem c_floatWith {X : Cx} {G : RG} {o n1 b mo ka ta : Nat} {xs : Nat → Int32} {M : Wl} {f : Nat → Int64} (B : BX X G o n1 b mo ka ta xs M) (x y : Int32) (hx1 : xs 1 = x) (hx2 : xs 2 = y) : J (X.at 92 2484) 9 (LPc G X.s.heap.size o n1 (WL G.Z tok0 ties0) f M) 1288 [some (.ref b), some (.ref (G.Z.ad 0)), some (.ref mo), some (.ref o), some (.int 0), none, none, none, none] [] := by
  have hM := B.2.2.2.2
  have hZ := B.1.2.2.2.2.2.2.1
  have ho := B.1.2.2.2.2.2.2.2.1
  have hfl := B.1.2.2.2.2.2.2.2.2.2
  by_cases hb : 0 ≤ x ∧ x ≤ 7
  · obtain ⟨p, hp, rfl⟩ := nat_in (n := 7) (by decide) hb
    by_cases hc : 0 ≤ y ∧ y ≤ 7
    · obtain ⟨j, hj, rfl⟩ := nat_in (n := 7) (by decide) hc
      exact h_floatWith B _ _ hx1 hx2 (w_floatWith X.l G.Z G.cL o f hZ ho p j hp hj) rfl rfl ⟨(Nat.le_of_ble_eq_true rfl), (Nat.le_of_ble_eq_true rfl)⟩ (r_X8_floatWith X.l G (AM G X.s.heap.size o) M p j hp hj hM) ⟨_, _, _, _, rfl, gL_lawb_X8_floatWith, rfl, rfl, (by decide +kernel), ⟨(Nat.le_of_ble_eq_true rfl), (Nat.le_of_ble_eq_true rfl)⟩⟩ (Nat.le_of_ble_eq_true rfl) (Nat.le_of_ble_eq_true rfl) (fun _ => by rw [fr_longest])
    · exact h_floatWith B _ _ hx1 hx2 (w_floatWith_c X.l G.Z G.cL o f hZ ho hfl p hp y hc) rfl rfl ⟨(Nat.le_of_ble_eq_true rfl), (Nat.le_of_ble_eq_true rfl)⟩ (r_X8_floatWith_c X.l G (AM G X.s.heap.size o) M (nI p) y (fun h9 => h9 hb) hc hM) ⟨_, _, _, _, rfl, gL_lawb_X8_floatWith, rfl, rfl, (by decide +kernel), ⟨(Nat.le_of_ble_eq_true rfl), (Nat.le_of_ble_eq_true rfl)⟩⟩ (Nat.le_of_ble_eq_true rfl) (Nat.le_of_ble_eq_true rfl) (fun h9 => absurd h9 (by decide))
  · exact h_floatWith B _ _ hx1 hx2 (w_floatWith_b X.l G.Z G.cL o f hZ ho hfl x hb y) rfl rfl ⟨(Nat.le_of_ble_eq_true rfl), (Nat.le_of_ble_eq_true rfl)⟩ (r_X8_floatWith_b X.l G (AM G X.s.heap.size o) M x hb y hM) ⟨_, _, _, _, rfl, gL_lawb_X8_floatWith, rfl, rfl, (by decide +kernel), ⟨(Nat.le_of_ble_eq_true rfl), (Nat.le_of_ble_eq_true rfl)⟩⟩ (Nat.le_of_ble_eq_true rfl) (Nat.le_of_ble_eq_true rfl) (fun h9 => absurd h9 (by decide))
set_option maxHeartbeats 4000000 in
theorem c_hangsWith {X : Cx} {G : RG} {o n1 b mo ka ta : Nat} {xs : Nat → Int32} {M : Wl} {f : Nat → Int64} (B : BX X G o n1 b mo ka ta xs M) (x y : Int32) (hx1 : xs 1 = x) (hx2 : xs 2 = y) : J (X.at 92 2484) 9 (LPc G X.s.heap.size o n1 (WL G.Z tok0 ties0) f M) 1356 [some (.ref b), some (.ref (G.Z.ad 0)), some (.ref mo), some (.ref o), some (.int 0), none, none, none, none] [] := by
  have hM := B.2.2.2.2
  have hZ := B.1.2.2.2.2.2.2.1
  have ho := B.1.2.2.2.2.2.2.2.1
  have hfl := B.1.2.2.2.2.2.2.2.2.2
  by_cases hb : 0 ≤ x ∧ x ≤ 7
  · obtain ⟨p, hp, rfl⟩ := nat_in (n := 7) (by decide) hb
    by_cases hc : 0 ≤ y ∧ y ≤ 7
    · obtain ⟨j, hj, rfl⟩ := nat_in (n := 7) (by decide) hc
      exact h_hangsWith B _ _ hx1 hx2 (w_hangsWith X.l G.Z G.cL o f hZ ho p j hp hj) rfl rfl ⟨(Nat.le_of_ble_eq_true rfl), (Nat.le_of_ble_eq_true rfl)⟩ (r_X8_hangsWith X.l G (AM G X.s.heap.size o) M p j hp hj hM) ⟨_, _, _, _, rfl, gL_lawb_X8_hangsWith, rfl, rfl, (by decide +kernel), ⟨(Nat.le_of_ble_eq_true rfl), (Nat.le_of_ble_eq_true rfl)⟩⟩ (Nat.le_of_ble_eq_true rfl) (Nat.le_of_ble_eq_true rfl) (fun _ => rfl)
    · exact h_hangsWith B _ _ hx1 hx2 (w_hangsWith_c X.l G.Z G.cL o f hZ ho hfl p hp y hc) rfl rfl ⟨(Nat.le_of_ble_eq_true rfl), (Nat.le_of_ble_eq_true rfl)⟩ (r_X8_hangsWith_c X.l G (AM G X.s.heap.size o) M (nI p) y (fun h9 => h9 hb) hc hM) ⟨_, _, _, _, rfl, gL_lawb_X8_hangsWith, rfl, rfl, (by decide +kernel), ⟨(Nat.le_of_ble_eq_true rfl), (Nat.le_of_ble_eq_true rfl)⟩⟩ (Nat.le_of_ble_eq_true rfl) (Nat.le_of_ble_eq_true rfl) (fun h9 => absurd h9 (by decide))
  · exact h_hangsWith B _ _ hx1 hx2 (w_hangsWith_b X.l G.Z G.cL o f hZ ho hfl x hb y) rfl rfl ⟨(Nat.le_of_ble_eq_true rfl), (Nat.le_of_ble_eq_true rfl)⟩ (r_X8_hangsWith_b X.l G (AM G X.s.heap.size o) M x hb y hM) ⟨_, _, _, _, rfl, gL_lawb_X8_hangsWith, rfl, rfl, (by decide +kernel), ⟨(Nat.le_of_ble_eq_true rfl), (Nat.le_of_ble_eq_true rfl)⟩⟩ (Nat.le_of_ble_eq_true rfl) (Nat.le_of_ble_eq_true rfl) (fun h9 => absurd h9 (by decide))
set_option maxHeartbeats 4000000 in
theorem c_changedBy {X : Cx} {G : RG} {o n1 b mo ka ta : Nat} {xs : Nat → Int32} {M : Wl} {f : Nat → Int64} (B : BX X G o n1 b mo ka ta xs M) (x y : Int32) (hx1 : xs 1 = x) (hx2 : xs 2 = y) : J (X.at 92 2484) 9 (LPc G X.s.heap.size o n1 (WL G.Z tok0 ties0) f M) 1499 [some (.ref b), some (.ref (G.Z.ad 0)), some (.ref mo), some (.ref o), some (.int 0), none, none, none, none] [] := by
  have hM := B.2.2.2.2
  have hZ := B.1.2.2.2.2.2.2.1
  have ho := B.1.2.2.2.2.2.2.2.1
  have hfl := B.1.2.2.2.2.2.2.2.2.2
  by_cases hb : 0 ≤ x ∧ x ≤ 7
  · obtain ⟨p, hp, rfl⟩ := nat_in (n := 7) (by decide) hb
    by_cases hc : 0 ≤ y ∧ y ≤ 7
    · obtain ⟨j, hj, rfl⟩ := nat_in (n := 7) (by decide) hc
      exact h_changedBy B _ _ hx1 hx2 (w_changedBy X.l G.Z G.cL o f hZ ho p j hp hj) rfl rfl ⟨(Nat.le_of_ble_eq_true rfl), (Nat.le_of_ble_eq_true rfl)⟩ (r_X8_changedBy X.l G (AM G X.s.heap.size o) M p j hp hj hM) ⟨_, _, _, _, rfl, gL_lawb_X8_changedBy, rfl, rfl, (by decide +kernel), ⟨(Nat.le_of_ble_eq_true rfl), (Nat.le_of_ble_eq_true rfl)⟩⟩ (Nat.le_of_ble_eq_true rfl) (Nat.le_of_ble_eq_true rfl) (fun _ => by rw [fr_changed])
    · exact h_changedBy B _ _ hx1 hx2 (w_changedBy_c X.l G.Z G.cL o f hZ ho hfl p hp y hc) rfl rfl ⟨(Nat.le_of_ble_eq_true rfl), (Nat.le_of_ble_eq_true rfl)⟩ (r_X8_changedBy_c X.l G (AM G X.s.heap.size o) M (nI p) y (fun h9 => h9 hb) hc hM) ⟨_, _, _, _, rfl, gL_lawb_X8_changedBy, rfl, rfl, (by decide +kernel), ⟨(Nat.le_of_ble_eq_true rfl), (Nat.le_of_ble_eq_true rfl)⟩⟩ (Nat.le_of_ble_eq_true rfl) (Nat.le_of_ble_eq_true rfl) (fun h9 => absurd h9 (by decide))
  · exact h_changedBy B _ _ hx1 hx2 (w_changedBy_b X.l G.Z G.cL o f hZ ho hfl x hb y) rfl rfl ⟨(Nat.le_of_ble_eq_true rfl), (Nat.le_of_ble_eq_true rfl)⟩ (r_X8_changedBy_b X.l G (AM G X.s.heap.size o) M x hb y hM) ⟨_, _, _, _, rfl, gL_lawb_X8_changedBy, rfl, rfl, (by decide +kernel), ⟨(Nat.le_of_ble_eq_true rfl), (Nat.le_of_ble_eq_true rfl)⟩⟩ (Nat.le_of_ble_eq_true rfl) (Nat.le_of_ble_eq_true rfl) (fun h9 => absurd h9 (by decide))
