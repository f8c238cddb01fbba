set_option maxRecDepth 100000 in
set_option maxHeartbeats 4000000 in
theorem r_X7_numbers (l : Launch) (G : RG) (A : Nat → Prop) (M : Wl) {a q1 q2 q3 q4 mo : Nat} {p : Int32} (h0 : (a, .inr (7, [.int p, .ref q1, .int 0, .int (-1), .ref mo])) ∈ M) (h1 : (q1, .inr (10, [.int 1, .ref q2, .int 1])) ∈ M) (h2 : (q2, .inl (G.cO, 10, .inr (.inr (.inr (.inr (va_up (fun _ => none) 0 (some q3))))))) ∈ M) (h3 : (q3, .inr (6, [.ref q4])) ∈ M) (h4 : (q4, .inr (10, [.int 0, .ref G.e0, .int 0])) ∈ M) : Kr l G A yX7_numbers wsX7_numbers { frames := 3, cells := 1, slots := 0, locals := 64 } M [.ref a] (Gr G A (fun v N => (v, (.inl (G.Z.cI, 0, .inl (fun _ => 0)) : va_E)) ∈ N ∧ Kp M [] N ∧ ∀ (b : Nat) (x : va_E), (b, x) ∈ M → b ≠ v)) 1 0 := by
  refine Kr.of (cc := cX7_numbers) (maxL := 1) (ret := (some (.array .int))) (by decide) rfl (Nat.le_of_ble_eq_true rfl) ?_
  intro X hXl S hRT hIN hXA hQ hD
  subst hXl
  subst hXA
  show J (X.at 0 0) 1 (PL G.Z X.A M) 0 [some (.ref a)] []
  have F0 := S.1.at 0 0 (Nat.le_of_ble_eq_true rfl) (Nat.le_of_ble_eq_true rfl)
  have hOR := S.2.1.or
  refine j_aload_n F0 dX7_numbers_0 rfl ?_
  refine m_get S (C := RX7) (T := TX7) (N := 5) (by decide +kernel) h0 rfl (v := .int 0) 2 (by decide) (by decide +kernel) (fun _ h9 => h9) rfl dX7_numbers_1 ?_
  refine j_if_le F0 13 dX7_numbers_4 (by decide) (fun _ => ?_) (fun h9 => absurd (by decide) h9)
  refine j_aload_n F0 dX7_numbers_13 rfl ?_
  refine m_get S (C := RX7) (T := TX7) (N := 5) (by decide +kernel) h0 rfl (v := .ref q1) 1 (by decide) (by decide +kernel) (fun _ h9 => h9) rfl dX7_numbers_14 ?_
  refine j_iconst F0 0 dX7_numbers_17 (by decide) ?_
  refine m_cVr S (n1 := 1) (rest := []) (r_Jx4a65c_get_915e3 X.l G X.A M 0 q3 (by decide) (by decide) (by unfold vp_in; decide) (by simp [va_up]) h1 h2) ⟨_, _, _, _, rfl, gX7_numbers_Jx4a65c_get_915e3, rfl, rfl, (by decide +kernel), ⟨(Nat.le_of_ble_eq_true rfl), (Nat.le_of_ble_eq_true rfl)⟩⟩ h1 rfl rfl (Nat.le_of_ble_eq_true rfl) (Nat.le_of_ble_eq_true rfl) (Nat.le_of_ble_eq_true rfl) rfl dX7_numbers_18 (fun v1 M2 hD3 hp4 => ?_)
  obtain ⟨hp4a, hp4b⟩ := hp4
  subst hp4a
  subst hp4b
  refine m_cast S (C := RX6) h3 rfl (by decide +kernel) dX7_numbers_21 ?_
  refine m_cVr S (n1 := 0) (rest := []) (r_X6_all X.l G X.A M h3 h4) ⟨_, _, _, _, rfl, gX7_numbers_X6_all, rfl, rfl, (by decide +kernel), ⟨(Nat.le_of_ble_eq_true rfl), (Nat.le_of_ble_eq_true rfl)⟩⟩ h3 rfl rfl (Nat.le_of_ble_eq_true rfl) (Nat.le_of_ble_eq_true rfl) (Nat.le_of_ble_eq_true rfl) rfl dX7_numbers_24 (fun v5 M6 hD7 hp8 => ?_)
  obtain ⟨hp8a, hp8k, hp8f⟩ := hp8
  have n9 := hp8f _ _ h0
  have n10 := hp8f _ _ h1
  have n11 := hp8f _ _ h2
  have n12 := hp8f _ _ h3
  have n13 := hp8f _ _ h4
  have n14 : a ∉ ([] : List Nat) := List.not_mem_nil
  have n15 : q1 ∉ ([] : List Nat) := List.not_mem_nil
  have n16 : q2 ∉ ([] : List Nat) := List.not_mem_nil
  have n17 : q3 ∉ ([] : List Nat) := List.not_mem_nil
  have n18 : q4 ∉ ([] : List Nat) := List.not_mem_nil
  have h0 := hp8k _ _ n14 h0
  have h1 := hp8k _ _ n15 h1
  have h2 := hp8k _ _ n16 h2
  have h3 := hp8k _ _ n17 h3
  have h4 := hp8k _ _ n18 h4
  have h19 : (v5, (.inl (G.Z.cI, 0, .inl (fun _ => 0)) : va_E)) ∈ M6 := hp8a
  have F20 := S.1.at 1 0 (Nat.le_of_ble_eq_true rfl) (Nat.le_of_ble_eq_true rfl)
  have hKp : Kp M [] M6 := by
    intro b x hb hx
    have n21 := hp8f _ _ hx
    have n22 : b ∉ ([] : List Nat) := List.not_mem_nil
    have hx := hp8k b x n22 hx
    exact hx
  exact m_areturn S hRT (by first | exact Or.inl ⟨_, rfl⟩ | exact Or.inr ⟨_, rfl⟩) rfl hQ (Nat.le_of_ble_eq_true rfl) (Nat.le_of_ble_eq_true rfl) dX7_numbers_27 ⟨h19, hKp, hp8f⟩

set_option maxRecDepth 100000 in
set_option maxHeartbeats 4000000 in
theorem r_X8_row (l : Launch) (G : RG) (A : Nat → Prop) (M : Wl) {mo ka ta : Nat} {tv : Int32} (p : Nat) (hp : p < 10) (hM : Mo G mo ka ta tv M) : Kr l G A yX8_row wsX8_row { frames := 7, cells := 6, slots := 22, locals := 153 } M [.ref mo, .int (nI p)] (Gr G A (fun v N => Mo G mo ka ta tv N ∧ Kp M [mo, ka] N ∧ (v, (.inl (G.Z.cI, 0, .inl (fun _ => 0)) : va_E)) ∈ N)) 6 22 := by
  refine Kr.of (cc := cX8_row) (maxL := 2) (ret := (some (.array .int))) (by decide) rfl (Nat.le_of_ble_eq_true rfl) ?_
  intro X hXl S hRT hIN hXA hQ hD
  subst hXl
  subst hXA
  show J (X.at 0 0) 2 (PL G.Z X.A M) 0 [some (.ref mo), some (.int (nI p))] []
  have F0 := S.1.at 0 0 (Nat.le_of_ble_eq_true rfl) (Nat.le_of_ble_eq_true rfl)
  have hOR := S.2.1.or
  obtain ⟨pl1, pe1, f1, kn1, tf1, o1_0, o1_1, o1_2, o1_3, o1_4, o1_5, o1_6, o1_7⟩ := id hM
  have h2 : (mo, (.inr (8, [.int tv, .ref pl1, .ref ka, .ref ta]) : va_E)) ∈ M := o1_0
  have h3 : (pl1, (.inr (10, [.int 10, .ref pe1, .int 10]) : va_E)) ∈ M := o1_1
  have h4 : (pe1, (.inl (G.cO, 10, .inr (.inr (.inr (.inr f1)))) : va_E)) ∈ M := o1_2
  have h5 : (ta, (.inl (G.Z.cI, 8, .inl tf1) : va_E)) ∈ M := o1_4
  have h6 : (ka, (.inl (G.cR, 10, .inr (.inr (.inr (.inr kn1)))) : va_E)) ∈ M := o1_6
  have hDo7 := hD
  refine j_aload_n F0 dX8_row_0 rfl ?_
  refine j_iload_n F0 dX8_row_1 rfl ?_
  have hKm9 : Kp M [] M := by
    intro b x hb hx
    exact hx
  have hMo8 := Mo.mono hM hKm9
  refine m_cVr S (n1 := 1) (rest := []) (r_X8_reading X.l G X.A M p hp hMo8) ⟨_, _, _, _, rfl, gX8_row_X8_reading, rfl, rfl, (by decide +kernel), ⟨(Nat.le_of_ble_eq_true rfl), (Nat.le_of_ble_eq_true rfl)⟩⟩ h2 rfl rfl (Nat.le_of_ble_eq_true rfl) (Nat.le_of_ble_eq_true rfl) (Nat.le_of_ble_eq_true rfl) rfl dX8_row_2 (fun v10 M11 hD12 hp13 => ?_)
  obtain ⟨hp13m, hp13k, hp13a⟩ := hp13
  obtain ⟨pl14, pe14, f14, kn14, tf14, o14_0, o14_1, o14_2, o14_3, o14_4, o14_5, o14_6, o14_7⟩ := id hp13m
  have h15 : (mo, (.inr (8, [.int tv, .ref pl14, .ref ka, .ref ta]) : va_E)) ∈ M11 := o14_0
  have h16 : (pl14, (.inr (10, [.int 10, .ref pe14, .int 10]) : va_E)) ∈ M11 := o14_1
  have h17 : (pe14, (.inl (G.cO, 10, .inr (.inr (.inr (.inr f14)))) : va_E)) ∈ M11 := o14_2
  have h18 : (ta, (.inl (G.Z.cI, 8, .inl tf14) : va_E)) ∈ M11 := o14_4
  have h19 : (ka, (.inl (G.cR, 10, .inr (.inr (.inr (.inr kn14)))) : va_E)) ∈ M11 := o14_6
  have hDo20 := hD12
  obtain ⟨q211, q212, q213, q214, q21a, q21b, q21c, q21d, q21e⟩ := hp13a
  have h22 : (v10, (.inr (7, [.int (nI p), .ref q211, .int 0, .int (-1), .ref mo]) : va_E)) ∈ M11 := q21a
  have h23 : (q211, (.inr (10, [.int 1, .ref q212, .int 1]) : va_E)) ∈ M11 := q21b
  have h24 : (q212, (.inl (G.cO, 10, .inr (.inr (.inr (.inr (va_up (fun _ => none) 0 (some q213)))))) : va_E)) ∈ M11 := q21c
  have h25 : (q213, (.inr (6, [.ref q214]) : va_E)) ∈ M11 := q21d
  have h26 : (q214, (.inr (10, [.int 0, .ref G.e0, .int 0]) : va_E)) ∈ M11 := q21e
  have F27 := S.1.at 5 22 (Nat.le_of_ble_eq_true rfl) (Nat.le_of_ble_eq_true rfl)
  refine m_cVr S (n1 := 0) (rest := []) (r_X7_numbers X.l G X.A M11 h22 h23 h24 h25 h26) ⟨_, _, _, _, rfl, gX8_row_X7_numbers, rfl, rfl, (by decide +kernel), ⟨(Nat.le_of_ble_eq_true rfl), (Nat.le_of_ble_eq_true rfl)⟩⟩ h22 rfl rfl (Nat.le_of_ble_eq_true rfl) (Nat.le_of_ble_eq_true rfl) (Nat.le_of_ble_eq_true rfl) rfl dX8_row_5 (fun v28 M29 hD30 hp31 => ?_)
  obtain ⟨hp31a, hp31k, hp31f⟩ := hp31
  have n32 := hp31f _ _ h15
  have n33 := hp31f _ _ h16
  have n34 := hp31f _ _ h17
  have n35 := hp31f _ _ h18
  have n36 := hp31f _ _ h19
  have n37 := hp31f _ _ h22
  have n38 := hp31f _ _ h23
  have n39 := hp31f _ _ h24
  have n40 := hp31f _ _ h25
  have n41 := hp31f _ _ h26
  have n42 : mo ∉ ([] : List Nat) := List.not_mem_nil
  have n43 : pl14 ∉ ([] : List Nat) := List.not_mem_nil
  have n44 : pe14 ∉ ([] : List Nat) := List.not_mem_nil
  have n45 : ta ∉ ([] : List Nat) := List.not_mem_nil
  have n46 : ka ∉ ([] : List Nat) := List.not_mem_nil
  have n47 : v10 ∉ ([] : List Nat) := List.not_mem_nil
  have n48 : q211 ∉ ([] : List Nat) := List.not_mem_nil
  have n49 : q212 ∉ ([] : List Nat) := List.not_mem_nil
  have n50 : q213 ∉ ([] : List Nat) := List.not_mem_nil
  have n51 : q214 ∉ ([] : List Nat) := List.not_mem_nil
  have h15 := hp31k _ _ n42 h15
  have h16 := hp31k _ _ n43 h16
  have h17 := hp31k _ _ n44 h17
  have h18 := hp31k _ _ n45 h18
  have h19 := hp31k _ _ n46 h19
  have h22 := hp31k _ _ n47 h22
  have h23 := hp31k _ _ n48 h23
  have h24 := hp31k _ _ n49 h24
  have h25 := hp31k _ _ n50 h25
  have h26 := hp31k _ _ n51 h26
  have h52 : (v28, (.inl (G.Z.cI, 0, .inl (fun _ => 0)) : va_E)) ∈ M29 := hp31a
  have F53 := S.1.at 6 22 (Nat.le_of_ble_eq_true rfl) (Nat.le_of_ble_eq_true rfl)
  have hKm54 : Kp M11 [] M29 := by
    intro b x hb hx
    have n55 := hp31f _ _ hx
    have n56 : b ∉ ([] : List Nat) := List.not_mem_nil
    have hx := hp31k b x n56 hx
    exact hx
  have hMoN := Mo.mono hp13m hKm54
  have hKp : Kp M [mo, ka] M29 := by
    intro b x hb hx
    have n57 : b ∉ [mo, ka] := by
      intro h9; simp only [List.mem_cons, List.not_mem_nil, or_false] at h9
      rcases h9 with h9 | h9
      · exact (fun c => hb (by rw [c]; simp)) h9
      · exact (fun c => hb (by rw [c]; simp)) h9
    have hx := hp13k b x n57 hx
    have n58 := hp31f _ _ hx
    have n59 : b ∉ ([] : List Nat) := List.not_mem_nil
    have hx := hp31k b x n59 hx
    exact hx
  exact m_areturn S hRT (by first | exact Or.inl ⟨_, rfl⟩ | exact Or.inr ⟨_, rfl⟩) rfl hQ (Nat.le_of_ble_eq_true rfl) (Nat.le_of_ble_eq_true rfl) dX8_row_8 ⟨hMoN, hKp, h52⟩

set_option maxRecDepth 100000 in
set_option maxHeartbeats 4000000 in
theorem r_X8_cloth (l : Launch) (G : RG) (A : Nat → Prop) (M : Wl) {mo ka ta : Nat} {tv : Int32} {t : Nat} (hM : Mo G mo ka ta tv M) : Kr l G A yX8_cloth wsX8_cloth { frames := 8, cells := 14, slots := 47, locals := 174 } M [.ref mo, .ref t] (Gr G A (fun v N => Mo G mo ka ta tv N ∧ Kp M [mo, ka] N ∧ ∃ z : Nat, (v, (.inr (5, [.int 0, .int 0, .ref z]) : va_E)) ∈ N)) 14 47 := by
  refine Kr.of (cc := cX8_cloth) (maxL := 2) (ret := (some (.object "TreadleLoomModel$Cloth"))) (by decide) rfl (Nat.le_of_ble_eq_true rfl) ?_
  intro X hXl S hRT hIN hXA hQ hD
  subst hXl
  subst hXA
  show J (X.at 0 0) 2 (PL G.Z X.A M) 0 [some (.ref mo), some (.ref t)] []
  have F0 := S.1.at 0 0 (Nat.le_of_ble_eq_true rfl) (Nat.le_of_ble_eq_true rfl)
  have hOR := S.2.1.or
  obtain ⟨pl1, pe1, f1, kn1, tf1, o1_0, o1_1, o1_2, o1_3, o1_4, o1_5, o1_6, o1_7⟩ := id hM
  have h2 : (mo, (.inr (8, [.int tv, .ref pl1, .ref ka, .ref ta]) : va_E)) ∈ M := o1_0
  have h3 : (pl1, (.inr (10, [.int 10, .ref pe1, .int 10]) : va_E)) ∈ M := o1_1
  have h4 : (pe1, (.inl (G.cO, 10, .inr (.inr (.inr (.inr f1)))) : va_E)) ∈ M := o1_2
  have h5 : (ta, (.inl (G.Z.cI, 8, .inl tf1) : va_E)) ∈ M := o1_4
  have h6 : (ka, (.inl (G.cR, 10, .inr (.inr (.inr (.inr kn1)))) : va_E)) ∈ M := o1_6
  have hDo7 := hD
  refine m_new S (C := RX5) (T := TX5) (N := 3) (ci := 5) (fs := [.int 0, .int 0, .null]) (by decide +kernel) tyX5 tyX5_ok (by decide +kernel) (by decide +kernel) (by decide +kernel) rfl (fun j hj => by rcases (show j = 0 ∨ j = 1 ∨ j = 2 by omega) with rfl | rfl | rfl <;> rfl) (Nat.le_of_ble_eq_true rfl) (Nat.le_of_ble_eq_true rfl) dX8_cloth_0 (fun q8 M10 hD11 hN9 => ?_)
  have n12 := (hN9.2 _ _ h2).2
  have h2 := (hN9.2 _ _ h2).1
  have n13 := (hN9.2 _ _ h3).2
  have h3 := (hN9.2 _ _ h3).1
  have n14 := (hN9.2 _ _ h4).2
  have h4 := (hN9.2 _ _ h4).1
  have n15 := (hN9.2 _ _ h5).2
  have h5 := (hN9.2 _ _ h5).1
  have n16 := (hN9.2 _ _ h6).2
  have h6 := (hN9.2 _ _ h6).1
  have h17 := hN9.1
  have F18 := S.1.at 1 3 (Nat.le_of_ble_eq_true rfl) (Nat.le_of_ble_eq_true rfl)
  refine j_dup F18 dX8_cloth_3 rfl ?_
  refine j_aload_n F18 dX8_cloth_4 rfl ?_
  refine j_iconst F18 0 dX8_cloth_5 (by decide) ?_
  have hKm20 : Kp M [] M10 := by
    intro b x hb hx
    have n21 := (hN9.2 _ _ hx).2
    have hx := (hN9.2 _ _ hx).1
    exact hx
  have hMo19 := Mo.mono hM hKm20
  refine m_cVr S (n1 := 1) (rest := [.ref q8, .ref q8]) (r_X8_row X.l G X.A M10 0 (by decide) hMo19) ⟨_, _, _, _, rfl, gX8_cloth_X8_row, rfl, rfl, (by decide +kernel), ⟨(Nat.le_of_ble_eq_true rfl), (Nat.le_of_ble_eq_true rfl)⟩⟩ h2 rfl rfl (Nat.le_of_ble_eq_true rfl) (Nat.le_of_ble_eq_true rfl) (Nat.le_of_ble_eq_true rfl) rfl dX8_cloth_6 (fun v22 M23 hD24 hp25 => ?_)
  obtain ⟨hp25m, hp25k, hp25a⟩ := hp25
  have n26 : q8 ∉ [mo, ka] := by
    intro h9; simp only [List.mem_cons, List.not_mem_nil, or_false] at h9
    rcases h9 with h9 | h9
    · exact (Ne.symm n12) h9
    · exact (Ne.symm n16) h9
  have h17 := hp25k _ _ n26 h17
  obtain ⟨pl27, pe27, f27, kn27, tf27, o27_0, o27_1, o27_2, o27_3, o27_4, o27_5, o27_6, o27_7⟩ := id hp25m
  have h28 : (mo, (.inr (8, [.int tv, .ref pl27, .ref ka, .ref ta]) : va_E)) ∈ M23 := o27_0
  have h29 : (pl27, (.inr (10, [.int 10, .ref pe27, .int 10]) : va_E)) ∈ M23 := o27_1
  have h30 : (pe27, (.inl (G.cO, 10, .inr (.inr (.inr (.inr f27)))) : va_E)) ∈ M23 := o27_2
  have h31 : (ta, (.inl (G.Z.cI, 8, .inl tf27) : va_E)) ∈ M23 := o27_4
  have h32 : (ka, (.inl (G.cR, 10, .inr (.inr (.inr (.inr kn27)))) : va_E)) ∈ M23 := o27_6
  have hDo33 := hD24
  have h34 := hp25a
  have F35 := S.1.at 7 25 (Nat.le_of_ble_eq_true rfl) (Nat.le_of_ble_eq_true rfl)
  refine j_aload_n F35 dX8_cloth_9 rfl ?_
  refine j_iconst F35 1 dX8_cloth_10 (by decide) ?_
  have hKm37 : Kp M23 [] M23 := by
    intro b x hb hx
    exact hx
  have hMo36 := Mo.mono hp25m hKm37
  refine m_cVr S (n1 := 1) (rest := [.ref v22, .ref q8, .ref q8]) (r_X8_row X.l G X.A M23 1 (by decide) hMo36) ⟨_, _, _, _, rfl, gX8_cloth_X8_row, rfl, rfl, (by decide +kernel), ⟨(Nat.le_of_ble_eq_true rfl), (Nat.le_of_ble_eq_true rfl)⟩⟩ h28 rfl rfl (Nat.le_of_ble_eq_true rfl) (Nat.le_of_ble_eq_true rfl) (Nat.le_of_ble_eq_true rfl) rfl dX8_cloth_11 (fun v38 M39 hD40 hp41 => ?_)
  obtain ⟨hp41m, hp41k, hp41a⟩ := hp41
  have n42 : q8 ∉ [mo, ka] := by
    intro h9; simp only [List.mem_cons, List.not_mem_nil, or_false] at h9
    rcases h9 with h9 | h9
    · exact (Ne.symm n12) h9
    · exact (Ne.symm n16) h9
  have n43 : v22 ∉ [mo, ka] := by
    intro h9; simp only [List.mem_cons, List.not_mem_nil, or_false] at h9
    rcases h9 with h9 | h9
    · exact (In.ne hD24 h34 h28 (by simp)) h9
    · exact (In.ne hD24 h34 h32 (by simp)) h9
  have h17 := hp41k _ _ n42 h17
  have h34 := hp41k _ _ n43 h34
  obtain ⟨pl44, pe44, f44, kn44, tf44, o44_0, o44_1, o44_2, o44_3, o44_4, o44_5, o44_6, o44_7⟩ := id hp41m
  have h45 : (mo, (.inr (8, [.int tv, .ref pl44, .ref ka, .ref ta]) : va_E)) ∈ M39 := o44_0
  have h46 : (pl44, (.inr (10, [.int 10, .ref pe44, .int 10]) : va_E)) ∈ M39 := o44_1
  have h47 : (pe44, (.inl (G.cO, 10, .inr (.inr (.inr (.inr f44)))) : va_E)) ∈ M39 := o44_2
  have h48 : (ta, (.inl (G.Z.cI, 8, .inl tf44) : va_E)) ∈ M39 := o44_4
  have h49 : (ka, (.inl (G.cR, 10, .inr (.inr (.inr (.inr kn44)))) : va_E)) ∈ M39 := o44_6
  have hDo50 := hD40
  have h51 := hp41a
  have F52 := S.1.at 13 47 (Nat.le_of_ble_eq_true rfl) (Nat.le_of_ble_eq_true rfl)
  refine j_aload_n F52 dX8_cloth_14 rfl ?_
  refine m_cIv S (n1 := 3) (rest := [.ref q8]) (r_X5_init X.l G X.A M39 (t3 := t) h17 h34 h51) ⟨_, _, _, rfl, gX8_cloth_X5_init, rfl, rfl, (by decide +kernel), (by decide +kernel), (by decide +kernel), rfl, (by decide +kernel), ⟨(Nat.le_of_ble_eq_true rfl), (Nat.le_of_ble_eq_true rfl)⟩⟩ rfl (Nat.le_of_ble_eq_true rfl) (Nat.le_of_ble_eq_true rfl) (Nat.le_of_ble_eq_true rfl) rfl dX8_cloth_15 (fun M54 hD55 hp56 => ?_)
  obtain ⟨z57, hp56a, hp56k⟩ := hp56
  have n58 : v22 ∉ [q8] := by
    intro h9; simp only [List.mem_cons, List.not_mem_nil, or_false] at h9
    · exact (In.ne hD40 h34 h17 (by simp)) h9
  have n59 : mo ∉ [q8] := by
    intro h9; simp only [List.mem_cons, List.not_mem_nil, or_false] at h9
    · exact n12 h9
  have n60 : pl44 ∉ [q8] := by
    intro h9; simp only [List.mem_cons, List.not_mem_nil, or_false] at h9
    · exact (In.ne hD40 h46 h17 (by simp)) h9
  have n61 : pe44 ∉ [q8] := by
    intro h9; simp only [List.mem_cons, List.not_mem_nil, or_false] at h9
    · exact (In.ne hD40 h47 h17 (by simp)) h9
  have n62 : ta ∉ [q8] := by
    intro h9; simp only [List.mem_cons, List.not_mem_nil, or_false] at h9
    · exact n15 h9
  have n63 : ka ∉ [q8] := by
    intro h9; simp only [List.mem_cons, List.not_mem_nil, or_false] at h9
    · exact n16 h9
  have n64 : v38 ∉ [q8] := by
    intro h9; simp only [List.mem_cons, List.not_mem_nil, or_false] at h9
    · exact (In.ne hD40 h51 h17 (by simp)) h9
  have h34 := hp56k _ _ n58 h34
  have h45 := hp56k _ _ n59 h45
  have h46 := hp56k _ _ n60 h46
  have h47 := hp56k _ _ n61 h47
  have h48 := hp56k _ _ n62 h48
  have h49 := hp56k _ _ n63 h49
  have h51 := hp56k _ _ n64 h51
  have h65 : (q8, (.inr (5, [.int 0, .int 0, .ref z57]) : va_E)) ∈ M54 := hp56a
  have F66 := S.1.at 14 47 (Nat.le_of_ble_eq_true rfl) (Nat.le_of_ble_eq_true rfl)
  have hKm67 : Kp M39 [] M54 := by
    intro b x hb hx
    have n68 : b ∉ [q8] := by
      intro h9; simp only [List.mem_cons, List.not_mem_nil, or_false] at h9
      · exact (fun c => hb (by rw [c]; simp)) h9
    have hx := hp56k b x n68 hx
    exact hx
  have hMoN := Mo.mono hp41m hKm67
  have hKp : Kp M [mo, ka] M54 := by
    intro b x hb hx
    have n69 := (hN9.2 _ _ hx).2
    have hx := (hN9.2 _ _ hx).1
    have n70 : b ∉ [mo, ka] := by
      intro h9; simp only [List.mem_cons, List.not_mem_nil, or_false] at h9
      rcases h9 with h9 | h9
      · exact (fun c => hb (by rw [c]; simp)) h9
      · exact (fun c => hb (by rw [c]; simp)) h9
    have hx := hp25k b x n70 hx
    have n71 : b ∉ [mo, ka] := by
      intro h9; simp only [List.mem_cons, List.not_mem_nil, or_false] at h9
      rcases h9 with h9 | h9
      · exact (fun c => hb (by rw [c]; simp)) h9
      · exact (fun c => hb (by rw [c]; simp)) h9
    have hx := hp41k b x n71 hx
    have n72 : b ∉ [q8] := by
      intro h9; simp only [List.mem_cons, List.not_mem_nil, or_false] at h9
      · exact n69 h9
    have hx := hp56k b x n72 hx
    exact hx
  exact m_areturn S hRT (by first | exact Or.inl ⟨_, rfl⟩ | exact Or.inr ⟨_, rfl⟩) rfl hQ (Nat.le_of_ble_eq_true rfl) (Nat.le_of_ble_eq_true rfl) dX8_cloth_18 ⟨hMoN, hKp, z57, h65⟩

set_option maxRecDepth 100000 in
set_option maxHeartbeats 4000000 in
theorem r_X8_cloth_ (l : Launch) (G : RG) (A : Nat → Prop) (M : Wl) {mo ka ta : Nat} {tv : Int32} (hM : Mo G mo ka ta tv M) : Kr l G A yX8_cloth_ wsX8_cloth_ { frames := 9, cells := 14, slots := 47, locals := 195 } M [.ref mo] (Gr G A (fun v N => Mo G mo ka ta tv N ∧ Kp M [mo, ka] N ∧ ∃ z : Nat, (v, (.inr (5, [.int 0, .int 0, .ref z]) : va_E)) ∈ N)) 14 47 := by
  refine Kr.of (cc := cX8_cloth_) (maxL := 1) (ret := (some (.object "TreadleLoomModel$Cloth"))) (by decide) rfl (Nat.le_of_ble_eq_true rfl) ?_
  intro X hXl S hRT hIN hXA hQ hD
  subst hXl
  subst hXA
  show J (X.at 0 0) 1 (PL G.Z X.A M) 0 [some (.ref mo)] []
  have F0 := S.1.at 0 0 (Nat.le_of_ble_eq_true rfl) (Nat.le_of_ble_eq_true rfl)
  have hOR := S.2.1.or
  obtain ⟨pl1, pe1, f1, kn1, tf1, o1_0, o1_1, o1_2, o1_3, o1_4, o1_5, o1_6, o1_7⟩ := id hM
  have h2 : (mo, (.inr (8, [.int tv, .ref pl1, .ref ka, .ref ta]) : va_E)) ∈ M := o1_0
  have h3 : (pl1, (.inr (10, [.int 10, .ref pe1, .int 10]) : va_E)) ∈ M := o1_1
  have h4 : (pe1, (.inl (G.cO, 10, .inr (.inr (.inr (.inr f1)))) : va_E)) ∈ M := o1_2
  have h5 : (ta, (.inl (G.Z.cI, 8, .inl tf1) : va_E)) ∈ M := o1_4
  have h6 : (ka, (.inl (G.cR, 10, .inr (.inr (.inr (.inr kn1)))) : va_E)) ∈ M := o1_6
  have hDo7 := hD
  refine j_aload_n F0 dX8_cloth__0 rfl ?_
  refine j_aload_n F0 dX8_cloth__1 rfl ?_
  refine m_get S (C := RX8) (T := TX8) (N := 4) (by decide +kernel) h2 rfl (v := .ref ta) 3 (by decide) (by decide +kernel) (fun _ h9 => h9) rfl dX8_cloth__2 ?_
  have hKm9 : Kp M [] M := by
    intro b x hb hx
    exact hx
  have hMo8 := Mo.mono hM hKm9
  refine m_cVr S (n1 := 1) (rest := []) (r_X8_cloth X.l G X.A M (t := ta) hMo8) ⟨_, _, _, _, rfl, gX8_cloth__X8_cloth, rfl, rfl, (by decide +kernel), ⟨(Nat.le_of_ble_eq_true rfl), (Nat.le_of_ble_eq_true rfl)⟩⟩ h2 rfl rfl (Nat.le_of_ble_eq_true rfl) (Nat.le_of_ble_eq_true rfl) (Nat.le_of_ble_eq_true rfl) rfl dX8_cloth__5 (fun v10 M11 hD12 hp13 => ?_)
  obtain ⟨hp13m, hp13k, z14, hp13a⟩ := hp13
  obtain ⟨pl15, pe15, f15, kn15, tf15, o15_0, o15_1, o15_2, o15_3, o15_4, o15_5, o15_6, o15_7⟩ := id hp13m
  have h16 : (mo, (.inr (8, [.int tv, .ref pl15, .ref ka, .ref ta]) : va_E)) ∈ M11 := o15_0
  have h17 : (pl15, (.inr (10, [.int 10, .ref pe15, .int 10]) : va_E)) ∈ M11 := o15_1
  have h18 : (pe15, (.inl (G.cO, 10, .inr (.inr (.inr (.inr f15)))) : va_E)) ∈ M11 := o15_2
  have h19 : (ta, (.inl (G.Z.cI, 8, .inl tf15) : va_E)) ∈ M11 := o15_4
  have h20 : (ka, (.inl (G.cR, 10, .inr (.inr (.inr (.inr kn15)))) : va_E)) ∈ M11 := o15_6
  have hDo21 := hD12
  have h22 := hp13a
  have F23 := S.1.at 14 47 (Nat.le_of_ble_eq_true rfl) (Nat.le_of_ble_eq_true rfl)
  have hKm24 : Kp M11 [] M11 := by
    intro b x hb hx
    exact hx
  have hMoN := Mo.mono hp13m hKm24
  have hKp : Kp M [mo, ka] M11 := by
    intro b x hb hx
    have n25 : b ∉ [mo, ka] := by
      intro h9; simp only [List.mem_cons, List.not_mem_nil, or_false] at h9
      rcases h9 with h9 | h9
      · exact (fun c => hb (by rw [c]; simp)) h9
      · exact (fun c => hb (by rw [c]; simp)) h9
    have hx := hp13k b x n25 hx
    exact hx
  exact m_areturn S hRT (by first | exact Or.inl ⟨_, rfl⟩ | exact Or.inr ⟨_, rfl⟩) rfl hQ (Nat.le_of_ble_eq_true rfl) (Nat.le_of_ble_eq_true rfl) dX8_cloth__8 ⟨hMoN, hKp, z14, h22⟩

set_option maxRecDepth 100000 in
set_option maxHeartbeats 4000000 in
theorem r_J6_bitCount_0f7a4 (l : Launch) (G : RG) (A : Nat → Prop) (M : Wl) : Kr l G A yJ6_bitCount_0f7a4 wsJ6_bitCount_0f7a4 { frames := 0, cells := 0, slots := 0, locals := 0 } M [.int 0] (Gi G A (fun v N => (0 : Int32) = v ∧ M = N)) 0 0 := by
  refine Kr.of (cc := cJ6_bitCount_0f7a4) (maxL := 1) (ret := (some .int)) (by decide) rfl (Nat.le_of_ble_eq_true rfl) ?_
  intro X hXl S hRT hIN hXA hQ hD
  subst hXl
  subst hXA
  show J (X.at 0 0) 1 (PL G.Z X.A M) 0 [some (.int 0)] []
  have F0 := S.1.at 0 0 (Nat.le_of_ble_eq_true rfl) (Nat.le_of_ble_eq_true rfl)
  have hOR := S.2.1.or
  refine j_iload_n F0 dJ6_bitCount_0f7a4_0 rfl ?_
  refine j_iload_n F0 dJ6_bitCount_0f7a4_1 rfl ?_
  refine j_iconst F0 1 dJ6_bitCount_0f7a4_2 (by decide) ?_
  refine j_iushr F0 0 dJ6_bitCount_0f7a4_3 (by decide) ?_
  refine j_ldcw F0 (v := 1431655765) (by decide +kernel) dJ6_bitCount_0f7a4_4 ?_
  refine j_iand F0 0 dJ6_bitCount_0f7a4_7 (by decide) ?_
  refine j_isub F0 0 dJ6_bitCount_0f7a4_8 (by decide) ?_
  refine j_istore_n F0 [some (.int 0)] dJ6_bitCount_0f7a4_9 (by decide) rfl rfl ?_
  refine j_iload_n F0 dJ6_bitCount_0f7a4_10 rfl ?_
  refine j_ldcw F0 (v := 858993459) (by decide +kernel) dJ6_bitCount_0f7a4_11 ?_
  refine j_iand F0 0 dJ6_bitCount_0f7a4_14 (by decide) ?_
  refine j_iload_n F0 dJ6_bitCount_0f7a4_15 rfl ?_
  refine j_iconst F0 2 dJ6_bitCount_0f7a4_16 (by decide) ?_
  refine j_iushr F0 0 dJ6_bitCount_0f7a4_17 (by decide) ?_
  refine j_ldcw F0 (v := 858993459) (by decide +kernel) dJ6_bitCount_0f7a4_18 ?_
  refine j_iand F0 0 dJ6_bitCount_0f7a4_21 (by decide) ?_
  refine j_iadd F0 0 dJ6_bitCount_0f7a4_22 (by decide) ?_
  refine j_istore_n F0 [some (.int 0)] dJ6_bitCount_0f7a4_23 (by decide) rfl rfl ?_
  refine j_iload_n F0 dJ6_bitCount_0f7a4_24 rfl ?_
  refine j_iload_n F0 dJ6_bitCount_0f7a4_25 rfl ?_
  refine j_iconst F0 4 dJ6_bitCount_0f7a4_26 (by decide) ?_
  refine j_iushr F0 0 dJ6_bitCount_0f7a4_27 (by decide) ?_
  refine j_iadd F0 0 dJ6_bitCount_0f7a4_28 (by decide) ?_
  refine j_ldcw F0 (v := 252645135) (by decide +kernel) dJ6_bitCount_0f7a4_29 ?_
  refine j_iand F0 0 dJ6_bitCount_0f7a4_32 (by decide) ?_
  refine j_istore_n F0 [some (.int 0)] dJ6_bitCount_0f7a4_33 (by decide) rfl rfl ?_
  refine j_iload_n F0 dJ6_bitCount_0f7a4_34 rfl ?_
  refine j_iload_n F0 dJ6_bitCount_0f7a4_35 rfl ?_
  refine j_bipush F0 8 dJ6_bitCount_0f7a4_36 (by decide) ?_
  refine j_iushr F0 0 dJ6_bitCount_0f7a4_38 (by decide) ?_
  refine j_iadd F0 0 dJ6_bitCount_0f7a4_39 (by decide) ?_
  refine j_istore_n F0 [some (.int 0)] dJ6_bitCount_0f7a4_40 (by decide) rfl rfl ?_
  refine j_iload_n F0 dJ6_bitCount_0f7a4_41 rfl ?_
  refine j_iload_n F0 dJ6_bitCount_0f7a4_42 rfl ?_
  refine j_bipush F0 16 dJ6_bitCount_0f7a4_43 (by decide) ?_
  refine j_iushr F0 0 dJ6_bitCount_0f7a4_45 (by decide) ?_
  refine j_iadd F0 0 dJ6_bitCount_0f7a4_46 (by decide) ?_
  refine j_istore_n F0 [some (.int 0)] dJ6_bitCount_0f7a4_47 (by decide) rfl rfl ?_
  refine j_iload_n F0 dJ6_bitCount_0f7a4_48 rfl ?_
  refine j_bipush F0 63 dJ6_bitCount_0f7a4_49 (by decide) ?_
  refine j_iand F0 0 dJ6_bitCount_0f7a4_51 (by decide) ?_
  exact m_ireturn S hRT rfl hQ (Nat.le_of_ble_eq_true rfl) (Nat.le_of_ble_eq_true rfl) dJ6_bitCount_0f7a4_52 rfl ⟨rfl, rfl⟩

set_option maxRecDepth 100000 in
set_option maxHeartbeats 4000000 in
theorem r_X8_used (l : Launch) (G : RG) (A : Nat → Prop) (M : Wl) {a : Nat} (h0 : (a, .inl (G.Z.cI, 0, .inl (fun _ => 0))) ∈ M) : Kr l G A yX8_used wsX8_used { frames := 1, cells := 0, slots := 0, locals := 20 } M [.ref a] (Gi G A (fun v N => (0 : Int32) = v ∧ M = N)) 0 0 := by
  refine Kr.of (cc := cX8_used) (maxL := 6) (ret := (some .int)) (by decide) rfl (Nat.le_of_ble_eq_true rfl) ?_
  intro X hXl S hRT hIN hXA hQ hD
  subst hXl
  subst hXA
  show J (X.at 0 0) 6 (PL G.Z X.A M) 0 [some (.ref a), none, none, none, none, none] []
  have F0 := S.1.at 0 0 (Nat.le_of_ble_eq_true rfl) (Nat.le_of_ble_eq_true rfl)
  have hOR := S.2.1.or
  refine j_iconst F0 0 dX8_used_0 (by decide) ?_
  refine j_istore_n F0 [some (.ref a), some (.int 0), none, none, none, none] dX8_used_1 (by decide) rfl rfl ?_
  refine j_aload_n F0 dX8_used_2 rfl ?_
  refine j_astore_n F0 [some (.ref a), some (.int 0), some (.ref a), none, none, none] dX8_used_3 (by decide) rfl rfl ?_
  refine j_aload_n F0 dX8_used_4 rfl ?_
  refine m_alen S (t0 := 0) (v := 0) h0 rfl (by decide) dX8_used_5 ?_
  refine j_istore_n F0 [some (.ref a), some (.int 0), some (.ref a), some (.int 0), none, none] dX8_used_6 (by decide) rfl rfl ?_
  refine j_iconst F0 0 dX8_used_7 (by decide) ?_
  refine j_istore F0 [some (.ref a), some (.int 0), some (.ref a), some (.int 0), some (.int 0), none] dX8_used_8 (by decide) rfl rfl ?_
  refine j_iload F0 dX8_used_10 rfl ?_
  refine j_iload_n F0 dX8_used_12 rfl ?_
  refine j_icmp_ge F0 35 dX8_used_13 (by decide) (fun _ => ?_) (fun h9 => absurd (by decide) h9)
  refine j_iload_n F0 dX8_used_35 rfl ?_
  refine m_cSi S (n1 := 1) (rest := []) (r_J6_bitCount_0f7a4 X.l G X.A M) ⟨_, _, _, _, rfl, gX8_used_J6_bitCount_0f7a4, rfl, rfl, (by decide +kernel), ⟨(Nat.le_of_ble_eq_true rfl), (Nat.le_of_ble_eq_true rfl)⟩⟩ rfl (Nat.le_of_ble_eq_true rfl) (Nat.le_of_ble_eq_true rfl) (Nat.le_of_ble_eq_true rfl) rfl dX8_used_36 (fun v1 M2 hD3 hp4 => ?_)
  obtain ⟨hp4a, hp4b⟩ := hp4
  subst hp4a
  subst hp4b
  exact m_ireturn S hRT rfl hQ (Nat.le_of_ble_eq_true rfl) (Nat.le_of_ble_eq_true rfl) dX8_used_39 rfl ⟨rfl, rfl⟩

set_option maxRecDepth 100000 in
set_option maxHeartbeats 4000000 in
theorem r_X8_periodOf (l : Launch) (G : RG) (A : Nat → Prop) (M : Wl) {mo a pl ka ta : Nat} {tv : Int32} (h0 : (a, .inl (G.Z.cI, 0, .inl (fun _ => 0))) ∈ M) : Kr l G A yX8_periodOf wsX8_periodOf { frames := 0, cells := 0, slots := 0, locals := 0 } M [.ref mo, .ref a] (Gi G A (fun v N => (0 : Int32) = v ∧ M = N)) 0 0 := by
  refine Kr.of (cc := cX8_periodOf) (maxL := 5) (ret := (some .int)) (by decide) rfl (Nat.le_of_ble_eq_true rfl) ?_
  intro X hXl S hRT hIN hXA hQ hD
  subst hXl
  subst hXA
  show J (X.at 0 0) 5 (PL G.Z X.A M) 0 [some (.ref mo), some (.ref a), none, none, none] []
  have F0 := S.1.at 0 0 (Nat.le_of_ble_eq_true rfl) (Nat.le_of_ble_eq_true rfl)
  have hOR := S.2.1.or
  refine j_iconst F0 1 dX8_periodOf_0 (by decide) ?_
  refine j_istore_n F0 [some (.ref mo), some (.ref a), some (.int 1), none, none] dX8_periodOf_1 (by decide) rfl rfl ?_
  refine j_iload_n F0 dX8_periodOf_2 rfl ?_
  refine j_aload_n F0 dX8_periodOf_3 rfl ?_
  refine m_alen S (t0 := 0) (v := 0) h0 rfl (by decide) dX8_periodOf_4 ?_
  refine j_icmp_gt F0 59 dX8_periodOf_5 (by decide) (fun _ => ?_) (fun h9 => absurd (by decide) h9)
  refine j_iconst F0 0 dX8_periodOf_59 (by decide) ?_
  exact m_ireturn S hRT rfl hQ (Nat.le_of_ble_eq_true rfl) (Nat.le_of_ble_eq_true rfl) dX8_periodOf_60 rfl ⟨rfl, rfl⟩

def ofN (w : Nat) : Int32 := if w = 3 then -1 else 0

set_option maxRecDepth 100000 in
set_option maxHeartbeats 4000000 in
theorem r_X8_of (l : Launch) (G : RG) (A : Nat → Prop) (M : Wl) {mo ka ta : Nat} {tv : Int32} (p : Nat) (hp : p < 10) (w : Nat) (hw : w < 4) (hM : Mo G mo ka ta tv M) : Kr l G A yX8_of wsX8_of { frames := 7, cells := 7, slots := 26, locals := 153 } M [.ref mo, .int (nI p), .int (nI w)] (Gi G A (fun v N => Mo G mo ka ta tv N ∧ Kp M [mo, ka] N ∧ (ofN w : Int32) = v)) 7 26 := by
  refine Kr.of (cc := cX8_of) (maxL := 5) (ret := (some .int)) (by decide) rfl (Nat.le_of_ble_eq_true rfl) ?_
  intro X hXl S hRT hIN hXA hQ hD
  subst hXl
  subst hXA
  show J (X.at 0 0) 5 (PL G.Z X.A M) 0 [some (.ref mo), some (.int (nI p)), some (.int (nI w)), none, none] []
  have F0 := S.1.at 0 0 (Nat.le_of_ble_eq_true rfl) (Nat.le_of_ble_eq_true rfl)
  have hOR := S.2.1.or
  obtain ⟨pl1, pe1, f1, kn1, tf1, o1_0, o1_1, o1_2, o1_3, o1_4, o1_5, o1_6, o1_7⟩ := id hM
  have h2 : (mo, (.inr (8, [.int tv, .ref pl1, .ref ka, .ref ta]) : va_E)) ∈ M := o1_0
  have h3 : (pl1, (.inr (10, [.int 10, .ref pe1, .int 10]) : va_E)) ∈ M := o1_1
  have h4 : (pe1, (.inl (G.cO, 10, .inr (.inr (.inr (.inr f1)))) : va_E)) ∈ M := o1_2
  have h5 : (ta, (.inl (G.Z.cI, 8, .inl tf1) : va_E)) ∈ M := o1_4
  have h6 : (ka, (.inl (G.cR, 10, .inr (.inr (.inr (.inr kn1)))) : va_E)) ∈ M := o1_6
  have hDo7 := hD
  obtain ⟨t9, ht9, ht8⟩ := o1_3 p hp
  have h8 : (t9, (.inr (10, [.int 0, .ref G.e0, .int 0]) : va_E)) ∈ M := ht8
  refine j_aload_n F0 dX8_of_0 rfl ?_
  refine j_iload_n F0 dX8_of_1 rfl ?_
  have hKm10 : Kp M [] M := by
    intro b x hb hx
    exact hx
  have hMo9 := Mo.mono hM hKm10
  refine m_cVr S (n1 := 1) (rest := []) (r_X8_reading X.l G X.A M p hp hMo9) ⟨_, _, _, _, rfl, gX8_of_X8_reading, rfl, rfl, (by decide +kernel), ⟨(Nat.le_of_ble_eq_true rfl), (Nat.le_of_ble_eq_true rfl)⟩⟩ h2 rfl rfl (Nat.le_of_ble_eq_true rfl) (Nat.le_of_ble_eq_true rfl) (Nat.le_of_ble_eq_true rfl) rfl dX8_of_2 (fun v11 M12 hD13 hp14 => ?_)
  obtain ⟨hp14m, hp14k, hp14a⟩ := hp14
  have n15 : t9 ∉ [mo, ka] := by
    intro h9; simp only [List.mem_cons, List.not_mem_nil, or_false] at h9
    rcases h9 with h9 | h9
    · exact (In.ne hD h8 h2 (by simp)) h9
    · exact (In.ne hD h8 h6 (by simp)) h9
  have h8 := hp14k _ _ n15 h8
  obtain ⟨pl16, pe16, f16, kn16, tf16, o16_0, o16_1, o16_2, o16_3, o16_4, o16_5, o16_6, o16_7⟩ := id hp14m
  have h17 : (mo, (.inr (8, [.int tv, .ref pl16, .ref ka, .ref ta]) : va_E)) ∈ M12 := o16_0
  have h18 : (pl16, (.inr (10, [.int 10, .ref pe16, .int 10]) : va_E)) ∈ M12 := o16_1
  have h19 : (pe16, (.inl (G.cO, 10, .inr (.inr (.inr (.inr f16)))) : va_E)) ∈ M12 := o16_2
  have h20 : (ta, (.inl (G.Z.cI, 8, .inl tf16) : va_E)) ∈ M12 := o16_4
  have h21 : (ka, (.inl (G.cR, 10, .inr (.inr (.inr (.inr kn16)))) : va_E)) ∈ M12 := o16_6
  have hDo22 := hD13
  obtain ⟨q231, q232, q233, q234, q23a, q23b, q23c, q23d, q23e⟩ := hp14a
  have h24 : (v11, (.inr (7, [.int (nI p), .ref q231, .int 0, .int (-1), .ref mo]) : va_E)) ∈ M12 := q23a
  have h25 : (q231, (.inr (10, [.int 1, .ref q232, .int 1]) : va_E)) ∈ M12 := q23b
  have h26 : (q232, (.inl (G.cO, 10, .inr (.inr (.inr (.inr (va_up (fun _ => none) 0 (some q233)))))) : va_E)) ∈ M12 := q23c
  have h27 : (q233, (.inr (6, [.ref q234]) : va_E)) ∈ M12 := q23d
  have h28 : (q234, (.inr (10, [.int 0, .ref G.e0, .int 0]) : va_E)) ∈ M12 := q23e
  have F29 := S.1.at 5 22 (Nat.le_of_ble_eq_true rfl) (Nat.le_of_ble_eq_true rfl)
  refine j_astore_n F29 [some (.ref mo), some (.int (nI p)), some (.int (nI w)), some (.ref v11), none] dX8_of_5 (by decide) rfl rfl ?_
  refine j_iconst F29 4 dX8_of_6 (by decide) ?_
  refine m_newi S (N := 4) (by decide +kernel) (by decide) (by decide) (Nat.le_of_ble_eq_true rfl) (Nat.le_of_ble_eq_true rfl) (Nat.le_of_ble_eq_true rfl) dX8_of_7 (fun q30 M32 hD33 hN31 => ?_)
  have n34 := (hN31.2 _ _ h8).2
  have h8 := (hN31.2 _ _ h8).1
  have n35 := (hN31.2 _ _ h17).2
  have h17 := (hN31.2 _ _ h17).1
  have n36 := (hN31.2 _ _ h18).2
  have h18 := (hN31.2 _ _ h18).1
  have n37 := (hN31.2 _ _ h19).2
  have h19 := (hN31.2 _ _ h19).1
  have n38 := (hN31.2 _ _ h20).2
  have h20 := (hN31.2 _ _ h20).1
  have n39 := (hN31.2 _ _ h21).2
  have h21 := (hN31.2 _ _ h21).1
  have n40 := (hN31.2 _ _ h24).2
  have h24 := (hN31.2 _ _ h24).1
  have n41 := (hN31.2 _ _ h25).2
  have h25 := (hN31.2 _ _ h25).1
  have n42 := (hN31.2 _ _ h26).2
  have h26 := (hN31.2 _ _ h26).1
  have n43 := (hN31.2 _ _ h27).2
  have h27 := (hN31.2 _ _ h27).1
  have n44 := (hN31.2 _ _ h28).2
  have h28 := (hN31.2 _ _ h28).1
  have h45 := hN31.1
  have F46 := S.1.at 6 26 (Nat.le_of_ble_eq_true rfl) (Nat.le_of_ble_eq_true rfl)
  refine j_dup F46 dX8_of_9 rfl ?_
  refine j_iconst F46 0 dX8_of_10 (by decide) ?_
  refine j_aload_n F46 dX8_of_11 rfl ?_
  refine m_get S (C := RX8) (T := TX8) (N := 4) (by decide +kernel) h17 rfl (v := .ref pl16) 1 (by decide) (by decide +kernel) (fun _ h9 => h9) rfl dX8_of_12 ?_
  refine j_iload_n F46 dX8_of_15 rfl ?_
  refine m_cVr S (n1 := 1) (rest := [.int 0, .ref q30, .ref q30]) (r_Jx4a65c_get_915e3 X.l G X.A M32 (nI p) t9 (nI_pos (by omega)) (by rw [show (10 : Int32) = nI 10 from rfl, nI_ltI (by omega) (by omega)]; exact hp) (vp_in_nI hp (by decide)) (by rw [nI_clamp (by omega)]; exact ht9) h18 h19) ⟨_, _, _, _, rfl, gX8_of_Jx4a65c_get_915e3, rfl, rfl, (by decide +kernel), ⟨(Nat.le_of_ble_eq_true rfl), (Nat.le_of_ble_eq_true rfl)⟩⟩ h18 rfl rfl (Nat.le_of_ble_eq_true rfl) (Nat.le_of_ble_eq_true rfl) (Nat.le_of_ble_eq_true rfl) rfl dX8_of_16 (fun v47 M48 hD49 hp50 => ?_)
  obtain ⟨hp50a, hp50b⟩ := hp50
  subst hp50a
  subst hp50b
  refine m_cast S (C := "java/util/ArrayList") h8 rfl (by decide +kernel) dX8_of_19 ?_
  refine m_cVi S (n1 := 0) (rest := [.int 0, .ref q30, .ref q30]) (r_Jx4a65c_size_8abf5 X.l G X.A M32 h8) ⟨_, _, _, _, rfl, gX8_of_Jx4a65c_size_8abf5, rfl, rfl, (by decide +kernel), ⟨(Nat.le_of_ble_eq_true rfl), (Nat.le_of_ble_eq_true rfl)⟩⟩ h8 rfl rfl (Nat.le_of_ble_eq_true rfl) (Nat.le_of_ble_eq_true rfl) (Nat.le_of_ble_eq_true rfl) rfl dX8_of_22 (fun v51 M52 hD53 hp54 => ?_)
  obtain ⟨hp54a, hp54b⟩ := hp54
  subst hp54a
  subst hp54b
  refine m_iastore S (k0 := 0) h45 (by unfold vp_in; decide) (by decide) dX8_of_25 (fun M56 hD57 hU55 => ?_)
  have n58 : t9 ≠ q30 := n34
  have n59 : mo ≠ q30 := n35
  have n60 : pl16 ≠ q30 := n36
  have n61 : pe16 ≠ q30 := n37
  have n62 : ta ≠ q30 := n38
  have n63 : ka ≠ q30 := n39
  have n64 : v11 ≠ q30 := n40
  have n65 : q231 ≠ q30 := n41
  have n66 : q232 ≠ q30 := n42
  have n67 : q233 ≠ q30 := n43
  have n68 : q234 ≠ q30 := n44
  have h8 := hU55.2 _ _ n58 h8
  have h17 := hU55.2 _ _ n59 h17
  have h18 := hU55.2 _ _ n60 h18
  have h19 := hU55.2 _ _ n61 h19
  have h20 := hU55.2 _ _ n62 h20
  have h21 := hU55.2 _ _ n63 h21
  have h24 := hU55.2 _ _ n64 h24
  have h25 := hU55.2 _ _ n65 h25
  have h26 := hU55.2 _ _ n66 h26
  have h27 := hU55.2 _ _ n67 h27
  have h28 := hU55.2 _ _ n68 h28
  have h45 := hU55.1
  refine j_dup F46 dX8_of_26 rfl ?_
  refine j_iconst F46 1 dX8_of_27 (by decide) ?_
  refine j_aload_n F46 dX8_of_28 rfl ?_
  refine m_cVr S (n1 := 0) (rest := [.int 1, .ref q30, .ref q30]) (r_X7_numbers X.l G X.A M56 h24 h25 h26 h27 h28) ⟨_, _, _, _, rfl, gX8_of_X7_numbers, rfl, rfl, (by decide +kernel), ⟨(Nat.le_of_ble_eq_true rfl), (Nat.le_of_ble_eq_true rfl)⟩⟩ h24 rfl rfl (Nat.le_of_ble_eq_true rfl) (Nat.le_of_ble_eq_true rfl) (Nat.le_of_ble_eq_true rfl) rfl dX8_of_29 (fun v69 M70 hD71 hp72 => ?_)
  obtain ⟨hp72a, hp72k, hp72f⟩ := hp72
  have n73 := hp72f _ _ h8
  have n74 := hp72f _ _ h17
  have n75 := hp72f _ _ h18
  have n76 := hp72f _ _ h19
  have n77 := hp72f _ _ h20
  have n78 := hp72f _ _ h21
  have n79 := hp72f _ _ h24
  have n80 := hp72f _ _ h25
  have n81 := hp72f _ _ h26
  have n82 := hp72f _ _ h27
  have n83 := hp72f _ _ h28
  have n84 := hp72f _ _ h45
  have n85 : t9 ∉ ([] : List Nat) := List.not_mem_nil
  have n86 : mo ∉ ([] : List Nat) := List.not_mem_nil
  have n87 : pl16 ∉ ([] : List Nat) := List.not_mem_nil
  have n88 : pe16 ∉ ([] : List Nat) := List.not_mem_nil
  have n89 : ta ∉ ([] : List Nat) := List.not_mem_nil
  have n90 : ka ∉ ([] : List Nat) := List.not_mem_nil
  have n91 : v11 ∉ ([] : List Nat) := List.not_mem_nil
  have n92 : q231 ∉ ([] : List Nat) := List.not_mem_nil
  have n93 : q232 ∉ ([] : List Nat) := List.not_mem_nil
  have n94 : q233 ∉ ([] : List Nat) := List.not_mem_nil
  have n95 : q234 ∉ ([] : List Nat) := List.not_mem_nil
  have n96 : q30 ∉ ([] : List Nat) := List.not_mem_nil
  have h8 := hp72k _ _ n85 h8
  have h17 := hp72k _ _ n86 h17
  have h18 := hp72k _ _ n87 h18
  have h19 := hp72k _ _ n88 h19
  have h20 := hp72k _ _ n89 h20
  have h21 := hp72k _ _ n90 h21
  have h24 := hp72k _ _ n91 h24
  have h25 := hp72k _ _ n92 h25
  have h26 := hp72k _ _ n93 h26
  have h27 := hp72k _ _ n94 h27
  have h28 := hp72k _ _ n95 h28
  have h45 := hp72k _ _ n96 h45
  have h97 : (v69, (.inl (G.Z.cI, 0, .inl (fun _ => 0)) : va_E)) ∈ M70 := hp72a
  have F98 := S.1.at 7 26 (Nat.le_of_ble_eq_true rfl) (Nat.le_of_ble_eq_true rfl)
  refine m_alen S (t0 := 0) (v := 0) h97 rfl (by decide) dX8_of_32 ?_
  refine m_iastore S (k0 := 1) h45 (by unfold vp_in; decide) (by decide) dX8_of_33 (fun M100 hD101 hU99 => ?_)
  have n102 : t9 ≠ q30 := n58
  have n103 : mo ≠ q30 := n59
  have n104 : pl16 ≠ q30 := n60
  have n105 : pe16 ≠ q30 := n61
  have n106 : ta ≠ q30 := n62
  have n107 : ka ≠ q30 := n63
  have n108 : v11 ≠ q30 := n64
  have n109 : q231 ≠ q30 := n65
  have n110 : q232 ≠ q30 := n66
  have n111 : q233 ≠ q30 := n67
  have n112 : q234 ≠ q30 := n68
  have n113 : v69 ≠ q30 := (Ne.symm n84)
  have h8 := hU99.2 _ _ n102 h8
  have h17 := hU99.2 _ _ n103 h17
  have h18 := hU99.2 _ _ n104 h18
  have h19 := hU99.2 _ _ n105 h19
  have h20 := hU99.2 _ _ n106 h20
  have h21 := hU99.2 _ _ n107 h21
  have h24 := hU99.2 _ _ n108 h24
  have h25 := hU99.2 _ _ n109 h25
  have h26 := hU99.2 _ _ n110 h26
  have h27 := hU99.2 _ _ n111 h27
  have h28 := hU99.2 _ _ n112 h28
  have h97 := hU99.2 _ _ n113 h97
  have h45 := hU99.1
  refine j_dup F98 dX8_of_34 rfl ?_
  refine j_iconst F98 2 dX8_of_35 (by decide) ?_
  refine j_aload_n F98 dX8_of_36 rfl ?_
  refine m_get S (C := RX7) (T := TX7) (N := 5) (by decide +kernel) h24 rfl (v := .int 0) 2 (by decide) (by decide +kernel) (fun _ h9 => h9) rfl dX8_of_37 ?_
  refine m_iastore S (k0 := 2) h45 (by unfold vp_in; decide) (by decide) dX8_of_40 (fun M115 hD116 hU114 => ?_)
  have n117 : t9 ≠ q30 := n102
  have n118 : mo ≠ q30 := n103
  have n119 : pl16 ≠ q30 := n104
  have n120 : pe16 ≠ q30 := n105
  have n121 : ta ≠ q30 := n106
  have n122 : ka ≠ q30 := n107
  have n123 : v11 ≠ q30 := n108
  have n124 : q231 ≠ q30 := n109
  have n125 : q232 ≠ q30 := n110
  have n126 : q233 ≠ q30 := n111
  have n127 : q234 ≠ q30 := n112
  have n128 : v69 ≠ q30 := n113
  have h8 := hU114.2 _ _ n117 h8
  have h17 := hU114.2 _ _ n118 h17
  have h18 := hU114.2 _ _ n119 h18
  have h19 := hU114.2 _ _ n120 h19
  have h20 := hU114.2 _ _ n121 h20
  have h21 := hU114.2 _ _ n122 h21
  have h24 := hU114.2 _ _ n123 h24
  have h25 := hU114.2 _ _ n124 h25
  have h26 := hU114.2 _ _ n125 h26
  have h27 := hU114.2 _ _ n126 h27
  have h28 := hU114.2 _ _ n127 h28
  have h97 := hU114.2 _ _ n128 h97
  have h45 := hU114.1
  refine j_dup F98 dX8_of_41 rfl ?_
  refine j_iconst F98 3 dX8_of_42 (by decide) ?_
  refine j_aload_n F98 dX8_of_43 rfl ?_
  refine m_get S (C := RX7) (T := TX7) (N := 5) (by decide +kernel) h24 rfl (v := .int (-1)) 3 (by decide) (by decide +kernel) (fun _ h9 => h9) rfl dX8_of_44 ?_
  refine m_iastore S (k0 := 3) h45 (by unfold vp_in; decide) (by decide) dX8_of_47 (fun M130 hD131 hU129 => ?_)
  have n132 : t9 ≠ q30 := n117
  have n133 : mo ≠ q30 := n118
  have n134 : pl16 ≠ q30 := n119
  have n135 : pe16 ≠ q30 := n120
  have n136 : ta ≠ q30 := n121
  have n137 : ka ≠ q30 := n122
  have n138 : v11 ≠ q30 := n123
  have n139 : q231 ≠ q30 := n124
  have n140 : q232 ≠ q30 := n125
  have n141 : q233 ≠ q30 := n126
  have n142 : q234 ≠ q30 := n127
  have n143 : v69 ≠ q30 := n128
  have h8 := hU129.2 _ _ n132 h8
  have h17 := hU129.2 _ _ n133 h17
  have h18 := hU129.2 _ _ n134 h18
  have h19 := hU129.2 _ _ n135 h19
  have h20 := hU129.2 _ _ n136 h20
  have h21 := hU129.2 _ _ n137 h21
  have h24 := hU129.2 _ _ n138 h24
  have h25 := hU129.2 _ _ n139 h25
  have h26 := hU129.2 _ _ n140 h26
  have h27 := hU129.2 _ _ n141 h27
  have h28 := hU129.2 _ _ n142 h28
  have h97 := hU129.2 _ _ n143 h97
  have h45 := hU129.1
  refine j_astore F98 [some (.ref mo), some (.int (nI p)), some (.int (nI w)), some (.ref v11), some (.ref q30)] dX8_of_48 (by decide) rfl rfl ?_
  refine j_aload F98 dX8_of_50 rfl ?_
  refine j_iload_n F98 dX8_of_52 rfl ?_
  refine m_iaload S (v := ofN w) h45 (vp_in_nI hw (by decide)) (by rcases (show w = 0 ∨ w = 1 ∨ w = 2 ∨ w = 3 by omega) with rfl | rfl | rfl | rfl <;> decide) dX8_of_53 ?_
  have hKm144 : Kp M12 [] M130 := by
    intro b x hb hx
    have n145 := (hN31.2 _ _ hx).2
    have hx := (hN31.2 _ _ hx).1
    have hx := hU55.2 _ _ n145 hx
    have n146 := hp72f _ _ hx
    have n147 : b ∉ ([] : List Nat) := List.not_mem_nil
    have hx := hp72k b x n147 hx
    have hx := hU99.2 _ _ n145 hx
    have hx := hU114.2 _ _ n145 hx
    have hx := hU129.2 _ _ n145 hx
    exact hx
  have hMoN := Mo.mono hp14m hKm144
  have hKp : Kp M [mo, ka] M130 := by
    intro b x hb hx
    have n148 : b ∉ [mo, ka] := by
      intro h9; simp only [List.mem_cons, List.not_mem_nil, or_false] at h9
      rcases h9 with h9 | h9
      · exact (fun c => hb (by rw [c]; simp)) h9
      · exact (fun c => hb (by rw [c]; simp)) h9
    have hx := hp14k b x n148 hx
    have n149 := (hN31.2 _ _ hx).2
    have hx := (hN31.2 _ _ hx).1
    have hx := hU55.2 _ _ n149 hx
    have n150 := hp72f _ _ hx
    have n151 : b ∉ ([] : List Nat) := List.not_mem_nil
    have hx := hp72k b x n151 hx
    have hx := hU99.2 _ _ n149 hx
    have hx := hU114.2 _ _ n149 hx
    have hx := hU129.2 _ _ n149 hx
    exact hx
  exact m_ireturn S hRT rfl hQ (Nat.le_of_ble_eq_true rfl) (Nat.le_of_ble_eq_true rfl) dX8_of_54 rfl ⟨hMoN, hKp, rfl⟩

set_option maxRecDepth 100000 in
set_option maxHeartbeats 4000000 in
theorem r_X8_clothOf (l : Launch) (G : RG) (A : Nat → Prop) (M : Wl) {mo ka ta : Nat} {tv : Int32} (k : Nat) (hk : k < 10) (hM : Mo G mo ka ta tv M) : Kr l G A yX8_clothOf wsX8_clothOf { frames := 10, cells := 20, slots := 69, locals := 215 } M [.ref mo, .int (nI k)] (Gi G A (fun v N => Mo G mo ka ta tv N ∧ Kp M [mo, ka] N ∧ (0 : Int32) = v)) 20 69 := by
  refine Kr.of (cc := cX8_clothOf) (maxL := 3) (ret := (some .int)) (by decide) rfl (Nat.le_of_ble_eq_true rfl) ?_
  intro X hXl S hRT hIN hXA hQ hD
  subst hXl
  subst hXA
  show J (X.at 0 0) 3 (PL G.Z X.A M) 0 [some (.ref mo), some (.int (nI k)), none] []
  have F0 := S.1.at 0 0 (Nat.le_of_ble_eq_true rfl) (Nat.le_of_ble_eq_true rfl)
  have hOR := S.2.1.or
  obtain ⟨pl1, pe1, f1, kn1, tf1, o1_0, o1_1, o1_2, o1_3, o1_4, o1_5, o1_6, o1_7⟩ := id hM
  have h2 : (mo, (.inr (8, [.int tv, .ref pl1, .ref ka, .ref ta]) : va_E)) ∈ M := o1_0
  have h3 : (pl1, (.inr (10, [.int 10, .ref pe1, .int 10]) : va_E)) ∈ M := o1_1
  have h4 : (pe1, (.inl (G.cO, 10, .inr (.inr (.inr (.inr f1)))) : va_E)) ∈ M := o1_2
  have h5 : (ta, (.inl (G.Z.cI, 8, .inl tf1) : va_E)) ∈ M := o1_4
  have h6 : (ka, (.inl (G.cR, 10, .inr (.inr (.inr (.inr kn1)))) : va_E)) ∈ M := o1_6
  have hDo7 := hD
  refine j_aload_n F0 dX8_clothOf_0 rfl ?_
  have hKm9 : Kp M [] M := by
    intro b x hb hx
    exact hx
  have hMo8 := Mo.mono hM hKm9
  refine m_cVr S (n1 := 0) (rest := []) (r_X8_cloth_ X.l G X.A M hMo8) ⟨_, _, _, _, rfl, gX8_clothOf_X8_cloth_, rfl, rfl, (by decide +kernel), ⟨(Nat.le_of_ble_eq_true rfl), (Nat.le_of_ble_eq_true rfl)⟩⟩ h2 rfl rfl (Nat.le_of_ble_eq_true rfl) (Nat.le_of_ble_eq_true rfl) (Nat.le_of_ble_eq_true rfl) rfl dX8_clothOf_1 (fun v10 M11 hD12 hp13 => ?_)
  obtain ⟨hp13m, hp13k, z14, hp13a⟩ := hp13
  obtain ⟨pl15, pe15, f15, kn15, tf15, o15_0, o15_1, o15_2, o15_3, o15_4, o15_5, o15_6, o15_7⟩ := id hp13m
  have h16 : (mo, (.inr (8, [.int tv, .ref pl15, .ref ka, .ref ta]) : va_E)) ∈ M11 := o15_0
  have h17 : (pl15, (.inr (10, [.int 10, .ref pe15, .int 10]) : va_E)) ∈ M11 := o15_1
  have h18 : (pe15, (.inl (G.cO, 10, .inr (.inr (.inr (.inr f15)))) : va_E)) ∈ M11 := o15_2
  have h19 : (ta, (.inl (G.Z.cI, 8, .inl tf15) : va_E)) ∈ M11 := o15_4
  have h20 : (ka, (.inl (G.cR, 10, .inr (.inr (.inr (.inr kn15)))) : va_E)) ∈ M11 := o15_6
  have hDo21 := hD12
  have h22 := hp13a
  have F23 := S.1.at 14 47 (Nat.le_of_ble_eq_true rfl) (Nat.le_of_ble_eq_true rfl)
  refine j_astore_n F23 [some (.ref mo), some (.int (nI k)), some (.ref v10)] dX8_clothOf_4 (by decide) rfl rfl ?_
  rcases (show k = 0 ∨ k = 1 ∨ k = 2 ∨ k = 3 ∨ k = 4 ∨ k = 5 ∨ k = 6 ∨ k = 7 ∨ k = 8 ∨ k = 9 by omega) with rfl | rfl | rfl | rfl | rfl | rfl | rfl | rfl | rfl | rfl
  · skip
    show J (X.at 14 47) 3 (PL G.Z X.A M11) 5 [some (.ref mo), some (.int 0), some (.ref v10)] []
    refine j_iload_n F23 dX8_clothOf_5 rfl ?_
    refine j_table F23 56 dX8_clothOf_6 (by decide) (by decide) rfl (by decide) ?_
    refine j_aload_n F23 dX8_clothOf_56 rfl ?_
    refine m_get S (C := RX5) (T := TX5) (N := 3) (by decide +kernel) h22 rfl (v := .int 0) 0 (by decide) (by decide +kernel) (fun _ h9 => h9) rfl dX8_clothOf_57 ?_
    have hKm24 : Kp M11 [] M11 := by
      intro b x hb hx
      exact hx
    have hMoN := Mo.mono hp13m hKm24
    have hKp : Kp M [mo, ka] M11 := by
      intro b x hb hx
      have n25 : b ∉ [mo, ka] := by
        intro h9; simp only [List.mem_cons, List.not_mem_nil, or_false] at h9
        rcases h9 with h9 | h9
        · exact (fun c => hb (by rw [c]; simp)) h9
        · exact (fun c => hb (by rw [c]; simp)) h9
      have hx := hp13k b x n25 hx
      exact hx
    exact m_ireturn S hRT rfl hQ (Nat.le_of_ble_eq_true rfl) (Nat.le_of_ble_eq_true rfl) dX8_clothOf_60 rfl ⟨hMoN, hKp, rfl⟩
  · skip
    show J (X.at 14 47) 3 (PL G.Z X.A M11) 5 [some (.ref mo), some (.int 1), some (.ref v10)] []
    refine j_iload_n F23 dX8_clothOf_5 rfl ?_
    refine j_table F23 61 dX8_clothOf_6 (by decide) (by decide) rfl (by decide) ?_
    refine j_aload_n F23 dX8_clothOf_61 rfl ?_
    refine m_get S (C := RX5) (T := TX5) (N := 3) (by decide +kernel) h22 rfl (v := .int 0) 1 (by decide) (by decide +kernel) (fun _ h9 => h9) rfl dX8_clothOf_62 ?_
    have hKm26 : Kp M11 [] M11 := by
      intro b x hb hx
      exact hx
    have hMoN := Mo.mono hp13m hKm26
    have hKp : Kp M [mo, ka] M11 := by
      intro b x hb hx
      have n27 : b ∉ [mo, ka] := by
        intro h9; simp only [List.mem_cons, List.not_mem_nil, or_false] at h9
        rcases h9 with h9 | h9
        · exact (fun c => hb (by rw [c]; simp)) h9
        · exact (fun c => hb (by rw [c]; simp)) h9
      have hx := hp13k b x n27 hx
      exact hx
    exact m_ireturn S hRT rfl hQ (Nat.le_of_ble_eq_true rfl) (Nat.le_of_ble_eq_true rfl) dX8_clothOf_65 rfl ⟨hMoN, hKp, rfl⟩
  · skip
    show J (X.at 14 47) 3 (PL G.Z X.A M11) 5 [some (.ref mo), some (.int 2), some (.ref v10)] []
    refine j_iload_n F23 dX8_clothOf_5 rfl ?_
    refine j_table F23 66 dX8_clothOf_6 (by decide) (by decide) rfl (by decide) ?_
    refine j_aload_n F23 dX8_clothOf_66 rfl ?_
    refine m_cVi S (n1 := 0) (rest := []) (r_X5_ups X.l G X.A M11 h22) ⟨_, _, _, _, rfl, gX8_clothOf_X5_ups, rfl, rfl, (by decide +kernel), ⟨(Nat.le_of_ble_eq_true rfl), (Nat.le_of_ble_eq_true rfl)⟩⟩ h22 rfl rfl (Nat.le_of_ble_eq_true rfl) (Nat.le_of_ble_eq_true rfl) (Nat.le_of_ble_eq_true rfl) rfl dX8_clothOf_67 (fun v28 M29 hD30 hp31 => ?_)
    obtain ⟨hp31a, hp31b⟩ := hp31
    subst hp31a
    subst hp31b
    have hKm32 : Kp M11 [] M11 := by
      intro b x hb hx
      exact hx
    have hMoN := Mo.mono hp13m hKm32
    have hKp : Kp M [mo, ka] M11 := by
      intro b x hb hx
      have n33 : b ∉ [mo, ka] := by
        intro h9; simp only [List.mem_cons, List.not_mem_nil, or_false] at h9
        rcases h9 with h9 | h9
        · exact (fun c => hb (by rw [c]; simp)) h9
        · exact (fun c => hb (by rw [c]; simp)) h9
      have hx := hp13k b x n33 hx
      exact hx
    exact m_ireturn S hRT rfl hQ (Nat.le_of_ble_eq_true rfl) (Nat.le_of_ble_eq_true rfl) dX8_clothOf_70 rfl ⟨hMoN, hKp, rfl⟩
  · skip
    show J (X.at 14 47) 3 (PL G.Z X.A M11) 5 [some (.ref mo), some (.int 3), some (.ref v10)] []
    refine j_iload_n F23 dX8_clothOf_5 rfl ?_
    refine j_table F23 71 dX8_clothOf_6 (by decide) (by decide) rfl (by decide) ?_
    refine j_aload_n F23 dX8_clothOf_71 rfl ?_
    refine m_cVi S (n1 := 0) (rest := []) (r_X5_longest X.l G X.A M11 h22) ⟨_, _, _, _, rfl, gX8_clothOf_X5_longest, rfl, rfl, (by decide +kernel), ⟨(Nat.le_of_ble_eq_true rfl), (Nat.le_of_ble_eq_true rfl)⟩⟩ h22 rfl rfl (Nat.le_of_ble_eq_true rfl) (Nat.le_of_ble_eq_true rfl) (Nat.le_of_ble_eq_true rfl) rfl dX8_clothOf_72 (fun v34 M35 hD36 hp37 => ?_)
    obtain ⟨hp37a, hp37b⟩ := hp37
    subst hp37a
    subst hp37b
    have hKm38 : Kp M11 [] M11 := by
      intro b x hb hx
      exact hx
    have hMoN := Mo.mono hp13m hKm38
    have hKp : Kp M [mo, ka] M11 := by
      intro b x hb hx
      have n39 : b ∉ [mo, ka] := by
        intro h9; simp only [List.mem_cons, List.not_mem_nil, or_false] at h9
        rcases h9 with h9 | h9
        · exact (fun c => hb (by rw [c]; simp)) h9
        · exact (fun c => hb (by rw [c]; simp)) h9
      have hx := hp13k b x n39 hx
      exact hx
    exact m_ireturn S hRT rfl hQ (Nat.le_of_ble_eq_true rfl) (Nat.le_of_ble_eq_true rfl) dX8_clothOf_75 rfl ⟨hMoN, hKp, rfl⟩
  · skip
    show J (X.at 14 47) 3 (PL G.Z X.A M11) 5 [some (.ref mo), some (.int 4), some (.ref v10)] []
    refine j_iload_n F23 dX8_clothOf_5 rfl ?_
    refine j_table F23 76 dX8_clothOf_6 (by decide) (by decide) rfl (by decide) ?_
    refine j_aload_n F23 dX8_clothOf_76 rfl ?_
    refine j_iconst F23 1 dX8_clothOf_77 (by decide) ?_
    refine j_iconst F23 1 dX8_clothOf_78 (by decide) ?_
    refine m_cVi S (n1 := 2) (rest := []) (r_X5_floats X.l G X.A M11 1 1 h22) ⟨_, _, _, _, rfl, gX8_clothOf_X5_floats, rfl, rfl, (by decide +kernel), ⟨(Nat.le_of_ble_eq_true rfl), (Nat.le_of_ble_eq_true rfl)⟩⟩ h22 rfl rfl (Nat.le_of_ble_eq_true rfl) (Nat.le_of_ble_eq_true rfl) (Nat.le_of_ble_eq_true rfl) rfl dX8_clothOf_79 (fun v40 M41 hD42 hp43 => ?_)
    obtain ⟨hp43a, hp43b⟩ := hp43
    subst hp43a
    subst hp43b
    have hKm44 : Kp M11 [] M11 := by
      intro b x hb hx
      exact hx
    have hMoN := Mo.mono hp13m hKm44
    have hKp : Kp M [mo, ka] M11 := by
      intro b x hb hx
      have n45 : b ∉ [mo, ka] := by
        intro h9; simp only [List.mem_cons, List.not_mem_nil, or_false] at h9
        rcases h9 with h9 | h9
        · exact (fun c => hb (by rw [c]; simp)) h9
        · exact (fun c => hb (by rw [c]; simp)) h9
      have hx := hp13k b x n45 hx
      exact hx
    exact m_ireturn S hRT rfl hQ (Nat.le_of_ble_eq_true rfl) (Nat.le_of_ble_eq_true rfl) dX8_clothOf_82 rfl ⟨hMoN, hKp, rfl⟩
  · skip
    show J (X.at 14 47) 3 (PL G.Z X.A M11) 5 [some (.ref mo), some (.int 5), some (.ref v10)] []
    refine j_iload_n F23 dX8_clothOf_5 rfl ?_
    refine j_table F23 83 dX8_clothOf_6 (by decide) (by decide) rfl (by decide) ?_
    refine j_aload_n F23 dX8_clothOf_83 rfl ?_
    refine j_iconst F23 1 dX8_clothOf_84 (by decide) ?_
    refine j_iconst F23 0 dX8_clothOf_85 (by decide) ?_
    refine m_cVi S (n1 := 2) (rest := []) (r_X5_floats X.l G X.A M11 1 0 h22) ⟨_, _, _, _, rfl, gX8_clothOf_X5_floats, rfl, rfl, (by decide +kernel), ⟨(Nat.le_of_ble_eq_true rfl), (Nat.le_of_ble_eq_true rfl)⟩⟩ h22 rfl rfl (Nat.le_of_ble_eq_true rfl) (Nat.le_of_ble_eq_true rfl) (Nat.le_of_ble_eq_true rfl) rfl dX8_clothOf_86 (fun v46 M47 hD48 hp49 => ?_)
    obtain ⟨hp49a, hp49b⟩ := hp49
    subst hp49a
    subst hp49b
    have hKm50 : Kp M11 [] M11 := by
      intro b x hb hx
      exact hx
    have hMoN := Mo.mono hp13m hKm50
    have hKp : Kp M [mo, ka] M11 := by
      intro b x hb hx
      have n51 : b ∉ [mo, ka] := by
        intro h9; simp only [List.mem_cons, List.not_mem_nil, or_false] at h9
        rcases h9 with h9 | h9
        · exact (fun c => hb (by rw [c]; simp)) h9
        · exact (fun c => hb (by rw [c]; simp)) h9
      have hx := hp13k b x n51 hx
      exact hx
    exact m_ireturn S hRT rfl hQ (Nat.le_of_ble_eq_true rfl) (Nat.le_of_ble_eq_true rfl) dX8_clothOf_89 rfl ⟨hMoN, hKp, rfl⟩
  · skip
    show J (X.at 14 47) 3 (PL G.Z X.A M11) 5 [some (.ref mo), some (.int 6), some (.ref v10)] []
    refine j_iload_n F23 dX8_clothOf_5 rfl ?_
    refine j_table F23 90 dX8_clothOf_6 (by decide) (by decide) rfl (by decide) ?_
    refine j_aload_n F23 dX8_clothOf_90 rfl ?_
    refine j_iconst F23 0 dX8_clothOf_91 (by decide) ?_
    have hKm53 : Kp M11 [] M11 := by
      intro b x hb hx
      exact hx
    have hMo52 := Mo.mono hp13m hKm53
    refine m_cVr S (n1 := 1) (rest := []) (r_X8_row X.l G X.A M11 0 (by decide) hMo52) ⟨_, _, _, _, rfl, gX8_clothOf_X8_row, rfl, rfl, (by decide +kernel), ⟨(Nat.le_of_ble_eq_true rfl), (Nat.le_of_ble_eq_true rfl)⟩⟩ h16 rfl rfl (Nat.le_of_ble_eq_true rfl) (Nat.le_of_ble_eq_true rfl) (Nat.le_of_ble_eq_true rfl) rfl dX8_clothOf_92 (fun v54 M55 hD56 hp57 => ?_)
    obtain ⟨hp57m, hp57k, hp57a⟩ := hp57
    have n58 : v10 ∉ [mo, ka] := by
      intro h9; simp only [List.mem_cons, List.not_mem_nil, or_false] at h9
      rcases h9 with h9 | h9
      · exact (In.ne hD12 h22 h16 (by simp)) h9
      · exact (In.ne hD12 h22 h20 (by simp)) h9
    have h22 := hp57k _ _ n58 h22
    obtain ⟨pl59, pe59, f59, kn59, tf59, o59_0, o59_1, o59_2, o59_3, o59_4, o59_5, o59_6, o59_7⟩ := id hp57m
    have h60 : (mo, (.inr (8, [.int tv, .ref pl59, .ref ka, .ref ta]) : va_E)) ∈ M55 := o59_0
    have h61 : (pl59, (.inr (10, [.int 10, .ref pe59, .int 10]) : va_E)) ∈ M55 := o59_1
    have h62 : (pe59, (.inl (G.cO, 10, .inr (.inr (.inr (.inr f59)))) : va_E)) ∈ M55 := o59_2
    have h63 : (ta, (.inl (G.Z.cI, 8, .inl tf59) : va_E)) ∈ M55 := o59_4
    have h64 : (ka, (.inl (G.cR, 10, .inr (.inr (.inr (.inr kn59)))) : va_E)) ∈ M55 := o59_6
    have hDo65 := hD56
    have h66 := hp57a
    have F67 := S.1.at 20 69 (Nat.le_of_ble_eq_true rfl) (Nat.le_of_ble_eq_true rfl)
    refine m_cSi S (n1 := 1) (rest := []) (r_X8_used X.l G X.A M55 h66) ⟨_, _, _, _, rfl, gX8_clothOf_X8_used, rfl, rfl, (by decide +kernel), ⟨(Nat.le_of_ble_eq_true rfl), (Nat.le_of_ble_eq_true rfl)⟩⟩ rfl (Nat.le_of_ble_eq_true rfl) (Nat.le_of_ble_eq_true rfl) (Nat.le_of_ble_eq_true rfl) rfl dX8_clothOf_95 (fun v68 M69 hD70 hp71 => ?_)
    obtain ⟨hp71a, hp71b⟩ := hp71
    subst hp71a
    subst hp71b
    have hKm72 : Kp M55 [] M55 := by
      intro b x hb hx
      exact hx
    have hMoN := Mo.mono hp57m hKm72
    have hKp : Kp M [mo, ka] M55 := by
      intro b x hb hx
      have n73 : b ∉ [mo, ka] := by
        intro h9; simp only [List.mem_cons, List.not_mem_nil, or_false] at h9
        rcases h9 with h9 | h9
        · exact (fun c => hb (by rw [c]; simp)) h9
        · exact (fun c => hb (by rw [c]; simp)) h9
      have hx := hp13k b x n73 hx
      have n74 : b ∉ [mo, ka] := by
        intro h9; simp only [List.mem_cons, List.not_mem_nil, or_false] at h9
        rcases h9 with h9 | h9
        · exact (fun c => hb (by rw [c]; simp)) h9
        · exact (fun c => hb (by rw [c]; simp)) h9
      have hx := hp57k b x n74 hx
      exact hx
    exact m_ireturn S hRT rfl hQ (Nat.le_of_ble_eq_true rfl) (Nat.le_of_ble_eq_true rfl) dX8_clothOf_98 rfl ⟨hMoN, hKp, rfl⟩
  · skip
    show J (X.at 14 47) 3 (PL G.Z X.A M11) 5 [some (.ref mo), some (.int 7), some (.ref v10)] []
    refine j_iload_n F23 dX8_clothOf_5 rfl ?_
    refine j_table F23 99 dX8_clothOf_6 (by decide) (by decide) rfl (by decide) ?_
    refine j_aload_n F23 dX8_clothOf_99 rfl ?_
    refine j_iconst F23 1 dX8_clothOf_100 (by decide) ?_
    have hKm76 : Kp M55 [] M11 := by
      intro b x hb hx
      exact hx
    have hMo75 := Mo.mono hp57m hKm76
    refine m_cVr S (n1 := 1) (rest := []) (r_X8_row X.l G X.A M11 1 (by decide) hMo75) ⟨_, _, _, _, rfl, gX8_clothOf_X8_row, rfl, rfl, (by decide +kernel), ⟨(Nat.le_of_ble_eq_true rfl), (Nat.le_of_ble_eq_true rfl)⟩⟩ h16 rfl rfl (Nat.le_of_ble_eq_true rfl) (Nat.le_of_ble_eq_true rfl) (Nat.le_of_ble_eq_true rfl) rfl dX8_clothOf_101 (fun v77 M78 hD79 hp80 => ?_)
    obtain ⟨hp80m, hp80k, hp80a⟩ := hp80
    have n81 : pl15 ∉ [mo, ka] := by
      intro h9; simp only [List.mem_cons, List.not_mem_nil, or_false] at h9
      rcases h9 with h9 | h9
      · exact (In.ne hD12 h17 h16 (by simp)) h9
      · exact (In.ne hD12 h17 h20 (by simp)) h9
    have n82 : pe15 ∉ [mo, ka] := by
      intro h9; simp only [List.mem_cons, List.not_mem_nil, or_false] at h9
      rcases h9 with h9 | h9
      · exact (In.ne hD12 h18 h16 (by simp)) h9
      · exact (In.ne hD12 h18 h20 (fun h9 => hOR (by injection h9 with h9; exact (Prod.mk.inj h9).1))) h9
    have n83 : v10 ∉ [mo, ka] := by
      intro h9; simp only [List.mem_cons, List.not_mem_nil, or_false] at h9
      rcases h9 with h9 | h9
      · exact (In.ne hD12 h22 h16 (by simp)) h9
      · exact (In.ne hD12 h22 h20 (by simp)) h9
    have h17 := hp80k _ _ n81 h17
    have h18 := hp80k _ _ n82 h18
    have h22 := hp80k _ _ n83 h22
    obtain ⟨pl84, pe84, f84, kn84, tf84, o84_0, o84_1, o84_2, o84_3, o84_4, o84_5, o84_6, o84_7⟩ := id hp80m
    have h85 : (mo, (.inr (8, [.int tv, .ref pl84, .ref ka, .ref ta]) : va_E)) ∈ M78 := o84_0
    have h86 : (pl84, (.inr (10, [.int 10, .ref pe84, .int 10]) : va_E)) ∈ M78 := o84_1
    have h87 : (pe84, (.inl (G.cO, 10, .inr (.inr (.inr (.inr f84)))) : va_E)) ∈ M78 := o84_2
    have h88 : (ta, (.inl (G.Z.cI, 8, .inl tf84) : va_E)) ∈ M78 := o84_4
    have h89 : (ka, (.inl (G.cR, 10, .inr (.inr (.inr (.inr kn84)))) : va_E)) ∈ M78 := o84_6
    have hDo90 := hD79
    have h91 := hp80a
    have F92 := S.1.at 20 69 (Nat.le_of_ble_eq_true rfl) (Nat.le_of_ble_eq_true rfl)
    refine m_cSi S (n1 := 1) (rest := []) (r_X8_used X.l G X.A M78 h91) ⟨_, _, _, _, rfl, gX8_clothOf_X8_used, rfl, rfl, (by decide +kernel), ⟨(Nat.le_of_ble_eq_true rfl), (Nat.le_of_ble_eq_true rfl)⟩⟩ rfl (Nat.le_of_ble_eq_true rfl) (Nat.le_of_ble_eq_true rfl) (Nat.le_of_ble_eq_true rfl) rfl dX8_clothOf_104 (fun v93 M94 hD95 hp96 => ?_)
    obtain ⟨hp96a, hp96b⟩ := hp96
    subst hp96a
    subst hp96b
    have hKm97 : Kp M78 [] M78 := by
      intro b x hb hx
      exact hx
    have hMoN := Mo.mono hp80m hKm97
    have hKp : Kp M [mo, ka] M78 := by
      intro b x hb hx
      have n98 : b ∉ [mo, ka] := by
        intro h9; simp only [List.mem_cons, List.not_mem_nil, or_false] at h9
        rcases h9 with h9 | h9
        · exact (fun c => hb (by rw [c]; simp)) h9
        · exact (fun c => hb (by rw [c]; simp)) h9
      have hx := hp13k b x n98 hx
      have n99 : b ∉ [mo, ka] := by
        intro h9; simp only [List.mem_cons, List.not_mem_nil, or_false] at h9
        rcases h9 with h9 | h9
        · exact (fun c => hb (by rw [c]; simp)) h9
        · exact (fun c => hb (by rw [c]; simp)) h9
      have hx := hp80k b x n99 hx
      exact hx
    exact m_ireturn S hRT rfl hQ (Nat.le_of_ble_eq_true rfl) (Nat.le_of_ble_eq_true rfl) dX8_clothOf_107 rfl ⟨hMoN, hKp, rfl⟩
  · skip
    show J (X.at 14 47) 3 (PL G.Z X.A M11) 5 [some (.ref mo), some (.int 8), some (.ref v10)] []
    refine j_iload_n F23 dX8_clothOf_5 rfl ?_
    refine j_table F23 108 dX8_clothOf_6 (by decide) (by decide) rfl (by decide) ?_
    refine j_aload_n F23 dX8_clothOf_108 rfl ?_
    refine j_iconst F23 1 dX8_clothOf_109 (by decide) ?_
    refine m_cVi S (n1 := 1) (rest := []) (r_X5_kinds X.l G X.A M11 1 h22) ⟨_, _, _, _, rfl, gX8_clothOf_X5_kinds, rfl, rfl, (by decide +kernel), ⟨(Nat.le_of_ble_eq_true rfl), (Nat.le_of_ble_eq_true rfl)⟩⟩ h22 rfl rfl (Nat.le_of_ble_eq_true rfl) (Nat.le_of_ble_eq_true rfl) (Nat.le_of_ble_eq_true rfl) rfl dX8_clothOf_110 (fun v100 M101 hD102 hp103 => ?_)
    obtain ⟨hp103a, hp103b⟩ := hp103
    subst hp103a
    subst hp103b
    have hKm104 : Kp M78 [] M11 := by
      intro b x hb hx
      exact hx
    have hMoN := Mo.mono hp80m hKm104
    have hKp : Kp M [mo, ka] M11 := by
      intro b x hb hx
      have n105 : b ∉ [mo, ka] := by
        intro h9; simp only [List.mem_cons, List.not_mem_nil, or_false] at h9
        rcases h9 with h9 | h9
        · exact (fun c => hb (by rw [c]; simp)) h9
        · exact (fun c => hb (by rw [c]; simp)) h9
      have hx := hp13k b x n105 hx
      exact hx
    exact m_ireturn S hRT rfl hQ (Nat.le_of_ble_eq_true rfl) (Nat.le_of_ble_eq_true rfl) dX8_clothOf_113 rfl ⟨hMoN, hKp, rfl⟩
  · skip
    show J (X.at 14 47) 3 (PL G.Z X.A M11) 5 [some (.ref mo), some (.int 9), some (.ref v10)] []
    refine j_iload_n F23 dX8_clothOf_5 rfl ?_
    refine j_tableOut F23 114 dX8_clothOf_6 (by decide) (by decide) ?_
    refine j_aload_n F23 dX8_clothOf_114 rfl ?_
    refine j_iconst F23 0 dX8_clothOf_115 (by decide) ?_
    refine m_cVi S (n1 := 1) (rest := []) (r_X5_kinds X.l G X.A M11 0 h22) ⟨_, _, _, _, rfl, gX8_clothOf_X5_kinds, rfl, rfl, (by decide +kernel), ⟨(Nat.le_of_ble_eq_true rfl), (Nat.le_of_ble_eq_true rfl)⟩⟩ h22 rfl rfl (Nat.le_of_ble_eq_true rfl) (Nat.le_of_ble_eq_true rfl) (Nat.le_of_ble_eq_true rfl) rfl dX8_clothOf_116 (fun v106 M107 hD108 hp109 => ?_)
    obtain ⟨hp109a, hp109b⟩ := hp109
    subst hp109a
    subst hp109b
    have hKm110 : Kp M78 [] M11 := by
      intro b x hb hx
      exact hx
    have hMoN := Mo.mono hp80m hKm110
    have hKp : Kp M [mo, ka] M11 := by
      intro b x hb hx
      have n111 : b ∉ [mo, ka] := by
        intro h9; simp only [List.mem_cons, List.not_mem_nil, or_false] at h9
        rcases h9 with h9 | h9
        · exact (fun c => hb (by rw [c]; simp)) h9
        · exact (fun c => hb (by rw [c]; simp)) h9
      have hx := hp13k b x n111 hx
      exact hx
    exact m_ireturn S hRT rfl hQ (Nat.le_of_ble_eq_true rfl) (Nat.le_of_ble_eq_true rfl) dX8_clothOf_119 rfl ⟨hMoN, hKp, rfl⟩

set_option maxRecDepth 100000 in
set_option maxHeartbeats 4000000 in
theorem r_X8_floatsOf (l : Launch) (G : RG) (A : Nat → Prop) (M : Wl) {mo ka ta : Nat} {tv : Int32} (x : Int32) (hM : Mo G mo ka ta tv M) : Kr l G A yX8_floatsOf wsX8_floatsOf { frames := 10, cells := 28, slots := 94, locals := 215 } M [.ref mo, .int x] (Gi G A (fun v N => Mo G mo ka ta tv N ∧ Kp M [mo, ka] N ∧ (0 : Int32) = v)) 28 94 := by
  refine Kr.of (cc := cX8_floatsOf) (maxL := 2) (ret := (some .int)) (by decide) rfl (Nat.le_of_ble_eq_true rfl) ?_
  intro X hXl S hRT hIN hXA hQ hD
  subst hXl
  subst hXA
  show J (X.at 0 0) 2 (PL G.Z X.A M) 0 [some (.ref mo), some (.int x)] []
  have F0 := S.1.at 0 0 (Nat.le_of_ble_eq_true rfl) (Nat.le_of_ble_eq_true rfl)
  have hOR := S.2.1.or
  obtain ⟨pl1, pe1, f1, kn1, tf1, o1_0, o1_1, o1_2, o1_3, o1_4, o1_5, o1_6, o1_7⟩ := id hM
  have h2 : (mo, (.inr (8, [.int tv, .ref pl1, .ref ka, .ref ta]) : va_E)) ∈ M := o1_0
  have h3 : (pl1, (.inr (10, [.int 10, .ref pe1, .int 10]) : va_E)) ∈ M := o1_1
  have h4 : (pe1, (.inl (G.cO, 10, .inr (.inr (.inr (.inr f1)))) : va_E)) ∈ M := o1_2
  have h5 : (ta, (.inl (G.Z.cI, 8, .inl tf1) : va_E)) ∈ M := o1_4
  have h6 : (ka, (.inl (G.cR, 10, .inr (.inr (.inr (.inr kn1)))) : va_E)) ∈ M := o1_6
  have hDo7 := hD
  refine j_aload_n F0 dX8_floatsOf_0 rfl ?_
  have hKm9 : Kp M [] M := by
    intro b x hb hx
    exact hx
  have hMo8 := Mo.mono hM hKm9
  refine m_cVr S (n1 := 0) (rest := []) (r_X8_cloth_ X.l G X.A M hMo8) ⟨_, _, _, _, rfl, gX8_floatsOf_X8_cloth_, rfl, rfl, (by decide +kernel), ⟨(Nat.le_of_ble_eq_true rfl), (Nat.le_of_ble_eq_true rfl)⟩⟩ h2 rfl rfl (Nat.le_of_ble_eq_true rfl) (Nat.le_of_ble_eq_true rfl) (Nat.le_of_ble_eq_true rfl) rfl dX8_floatsOf_1 (fun v10 M11 hD12 hp13 => ?_)
  obtain ⟨hp13m, hp13k, z14, hp13a⟩ := hp13
  obtain ⟨pl15, pe15, f15, kn15, tf15, o15_0, o15_1, o15_2, o15_3, o15_4, o15_5, o15_6, o15_7⟩ := id hp13m
  have h16 : (mo, (.inr (8, [.int tv, .ref pl15, .ref ka, .ref ta]) : va_E)) ∈ M11 := o15_0
  have h17 : (pl15, (.inr (10, [.int 10, .ref pe15, .int 10]) : va_E)) ∈ M11 := o15_1
  have h18 : (pe15, (.inl (G.cO, 10, .inr (.inr (.inr (.inr f15)))) : va_E)) ∈ M11 := o15_2
  have h19 : (ta, (.inl (G.Z.cI, 8, .inl tf15) : va_E)) ∈ M11 := o15_4
  have h20 : (ka, (.inl (G.cR, 10, .inr (.inr (.inr (.inr kn15)))) : va_E)) ∈ M11 := o15_6
  have hDo21 := hD12
  have h22 := hp13a
  have F23 := S.1.at 14 47 (Nat.le_of_ble_eq_true rfl) (Nat.le_of_ble_eq_true rfl)
  refine j_iload_n F23 dX8_floatsOf_4 rfl ?_
  refine j_iconst F23 1 dX8_floatsOf_5 (by decide) ?_
  refine m_cVi S (n1 := 2) (rest := []) (r_X5_floats X.l G X.A M11 x 1 h22) ⟨_, _, _, _, rfl, gX8_floatsOf_X5_floats, rfl, rfl, (by decide +kernel), ⟨(Nat.le_of_ble_eq_true rfl), (Nat.le_of_ble_eq_true rfl)⟩⟩ h22 rfl rfl (Nat.le_of_ble_eq_true rfl) (Nat.le_of_ble_eq_true rfl) (Nat.le_of_ble_eq_true rfl) rfl dX8_floatsOf_6 (fun v24 M25 hD26 hp27 => ?_)
  obtain ⟨hp27a, hp27b⟩ := hp27
  subst hp27a
  subst hp27b
  refine j_aload_n F23 dX8_floatsOf_9 rfl ?_
  have hKm29 : Kp M11 [] M11 := by
    intro b x hb hx
    exact hx
  have hMo28 := Mo.mono hp13m hKm29
  refine m_cVr S (n1 := 0) (rest := [.int 0]) (r_X8_cloth_ X.l G X.A M11 hMo28) ⟨_, _, _, _, rfl, gX8_floatsOf_X8_cloth_, rfl, rfl, (by decide +kernel), ⟨(Nat.le_of_ble_eq_true rfl), (Nat.le_of_ble_eq_true rfl)⟩⟩ h16 rfl rfl (Nat.le_of_ble_eq_true rfl) (Nat.le_of_ble_eq_true rfl) (Nat.le_of_ble_eq_true rfl) rfl dX8_floatsOf_10 (fun v30 M31 hD32 hp33 => ?_)
  obtain ⟨hp33m, hp33k, z34, hp33a⟩ := hp33
  have n35 : v10 ∉ [mo, ka] := by
    intro h9; simp only [List.mem_cons, List.not_mem_nil, or_false] at h9
    rcases h9 with h9 | h9
    · exact (In.ne hD12 h22 h16 (by simp)) h9
    · exact (In.ne hD12 h22 h20 (by simp)) h9
  have h22 := hp33k _ _ n35 h22
  obtain ⟨pl36, pe36, f36, kn36, tf36, o36_0, o36_1, o36_2, o36_3, o36_4, o36_5, o36_6, o36_7⟩ := id hp33m
  have h37 : (mo, (.inr (8, [.int tv, .ref pl36, .ref ka, .ref ta]) : va_E)) ∈ M31 := o36_0
  have h38 : (pl36, (.inr (10, [.int 10, .ref pe36, .int 10]) : va_E)) ∈ M31 := o36_1
  have h39 : (pe36, (.inl (G.cO, 10, .inr (.inr (.inr (.inr f36)))) : va_E)) ∈ M31 := o36_2
  have h40 : (ta, (.inl (G.Z.cI, 8, .inl tf36) : va_E)) ∈ M31 := o36_4
  have h41 : (ka, (.inl (G.cR, 10, .inr (.inr (.inr (.inr kn36)))) : va_E)) ∈ M31 := o36_6
  have hDo42 := hD32
  have h43 := hp33a
  have F44 := S.1.at 28 94 (Nat.le_of_ble_eq_true rfl) (Nat.le_of_ble_eq_true rfl)
  refine j_iload_n F44 dX8_floatsOf_13 rfl ?_
  refine j_iconst F44 0 dX8_floatsOf_14 (by decide) ?_
  refine m_cVi S (n1 := 2) (rest := [.int 0]) (r_X5_floats X.l G X.A M31 x 0 h43) ⟨_, _, _, _, rfl, gX8_floatsOf_X5_floats, rfl, rfl, (by decide +kernel), ⟨(Nat.le_of_ble_eq_true rfl), (Nat.le_of_ble_eq_true rfl)⟩⟩ h43 rfl rfl (Nat.le_of_ble_eq_true rfl) (Nat.le_of_ble_eq_true rfl) (Nat.le_of_ble_eq_true rfl) rfl dX8_floatsOf_15 (fun v45 M46 hD47 hp48 => ?_)
  obtain ⟨hp48a, hp48b⟩ := hp48
  subst hp48a
  subst hp48b
  refine j_iadd F44 0 dX8_floatsOf_18 (by decide) ?_
  have hKm49 : Kp M31 [] M31 := by
    intro b x hb hx
    exact hx
  have hMoN := Mo.mono hp33m hKm49
  have hKp : Kp M [mo, ka] M31 := by
    intro b x hb hx
    have n50 : b ∉ [mo, ka] := by
      intro h9; simp only [List.mem_cons, List.not_mem_nil, or_false] at h9
      rcases h9 with h9 | h9
      · exact (fun c => hb (by rw [c]; simp)) h9
      · exact (fun c => hb (by rw [c]; simp)) h9
    have hx := hp13k b x n50 hx
    have n51 : b ∉ [mo, ka] := by
      intro h9; simp only [List.mem_cons, List.not_mem_nil, or_false] at h9
      rcases h9 with h9 | h9
      · exact (fun c => hb (by rw [c]; simp)) h9
      · exact (fun c => hb (by rw [c]; simp)) h9
    have hx := hp33k b x n51 hx
    exact hx
  exact m_ireturn S hRT rfl hQ (Nat.le_of_ble_eq_true rfl) (Nat.le_of_ble_eq_true rfl) dX8_floatsOf_19 rfl ⟨hMoN, hKp, rfl⟩

set_option maxRecDepth 100000 in
set_option maxHeartbeats 4000000 in
theorem r_X8_seenOf (l : Launch) (G : RG) (A : Nat → Prop) (M : Wl) {mo ka ta : Nat} {tv : Int32} (x : Int32) (hM : Mo G mo ka ta tv M) : Kr l G A yX8_seenOf wsX8_seenOf { frames := 10, cells := 14, slots := 47, locals := 215 } M [.ref mo, .int x] (Gi G A (fun v N => Mo G mo ka ta tv N ∧ Kp M [mo, ka] N ∧ (0 : Int32) = v)) 14 47 := by
  refine Kr.of (cc := cX8_seenOf) (maxL := 6) (ret := (some .int)) (by decide) rfl (Nat.le_of_ble_eq_true rfl) ?_
  intro X hXl S hRT hIN hXA hQ hD
  subst hXl
  subst hXA
  show J (X.at 0 0) 6 (PL G.Z X.A M) 0 [some (.ref mo), some (.int x), none, none, none, none] []
  have F0 := S.1.at 0 0 (Nat.le_of_ble_eq_true rfl) (Nat.le_of_ble_eq_true rfl)
  have hOR := S.2.1.or
  obtain ⟨pl1, pe1, f1, kn1, tf1, o1_0, o1_1, o1_2, o1_3, o1_4, o1_5, o1_6, o1_7⟩ := id hM
  have h2 : (mo, (.inr (8, [.int tv, .ref pl1, .ref ka, .ref ta]) : va_E)) ∈ M := o1_0
  have h3 : (pl1, (.inr (10, [.int 10, .ref pe1, .int 10]) : va_E)) ∈ M := o1_1
  have h4 : (pe1, (.inl (G.cO, 10, .inr (.inr (.inr (.inr f1)))) : va_E)) ∈ M := o1_2
  have h5 : (ta, (.inl (G.Z.cI, 8, .inl tf1) : va_E)) ∈ M := o1_4
  have h6 : (ka, (.inl (G.cR, 10, .inr (.inr (.inr (.inr kn1)))) : va_E)) ∈ M := o1_6
  have hDo7 := hD
  refine j_aload_n F0 dX8_seenOf_0 rfl ?_
  have hKm9 : Kp M [] M := by
    intro b x hb hx
    exact hx
  have hMo8 := Mo.mono hM hKm9
  refine m_cVr S (n1 := 0) (rest := []) (r_X8_cloth_ X.l G X.A M hMo8) ⟨_, _, _, _, rfl, gX8_seenOf_X8_cloth_, rfl, rfl, (by decide +kernel), ⟨(Nat.le_of_ble_eq_true rfl), (Nat.le_of_ble_eq_true rfl)⟩⟩ h2 rfl rfl (Nat.le_of_ble_eq_true rfl) (Nat.le_of_ble_eq_true rfl) (Nat.le_of_ble_eq_true rfl) rfl dX8_seenOf_1 (fun v10 M11 hD12 hp13 => ?_)
  obtain ⟨hp13m, hp13k, z14, hp13a⟩ := hp13
  obtain ⟨pl15, pe15, f15, kn15, tf15, o15_0, o15_1, o15_2, o15_3, o15_4, o15_5, o15_6, o15_7⟩ := id hp13m
  have h16 : (mo, (.inr (8, [.int tv, .ref pl15, .ref ka, .ref ta]) : va_E)) ∈ M11 := o15_0
  have h17 : (pl15, (.inr (10, [.int 10, .ref pe15, .int 10]) : va_E)) ∈ M11 := o15_1
  have h18 : (pe15, (.inl (G.cO, 10, .inr (.inr (.inr (.inr f15)))) : va_E)) ∈ M11 := o15_2
  have h19 : (ta, (.inl (G.Z.cI, 8, .inl tf15) : va_E)) ∈ M11 := o15_4
  have h20 : (ka, (.inl (G.cR, 10, .inr (.inr (.inr (.inr kn15)))) : va_E)) ∈ M11 := o15_6
  have hDo21 := hD12
  have h22 := hp13a
  have F23 := S.1.at 14 47 (Nat.le_of_ble_eq_true rfl) (Nat.le_of_ble_eq_true rfl)
  refine j_astore_n F23 [some (.ref mo), some (.int x), some (.ref v10), none, none, none] dX8_seenOf_4 (by decide) rfl rfl ?_
  refine j_iconst F23 0 dX8_seenOf_5 (by decide) ?_
  refine j_istore_n F23 [some (.ref mo), some (.int x), some (.ref v10), some (.int 0), none, none] dX8_seenOf_6 (by decide) rfl rfl ?_
  refine j_iconst F23 0 dX8_seenOf_7 (by decide) ?_
  refine j_istore F23 [some (.ref mo), some (.int x), some (.ref v10), some (.int 0), some (.int 0), none] dX8_seenOf_8 (by decide) rfl rfl ?_
  refine j_iload F23 dX8_seenOf_10 rfl ?_
  refine j_aload_n F23 dX8_seenOf_12 rfl ?_
  refine m_get S (C := RX5) (T := TX5) (N := 3) (by decide +kernel) h22 rfl (v := .int 0) 0 (by decide) (by decide +kernel) (fun _ h9 => h9) rfl dX8_seenOf_13 ?_
  refine j_icmp_ge F23 64 dX8_seenOf_16 (by decide) (fun _ => ?_) (fun h9 => absurd (by decide) h9)
  refine j_iload_n F23 dX8_seenOf_64 rfl ?_
  have hKm24 : Kp M11 [] M11 := by
    intro b x hb hx
    exact hx
  have hMoN := Mo.mono hp13m hKm24
  have hKp : Kp M [mo, ka] M11 := by
    intro b x hb hx
    have n25 : b ∉ [mo, ka] := by
      intro h9; simp only [List.mem_cons, List.not_mem_nil, or_false] at h9
      rcases h9 with h9 | h9
      · exact (fun c => hb (by rw [c]; simp)) h9
      · exact (fun c => hb (by rw [c]; simp)) h9
    have hx := hp13k b x n25 hx
    exact hx
  exact m_ireturn S hRT rfl hQ (Nat.le_of_ble_eq_true rfl) (Nat.le_of_ble_eq_true rfl) dX8_seenOf_65 rfl ⟨hMoN, hKp, rfl⟩
