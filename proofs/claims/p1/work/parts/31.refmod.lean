theorem Mo.mono5 {A : Nat → Prop} {G : RG} {mo ka ta q : Nat} {tv : Int32} {fs : List Value} {M N : Wl} (hD : va_D A M) (h : Mo G mo ka ta tv M) (hq : (q, .inr (5, fs)) ∈ M) (hK : Kp M [q] N) : Mo G mo ka ta tv N := by
  obtain ⟨pl, pe, f, kn, tf, h0, h1, h2, h3, h4, h5, h6, h7⟩ := h
  have k : ∀ (b : Nat) (x : va_E), (b, x) ∈ M → x ≠ .inr (5, fs) → (b, x) ∈ N := fun b x h9 n9 => hK b x (fun c => In.ne hD h9 hq n9 (by simpa using c)) h9
  exact ⟨pl, pe, f, kn, tf, k _ _ h0 (by simp), k _ _ h1 (by simp), k _ _ h2 (by simp), fun p hp => (h3 p hp).imp fun t h9 => ⟨h9.1, k _ _ h9.2 (by simp)⟩, k _ _ h4 (by simp), h5, k _ _ h6 (by simp), fun p qq hp hqq => by
    obtain ⟨q1, q2, q3, q4, a0, a1, a2, a3, a4⟩ := h7 p qq hp hqq
    exact ⟨q1, q2, q3, q4, k _ _ a0 (by simp), k _ _ a1 (by simp), k _ _ a2 (by simp), k _ _ a3 (by simp), k _ _ a4 (by simp)⟩⟩

theorem Mo.thr {A : Nat → Prop} {G : RG} {mo ka ta pl pe : Nat} {tv tv' : Int32} {f kn : Nat → Option Nat} {tf : Nat → Int32} {M N : Wl} (hOR : G.cO ≠ G.cR) (hD : va_D A M) (h0 : (mo, e8 tv pl ka ta) ∈ M) (h1 : (pl, eL 10 pe 10) ∈ M) (h2 : (pe, eO G 10 f) ∈ M) (h3 : ∀ p, p < 10 → ∃ t, f p = some t ∧ (t, eL 0 G.e0 0) ∈ M) (h4 : (ta, eI G 8 tf) ∈ M) (h5 : ∀ k, k < 8 → tf k = tie0 k) (h6 : (ka, eR G 10 kn) ∈ M) (h7 : ∀ p q, p < 10 → kn p = some q → Rd G mo (nI p) q M) (hK : Kp M [mo] N) (g0 : (mo, e8 tv' pl ka ta) ∈ N) : Mo G mo ka ta tv' N := by
  have hK2 : Kp M [mo, ka] N := fun b x hb hx => hK b x (fun c => hb (by
    simp only [List.mem_cons, List.not_mem_nil, or_false] at c
    rw [c]; exact List.mem_cons_self)) hx
  have n6 : ka ∉ [mo] := fun c => In.ne hD h6 h0 (by simp) (by simpa using c)
  exact Mo.keep hOR hD h0 h1 h2 h3 h4 h5 h6 hK2 g0 (hK _ _ n6 h6) (fun p q hp hq => Rd.keep hOR hD h0 h6 (h7 p q hp hq) hK2)

set_option maxRecDepth 100000 in
set_option maxHeartbeats 4000000 in
theorem r_X7_numbers (l : Launch) (G : RG) (A : Nat → Prop) (M : Wl) {a q1 q2 q3 q4 mo : Nat} {p : Int32} (h0 : (a, .inr (7, [.int p, .ref q1, .int 0, .int (-1), .ref mo])) ∈ M) (h1 : (q1, .inr (10, [.int 1, .ref q2, .int 1])) ∈ M) (h2 : (q2, .inl (G.cO, 10, .inr (.inr (.inr (.inr (va_up (fun _ => none) 0 (some q3))))))) ∈ M) (h3 : (q3, .inr (6, [.ref q4])) ∈ M) (h4 : (q4, .inr (10, [.int 0, .ref G.e0, .int 0])) ∈ M) : Kr l G A yX7_numbers wsX7_numbers { frames := 3, cells := 1, slots := 0, locals := 64 } M [.ref a] (Gr G A (fun v N => (v, (.inl (G.Z.cI, 0, .inl (fun _ => 0)) : va_E)) ∈ N ∧ Kp M [] N ∧ ∀ (b : Nat) (x : va_E), (b, x) ∈ M → b ≠ v)) 1 0 := by
  refine Kr.of (cc := cX7_numbers) (maxL := 1) (ret := (some (.array .int))) (by decide) rfl (Nat.le_of_ble_eq_true rfl) ?_
  intro X hXl S hRT hIN hXA hQ hD
  subst hXl
  subst hXA
  show J (X.at 0 0) 1 (PL G.Z X.A M) 0 [some (.ref a)] []
  have F0 := S.1.at 0 0 (Nat.le_of_ble_eq_true rfl) (Nat.le_of_ble_eq_true rfl)
  have hOR := S.2.1.or
  refine j_aload_n F0 dX7_numbers_0 rfl ?_
  refine m_get S (C := RX7) (T := TX7) (N := 5) (by decide +kernel) h0 rfl (v := .int 0) 2 (by decide) (by decide +kernel) (fun _ h9 => h9) rfl dX7_numbers_1 ?_
  refine j_if_le F0 13 dX7_numbers_4 (by decide) (fun _ => ?_) (fun h9 => absurd (by decide) h9)
  refine j_aload_n F0 dX7_numbers_13 rfl ?_
  refine m_get S (C := RX7) (T := TX7) (N := 5) (by decide +kernel) h0 rfl (v := .ref q1) 1 (by decide) (by decide +kernel) (fun _ h9 => h9) rfl dX7_numbers_14 ?_
  refine j_iconst F0 0 dX7_numbers_17 (by decide) ?_
  refine m_cVr S (n1 := 1) (rest := []) (r_Jx4a65c_get_915e3 X.l G X.A M 0 q3 (by decide) (by decide) (by unfold vp_in; decide) (by simp [va_up]) h1 h2) ⟨_, _, _, _, rfl, gX7_numbers_Jx4a65c_get_915e3, rfl, rfl, (by decide +kernel), ⟨(Nat.le_of_ble_eq_true rfl), (Nat.le_of_ble_eq_true rfl)⟩⟩ h1 rfl rfl (Nat.le_of_ble_eq_true rfl) (Nat.le_of_ble_eq_true rfl) (Nat.le_of_ble_eq_true rfl) rfl dX7_numbers_18 (fun v1 M2 hD3 hp4 => ?_)
  obtain ⟨hp4a, hp4b⟩ := hp4
  subst hp4a
  subst hp4b
  refine m_cast S (C := RX6) h3 rfl (by decide +kernel) dX7_numbers_21 ?_
  refine m_cVr S (n1 := 0) (rest := []) (r_X6_all X.l G X.A M h3 h4) ⟨_, _, _, _, rfl, gX7_numbers_X6_all, rfl, rfl, (by decide +kernel), ⟨(Nat.le_of_ble_eq_true rfl), (Nat.le_of_ble_eq_true rfl)⟩⟩ h3 rfl rfl (Nat.le_of_ble_eq_true rfl) (Nat.le_of_ble_eq_true rfl) (Nat.le_of_ble_eq_true rfl) rfl dX7_numbers_24 (fun v5 M6 hD7 hp8 => ?_)
  obtain ⟨hp8a, hp8k, hp8f⟩ := hp8
  have n9 := hp8f _ _ h0
  have n10 := hp8f _ _ h1
  have n11 := hp8f _ _ h2
  have n12 := hp8f _ _ h3
  have n13 := hp8f _ _ h4
  have n14 : a ∉ ([] : List Nat) := List.not_mem_nil
  have n15 : q1 ∉ ([] : List Nat) := List.not_mem_nil
  have n16 : q2 ∉ ([] : List Nat) := List.not_mem_nil
  have n17 : q3 ∉ ([] : List Nat) := List.not_mem_nil
  have n18 : q4 ∉ ([] : List Nat) := List.not_mem_nil
  have h0 := hp8k _ _ n14 h0
  have h1 := hp8k _ _ n15 h1
  have h2 := hp8k _ _ n16 h2
  have h3 := hp8k _ _ n17 h3
  have h4 := hp8k _ _ n18 h4
  have h19 : (v5, (.inl (G.Z.cI, 0, .inl (fun _ => 0)) : va_E)) ∈ M6 := hp8a
  have F20 := S.1.at 1 0 (Nat.le_of_ble_eq_true rfl) (Nat.le_of_ble_eq_true rfl)
  have hKp : Kp M [] M6 := by
    intro b x hb hx
    have n21 := hp8f _ _ hx
    have n22 : b ∉ ([] : List Nat) := List.not_mem_nil
    have hx := hp8k b x n22 hx
    exact hx
  exact m_areturn S hRT (by first | exact Or.inl ⟨_, rfl⟩ | exact Or.inr ⟨_, rfl⟩) rfl hQ (Nat.le_of_ble_eq_true rfl) (Nat.le_of_ble_eq_true rfl) dX7_numbers_27 ⟨h19, hKp, hp8f⟩

set_option maxRecDepth 100000 in
set_option maxHeartbeats 4000000 in
theorem r_X8_row (l : Launch) (G : RG) (A : Nat → Prop) (M : Wl) {mo ka ta : Nat} {tv : Int32} (p : Nat) (hp : p < 10) (hM : Mo G mo ka ta tv M) : Kr l G A yX8_row wbX8_row { frames := 7, cells := 6, slots := 22, locals := 153 } M [.ref mo, .int (nI p)] (Gr G A (fun v N => Mo G mo ka ta tv N ∧ Kp M [mo, ka] N ∧ (v, (.inl (G.Z.cI, 0, .inl (fun _ => 0)) : va_E)) ∈ N)) 6 22 := by
  refine Kr.of (cc := cX8_row) (maxL := 2) (ret := (some (.array .int))) (by decide) rfl (Nat.le_of_ble_eq_true rfl) ?_
  intro X hXl S hRT hIN hXA hQ hD
  subst hXl
  subst hXA
  show J (X.at 0 0) 2 (PL G.Z X.A M) 0 [some (.ref mo), some (.int (nI p))] []
  have F0 := S.1.at 0 0 (Nat.le_of_ble_eq_true rfl) (Nat.le_of_ble_eq_true rfl)
  have hOR := S.2.1.or
  obtain ⟨pl1, pe1, f1, kn1, tf1, o1_0, o1_1, o1_2, o1_3, o1_4, o1_5, o1_6, o1_7⟩ := id hM
  have h2 : (mo, (.inr (8, [.int tv, .ref pl1, .ref ka, .ref ta]) : va_E)) ∈ M := o1_0
  have h3 : (pl1, (.inr (10, [.int 10, .ref pe1, .int 10]) : va_E)) ∈ M := o1_1
  have h4 : (pe1, (.inl (G.cO, 10, .inr (.inr (.inr (.inr f1)))) : va_E)) ∈ M := o1_2
  have h5 : (ta, (.inl (G.Z.cI, 8, .inl tf1) : va_E)) ∈ M := o1_4
  have h6 : (ka, (.inl (G.cR, 10, .inr (.inr (.inr (.inr kn1)))) : va_E)) ∈ M := o1_6
  have hDo7 := hD
  refine j_aload_n F0 dX8_row_0 rfl ?_
  refine j_iload_n F0 dX8_row_1 rfl ?_
  have hKm9 : Kp M [] M := by
    intro b x hb hx
    exact hx
  have hMo8 := Mo.mono hM hKm9
  refine m_cVr S (n1 := 1) (rest := []) (r_X8_reading X.l G X.A M p hp hMo8) ⟨_, _, _, _, rfl, (gBV kB_X8_reading (by decide +kernel)), rfl, rfl, (by decide +kernel), ⟨(Nat.le_of_ble_eq_true rfl), (Nat.le_of_ble_eq_true rfl)⟩⟩ h2 rfl rfl (Nat.le_of_ble_eq_true rfl) (Nat.le_of_ble_eq_true rfl) (Nat.le_of_ble_eq_true rfl) rfl dX8_row_2 (fun v10 M11 hD12 hp13 => ?_)
  obtain ⟨hp13m, hp13k, hp13a⟩ := hp13
  obtain ⟨pl14, pe14, f14, kn14, tf14, o14_0, o14_1, o14_2, o14_3, o14_4, o14_5, o14_6, o14_7⟩ := id hp13m
  have h15 : (mo, (.inr (8, [.int tv, .ref pl14, .ref ka, .ref ta]) : va_E)) ∈ M11 := o14_0
  have h16 : (pl14, (.inr (10, [.int 10, .ref pe14, .int 10]) : va_E)) ∈ M11 := o14_1
  have h17 : (pe14, (.inl (G.cO, 10, .inr (.inr (.inr (.inr f14)))) : va_E)) ∈ M11 := o14_2
  have h18 : (ta, (.inl (G.Z.cI, 8, .inl tf14) : va_E)) ∈ M11 := o14_4
  have h19 : (ka, (.inl (G.cR, 10, .inr (.inr (.inr (.inr kn14)))) : va_E)) ∈ M11 := o14_6
  have hDo20 := hD12
  obtain ⟨q211, q212, q213, q214, q21a, q21b, q21c, q21d, q21e⟩ := hp13a
  have h22 : (v10, (.inr (7, [.int (nI p), .ref q211, .int 0, .int (-1), .ref mo]) : va_E)) ∈ M11 := q21a
  have h23 : (q211, (.inr (10, [.int 1, .ref q212, .int 1]) : va_E)) ∈ M11 := q21b
  have h24 : (q212, (.inl (G.cO, 10, .inr (.inr (.inr (.inr (va_up (fun _ => none) 0 (some q213)))))) : va_E)) ∈ M11 := q21c
  have h25 : (q213, (.inr (6, [.ref q214]) : va_E)) ∈ M11 := q21d
  have h26 : (q214, (.inr (10, [.int 0, .ref G.e0, .int 0]) : va_E)) ∈ M11 := q21e
  have F27 := S.1.at 5 22 (Nat.le_of_ble_eq_true rfl) (Nat.le_of_ble_eq_true rfl)
  refine m_cVr S (n1 := 0) (rest := []) (r_X7_numbers X.l G X.A M11 h22 h23 h24 h25 h26) ⟨_, _, _, _, rfl, (gBV kB_X7_numbers (by decide +kernel)), rfl, rfl, (by decide +kernel), ⟨(Nat.le_of_ble_eq_true rfl), (Nat.le_of_ble_eq_true rfl)⟩⟩ h22 rfl rfl (Nat.le_of_ble_eq_true rfl) (Nat.le_of_ble_eq_true rfl) (Nat.le_of_ble_eq_true rfl) rfl dX8_row_5 (fun v28 M29 hD30 hp31 => ?_)
  obtain ⟨hp31a, hp31k, hp31f⟩ := hp31
  have n32 := hp31f _ _ h15
  have n33 := hp31f _ _ h16
  have n34 := hp31f _ _ h17
  have n35 := hp31f _ _ h18
  have n36 := hp31f _ _ h19
  have n37 := hp31f _ _ h22
  have n38 := hp31f _ _ h23
  have n39 := hp31f _ _ h24
  have n40 := hp31f _ _ h25
  have n41 := hp31f _ _ h26
  have n42 : mo ∉ ([] : List Nat) := List.not_mem_nil
  have n43 : pl14 ∉ ([] : List Nat) := List.not_mem_nil
  have n44 : pe14 ∉ ([] : List Nat) := List.not_mem_nil
  have n45 : ta ∉ ([] : List Nat) := List.not_mem_nil
  have n46 : ka ∉ ([] : List Nat) := List.not_mem_nil
  have n47 : v10 ∉ ([] : List Nat) := List.not_mem_nil
  have n48 : q211 ∉ ([] : List Nat) := List.not_mem_nil
  have n49 : q212 ∉ ([] : List Nat) := List.not_mem_nil
  have n50 : q213 ∉ ([] : List Nat) := List.not_mem_nil
  have n51 : q214 ∉ ([] : List Nat) := List.not_mem_nil
  have h15 := hp31k _ _ n42 h15
  have h16 := hp31k _ _ n43 h16
  have h17 := hp31k _ _ n44 h17
  have h18 := hp31k _ _ n45 h18
  have h19 := hp31k _ _ n46 h19
  have h22 := hp31k _ _ n47 h22
  have h23 := hp31k _ _ n48 h23
  have h24 := hp31k _ _ n49 h24
  have h25 := hp31k _ _ n50 h25
  have h26 := hp31k _ _ n51 h26
  have h52 : (v28, (.inl (G.Z.cI, 0, .inl (fun _ => 0)) : va_E)) ∈ M29 := hp31a
  have F53 := S.1.at 6 22 (Nat.le_of_ble_eq_true rfl) (Nat.le_of_ble_eq_true rfl)
  have hKm54 : Kp M11 [] M29 := by
    intro b x hb hx
    have n55 := hp31f _ _ hx
    have n56 : b ∉ ([] : List Nat) := List.not_mem_nil
    have hx := hp31k b x n56 hx
    exact hx
  have hMoN := Mo.mono hp13m hKm54
  have hKp : Kp M [mo, ka] M29 := by
    intro b x hb hx
    have n57 : b ∉ [mo, ka] := by
      intro h9; simp only [List.mem_cons, List.not_mem_nil, or_false] at h9
      rcases h9 with h9 | h9
      · exact (fun c => hb (by rw [c]; simp)) h9
      · exact (fun c => hb (by rw [c]; simp)) h9
    have hx := hp13k b x n57 hx
    have n58 := hp31f _ _ hx
    have n59 : b ∉ ([] : List Nat) := List.not_mem_nil
    have hx := hp31k b x n59 hx
    exact hx
  exact m_areturn S hRT (by first | exact Or.inl ⟨_, rfl⟩ | exact Or.inr ⟨_, rfl⟩) rfl hQ (Nat.le_of_ble_eq_true rfl) (Nat.le_of_ble_eq_true rfl) dX8_row_8 ⟨hMoN, hKp, h52⟩

set_option maxRecDepth 100000 in
set_option maxHeartbeats 4000000 in
theorem r_X8_cloth (l : Launch) (G : RG) (A : Nat → Prop) (M : Wl) {mo ka ta : Nat} {tv : Int32} {t : Nat} (hM : Mo G mo ka ta tv M) : Kr l G A yX8_cloth wbX8_cloth { frames := 8, cells := 14, slots := 47, locals := 174 } M [.ref mo, .ref t] (Gr G A (fun v N => Mo G mo ka ta tv N ∧ Kp M [mo, ka] N ∧ ∃ z : Nat, (v, (.inr (5, [.int 0, .int 0, .ref z]) : va_E)) ∈ N)) 14 47 := by
  refine Kr.of (cc := cX8_cloth) (maxL := 2) (ret := (some (.object "TreadleLoomModel$Cloth"))) (by decide) rfl (Nat.le_of_ble_eq_true rfl) ?_
  intro X hXl S hRT hIN hXA hQ hD
  subst hXl
  subst hXA
  show J (X.at 0 0) 2 (PL G.Z X.A M) 0 [some (.ref mo), some (.ref t)] []
  have F0 := S.1.at 0 0 (Nat.le_of_ble_eq_true rfl) (Nat.le_of_ble_eq_true rfl)
  have hOR := S.2.1.or
  obtain ⟨pl1, pe1, f1, kn1, tf1, o1_0, o1_1, o1_2, o1_3, o1_4, o1_5, o1_6, o1_7⟩ := id hM
  have h2 : (mo, (.inr (8, [.int tv, .ref pl1, .ref ka, .ref ta]) : va_E)) ∈ M := o1_0
  have h3 : (pl1, (.inr (10, [.int 10, .ref pe1, .int 10]) : va_E)) ∈ M := o1_1
  have h4 : (pe1, (.inl (G.cO, 10, .inr (.inr (.inr (.inr f1)))) : va_E)) ∈ M := o1_2
  have h5 : (ta, (.inl (G.Z.cI, 8, .inl tf1) : va_E)) ∈ M := o1_4
  have h6 : (ka, (.inl (G.cR, 10, .inr (.inr (.inr (.inr kn1)))) : va_E)) ∈ M := o1_6
  have hDo7 := hD
  refine m_new S (C := RX5) (T := TX5) (N := 3) (ci := 5) (fs := [.int 0, .int 0, .null]) (by decide +kernel) tyX5 tyX5_ok (by decide +kernel) (by decide +kernel) (by decide +kernel) rfl (fun j hj => by rcases (show j = 0 ∨ j = 1 ∨ j = 2 by omega) with rfl | rfl | rfl <;> rfl) (Nat.le_of_ble_eq_true rfl) (Nat.le_of_ble_eq_true rfl) dX8_cloth_0 (fun q8 M10 hD11 hN9 => ?_)
  have n12 := (hN9.2 _ _ h2).2
  have h2 := (hN9.2 _ _ h2).1
  have n13 := (hN9.2 _ _ h3).2
  have h3 := (hN9.2 _ _ h3).1
  have n14 := (hN9.2 _ _ h4).2
  have h4 := (hN9.2 _ _ h4).1
  have n15 := (hN9.2 _ _ h5).2
  have h5 := (hN9.2 _ _ h5).1
  have n16 := (hN9.2 _ _ h6).2
  have h6 := (hN9.2 _ _ h6).1
  have h17 := hN9.1
  have F18 := S.1.at 1 3 (Nat.le_of_ble_eq_true rfl) (Nat.le_of_ble_eq_true rfl)
  refine j_dup F18 dX8_cloth_3 rfl ?_
  refine j_aload_n F18 dX8_cloth_4 rfl ?_
  refine j_iconst F18 0 dX8_cloth_5 (by decide) ?_
  have hKm20 : Kp M [] M10 := by
    intro b x hb hx
    have n21 := (hN9.2 _ _ hx).2
    have hx := (hN9.2 _ _ hx).1
    exact hx
  have hMo19 := Mo.mono hM hKm20
  refine m_cVr S (n1 := 1) (rest := [.ref q8, .ref q8]) (r_X8_row X.l G X.A M10 0 (by decide) hMo19) ⟨_, _, _, _, rfl, (gBV kB_X8_row (by decide +kernel)), rfl, rfl, (by decide +kernel), ⟨(Nat.le_of_ble_eq_true rfl), (Nat.le_of_ble_eq_true rfl)⟩⟩ h2 rfl rfl (Nat.le_of_ble_eq_true rfl) (Nat.le_of_ble_eq_true rfl) (Nat.le_of_ble_eq_true rfl) rfl dX8_cloth_6 (fun v22 M23 hD24 hp25 => ?_)
  obtain ⟨hp25m, hp25k, hp25a⟩ := hp25
  have n26 : q8 ∉ [mo, ka] := by
    intro h9; simp only [List.mem_cons, List.not_mem_nil, or_false] at h9
    rcases h9 with h9 | h9
    · exact (Ne.symm n12) h9
    · exact (Ne.symm n16) h9
  have h17 := hp25k _ _ n26 h17
  obtain ⟨pl27, pe27, f27, kn27, tf27, o27_0, o27_1, o27_2, o27_3, o27_4, o27_5, o27_6, o27_7⟩ := id hp25m
  have h28 : (mo, (.inr (8, [.int tv, .ref pl27, .ref ka, .ref ta]) : va_E)) ∈ M23 := o27_0
  have h29 : (pl27, (.inr (10, [.int 10, .ref pe27, .int 10]) : va_E)) ∈ M23 := o27_1
  have h30 : (pe27, (.inl (G.cO, 10, .inr (.inr (.inr (.inr f27)))) : va_E)) ∈ M23 := o27_2
  have h31 : (ta, (.inl (G.Z.cI, 8, .inl tf27) : va_E)) ∈ M23 := o27_4
  have h32 : (ka, (.inl (G.cR, 10, .inr (.inr (.inr (.inr kn27)))) : va_E)) ∈ M23 := o27_6
  have hDo33 := hD24
  have h534 := h17
  have h35 := hp25a
  have F36 := S.1.at 7 25 (Nat.le_of_ble_eq_true rfl) (Nat.le_of_ble_eq_true rfl)
  refine j_aload_n F36 dX8_cloth_9 rfl ?_
  refine j_iconst F36 1 dX8_cloth_10 (by decide) ?_
  have hKm38 : Kp M23 [] M23 := by
    intro b x hb hx
    exact hx
  have hMo37 := Mo.mono hp25m hKm38
  refine m_cVr S (n1 := 1) (rest := [.ref v22, .ref q8, .ref q8]) (r_X8_row X.l G X.A M23 1 (by decide) hMo37) ⟨_, _, _, _, rfl, (gBV kB_X8_row (by decide +kernel)), rfl, rfl, (by decide +kernel), ⟨(Nat.le_of_ble_eq_true rfl), (Nat.le_of_ble_eq_true rfl)⟩⟩ h28 rfl rfl (Nat.le_of_ble_eq_true rfl) (Nat.le_of_ble_eq_true rfl) (Nat.le_of_ble_eq_true rfl) rfl dX8_cloth_11 (fun v39 M40 hD41 hp42 => ?_)
  obtain ⟨hp42m, hp42k, hp42a⟩ := hp42
  have n43 : q8 ∉ [mo, ka] := by
    intro h9; simp only [List.mem_cons, List.not_mem_nil, or_false] at h9
    rcases h9 with h9 | h9
    · exact (Ne.symm n12) h9
    · exact (Ne.symm n16) h9
  have n44 : v22 ∉ [mo, ka] := by
    intro h9; simp only [List.mem_cons, List.not_mem_nil, or_false] at h9
    rcases h9 with h9 | h9
    · exact (In.ne hD24 h35 h28 (by simp)) h9
    · exact (In.ne hD24 h35 h32 (by simp)) h9
  have h17 := hp42k _ _ n43 h17
  have h35 := hp42k _ _ n44 h35
  obtain ⟨pl45, pe45, f45, kn45, tf45, o45_0, o45_1, o45_2, o45_3, o45_4, o45_5, o45_6, o45_7⟩ := id hp42m
  have h46 : (mo, (.inr (8, [.int tv, .ref pl45, .ref ka, .ref ta]) : va_E)) ∈ M40 := o45_0
  have h47 : (pl45, (.inr (10, [.int 10, .ref pe45, .int 10]) : va_E)) ∈ M40 := o45_1
  have h48 : (pe45, (.inl (G.cO, 10, .inr (.inr (.inr (.inr f45)))) : va_E)) ∈ M40 := o45_2
  have h49 : (ta, (.inl (G.Z.cI, 8, .inl tf45) : va_E)) ∈ M40 := o45_4
  have h50 : (ka, (.inl (G.cR, 10, .inr (.inr (.inr (.inr kn45)))) : va_E)) ∈ M40 := o45_6
  have hDo51 := hD41
  have h552 := h17
  have h53 := hp42a
  have F54 := S.1.at 13 47 (Nat.le_of_ble_eq_true rfl) (Nat.le_of_ble_eq_true rfl)
  refine j_aload_n F54 dX8_cloth_14 rfl ?_
  refine m_cIv S (n1 := 3) (rest := [.ref q8]) (r_X5_init X.l G X.A M40 (t3 := t) h17 h35 h53) ⟨_, _, _, rfl, (gB kB_X5_init), rfl, rfl, (by decide +kernel), (by decide +kernel), (by decide +kernel), rfl, (by decide +kernel), ⟨(Nat.le_of_ble_eq_true rfl), (Nat.le_of_ble_eq_true rfl)⟩⟩ rfl (Nat.le_of_ble_eq_true rfl) (Nat.le_of_ble_eq_true rfl) (Nat.le_of_ble_eq_true rfl) rfl dX8_cloth_15 (fun M56 hD57 hp58 => ?_)
  obtain ⟨z59, hp58a, hp58k⟩ := hp58
  have n60 : v22 ∉ [q8] := by
    intro h9; simp only [List.mem_cons, List.not_mem_nil, or_false] at h9
    · exact (In.ne hD41 h35 h17 (by simp)) h9
  have n61 : mo ∉ [q8] := by
    intro h9; simp only [List.mem_cons, List.not_mem_nil, or_false] at h9
    · exact n12 h9
  have n62 : pl45 ∉ [q8] := by
    intro h9; simp only [List.mem_cons, List.not_mem_nil, or_false] at h9
    · exact (In.ne hD41 h47 h17 (by simp)) h9
  have n63 : pe45 ∉ [q8] := by
    intro h9; simp only [List.mem_cons, List.not_mem_nil, or_false] at h9
    · exact (In.ne hD41 h48 h17 (by simp)) h9
  have n64 : ta ∉ [q8] := by
    intro h9; simp only [List.mem_cons, List.not_mem_nil, or_false] at h9
    · exact n15 h9
  have n65 : ka ∉ [q8] := by
    intro h9; simp only [List.mem_cons, List.not_mem_nil, or_false] at h9
    · exact n16 h9
  have n66 : v39 ∉ [q8] := by
    intro h9; simp only [List.mem_cons, List.not_mem_nil, or_false] at h9
    · exact (In.ne hD41 h53 h17 (by simp)) h9
  have h35 := hp58k _ _ n60 h35
  have h46 := hp58k _ _ n61 h46
  have h47 := hp58k _ _ n62 h47
  have h48 := hp58k _ _ n63 h48
  have h49 := hp58k _ _ n64 h49
  have h50 := hp58k _ _ n65 h50
  have h53 := hp58k _ _ n66 h53
  have h67 : (q8, (.inr (5, [.int 0, .int 0, .ref z59]) : va_E)) ∈ M56 := hp58a
  have F68 := S.1.at 14 47 (Nat.le_of_ble_eq_true rfl) (Nat.le_of_ble_eq_true rfl)
  have hKm69 : Kp M40 [q8] M56 := by
    intro b x hb hx
    have n70 : b ∉ [q8] := by
      intro h9; simp only [List.mem_cons, List.not_mem_nil, or_false] at h9
      · exact (fun c => hb (by rw [c]; simp)) h9
    have hx := hp58k b x n70 hx
    exact hx
  have hMoN := Mo.mono5 hDo51 hp42m h552 hKm69
  have hKp : Kp M [mo, ka] M56 := by
    intro b x hb hx
    have n71 := (hN9.2 _ _ hx).2
    have hx := (hN9.2 _ _ hx).1
    have n72 : b ∉ [mo, ka] := by
      intro h9; simp only [List.mem_cons, List.not_mem_nil, or_false] at h9
      rcases h9 with h9 | h9
      · exact (fun c => hb (by rw [c]; simp)) h9
      · exact (fun c => hb (by rw [c]; simp)) h9
    have hx := hp25k b x n72 hx
    have n73 : b ∉ [mo, ka] := by
      intro h9; simp only [List.mem_cons, List.not_mem_nil, or_false] at h9
      rcases h9 with h9 | h9
      · exact (fun c => hb (by rw [c]; simp)) h9
      · exact (fun c => hb (by rw [c]; simp)) h9
    have hx := hp42k b x n73 hx
    have n74 : b ∉ [q8] := by
      intro h9; simp only [List.mem_cons, List.not_mem_nil, or_false] at h9
      · exact n71 h9
    have hx := hp58k b x n74 hx
    exact hx
  exact m_areturn S hRT (by first | exact Or.inl ⟨_, rfl⟩ | exact Or.inr ⟨_, rfl⟩) rfl hQ (Nat.le_of_ble_eq_true rfl) (Nat.le_of_ble_eq_true rfl) dX8_cloth_18 ⟨hMoN, hKp, z59, h67⟩

set_option maxRecDepth 100000 in
set_option maxHeartbeats 4000000 in
theorem r_X8_cloth_ (l : Launch) (G : RG) (A : Nat → Prop) (M : Wl) {mo ka ta : Nat} {tv : Int32} (hM : Mo G mo ka ta tv M) : Kr l G A yX8_cloth_ wbX8_cloth_ { frames := 9, cells := 14, slots := 47, locals := 195 } M [.ref mo] (Gr G A (fun v N => Mo G mo ka ta tv N ∧ Kp M [mo, ka] N ∧ ∃ z : Nat, (v, (.inr (5, [.int 0, .int 0, .ref z]) : va_E)) ∈ N)) 14 47 := by
  refine Kr.of (cc := cX8_cloth_) (maxL := 1) (ret := (some (.object "TreadleLoomModel$Cloth"))) (by decide) rfl (Nat.le_of_ble_eq_true rfl) ?_
  intro X hXl S hRT hIN hXA hQ hD
  subst hXl
  subst hXA
  show J (X.at 0 0) 1 (PL G.Z X.A M) 0 [some (.ref mo)] []
  have F0 := S.1.at 0 0 (Nat.le_of_ble_eq_true rfl) (Nat.le_of_ble_eq_true rfl)
  have hOR := S.2.1.or
  obtain ⟨pl1, pe1, f1, kn1, tf1, o1_0, o1_1, o1_2, o1_3, o1_4, o1_5, o1_6, o1_7⟩ := id hM
  have h2 : (mo, (.inr (8, [.int tv, .ref pl1, .ref ka, .ref ta]) : va_E)) ∈ M := o1_0
  have h3 : (pl1, (.inr (10, [.int 10, .ref pe1, .int 10]) : va_E)) ∈ M := o1_1
  have h4 : (pe1, (.inl (G.cO, 10, .inr (.inr (.inr (.inr f1)))) : va_E)) ∈ M := o1_2
  have h5 : (ta, (.inl (G.Z.cI, 8, .inl tf1) : va_E)) ∈ M := o1_4
  have h6 : (ka, (.inl (G.cR, 10, .inr (.inr (.inr (.inr kn1)))) : va_E)) ∈ M := o1_6
  have hDo7 := hD
  refine j_aload_n F0 dX8_cloth__0 rfl ?_
  refine j_aload_n F0 dX8_cloth__1 rfl ?_
  refine m_get S (C := RX8) (T := TX8) (N := 4) (by decide +kernel) h2 rfl (v := .ref ta) 3 (by decide) (by decide +kernel) (fun _ h9 => h9) rfl dX8_cloth__2 ?_
  have hKm9 : Kp M [] M := by
    intro b x hb hx
    exact hx
  have hMo8 := Mo.mono hM hKm9
  refine m_cVr S (n1 := 1) (rest := []) (r_X8_cloth X.l G X.A M (t := ta) hMo8) ⟨_, _, _, _, rfl, (gBV kB_X8_cloth (by decide +kernel)), rfl, rfl, (by decide +kernel), ⟨(Nat.le_of_ble_eq_true rfl), (Nat.le_of_ble_eq_true rfl)⟩⟩ h2 rfl rfl (Nat.le_of_ble_eq_true rfl) (Nat.le_of_ble_eq_true rfl) (Nat.le_of_ble_eq_true rfl) rfl dX8_cloth__5 (fun v10 M11 hD12 hp13 => ?_)
  obtain ⟨hp13m, hp13k, z14, hp13a⟩ := hp13
  obtain ⟨pl15, pe15, f15, kn15, tf15, o15_0, o15_1, o15_2, o15_3, o15_4, o15_5, o15_6, o15_7⟩ := id hp13m
  have h16 : (mo, (.inr (8, [.int tv, .ref pl15, .ref ka, .ref ta]) : va_E)) ∈ M11 := o15_0
  have h17 : (pl15, (.inr (10, [.int 10, .ref pe15, .int 10]) : va_E)) ∈ M11 := o15_1
  have h18 : (pe15, (.inl (G.cO, 10, .inr (.inr (.inr (.inr f15)))) : va_E)) ∈ M11 := o15_2
  have h19 : (ta, (.inl (G.Z.cI, 8, .inl tf15) : va_E)) ∈ M11 := o15_4
  have h20 : (ka, (.inl (G.cR, 10, .inr (.inr (.inr (.inr kn15)))) : va_E)) ∈ M11 := o15_6
  have hDo21 := hD12
  have h22 := hp13a
  have F23 := S.1.at 14 47 (Nat.le_of_ble_eq_true rfl) (Nat.le_of_ble_eq_true rfl)
  have hKm24 : Kp M11 [] M11 := by
    intro b x hb hx
    exact hx
  have hMoN := Mo.mono hp13m hKm24
  have hKp : Kp M [mo, ka] M11 := by
    intro b x hb hx
    have n25 : b ∉ [mo, ka] := by
      intro h9; simp only [List.mem_cons, List.not_mem_nil, or_false] at h9
      rcases h9 with h9 | h9
      · exact (fun c => hb (by rw [c]; simp)) h9
      · exact (fun c => hb (by rw [c]; simp)) h9
    have hx := hp13k b x n25 hx
    exact hx
  exact m_areturn S hRT (by first | exact Or.inl ⟨_, rfl⟩ | exact Or.inr ⟨_, rfl⟩) rfl hQ (Nat.le_of_ble_eq_true rfl) (Nat.le_of_ble_eq_true rfl) dX8_cloth__8 ⟨hMoN, hKp, z14, h22⟩

set_option maxRecDepth 100000 in
set_option maxHeartbeats 4000000 in
theorem r_J6_bitCount_0f7a4 (l : Launch) (G : RG) (A : Nat → Prop) (M : Wl) : Kr l G A yJ6_bitCount_0f7a4 wsJ6_bitCount_0f7a4 { frames := 0, cells := 0, slots := 0, locals := 0 } M [.int 0] (Gi G A (fun v N => (0 : Int32) = v ∧ M = N)) 0 0 := by
  refine Kr.of (cc := cJ6_bitCount_0f7a4) (maxL := 1) (ret := (some .int)) (by decide) rfl (Nat.le_of_ble_eq_true rfl) ?_
  intro X hXl S hRT hIN hXA hQ hD
  subst hXl
  subst hXA
  show J (X.at 0 0) 1 (PL G.Z X.A M) 0 [some (.int 0)] []
  have F0 := S.1.at 0 0 (Nat.le_of_ble_eq_true rfl) (Nat.le_of_ble_eq_true rfl)
  have hOR := S.2.1.or
  refine j_iload_n F0 dJ6_bitCount_0f7a4_0 rfl ?_
  refine j_iload_n F0 dJ6_bitCount_0f7a4_1 rfl ?_
  refine j_iconst F0 1 dJ6_bitCount_0f7a4_2 (by decide) ?_
  refine j_iushr F0 0 dJ6_bitCount_0f7a4_3 (by decide) ?_
  refine m_ldcw F0 (v := 1431655765) (by decide +kernel) dJ6_bitCount_0f7a4_4 ?_
  refine j_iand F0 0 dJ6_bitCount_0f7a4_7 (by decide) ?_
  refine j_isub F0 0 dJ6_bitCount_0f7a4_8 (by decide) ?_
  refine j_istore_n F0 [some (.int 0)] dJ6_bitCount_0f7a4_9 (by decide) rfl rfl ?_
  refine j_iload_n F0 dJ6_bitCount_0f7a4_10 rfl ?_
  refine m_ldcw F0 (v := 858993459) (by decide +kernel) dJ6_bitCount_0f7a4_11 ?_
  refine j_iand F0 0 dJ6_bitCount_0f7a4_14 (by decide) ?_
  refine j_iload_n F0 dJ6_bitCount_0f7a4_15 rfl ?_
  refine j_iconst F0 2 dJ6_bitCount_0f7a4_16 (by decide) ?_
  refine j_iushr F0 0 dJ6_bitCount_0f7a4_17 (by decide) ?_
  refine m_ldcw F0 (v := 858993459) (by decide +kernel) dJ6_bitCount_0f7a4_18 ?_
  refine j_iand F0 0 dJ6_bitCount_0f7a4_21 (by decide) ?_
  refine j_iadd F0 0 dJ6_bitCount_0f7a4_22 (by decide) ?_
  refine j_istore_n F0 [some (.int 0)] dJ6_bitCount_0f7a4_23 (by decide) rfl rfl ?_
  refine j_iload_n F0 dJ6_bitCount_0f7a4_24 rfl ?_
  refine j_iload_n F0 dJ6_bitCount_0f7a4_25 rfl ?_
  refine j_iconst F0 4 dJ6_bitCount_0f7a4_26 (by decide) ?_
  refine j_iushr F0 0 dJ6_bitCount_0f7a4_27 (by decide) ?_
  refine j_iadd F0 0 dJ6_bitCount_0f7a4_28 (by decide) ?_
  refine m_ldcw F0 (v := 252645135) (by decide +kernel) dJ6_bitCount_0f7a4_29 ?_
  refine j_iand F0 0 dJ6_bitCount_0f7a4_32 (by decide) ?_
  refine j_istore_n F0 [some (.int 0)] dJ6_bitCount_0f7a4_33 (by decide) rfl rfl ?_
  refine j_iload_n F0 dJ6_bitCount_0f7a4_34 rfl ?_
  refine j_iload_n F0 dJ6_bitCount_0f7a4_35 rfl ?_
  refine j_bipush F0 8 dJ6_bitCount_0f7a4_36 (by decide) ?_
  refine j_iushr F0 0 dJ6_bitCount_0f7a4_38 (by decide) ?_
  refine j_iadd F0 0 dJ6_bitCount_0f7a4_39 (by decide) ?_
  refine j_istore_n F0 [some (.int 0)] dJ6_bitCount_0f7a4_40 (by decide) rfl rfl ?_
  refine j_iload_n F0 dJ6_bitCount_0f7a4_41 rfl ?_
  refine j_iload_n F0 dJ6_bitCount_0f7a4_42 rfl ?_
  refine j_bipush F0 16 dJ6_bitCount_0f7a4_43 (by decide) ?_
  refine j_iushr F0 0 dJ6_bitCount_0f7a4_45 (by decide) ?_
  refine j_iadd F0 0 dJ6_bitCount_0f7a4_46 (by decide) ?_
  refine j_istore_n F0 [some (.int 0)] dJ6_bitCount_0f7a4_47 (by decide) rfl rfl ?_
  refine j_iload_n F0 dJ6_bitCount_0f7a4_48 rfl ?_
  refine j_bipush F0 63 dJ6_bitCount_0f7a4_49 (by decide) ?_
  refine j_iand F0 0 dJ6_bitCount_0f7a4_51 (by decide) ?_
  exact m_ireturn S hRT rfl hQ (Nat.le_of_ble_eq_true rfl) (Nat.le_of_ble_eq_true rfl) dJ6_bitCount_0f7a4_52 rfl ⟨rfl, rfl⟩

set_option maxRecDepth 100000 in
set_option maxHeartbeats 4000000 in
theorem r_X8_used (l : Launch) (G : RG) (A : Nat → Prop) (M : Wl) {a : Nat} (h0 : (a, .inl (G.Z.cI, 0, .inl (fun _ => 0))) ∈ M) : Kr l G A yX8_used wsX8_used { frames := 1, cells := 0, slots := 0, locals := 20 } M [.ref a] (Gi G A (fun v N => (0 : Int32) = v ∧ M = N)) 0 0 := by
  refine Kr.of (cc := cX8_used) (maxL := 6) (ret := (some .int)) (by decide) rfl (Nat.le_of_ble_eq_true rfl) ?_
  intro X hXl S hRT hIN hXA hQ hD
  subst hXl
  subst hXA
  show J (X.at 0 0) 6 (PL G.Z X.A M) 0 [some (.ref a), none, none, none, none, none] []
  have F0 := S.1.at 0 0 (Nat.le_of_ble_eq_true rfl) (Nat.le_of_ble_eq_true rfl)
  have hOR := S.2.1.or
  refine j_iconst F0 0 dX8_used_0 (by decide) ?_
  refine j_istore_n F0 [some (.ref a), some (.int 0), none, none, none, none] dX8_used_1 (by decide) rfl rfl ?_
  refine j_aload_n F0 dX8_used_2 rfl ?_
  refine j_astore_n F0 [some (.ref a), some (.int 0), some (.ref a), none, none, none] dX8_used_3 (by decide) rfl rfl ?_
  refine j_aload_n F0 dX8_used_4 rfl ?_
  refine m_alen S (t0 := 0) (v := 0) h0 rfl (by first | decide | rfl) dX8_used_5 ?_
  refine j_istore_n F0 [some (.ref a), some (.int 0), some (.ref a), some (.int 0), none, none] dX8_used_6 (by decide) rfl rfl ?_
  refine j_iconst F0 0 dX8_used_7 (by decide) ?_
  refine j_istore F0 [some (.ref a), some (.int 0), some (.ref a), some (.int 0), some (.int 0), none] dX8_used_8 (by decide) rfl rfl ?_
  refine j_iload F0 dX8_used_10 rfl ?_
  refine j_iload_n F0 dX8_used_12 rfl ?_
  refine j_icmp_ge F0 35 dX8_used_13 (by decide) (fun _ => ?_) (fun h9 => absurd (by decide) h9)
  refine j_iload_n F0 dX8_used_35 rfl ?_
  refine m_cSi S (n1 := 1) (rest := []) (r_J6_bitCount_0f7a4 X.l G X.A M) ⟨_, _, _, _, rfl, gX8_used_J6_bitCount_0f7a4, rfl, rfl, (by decide +kernel), ⟨(Nat.le_of_ble_eq_true rfl), (Nat.le_of_ble_eq_true rfl)⟩⟩ rfl (Nat.le_of_ble_eq_true rfl) (Nat.le_of_ble_eq_true rfl) (Nat.le_of_ble_eq_true rfl) rfl dX8_used_36 (fun v1 M2 hD3 hp4 => ?_)
  obtain ⟨hp4a, hp4b⟩ := hp4
  subst hp4a
  subst hp4b
  exact m_ireturn S hRT rfl hQ (Nat.le_of_ble_eq_true rfl) (Nat.le_of_ble_eq_true rfl) dX8_used_39 rfl ⟨rfl, rfl⟩

set_option maxRecDepth 100000 in
set_option maxHeartbeats 4000000 in
theorem r_X8_periodOf (l : Launch) (G : RG) (A : Nat → Prop) (M : Wl) {mo a pl ka ta : Nat} {tv : Int32} (h0 : (a, .inl (G.Z.cI, 0, .inl (fun _ => 0))) ∈ M) : Kr l G A yX8_periodOf wsX8_periodOf { frames := 0, cells := 0, slots := 0, locals := 0 } M [.ref mo, .ref a] (Gi G A (fun v N => (0 : Int32) = v ∧ M = N)) 0 0 := by
  refine Kr.of (cc := cX8_periodOf) (maxL := 5) (ret := (some .int)) (by decide) rfl (Nat.le_of_ble_eq_true rfl) ?_
  intro X hXl S hRT hIN hXA hQ hD
  subst hXl
  subst hXA
  show J (X.at 0 0) 5 (PL G.Z X.A M) 0 [some (.ref mo), some (.ref a), none, none, none] []
  have F0 := S.1.at 0 0 (Nat.le_of_ble_eq_true rfl) (Nat.le_of_ble_eq_true rfl)
  have hOR := S.2.1.or
  refine j_iconst F0 1 dX8_periodOf_0 (by decide) ?_
  refine j_istore_n F0 [some (.ref mo), some (.ref a), some (.int 1), none, none] dX8_periodOf_1 (by decide) rfl rfl ?_
  refine j_iload_n F0 dX8_periodOf_2 rfl ?_
  refine j_aload_n F0 dX8_periodOf_3 rfl ?_
  refine m_alen S (t0 := 0) (v := 0) h0 rfl (by first | decide | rfl) dX8_periodOf_4 ?_
  refine j_icmp_gt F0 59 dX8_periodOf_5 (by decide) (fun _ => ?_) (fun h9 => absurd (by decide) h9)
  refine j_iconst F0 0 dX8_periodOf_59 (by decide) ?_
  exact m_ireturn S hRT rfl hQ (Nat.le_of_ble_eq_true rfl) (Nat.le_of_ble_eq_true rfl) dX8_periodOf_60 rfl ⟨rfl, rfl⟩

def ofN (w : Nat) : Int32 := if w = 3 then -1 else 0

set_option maxRecDepth 100000 in
set_option maxHeartbeats 4000000 in
theorem r_X8_of (l : Launch) (G : RG) (A : Nat → Prop) (M : Wl) {mo ka ta : Nat} {tv : Int32} (p : Nat) (hp : p < 10) (w : Nat) (hw : w < 4) (hM : Mo G mo ka ta tv M) : Kr l G A yX8_of wbX8_of { frames := 7, cells := 7, slots := 26, locals := 153 } M [.ref mo, .int (nI p), .int (nI w)] (Gi G A (fun v N => Mo G mo ka ta tv N ∧ Kp M [mo, ka] N ∧ (ofN w : Int32) = v)) 7 26 := by
  refine Kr.of (cc := cX8_of) (maxL := 5) (ret := (some .int)) (by decide) rfl (Nat.le_of_ble_eq_true rfl) ?_
  intro X hXl S hRT hIN hXA hQ hD
  subst hXl
  subst hXA
  show J (X.at 0 0) 5 (PL G.Z X.A M) 0 [some (.ref mo), some (.int (nI p)), some (.int (nI w)), none, none] []
  have F0 := S.1.at 0 0 (Nat.le_of_ble_eq_true rfl) (Nat.le_of_ble_eq_true rfl)
  have hOR := S.2.1.or
  obtain ⟨pl1, pe1, f1, kn1, tf1, o1_0, o1_1, o1_2, o1_3, o1_4, o1_5, o1_6, o1_7⟩ := id hM
  have h2 : (mo, (.inr (8, [.int tv, .ref pl1, .ref ka, .ref ta]) : va_E)) ∈ M := o1_0
  have h3 : (pl1, (.inr (10, [.int 10, .ref pe1, .int 10]) : va_E)) ∈ M := o1_1
  have h4 : (pe1, (.inl (G.cO, 10, .inr (.inr (.inr (.inr f1)))) : va_E)) ∈ M := o1_2
  have h5 : (ta, (.inl (G.Z.cI, 8, .inl tf1) : va_E)) ∈ M := o1_4
  have h6 : (ka, (.inl (G.cR, 10, .inr (.inr (.inr (.inr kn1)))) : va_E)) ∈ M := o1_6
  have hDo7 := hD
  refine j_aload_n F0 dX8_of_0 rfl ?_
  refine j_iload_n F0 dX8_of_1 rfl ?_
  have hKm9 : Kp M [] M := by
    intro b x hb hx
    exact hx
  have hMo8 := Mo.mono hM hKm9
  refine m_cVr S (n1 := 1) (rest := []) (r_X8_reading X.l G X.A M p hp hMo8) ⟨_, _, _, _, rfl, (gBV kB_X8_reading (by decide +kernel)), rfl, rfl, (by decide +kernel), ⟨(Nat.le_of_ble_eq_true rfl), (Nat.le_of_ble_eq_true rfl)⟩⟩ h2 rfl rfl (Nat.le_of_ble_eq_true rfl) (Nat.le_of_ble_eq_true rfl) (Nat.le_of_ble_eq_true rfl) rfl dX8_of_2 (fun v10 M11 hD12 hp13 => ?_)
  obtain ⟨hp13m, hp13k, hp13a⟩ := hp13
  obtain ⟨pl14, pe14, f14, kn14, tf14, o14_0, o14_1, o14_2, o14_3, o14_4, o14_5, o14_6, o14_7⟩ := id hp13m
  have h15 : (mo, (.inr (8, [.int tv, .ref pl14, .ref ka, .ref ta]) : va_E)) ∈ M11 := o14_0
  have h16 : (pl14, (.inr (10, [.int 10, .ref pe14, .int 10]) : va_E)) ∈ M11 := o14_1
  have h17 : (pe14, (.inl (G.cO, 10, .inr (.inr (.inr (.inr f14)))) : va_E)) ∈ M11 := o14_2
  have h18 : (ta, (.inl (G.Z.cI, 8, .inl tf14) : va_E)) ∈ M11 := o14_4
  have h19 : (ka, (.inl (G.cR, 10, .inr (.inr (.inr (.inr kn14)))) : va_E)) ∈ M11 := o14_6
  have hDo20 := hD12
  obtain ⟨q211, q212, q213, q214, q21a, q21b, q21c, q21d, q21e⟩ := hp13a
  have h22 : (v10, (.inr (7, [.int (nI p), .ref q211, .int 0, .int (-1), .ref mo]) : va_E)) ∈ M11 := q21a
  have h23 : (q211, (.inr (10, [.int 1, .ref q212, .int 1]) : va_E)) ∈ M11 := q21b
  have h24 : (q212, (.inl (G.cO, 10, .inr (.inr (.inr (.inr (va_up (fun _ => none) 0 (some q213)))))) : va_E)) ∈ M11 := q21c
  have h25 : (q213, (.inr (6, [.ref q214]) : va_E)) ∈ M11 := q21d
  have h26 : (q214, (.inr (10, [.int 0, .ref G.e0, .int 0]) : va_E)) ∈ M11 := q21e
  have F27 := S.1.at 5 22 (Nat.le_of_ble_eq_true rfl) (Nat.le_of_ble_eq_true rfl)
  obtain ⟨t9, ht9, ht8⟩ := o14_3 p hp
  have h28 : (t9, (.inr (10, [.int 0, .ref G.e0, .int 0]) : va_E)) ∈ M11 := ht8
  refine j_astore_n F27 [some (.ref mo), some (.int (nI p)), some (.int (nI w)), some (.ref v10), none] dX8_of_5 (by decide) rfl rfl ?_
  refine j_iconst F27 4 dX8_of_6 (by decide) ?_
  refine m_newi S (N := 4) (by decide +kernel) (by decide) (by decide) (Nat.le_of_ble_eq_true rfl) (Nat.le_of_ble_eq_true rfl) (Nat.le_of_ble_eq_true rfl) dX8_of_7 (fun q29 M31 hD32 hN30 => ?_)
  have n33 := (hN30.2 _ _ h15).2
  have h15 := (hN30.2 _ _ h15).1
  have n34 := (hN30.2 _ _ h16).2
  have h16 := (hN30.2 _ _ h16).1
  have n35 := (hN30.2 _ _ h17).2
  have h17 := (hN30.2 _ _ h17).1
  have n36 := (hN30.2 _ _ h18).2
  have h18 := (hN30.2 _ _ h18).1
  have n37 := (hN30.2 _ _ h19).2
  have h19 := (hN30.2 _ _ h19).1
  have n38 := (hN30.2 _ _ h22).2
  have h22 := (hN30.2 _ _ h22).1
  have n39 := (hN30.2 _ _ h23).2
  have h23 := (hN30.2 _ _ h23).1
  have n40 := (hN30.2 _ _ h24).2
  have h24 := (hN30.2 _ _ h24).1
  have n41 := (hN30.2 _ _ h25).2
  have h25 := (hN30.2 _ _ h25).1
  have n42 := (hN30.2 _ _ h26).2
  have h26 := (hN30.2 _ _ h26).1
  have n43 := (hN30.2 _ _ h28).2
  have h28 := (hN30.2 _ _ h28).1
  have h44 := hN30.1
  have F45 := S.1.at 6 26 (Nat.le_of_ble_eq_true rfl) (Nat.le_of_ble_eq_true rfl)
  refine j_dup F45 dX8_of_9 rfl ?_
  refine j_iconst F45 0 dX8_of_10 (by decide) ?_
  refine j_aload_n F45 dX8_of_11 rfl ?_
  refine m_get S (C := RX8) (T := TX8) (N := 4) (by decide +kernel) h15 rfl (v := .ref pl14) 1 (by decide) (by decide +kernel) (fun _ h9 => h9) rfl dX8_of_12 ?_
  refine j_iload_n F45 dX8_of_15 rfl ?_
  refine m_cVr S (n1 := 1) (rest := [.int 0, .ref q29, .ref q29]) (r_Jx4a65c_get_915e3 X.l G X.A M31 (nI p) t9 (nI_pos (by omega)) (by rw [show (10 : Int32) = nI 10 from rfl, nI_ltI (by omega) (by omega)]; exact hp) (vp_in_nI hp (by decide)) (by rw [nI_clamp (by omega)]; exact ht9) h16 h17) ⟨_, _, _, _, rfl, (gBV kB_Jx4a65c_get_915e3 (by decide +kernel)), rfl, rfl, (by decide +kernel), ⟨(Nat.le_of_ble_eq_true rfl), (Nat.le_of_ble_eq_true rfl)⟩⟩ h16 rfl rfl (Nat.le_of_ble_eq_true rfl) (Nat.le_of_ble_eq_true rfl) (Nat.le_of_ble_eq_true rfl) rfl dX8_of_16 (fun v46 M47 hD48 hp49 => ?_)
  obtain ⟨hp49a, hp49b⟩ := hp49
  subst hp49a
  subst hp49b
  refine m_cast S (C := "java/util/ArrayList") h28 rfl (by decide +kernel) dX8_of_19 ?_
  refine m_cVi S (n1 := 0) (rest := [.int 0, .ref q29, .ref q29]) (r_Jx4a65c_size_8abf5 X.l G X.A M31 h28) ⟨_, _, _, _, rfl, (gBV kB_Jx4a65c_size_8abf5 (by decide +kernel)), rfl, rfl, (by decide +kernel), ⟨(Nat.le_of_ble_eq_true rfl), (Nat.le_of_ble_eq_true rfl)⟩⟩ h28 rfl rfl (Nat.le_of_ble_eq_true rfl) (Nat.le_of_ble_eq_true rfl) (Nat.le_of_ble_eq_true rfl) rfl dX8_of_22 (fun v50 M51 hD52 hp53 => ?_)
  obtain ⟨hp53a, hp53b⟩ := hp53
  subst hp53a
  subst hp53b
  refine m_iastore S (k0 := 0) h44 (by unfold vp_in; decide) (by decide) dX8_of_25 (fun M55 hD56 hU54 => ?_)
  have n57 : mo ≠ q29 := n33
  have n58 : pl14 ≠ q29 := n34
  have n59 : pe14 ≠ q29 := n35
  have n60 : ta ≠ q29 := n36
  have n61 : ka ≠ q29 := n37
  have n62 : v10 ≠ q29 := n38
  have n63 : q211 ≠ q29 := n39
  have n64 : q212 ≠ q29 := n40
  have n65 : q213 ≠ q29 := n41
  have n66 : q214 ≠ q29 := n42
  have n67 : t9 ≠ q29 := n43
  have h15 := hU54.2 _ _ n57 h15
  have h16 := hU54.2 _ _ n58 h16
  have h17 := hU54.2 _ _ n59 h17
  have h18 := hU54.2 _ _ n60 h18
  have h19 := hU54.2 _ _ n61 h19
  have h22 := hU54.2 _ _ n62 h22
  have h23 := hU54.2 _ _ n63 h23
  have h24 := hU54.2 _ _ n64 h24
  have h25 := hU54.2 _ _ n65 h25
  have h26 := hU54.2 _ _ n66 h26
  have h28 := hU54.2 _ _ n67 h28
  have h44 := hU54.1
  refine j_dup F45 dX8_of_26 rfl ?_
  refine j_iconst F45 1 dX8_of_27 (by decide) ?_
  refine j_aload_n F45 dX8_of_28 rfl ?_
  refine m_cVr S (n1 := 0) (rest := [.int 1, .ref q29, .ref q29]) (r_X7_numbers X.l G X.A M55 h22 h23 h24 h25 h26) ⟨_, _, _, _, rfl, (gBV kB_X7_numbers (by decide +kernel)), rfl, rfl, (by decide +kernel), ⟨(Nat.le_of_ble_eq_true rfl), (Nat.le_of_ble_eq_true rfl)⟩⟩ h22 rfl rfl (Nat.le_of_ble_eq_true rfl) (Nat.le_of_ble_eq_true rfl) (Nat.le_of_ble_eq_true rfl) rfl dX8_of_29 (fun v68 M69 hD70 hp71 => ?_)
  obtain ⟨hp71a, hp71k, hp71f⟩ := hp71
  have n72 := hp71f _ _ h15
  have n73 := hp71f _ _ h16
  have n74 := hp71f _ _ h17
  have n75 := hp71f _ _ h18
  have n76 := hp71f _ _ h19
  have n77 := hp71f _ _ h22
  have n78 := hp71f _ _ h23
  have n79 := hp71f _ _ h24
  have n80 := hp71f _ _ h25
  have n81 := hp71f _ _ h26
  have n82 := hp71f _ _ h28
  have n83 := hp71f _ _ h44
  have n84 : mo ∉ ([] : List Nat) := List.not_mem_nil
  have n85 : pl14 ∉ ([] : List Nat) := List.not_mem_nil
  have n86 : pe14 ∉ ([] : List Nat) := List.not_mem_nil
  have n87 : ta ∉ ([] : List Nat) := List.not_mem_nil
  have n88 : ka ∉ ([] : List Nat) := List.not_mem_nil
  have n89 : v10 ∉ ([] : List Nat) := List.not_mem_nil
  have n90 : q211 ∉ ([] : List Nat) := List.not_mem_nil
  have n91 : q212 ∉ ([] : List Nat) := List.not_mem_nil
  have n92 : q213 ∉ ([] : List Nat) := List.not_mem_nil
  have n93 : q214 ∉ ([] : List Nat) := List.not_mem_nil
  have n94 : t9 ∉ ([] : List Nat) := List.not_mem_nil
  have n95 : q29 ∉ ([] : List Nat) := List.not_mem_nil
  have h15 := hp71k _ _ n84 h15
  have h16 := hp71k _ _ n85 h16
  have h17 := hp71k _ _ n86 h17
  have h18 := hp71k _ _ n87 h18
  have h19 := hp71k _ _ n88 h19
  have h22 := hp71k _ _ n89 h22
  have h23 := hp71k _ _ n90 h23
  have h24 := hp71k _ _ n91 h24
  have h25 := hp71k _ _ n92 h25
  have h26 := hp71k _ _ n93 h26
  have h28 := hp71k _ _ n94 h28
  have h44 := hp71k _ _ n95 h44
  have h96 : (v68, (.inl (G.Z.cI, 0, .inl (fun _ => 0)) : va_E)) ∈ M69 := hp71a
  have F97 := S.1.at 7 26 (Nat.le_of_ble_eq_true rfl) (Nat.le_of_ble_eq_true rfl)
  refine m_alen S (t0 := 0) (v := 0) h96 rfl (by first | decide | rfl) dX8_of_32 ?_
  refine m_iastore S (k0 := 1) h44 (by unfold vp_in; decide) (by decide) dX8_of_33 (fun M99 hD100 hU98 => ?_)
  have n101 : mo ≠ q29 := n57
  have n102 : pl14 ≠ q29 := n58
  have n103 : pe14 ≠ q29 := n59
  have n104 : ta ≠ q29 := n60
  have n105 : ka ≠ q29 := n61
  have n106 : v10 ≠ q29 := n62
  have n107 : q211 ≠ q29 := n63
  have n108 : q212 ≠ q29 := n64
  have n109 : q213 ≠ q29 := n65
  have n110 : q214 ≠ q29 := n66
  have n111 : t9 ≠ q29 := n67
  have n112 : v68 ≠ q29 := (Ne.symm n83)
  have h15 := hU98.2 _ _ n101 h15
  have h16 := hU98.2 _ _ n102 h16
  have h17 := hU98.2 _ _ n103 h17
  have h18 := hU98.2 _ _ n104 h18
  have h19 := hU98.2 _ _ n105 h19
  have h22 := hU98.2 _ _ n106 h22
  have h23 := hU98.2 _ _ n107 h23
  have h24 := hU98.2 _ _ n108 h24
  have h25 := hU98.2 _ _ n109 h25
  have h26 := hU98.2 _ _ n110 h26
  have h28 := hU98.2 _ _ n111 h28
  have h96 := hU98.2 _ _ n112 h96
  have h44 := hU98.1
  refine j_dup F97 dX8_of_34 rfl ?_
  refine j_iconst F97 2 dX8_of_35 (by decide) ?_
  refine j_aload_n F97 dX8_of_36 rfl ?_
  refine m_get S (C := RX7) (T := TX7) (N := 5) (by decide +kernel) h22 rfl (v := .int 0) 2 (by decide) (by decide +kernel) (fun _ h9 => h9) rfl dX8_of_37 ?_
  refine m_iastore S (k0 := 2) h44 (by unfold vp_in; decide) (by decide) dX8_of_40 (fun M114 hD115 hU113 => ?_)
  have n116 : mo ≠ q29 := n101
  have n117 : pl14 ≠ q29 := n102
  have n118 : pe14 ≠ q29 := n103
  have n119 : ta ≠ q29 := n104
  have n120 : ka ≠ q29 := n105
  have n121 : v10 ≠ q29 := n106
  have n122 : q211 ≠ q29 := n107
  have n123 : q212 ≠ q29 := n108
  have n124 : q213 ≠ q29 := n109
  have n125 : q214 ≠ q29 := n110
  have n126 : t9 ≠ q29 := n111
  have n127 : v68 ≠ q29 := n112
  have h15 := hU113.2 _ _ n116 h15
  have h16 := hU113.2 _ _ n117 h16
  have h17 := hU113.2 _ _ n118 h17
  have h18 := hU113.2 _ _ n119 h18
  have h19 := hU113.2 _ _ n120 h19
  have h22 := hU113.2 _ _ n121 h22
  have h23 := hU113.2 _ _ n122 h23
  have h24 := hU113.2 _ _ n123 h24
  have h25 := hU113.2 _ _ n124 h25
  have h26 := hU113.2 _ _ n125 h26
  have h28 := hU113.2 _ _ n126 h28
  have h96 := hU113.2 _ _ n127 h96
  have h44 := hU113.1
  refine j_dup F97 dX8_of_41 rfl ?_
  refine j_iconst F97 3 dX8_of_42 (by decide) ?_
  refine j_aload_n F97 dX8_of_43 rfl ?_
  refine m_get S (C := RX7) (T := TX7) (N := 5) (by decide +kernel) h22 rfl (v := .int (-1)) 3 (by decide) (by decide +kernel) (fun _ h9 => h9) rfl dX8_of_44 ?_
  refine m_iastore S (k0 := 3) h44 (by unfold vp_in; decide) (by decide) dX8_of_47 (fun M129 hD130 hU128 => ?_)
  have n131 : mo ≠ q29 := n116
  have n132 : pl14 ≠ q29 := n117
  have n133 : pe14 ≠ q29 := n118
  have n134 : ta ≠ q29 := n119
  have n135 : ka ≠ q29 := n120
  have n136 : v10 ≠ q29 := n121
  have n137 : q211 ≠ q29 := n122
  have n138 : q212 ≠ q29 := n123
  have n139 : q213 ≠ q29 := n124
  have n140 : q214 ≠ q29 := n125
  have n141 : t9 ≠ q29 := n126
  have n142 : v68 ≠ q29 := n127
  have h15 := hU128.2 _ _ n131 h15
  have h16 := hU128.2 _ _ n132 h16
  have h17 := hU128.2 _ _ n133 h17
  have h18 := hU128.2 _ _ n134 h18
  have h19 := hU128.2 _ _ n135 h19
  have h22 := hU128.2 _ _ n136 h22
  have h23 := hU128.2 _ _ n137 h23
  have h24 := hU128.2 _ _ n138 h24
  have h25 := hU128.2 _ _ n139 h25
  have h26 := hU128.2 _ _ n140 h26
  have h28 := hU128.2 _ _ n141 h28
  have h96 := hU128.2 _ _ n142 h96
  have h44 := hU128.1
  refine j_astore F97 [some (.ref mo), some (.int (nI p)), some (.int (nI w)), some (.ref v10), some (.ref q29)] dX8_of_48 (by decide) rfl rfl ?_
  refine j_aload F97 dX8_of_50 rfl ?_
  refine j_iload_n F97 dX8_of_52 rfl ?_
  refine m_iaload S (v := ofN w) h44 (vp_in_nI hw (by decide)) (by rcases (show w = 0 ∨ w = 1 ∨ w = 2 ∨ w = 3 by omega) with rfl | rfl | rfl | rfl <;> decide) dX8_of_53 ?_
  have hKm143 : Kp M11 [] M129 := by
    intro b x hb hx
    have n144 := (hN30.2 _ _ hx).2
    have hx := (hN30.2 _ _ hx).1
    have hx := hU54.2 _ _ n144 hx
    have n145 := hp71f _ _ hx
    have n146 : b ∉ ([] : List Nat) := List.not_mem_nil
    have hx := hp71k b x n146 hx
    have hx := hU98.2 _ _ n144 hx
    have hx := hU113.2 _ _ n144 hx
    have hx := hU128.2 _ _ n144 hx
    exact hx
  have hMoN := Mo.mono hp13m hKm143
  have hKp : Kp M [mo, ka] M129 := by
    intro b x hb hx
    have n147 : b ∉ [mo, ka] := by
      intro h9; simp only [List.mem_cons, List.not_mem_nil, or_false] at h9
      rcases h9 with h9 | h9
      · exact (fun c => hb (by rw [c]; simp)) h9
      · exact (fun c => hb (by rw [c]; simp)) h9
    have hx := hp13k b x n147 hx
    have n148 := (hN30.2 _ _ hx).2
    have hx := (hN30.2 _ _ hx).1
    have hx := hU54.2 _ _ n148 hx
    have n149 := hp71f _ _ hx
    have n150 : b ∉ ([] : List Nat) := List.not_mem_nil
    have hx := hp71k b x n150 hx
    have hx := hU98.2 _ _ n148 hx
    have hx := hU113.2 _ _ n148 hx
    have hx := hU128.2 _ _ n148 hx
    exact hx
  exact m_ireturn S hRT rfl hQ (Nat.le_of_ble_eq_true rfl) (Nat.le_of_ble_eq_true rfl) dX8_of_54 rfl ⟨hMoN, hKp, rfl⟩

set_option maxRecDepth 100000 in
set_option maxHeartbeats 4000000 in
theorem r_X8_clothOf (l : Launch) (G : RG) (A : Nat → Prop) (M : Wl) {mo ka ta : Nat} {tv : Int32} (k : Nat) (hk : k < 10) (hM : Mo G mo ka ta tv M) : Kr l G A yX8_clothOf wbX8_clothOf { frames := 10, cells := 20, slots := 69, locals := 215 } M [.ref mo, .int (nI k)] (Gi G A (fun v N => Mo G mo ka ta tv N ∧ Kp M [mo, ka] N ∧ (0 : Int32) = v)) 20 69 := by
  refine Kr.of (cc := cX8_clothOf) (maxL := 3) (ret := (some .int)) (by decide) rfl (Nat.le_of_ble_eq_true rfl) ?_
  intro X hXl S hRT hIN hXA hQ hD
  subst hXl
  subst hXA
  show J (X.at 0 0) 3 (PL G.Z X.A M) 0 [some (.ref mo), some (.int (nI k)), none] []
  have F0 := S.1.at 0 0 (Nat.le_of_ble_eq_true rfl) (Nat.le_of_ble_eq_true rfl)
  have hOR := S.2.1.or
  obtain ⟨pl1, pe1, f1, kn1, tf1, o1_0, o1_1, o1_2, o1_3, o1_4, o1_5, o1_6, o1_7⟩ := id hM
  have h2 : (mo, (.inr (8, [.int tv, .ref pl1, .ref ka, .ref ta]) : va_E)) ∈ M := o1_0
  have h3 : (pl1, (.inr (10, [.int 10, .ref pe1, .int 10]) : va_E)) ∈ M := o1_1
  have h4 : (pe1, (.inl (G.cO, 10, .inr (.inr (.inr (.inr f1)))) : va_E)) ∈ M := o1_2
  have h5 : (ta, (.inl (G.Z.cI, 8, .inl tf1) : va_E)) ∈ M := o1_4
  have h6 : (ka, (.inl (G.cR, 10, .inr (.inr (.inr (.inr kn1)))) : va_E)) ∈ M := o1_6
  have hDo7 := hD
  refine j_aload_n F0 dX8_clothOf_0 rfl ?_
  have hKm9 : Kp M [] M := by
    intro b x hb hx
    exact hx
  have hMo8 := Mo.mono hM hKm9
  refine m_cVr S (n1 := 0) (rest := []) (r_X8_cloth_ X.l G X.A M hMo8) ⟨_, _, _, _, rfl, (gBV kB_X8_cloth_ (by decide +kernel)), rfl, rfl, (by decide +kernel), ⟨(Nat.le_of_ble_eq_true rfl), (Nat.le_of_ble_eq_true rfl)⟩⟩ h2 rfl rfl (Nat.le_of_ble_eq_true rfl) (Nat.le_of_ble_eq_true rfl) (Nat.le_of_ble_eq_true rfl) rfl dX8_clothOf_1 (fun v10 M11 hD12 hp13 => ?_)
  obtain ⟨hp13m, hp13k, z14, hp13a⟩ := hp13
  obtain ⟨pl15, pe15, f15, kn15, tf15, o15_0, o15_1, o15_2, o15_3, o15_4, o15_5, o15_6, o15_7⟩ := id hp13m
  have h16 : (mo, (.inr (8, [.int tv, .ref pl15, .ref ka, .ref ta]) : va_E)) ∈ M11 := o15_0
  have h17 : (pl15, (.inr (10, [.int 10, .ref pe15, .int 10]) : va_E)) ∈ M11 := o15_1
  have h18 : (pe15, (.inl (G.cO, 10, .inr (.inr (.inr (.inr f15)))) : va_E)) ∈ M11 := o15_2
  have h19 : (ta, (.inl (G.Z.cI, 8, .inl tf15) : va_E)) ∈ M11 := o15_4
  have h20 : (ka, (.inl (G.cR, 10, .inr (.inr (.inr (.inr kn15)))) : va_E)) ∈ M11 := o15_6
  have hDo21 := hD12
  have h22 := hp13a
  have F23 := S.1.at 14 47 (Nat.le_of_ble_eq_true rfl) (Nat.le_of_ble_eq_true rfl)
  refine j_astore_n F23 [some (.ref mo), some (.int (nI k)), some (.ref v10)] dX8_clothOf_4 (by decide) rfl rfl ?_
  rcases (show k = 0 ∨ k = 1 ∨ k = 2 ∨ k = 3 ∨ k = 4 ∨ k = 5 ∨ k = 6 ∨ k = 7 ∨ k = 8 ∨ k = 9 by omega) with rfl | rfl | rfl | rfl | rfl | rfl | rfl | rfl | rfl | rfl
  · skip
    show J (X.at 14 47) 3 (PL G.Z X.A M11) 5 [some (.ref mo), some (.int 0), some (.ref v10)] []
    refine j_iload_n F23 dX8_clothOf_5 rfl ?_
    refine j_table F23 56 dX8_clothOf_6 (by decide) (by decide) rfl (by decide) ?_
    refine j_aload_n F23 dX8_clothOf_56 rfl ?_
    refine m_get S (C := RX5) (T := TX5) (N := 3) (by decide +kernel) h22 rfl (v := .int 0) 0 (by decide) (by decide +kernel) (fun _ h9 => h9) rfl dX8_clothOf_57 ?_
    have hKm24 : Kp M11 [] M11 := by
      intro b x hb hx
      exact hx
    have hMoN := Mo.mono hp13m hKm24
    have hKp : Kp M [mo, ka] M11 := by
      intro b x hb hx
      have n25 : b ∉ [mo, ka] := by
        intro h9; simp only [List.mem_cons, List.not_mem_nil, or_false] at h9
        rcases h9 with h9 | h9
        · exact (fun c => hb (by rw [c]; simp)) h9
        · exact (fun c => hb (by rw [c]; simp)) h9
      have hx := hp13k b x n25 hx
      exact hx
    exact m_ireturn S hRT rfl hQ (Nat.le_of_ble_eq_true rfl) (Nat.le_of_ble_eq_true rfl) dX8_clothOf_60 rfl ⟨hMoN, hKp, rfl⟩
  · skip
    show J (X.at 14 47) 3 (PL G.Z X.A M11) 5 [some (.ref mo), some (.int 1), some (.ref v10)] []
    refine j_iload_n F23 dX8_clothOf_5 rfl ?_
    refine j_table F23 61 dX8_clothOf_6 (by decide) (by decide) rfl (by decide) ?_
    refine j_aload_n F23 dX8_clothOf_61 rfl ?_
    refine m_get S (C := RX5) (T := TX5) (N := 3) (by decide +kernel) h22 rfl (v := .int 0) 1 (by decide) (by decide +kernel) (fun _ h9 => h9) rfl dX8_clothOf_62 ?_
    have hKm26 : Kp M11 [] M11 := by
      intro b x hb hx
      exact hx
    have hMoN := Mo.mono hp13m hKm26
    have hKp : Kp M [mo, ka] M11 := by
      intro b x hb hx
      have n27 : b ∉ [mo, ka] := by
        intro h9; simp only [List.mem_cons, List.not_mem_nil, or_false] at h9
        rcases h9 with h9 | h9
        · exact (fun c => hb (by rw [c]; simp)) h9
        · exact (fun c => hb (by rw [c]; simp)) h9
      have hx := hp13k b x n27 hx
      exact hx
    exact m_ireturn S hRT rfl hQ (Nat.le_of_ble_eq_true rfl) (Nat.le_of_ble_eq_true rfl) dX8_clothOf_65 rfl ⟨hMoN, hKp, rfl⟩
  · skip
    show J (X.at 14 47) 3 (PL G.Z X.A M11) 5 [some (.ref mo), some (.int 2), some (.ref v10)] []
    refine j_iload_n F23 dX8_clothOf_5 rfl ?_
    refine j_table F23 66 dX8_clothOf_6 (by decide) (by decide) rfl (by decide) ?_
    refine j_aload_n F23 dX8_clothOf_66 rfl ?_
    refine m_cVi S (n1 := 0) (rest := []) (r_X5_ups X.l G X.A M11 h22) ⟨_, _, _, _, rfl, (gBV kB_X5_ups (by decide +kernel)), rfl, rfl, (by decide +kernel), ⟨(Nat.le_of_ble_eq_true rfl), (Nat.le_of_ble_eq_true rfl)⟩⟩ h22 rfl rfl (Nat.le_of_ble_eq_true rfl) (Nat.le_of_ble_eq_true rfl) (Nat.le_of_ble_eq_true rfl) rfl dX8_clothOf_67 (fun v28 M29 hD30 hp31 => ?_)
    obtain ⟨hp31a, hp31b⟩ := hp31
    subst hp31a
    subst hp31b
    have hKm32 : Kp M11 [] M11 := by
      intro b x hb hx
      exact hx
    have hMoN := Mo.mono hp13m hKm32
    have hKp : Kp M [mo, ka] M11 := by
      intro b x hb hx
      have n33 : b ∉ [mo, ka] := by
        intro h9; simp only [List.mem_cons, List.not_mem_nil, or_false] at h9
        rcases h9 with h9 | h9
        · exact (fun c => hb (by rw [c]; simp)) h9
        · exact (fun c => hb (by rw [c]; simp)) h9
      have hx := hp13k b x n33 hx
      exact hx
    exact m_ireturn S hRT rfl hQ (Nat.le_of_ble_eq_true rfl) (Nat.le_of_ble_eq_true rfl) dX8_clothOf_70 rfl ⟨hMoN, hKp, rfl⟩
  · skip
    show J (X.at 14 47) 3 (PL G.Z X.A M11) 5 [some (.ref mo), some (.int 3), some (.ref v10)] []
    refine j_iload_n F23 dX8_clothOf_5 rfl ?_
    refine j_table F23 71 dX8_clothOf_6 (by decide) (by decide) rfl (by decide) ?_
    refine j_aload_n F23 dX8_clothOf_71 rfl ?_
    refine m_cVi S (n1 := 0) (rest := []) (r_X5_longest X.l G X.A M11 h22) ⟨_, _, _, _, rfl, (gBV kB_X5_longest (by decide +kernel)), rfl, rfl, (by decide +kernel), ⟨(Nat.le_of_ble_eq_true rfl), (Nat.le_of_ble_eq_true rfl)⟩⟩ h22 rfl rfl (Nat.le_of_ble_eq_true rfl) (Nat.le_of_ble_eq_true rfl) (Nat.le_of_ble_eq_true rfl) rfl dX8_clothOf_72 (fun v34 M35 hD36 hp37 => ?_)
    obtain ⟨hp37a, hp37b⟩ := hp37
    subst hp37a
    subst hp37b
    have hKm38 : Kp M11 [] M11 := by
      intro b x hb hx
      exact hx
    have hMoN := Mo.mono hp13m hKm38
    have hKp : Kp M [mo, ka] M11 := by
      intro b x hb hx
      have n39 : b ∉ [mo, ka] := by
        intro h9; simp only [List.mem_cons, List.not_mem_nil, or_false] at h9
        rcases h9 with h9 | h9
        · exact (fun c => hb (by rw [c]; simp)) h9
        · exact (fun c => hb (by rw [c]; simp)) h9
      have hx := hp13k b x n39 hx
      exact hx
    exact m_ireturn S hRT rfl hQ (Nat.le_of_ble_eq_true rfl) (Nat.le_of_ble_eq_true rfl) dX8_clothOf_75 rfl ⟨hMoN, hKp, rfl⟩
  · skip
    show J (X.at 14 47) 3 (PL G.Z X.A M11) 5 [some (.ref mo), some (.int 4), some (.ref v10)] []
    refine j_iload_n F23 dX8_clothOf_5 rfl ?_
    refine j_table F23 76 dX8_clothOf_6 (by decide) (by decide) rfl (by decide) ?_
    refine j_aload_n F23 dX8_clothOf_76 rfl ?_
    refine j_iconst F23 1 dX8_clothOf_77 (by decide) ?_
    refine j_iconst F23 1 dX8_clothOf_78 (by decide) ?_
    refine m_cVi S (n1 := 2) (rest := []) (r_X5_floats X.l G X.A M11 1 1 h22) ⟨_, _, _, _, rfl, (gBV kB_X5_floats (by decide +kernel)), rfl, rfl, (by decide +kernel), ⟨(Nat.le_of_ble_eq_true rfl), (Nat.le_of_ble_eq_true rfl)⟩⟩ h22 rfl rfl (Nat.le_of_ble_eq_true rfl) (Nat.le_of_ble_eq_true rfl) (Nat.le_of_ble_eq_true rfl) rfl dX8_clothOf_79 (fun v40 M41 hD42 hp43 => ?_)
    obtain ⟨hp43a, hp43b⟩ := hp43
    subst hp43a
    subst hp43b
    have hKm44 : Kp M11 [] M11 := by
      intro b x hb hx
      exact hx
    have hMoN := Mo.mono hp13m hKm44
    have hKp : Kp M [mo, ka] M11 := by
      intro b x hb hx
      have n45 : b ∉ [mo, ka] := by
        intro h9; simp only [List.mem_cons, List.not_mem_nil, or_false] at h9
        rcases h9 with h9 | h9
        · exact (fun c => hb (by rw [c]; simp)) h9
        · exact (fun c => hb (by rw [c]; simp)) h9
      have hx := hp13k b x n45 hx
      exact hx
    exact m_ireturn S hRT rfl hQ (Nat.le_of_ble_eq_true rfl) (Nat.le_of_ble_eq_true rfl) dX8_clothOf_82 rfl ⟨hMoN, hKp, rfl⟩
  · skip
    show J (X.at 14 47) 3 (PL G.Z X.A M11) 5 [some (.ref mo), some (.int 5), some (.ref v10)] []
    refine j_iload_n F23 dX8_clothOf_5 rfl ?_
    refine j_table F23 83 dX8_clothOf_6 (by decide) (by decide) rfl (by decide) ?_
    refine j_aload_n F23 dX8_clothOf_83 rfl ?_
    refine j_iconst F23 1 dX8_clothOf_84 (by decide) ?_
    refine j_iconst F23 0 dX8_clothOf_85 (by decide) ?_
    refine m_cVi S (n1 := 2) (rest := []) (r_X5_floats X.l G X.A M11 1 0 h22) ⟨_, _, _, _, rfl, (gBV kB_X5_floats (by decide +kernel)), rfl, rfl, (by decide +kernel), ⟨(Nat.le_of_ble_eq_true rfl), (Nat.le_of_ble_eq_true rfl)⟩⟩ h22 rfl rfl (Nat.le_of_ble_eq_true rfl) (Nat.le_of_ble_eq_true rfl) (Nat.le_of_ble_eq_true rfl) rfl dX8_clothOf_86 (fun v46 M47 hD48 hp49 => ?_)
    obtain ⟨hp49a, hp49b⟩ := hp49
    subst hp49a
    subst hp49b
    have hKm50 : Kp M11 [] M11 := by
      intro b x hb hx
      exact hx
    have hMoN := Mo.mono hp13m hKm50
    have hKp : Kp M [mo, ka] M11 := by
      intro b x hb hx
      have n51 : b ∉ [mo, ka] := by
        intro h9; simp only [List.mem_cons, List.not_mem_nil, or_false] at h9
        rcases h9 with h9 | h9
        · exact (fun c => hb (by rw [c]; simp)) h9
        · exact (fun c => hb (by rw [c]; simp)) h9
      have hx := hp13k b x n51 hx
      exact hx
    exact m_ireturn S hRT rfl hQ (Nat.le_of_ble_eq_true rfl) (Nat.le_of_ble_eq_true rfl) dX8_clothOf_89 rfl ⟨hMoN, hKp, rfl⟩
  · skip
    show J (X.at 14 47) 3 (PL G.Z X.A M11) 5 [some (.ref mo), some (.int 6), some (.ref v10)] []
    refine j_iload_n F23 dX8_clothOf_5 rfl ?_
    refine j_table F23 90 dX8_clothOf_6 (by decide) (by decide) rfl (by decide) ?_
    refine j_aload_n F23 dX8_clothOf_90 rfl ?_
    refine j_iconst F23 0 dX8_clothOf_91 (by decide) ?_
    have hKm53 : Kp M11 [] M11 := by
      intro b x hb hx
      exact hx
    have hMo52 := Mo.mono hp13m hKm53
    refine m_cVr S (n1 := 1) (rest := []) (r_X8_row X.l G X.A M11 0 (by decide) hMo52) ⟨_, _, _, _, rfl, (gBV kB_X8_row (by decide +kernel)), rfl, rfl, (by decide +kernel), ⟨(Nat.le_of_ble_eq_true rfl), (Nat.le_of_ble_eq_true rfl)⟩⟩ h16 rfl rfl (Nat.le_of_ble_eq_true rfl) (Nat.le_of_ble_eq_true rfl) (Nat.le_of_ble_eq_true rfl) rfl dX8_clothOf_92 (fun v54 M55 hD56 hp57 => ?_)
    obtain ⟨hp57m, hp57k, hp57a⟩ := hp57
    have n58 : v10 ∉ [mo, ka] := by
      intro h9; simp only [List.mem_cons, List.not_mem_nil, or_false] at h9
      rcases h9 with h9 | h9
      · exact (In.ne hD12 h22 h16 (by simp)) h9
      · exact (In.ne hD12 h22 h20 (by simp)) h9
    have h22 := hp57k _ _ n58 h22
    obtain ⟨pl59, pe59, f59, kn59, tf59, o59_0, o59_1, o59_2, o59_3, o59_4, o59_5, o59_6, o59_7⟩ := id hp57m
    have h60 : (mo, (.inr (8, [.int tv, .ref pl59, .ref ka, .ref ta]) : va_E)) ∈ M55 := o59_0
    have h61 : (pl59, (.inr (10, [.int 10, .ref pe59, .int 10]) : va_E)) ∈ M55 := o59_1
    have h62 : (pe59, (.inl (G.cO, 10, .inr (.inr (.inr (.inr f59)))) : va_E)) ∈ M55 := o59_2
    have h63 : (ta, (.inl (G.Z.cI, 8, .inl tf59) : va_E)) ∈ M55 := o59_4
    have h64 : (ka, (.inl (G.cR, 10, .inr (.inr (.inr (.inr kn59)))) : va_E)) ∈ M55 := o59_6
    have hDo65 := hD56
    have h566 := h22
    have h67 := hp57a
    have F68 := S.1.at 20 69 (Nat.le_of_ble_eq_true rfl) (Nat.le_of_ble_eq_true rfl)
    refine m_cSi S (n1 := 1) (rest := []) (r_X8_used X.l G X.A M55 h67) ⟨_, _, _, _, rfl, (gBS kB_X8_used (by decide +kernel)), rfl, rfl, (by decide +kernel), ⟨(Nat.le_of_ble_eq_true rfl), (Nat.le_of_ble_eq_true rfl)⟩⟩ rfl (Nat.le_of_ble_eq_true rfl) (Nat.le_of_ble_eq_true rfl) (Nat.le_of_ble_eq_true rfl) rfl dX8_clothOf_95 (fun v69 M70 hD71 hp72 => ?_)
    obtain ⟨hp72a, hp72b⟩ := hp72
    subst hp72a
    subst hp72b
    have hKm73 : Kp M55 [] M55 := by
      intro b x hb hx
      exact hx
    have hMoN := Mo.mono hp57m hKm73
    have hKp : Kp M [mo, ka] M55 := by
      intro b x hb hx
      have n74 : b ∉ [mo, ka] := by
        intro h9; simp only [List.mem_cons, List.not_mem_nil, or_false] at h9
        rcases h9 with h9 | h9
        · exact (fun c => hb (by rw [c]; simp)) h9
        · exact (fun c => hb (by rw [c]; simp)) h9
      have hx := hp13k b x n74 hx
      have n75 : b ∉ [mo, ka] := by
        intro h9; simp only [List.mem_cons, List.not_mem_nil, or_false] at h9
        rcases h9 with h9 | h9
        · exact (fun c => hb (by rw [c]; simp)) h9
        · exact (fun c => hb (by rw [c]; simp)) h9
      have hx := hp57k b x n75 hx
      exact hx
    exact m_ireturn S hRT rfl hQ (Nat.le_of_ble_eq_true rfl) (Nat.le_of_ble_eq_true rfl) dX8_clothOf_98 rfl ⟨hMoN, hKp, rfl⟩
  · skip
    show J (X.at 14 47) 3 (PL G.Z X.A M11) 5 [some (.ref mo), some (.int 7), some (.ref v10)] []
    refine j_iload_n F23 dX8_clothOf_5 rfl ?_
    refine j_table F23 99 dX8_clothOf_6 (by decide) (by decide) rfl (by decide) ?_
    refine j_aload_n F23 dX8_clothOf_99 rfl ?_
    refine j_iconst F23 1 dX8_clothOf_100 (by decide) ?_
    have hKm77 : Kp M11 [] M11 := by
      intro b x hb hx
      exact hx
    have hMo76 := Mo.mono hp13m hKm77
    refine m_cVr S (n1 := 1) (rest := []) (r_X8_row X.l G X.A M11 1 (by decide) hMo76) ⟨_, _, _, _, rfl, (gBV kB_X8_row (by decide +kernel)), rfl, rfl, (by decide +kernel), ⟨(Nat.le_of_ble_eq_true rfl), (Nat.le_of_ble_eq_true rfl)⟩⟩ h16 rfl rfl (Nat.le_of_ble_eq_true rfl) (Nat.le_of_ble_eq_true rfl) (Nat.le_of_ble_eq_true rfl) rfl dX8_clothOf_101 (fun v78 M79 hD80 hp81 => ?_)
    obtain ⟨hp81m, hp81k, hp81a⟩ := hp81
    have n82 : v10 ∉ [mo, ka] := by
      intro h9; simp only [List.mem_cons, List.not_mem_nil, or_false] at h9
      rcases h9 with h9 | h9
      · exact (In.ne hD12 h22 h16 (by simp)) h9
      · exact (In.ne hD12 h22 h20 (by simp)) h9
    have h22 := hp81k _ _ n82 h22
    obtain ⟨pl83, pe83, f83, kn83, tf83, o83_0, o83_1, o83_2, o83_3, o83_4, o83_5, o83_6, o83_7⟩ := id hp81m
    have h84 : (mo, (.inr (8, [.int tv, .ref pl83, .ref ka, .ref ta]) : va_E)) ∈ M79 := o83_0
    have h85 : (pl83, (.inr (10, [.int 10, .ref pe83, .int 10]) : va_E)) ∈ M79 := o83_1
    have h86 : (pe83, (.inl (G.cO, 10, .inr (.inr (.inr (.inr f83)))) : va_E)) ∈ M79 := o83_2
    have h87 : (ta, (.inl (G.Z.cI, 8, .inl tf83) : va_E)) ∈ M79 := o83_4
    have h88 : (ka, (.inl (G.cR, 10, .inr (.inr (.inr (.inr kn83)))) : va_E)) ∈ M79 := o83_6
    have hDo89 := hD80
    have h590 := h22
    have h91 := hp81a
    have F92 := S.1.at 20 69 (Nat.le_of_ble_eq_true rfl) (Nat.le_of_ble_eq_true rfl)
    refine m_cSi S (n1 := 1) (rest := []) (r_X8_used X.l G X.A M79 h91) ⟨_, _, _, _, rfl, (gBS kB_X8_used (by decide +kernel)), rfl, rfl, (by decide +kernel), ⟨(Nat.le_of_ble_eq_true rfl), (Nat.le_of_ble_eq_true rfl)⟩⟩ rfl (Nat.le_of_ble_eq_true rfl) (Nat.le_of_ble_eq_true rfl) (Nat.le_of_ble_eq_true rfl) rfl dX8_clothOf_104 (fun v93 M94 hD95 hp96 => ?_)
    obtain ⟨hp96a, hp96b⟩ := hp96
    subst hp96a
    subst hp96b
    have hKm97 : Kp M79 [] M79 := by
      intro b x hb hx
      exact hx
    have hMoN := Mo.mono hp81m hKm97
    have hKp : Kp M [mo, ka] M79 := by
      intro b x hb hx
      have n98 : b ∉ [mo, ka] := by
        intro h9; simp only [List.mem_cons, List.not_mem_nil, or_false] at h9
        rcases h9 with h9 | h9
        · exact (fun c => hb (by rw [c]; simp)) h9
        · exact (fun c => hb (by rw [c]; simp)) h9
      have hx := hp13k b x n98 hx
      have n99 : b ∉ [mo, ka] := by
        intro h9; simp only [List.mem_cons, List.not_mem_nil, or_false] at h9
        rcases h9 with h9 | h9
        · exact (fun c => hb (by rw [c]; simp)) h9
        · exact (fun c => hb (by rw [c]; simp)) h9
      have hx := hp81k b x n99 hx
      exact hx
    exact m_ireturn S hRT rfl hQ (Nat.le_of_ble_eq_true rfl) (Nat.le_of_ble_eq_true rfl) dX8_clothOf_107 rfl ⟨hMoN, hKp, rfl⟩
  · skip
    show J (X.at 14 47) 3 (PL G.Z X.A M11) 5 [some (.ref mo), some (.int 8), some (.ref v10)] []
    refine j_iload_n F23 dX8_clothOf_5 rfl ?_
    refine j_table F23 108 dX8_clothOf_6 (by decide) (by decide) rfl (by decide) ?_
    refine j_aload_n F23 dX8_clothOf_108 rfl ?_
    refine j_iconst F23 1 dX8_clothOf_109 (by decide) ?_
    refine m_cVi S (n1 := 1) (rest := []) (r_X5_kinds X.l G X.A M11 1 h22) ⟨_, _, _, _, rfl, (gBV kB_X5_kinds (by decide +kernel)), rfl, rfl, (by decide +kernel), ⟨(Nat.le_of_ble_eq_true rfl), (Nat.le_of_ble_eq_true rfl)⟩⟩ h22 rfl rfl (Nat.le_of_ble_eq_true rfl) (Nat.le_of_ble_eq_true rfl) (Nat.le_of_ble_eq_true rfl) rfl dX8_clothOf_110 (fun v100 M101 hD102 hp103 => ?_)
    obtain ⟨hp103a, hp103b⟩ := hp103
    subst hp103a
    subst hp103b
    have hKm104 : Kp M11 [] M11 := by
      intro b x hb hx
      exact hx
    have hMoN := Mo.mono hp13m hKm104
    have hKp : Kp M [mo, ka] M11 := by
      intro b x hb hx
      have n105 : b ∉ [mo, ka] := by
        intro h9; simp only [List.mem_cons, List.not_mem_nil, or_false] at h9
        rcases h9 with h9 | h9
        · exact (fun c => hb (by rw [c]; simp)) h9
        · exact (fun c => hb (by rw [c]; simp)) h9
      have hx := hp13k b x n105 hx
      exact hx
    exact m_ireturn S hRT rfl hQ (Nat.le_of_ble_eq_true rfl) (Nat.le_of_ble_eq_true rfl) dX8_clothOf_113 rfl ⟨hMoN, hKp, rfl⟩
  · skip
    show J (X.at 14 47) 3 (PL G.Z X.A M11) 5 [some (.ref mo), some (.int 9), some (.ref v10)] []
    refine j_iload_n F23 dX8_clothOf_5 rfl ?_
    refine j_tableOut F23 114 dX8_clothOf_6 (by decide) (by decide) ?_
    refine j_aload_n F23 dX8_clothOf_114 rfl ?_
    refine j_iconst F23 0 dX8_clothOf_115 (by decide) ?_
    refine m_cVi S (n1 := 1) (rest := []) (r_X5_kinds X.l G X.A M11 0 h22) ⟨_, _, _, _, rfl, (gBV kB_X5_kinds (by decide +kernel)), rfl, rfl, (by decide +kernel), ⟨(Nat.le_of_ble_eq_true rfl), (Nat.le_of_ble_eq_true rfl)⟩⟩ h22 rfl rfl (Nat.le_of_ble_eq_true rfl) (Nat.le_of_ble_eq_true rfl) (Nat.le_of_ble_eq_true rfl) rfl dX8_clothOf_116 (fun v106 M107 hD108 hp109 => ?_)
    obtain ⟨hp109a, hp109b⟩ := hp109
    subst hp109a
    subst hp109b
    have hKm110 : Kp M11 [] M11 := by
      intro b x hb hx
      exact hx
    have hMoN := Mo.mono hp13m hKm110
    have hKp : Kp M [mo, ka] M11 := by
      intro b x hb hx
      have n111 : b ∉ [mo, ka] := by
        intro h9; simp only [List.mem_cons, List.not_mem_nil, or_false] at h9
        rcases h9 with h9 | h9
        · exact (fun c => hb (by rw [c]; simp)) h9
        · exact (fun c => hb (by rw [c]; simp)) h9
      have hx := hp13k b x n111 hx
      exact hx
    exact m_ireturn S hRT rfl hQ (Nat.le_of_ble_eq_true rfl) (Nat.le_of_ble_eq_true rfl) dX8_clothOf_119 rfl ⟨hMoN, hKp, rfl⟩

set_option maxRecDepth 100000 in
set_option maxHeartbeats 4000000 in
theorem r_X8_floatsOf (l : Launch) (G : RG) (A : Nat → Prop) (M : Wl) {mo ka ta : Nat} {tv : Int32} (x : Int32) (hM : Mo G mo ka ta tv M) : Kr l G A yX8_floatsOf wbX8_floatsOf { frames := 10, cells := 28, slots := 94, locals := 215 } M [.ref mo, .int x] (Gi G A (fun v N => Mo G mo ka ta tv N ∧ Kp M [mo, ka] N ∧ (0 : Int32) = v)) 28 94 := by
  refine Kr.of (cc := cX8_floatsOf) (maxL := 2) (ret := (some .int)) (by decide) rfl (Nat.le_of_ble_eq_true rfl) ?_
  intro X hXl S hRT hIN hXA hQ hD
  subst hXl
  subst hXA
  show J (X.at 0 0) 2 (PL G.Z X.A M) 0 [some (.ref mo), some (.int x)] []
  have F0 := S.1.at 0 0 (Nat.le_of_ble_eq_true rfl) (Nat.le_of_ble_eq_true rfl)
  have hOR := S.2.1.or
  obtain ⟨pl1, pe1, f1, kn1, tf1, o1_0, o1_1, o1_2, o1_3, o1_4, o1_5, o1_6, o1_7⟩ := id hM
  have h2 : (mo, (.inr (8, [.int tv, .ref pl1, .ref ka, .ref ta]) : va_E)) ∈ M := o1_0
  have h3 : (pl1, (.inr (10, [.int 10, .ref pe1, .int 10]) : va_E)) ∈ M := o1_1
  have h4 : (pe1, (.inl (G.cO, 10, .inr (.inr (.inr (.inr f1)))) : va_E)) ∈ M := o1_2
  have h5 : (ta, (.inl (G.Z.cI, 8, .inl tf1) : va_E)) ∈ M := o1_4
  have h6 : (ka, (.inl (G.cR, 10, .inr (.inr (.inr (.inr kn1)))) : va_E)) ∈ M := o1_6
  have hDo7 := hD
  refine j_aload_n F0 dX8_floatsOf_0 rfl ?_
  have hKm9 : Kp M [] M := by
    intro b x hb hx
    exact hx
  have hMo8 := Mo.mono hM hKm9
  refine m_cVr S (n1 := 0) (rest := []) (r_X8_cloth_ X.l G X.A M hMo8) ⟨_, _, _, _, rfl, (gBV kB_X8_cloth_ (by decide +kernel)), rfl, rfl, (by decide +kernel), ⟨(Nat.le_of_ble_eq_true rfl), (Nat.le_of_ble_eq_true rfl)⟩⟩ h2 rfl rfl (Nat.le_of_ble_eq_true rfl) (Nat.le_of_ble_eq_true rfl) (Nat.le_of_ble_eq_true rfl) rfl dX8_floatsOf_1 (fun v10 M11 hD12 hp13 => ?_)
  obtain ⟨hp13m, hp13k, z14, hp13a⟩ := hp13
  obtain ⟨pl15, pe15, f15, kn15, tf15, o15_0, o15_1, o15_2, o15_3, o15_4, o15_5, o15_6, o15_7⟩ := id hp13m
  have h16 : (mo, (.inr (8, [.int tv, .ref pl15, .ref ka, .ref ta]) : va_E)) ∈ M11 := o15_0
  have h17 : (pl15, (.inr (10, [.int 10, .ref pe15, .int 10]) : va_E)) ∈ M11 := o15_1
  have h18 : (pe15, (.inl (G.cO, 10, .inr (.inr (.inr (.inr f15)))) : va_E)) ∈ M11 := o15_2
  have h19 : (ta, (.inl (G.Z.cI, 8, .inl tf15) : va_E)) ∈ M11 := o15_4
  have h20 : (ka, (.inl (G.cR, 10, .inr (.inr (.inr (.inr kn15)))) : va_E)) ∈ M11 := o15_6
  have hDo21 := hD12
  have h22 := hp13a
  have F23 := S.1.at 14 47 (Nat.le_of_ble_eq_true rfl) (Nat.le_of_ble_eq_true rfl)
  refine j_iload_n F23 dX8_floatsOf_4 rfl ?_
  refine j_iconst F23 1 dX8_floatsOf_5 (by decide) ?_
  refine m_cVi S (n1 := 2) (rest := []) (r_X5_floats X.l G X.A M11 x 1 h22) ⟨_, _, _, _, rfl, (gBV kB_X5_floats (by decide +kernel)), rfl, rfl, (by decide +kernel), ⟨(Nat.le_of_ble_eq_true rfl), (Nat.le_of_ble_eq_true rfl)⟩⟩ h22 rfl rfl (Nat.le_of_ble_eq_true rfl) (Nat.le_of_ble_eq_true rfl) (Nat.le_of_ble_eq_true rfl) rfl dX8_floatsOf_6 (fun v24 M25 hD26 hp27 => ?_)
  obtain ⟨hp27a, hp27b⟩ := hp27
  subst hp27a
  subst hp27b
  refine j_aload_n F23 dX8_floatsOf_9 rfl ?_
  have hKm29 : Kp M11 [] M11 := by
    intro b x hb hx
    exact hx
  have hMo28 := Mo.mono hp13m hKm29
  refine m_cVr S (n1 := 0) (rest := [.int 0]) (r_X8_cloth_ X.l G X.A M11 hMo28) ⟨_, _, _, _, rfl, (gBV kB_X8_cloth_ (by decide +kernel)), rfl, rfl, (by decide +kernel), ⟨(Nat.le_of_ble_eq_true rfl), (Nat.le_of_ble_eq_true rfl)⟩⟩ h16 rfl rfl (Nat.le_of_ble_eq_true rfl) (Nat.le_of_ble_eq_true rfl) (Nat.le_of_ble_eq_true rfl) rfl dX8_floatsOf_10 (fun v30 M31 hD32 hp33 => ?_)
  obtain ⟨hp33m, hp33k, z34, hp33a⟩ := hp33
  have n35 : v10 ∉ [mo, ka] := by
    intro h9; simp only [List.mem_cons, List.not_mem_nil, or_false] at h9
    rcases h9 with h9 | h9
    · exact (In.ne hD12 h22 h16 (by simp)) h9
    · exact (In.ne hD12 h22 h20 (by simp)) h9
  have h22 := hp33k _ _ n35 h22
  obtain ⟨pl36, pe36, f36, kn36, tf36, o36_0, o36_1, o36_2, o36_3, o36_4, o36_5, o36_6, o36_7⟩ := id hp33m
  have h37 : (mo, (.inr (8, [.int tv, .ref pl36, .ref ka, .ref ta]) : va_E)) ∈ M31 := o36_0
  have h38 : (pl36, (.inr (10, [.int 10, .ref pe36, .int 10]) : va_E)) ∈ M31 := o36_1
  have h39 : (pe36, (.inl (G.cO, 10, .inr (.inr (.inr (.inr f36)))) : va_E)) ∈ M31 := o36_2
  have h40 : (ta, (.inl (G.Z.cI, 8, .inl tf36) : va_E)) ∈ M31 := o36_4
  have h41 : (ka, (.inl (G.cR, 10, .inr (.inr (.inr (.inr kn36)))) : va_E)) ∈ M31 := o36_6
  have hDo42 := hD32
  have h543 := h22
  have h44 := hp33a
  have F45 := S.1.at 28 94 (Nat.le_of_ble_eq_true rfl) (Nat.le_of_ble_eq_true rfl)
  refine j_iload_n F45 dX8_floatsOf_13 rfl ?_
  refine j_iconst F45 0 dX8_floatsOf_14 (by decide) ?_
  refine m_cVi S (n1 := 2) (rest := [.int 0]) (r_X5_floats X.l G X.A M31 x 0 h44) ⟨_, _, _, _, rfl, (gBV kB_X5_floats (by decide +kernel)), rfl, rfl, (by decide +kernel), ⟨(Nat.le_of_ble_eq_true rfl), (Nat.le_of_ble_eq_true rfl)⟩⟩ h44 rfl rfl (Nat.le_of_ble_eq_true rfl) (Nat.le_of_ble_eq_true rfl) (Nat.le_of_ble_eq_true rfl) rfl dX8_floatsOf_15 (fun v46 M47 hD48 hp49 => ?_)
  obtain ⟨hp49a, hp49b⟩ := hp49
  subst hp49a
  subst hp49b
  refine j_iadd F45 0 dX8_floatsOf_18 (by decide) ?_
  have hKm50 : Kp M31 [] M31 := by
    intro b x hb hx
    exact hx
  have hMoN := Mo.mono hp33m hKm50
  have hKp : Kp M [mo, ka] M31 := by
    intro b x hb hx
    have n51 : b ∉ [mo, ka] := by
      intro h9; simp only [List.mem_cons, List.not_mem_nil, or_false] at h9
      rcases h9 with h9 | h9
      · exact (fun c => hb (by rw [c]; simp)) h9
      · exact (fun c => hb (by rw [c]; simp)) h9
    have hx := hp13k b x n51 hx
    have n52 : b ∉ [mo, ka] := by
      intro h9; simp only [List.mem_cons, List.not_mem_nil, or_false] at h9
      rcases h9 with h9 | h9
      · exact (fun c => hb (by rw [c]; simp)) h9
      · exact (fun c => hb (by rw [c]; simp)) h9
    have hx := hp33k b x n52 hx
    exact hx
  exact m_ireturn S hRT rfl hQ (Nat.le_of_ble_eq_true rfl) (Nat.le_of_ble_eq_true rfl) dX8_floatsOf_19 rfl ⟨hMoN, hKp, rfl⟩

set_option maxRecDepth 100000 in
set_option maxHeartbeats 4000000 in
theorem r_X8_seenOf (l : Launch) (G : RG) (A : Nat → Prop) (M : Wl) {mo ka ta : Nat} {tv : Int32} (x : Int32) (hM : Mo G mo ka ta tv M) : Kr l G A yX8_seenOf wbX8_seenOf { frames := 10, cells := 14, slots := 47, locals := 215 } M [.ref mo, .int x] (Gi G A (fun v N => Mo G mo ka ta tv N ∧ Kp M [mo, ka] N ∧ (0 : Int32) = v)) 14 47 := by
  refine Kr.of (cc := cX8_seenOf) (maxL := 6) (ret := (some .int)) (by decide) rfl (Nat.le_of_ble_eq_true rfl) ?_
  intro X hXl S hRT hIN hXA hQ hD
  subst hXl
  subst hXA
  show J (X.at 0 0) 6 (PL G.Z X.A M) 0 [some (.ref mo), some (.int x), none, none, none, none] []
  have F0 := S.1.at 0 0 (Nat.le_of_ble_eq_true rfl) (Nat.le_of_ble_eq_true rfl)
  have hOR := S.2.1.or
  obtain ⟨pl1, pe1, f1, kn1, tf1, o1_0, o1_1, o1_2, o1_3, o1_4, o1_5, o1_6, o1_7⟩ := id hM
  have h2 : (mo, (.inr (8, [.int tv, .ref pl1, .ref ka, .ref ta]) : va_E)) ∈ M := o1_0
  have h3 : (pl1, (.inr (10, [.int 10, .ref pe1, .int 10]) : va_E)) ∈ M := o1_1
  have h4 : (pe1, (.inl (G.cO, 10, .inr (.inr (.inr (.inr f1)))) : va_E)) ∈ M := o1_2
  have h5 : (ta, (.inl (G.Z.cI, 8, .inl tf1) : va_E)) ∈ M := o1_4
  have h6 : (ka, (.inl (G.cR, 10, .inr (.inr (.inr (.inr kn1)))) : va_E)) ∈ M := o1_6
  have hDo7 := hD
  refine j_aload_n F0 dX8_seenOf_0 rfl ?_
  have hKm9 : Kp M [] M := by
    intro b x hb hx
    exact hx
  have hMo8 := Mo.mono hM hKm9
  refine m_cVr S (n1 := 0) (rest := []) (r_X8_cloth_ X.l G X.A M hMo8) ⟨_, _, _, _, rfl, (gBV kB_X8_cloth_ (by decide +kernel)), rfl, rfl, (by decide +kernel), ⟨(Nat.le_of_ble_eq_true rfl), (Nat.le_of_ble_eq_true rfl)⟩⟩ h2 rfl rfl (Nat.le_of_ble_eq_true rfl) (Nat.le_of_ble_eq_true rfl) (Nat.le_of_ble_eq_true rfl) rfl dX8_seenOf_1 (fun v10 M11 hD12 hp13 => ?_)
  obtain ⟨hp13m, hp13k, z14, hp13a⟩ := hp13
  obtain ⟨pl15, pe15, f15, kn15, tf15, o15_0, o15_1, o15_2, o15_3, o15_4, o15_5, o15_6, o15_7⟩ := id hp13m
  have h16 : (mo, (.inr (8, [.int tv, .ref pl15, .ref ka, .ref ta]) : va_E)) ∈ M11 := o15_0
  have h17 : (pl15, (.inr (10, [.int 10, .ref pe15, .int 10]) : va_E)) ∈ M11 := o15_1
  have h18 : (pe15, (.inl (G.cO, 10, .inr (.inr (.inr (.inr f15)))) : va_E)) ∈ M11 := o15_2
  have h19 : (ta, (.inl (G.Z.cI, 8, .inl tf15) : va_E)) ∈ M11 := o15_4
  have h20 : (ka, (.inl (G.cR, 10, .inr (.inr (.inr (.inr kn15)))) : va_E)) ∈ M11 := o15_6
  have hDo21 := hD12
  have h22 := hp13a
  have F23 := S.1.at 14 47 (Nat.le_of_ble_eq_true rfl) (Nat.le_of_ble_eq_true rfl)
  refine j_astore_n F23 [some (.ref mo), some (.int x), some (.ref v10), none, none, none] dX8_seenOf_4 (by decide) rfl rfl ?_
  refine j_iconst F23 0 dX8_seenOf_5 (by decide) ?_
  refine j_istore_n F23 [some (.ref mo), some (.int x), some (.ref v10), some (.int 0), none, none] dX8_seenOf_6 (by decide) rfl rfl ?_
  refine j_iconst F23 0 dX8_seenOf_7 (by decide) ?_
  refine j_istore F23 [some (.ref mo), some (.int x), some (.ref v10), some (.int 0), some (.int 0), none] dX8_seenOf_8 (by decide) rfl rfl ?_
  refine j_iload F23 dX8_seenOf_10 rfl ?_
  refine j_aload_n F23 dX8_seenOf_12 rfl ?_
  refine m_get S (C := RX5) (T := TX5) (N := 3) (by decide +kernel) h22 rfl (v := .int 0) 0 (by decide) (by decide +kernel) (fun _ h9 => h9) rfl dX8_seenOf_13 ?_
  refine j_icmp_ge F23 64 dX8_seenOf_16 (by decide) (fun _ => ?_) (fun h9 => absurd (by decide) h9)
  refine j_iload_n F23 dX8_seenOf_64 rfl ?_
  have hKm24 : Kp M11 [] M11 := by
    intro b x hb hx
    exact hx
  have hMoN := Mo.mono hp13m hKm24
  have hKp : Kp M [mo, ka] M11 := by
    intro b x hb hx
    have n25 : b ∉ [mo, ka] := by
      intro h9; simp only [List.mem_cons, List.not_mem_nil, or_false] at h9
      rcases h9 with h9 | h9
      · exact (fun c => hb (by rw [c]; simp)) h9
      · exact (fun c => hb (by rw [c]; simp)) h9
    have hx := hp13k b x n25 hx
    exact hx
  exact m_ireturn S hRT rfl hQ (Nat.le_of_ble_eq_true rfl) (Nat.le_of_ble_eq_true rfl) dX8_seenOf_65 rfl ⟨hMoN, hKp, rfl⟩
