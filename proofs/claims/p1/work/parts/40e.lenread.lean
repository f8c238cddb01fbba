set_option maxRecDepth 100000 in
set_option maxHeartbeats 4000000 in
theorem r_X7_blockN (l : Launch) (G : RG) (A : Nat → Prop) (M : Wl) {a g e q3 q4 mo : Nat} (p j : Nat) (hp4 : 4 ≤ p) (hp : p < 10) (hpj : p ≤ j) (hj : j < 10) (w0 : (a, .inr (7, [.int (nI p), .ref g, .int 0, .int (-1), .ref mo])) ∈ M) (w1 : (g, .inr (10, [.int 1, .ref e, .int 1])) ∈ M) (w2 : (e, .inl (G.cO, 10, .inr (.inr (.inr (.inr (va_up (fun _ => none) 0 (some q3))))))) ∈ M) (w3 : (q3, .inr (6, [.ref q4])) ∈ M) (w4 : (q4, .inr (10, [.int 0, .ref G.e0, .int 0])) ∈ M) : Kr l G A yX7_block wbX7_block { frames := 0, cells := 0, slots := 0, locals := 0 } M [.ref a, .int (nI j)] (Gi G A (fun v N => (4 : Int32) = v ∧ M = N)) 0 0 := by
  refine Kr.of (cc := cX7_block) (maxL := 3) (ret := (some .int)) (by decide) rfl (Nat.le_of_ble_eq_true rfl) ?_
  intro X hXl S hRT hIN hXA hQ hD
  subst hXl
  subst hXA
  show J (X.at 0 0) 3 (PL G.Z X.A M) 0 [some (.ref a), some (.int (nI j)), none] []
  have F0 := S.1.at 0 0 (Nat.le_of_ble_eq_true rfl) (Nat.le_of_ble_eq_true rfl)
  have hOR := S.2.1.or
  refine j_aload_n F0 dX7_block_0 rfl ?_
  refine m_get S (C := RX7) (T := TX7) (N := 5) (by decide +kernel) w0 rfl (v := .int (nI p)) 0 (by decide) (by decide +kernel) (fun _ h9 => h9) rfl dX7_block_1 ?_
  refine j_iconst F0 4 dX7_block_4 (by decide) ?_
  refine j_icmp_lt F0 18 dX7_block_5 (by decide) (fun h9 => absurd h9 (by rw [show (4 : Int32) = nI 4 from rfl, nI_ltI (by omega) (by omega)]; omega)) (fun _ => ?_)
  refine j_iload_n F0 dX7_block_8 rfl ?_
  refine j_aload_n F0 dX7_block_9 rfl ?_
  refine m_get S (C := RX7) (T := TX7) (N := 5) (by decide +kernel) w0 rfl (v := .int (nI p)) 0 (by decide) (by decide +kernel) (fun _ h9 => h9) rfl dX7_block_10 ?_
  refine j_icmp_lt F0 18 dX7_block_13 (by decide) (fun h9 => absurd h9 (by rw [nI_ltI (by omega) (by omega)]; omega)) (fun _ => ?_)
  refine j_iconst F0 4 dX7_block_16 (by decide) ?_
  exact m_ireturn S hRT rfl hQ (Nat.le_of_ble_eq_true rfl) (Nat.le_of_ble_eq_true rfl) dX7_block_17 rfl ⟨rfl, rfl⟩

set_option maxRecDepth 100000 in
set_option maxHeartbeats 4000000 in
theorem r_X7_blockA (l : Launch) (G : RG) (A : Nat → Prop) (M : Wl) {a g e q3 q4 mo : Nat} {ka ta : Nat} {tv : Int32} (p j : Nat) (hp4 : p < 4) (hj : j < 10) (hM : Mo G mo ka ta tv M) (w0 : (a, .inr (7, [.int (nI p), .ref g, .int 0, .int (-1), .ref mo])) ∈ M) (w1 : (g, .inr (10, [.int 1, .ref e, .int 1])) ∈ M) (w2 : (e, .inl (G.cO, 10, .inr (.inr (.inr (.inr (va_up (fun _ => none) 0 (some q3))))))) ∈ M) (w3 : (q3, .inr (6, [.ref q4])) ∈ M) (w4 : (q4, .inr (10, [.int 0, .ref G.e0, .int 0])) ∈ M) : Kr l G A yX7_block wbX7_block { frames := 7, cells := 9, slots := 32, locals := 153 } M [.ref a, .int (nI j)] (Gi G A (fun v N => (0 : Int32) = v ∧ (∃ pl9 : Nat, (mo, (.inr (8, [.int tv, .ref pl9, .ref ka, .ref ta]) : va_E)) ∈ N) ∧ ∃ (r b : Nat) (f : Nat → Int32), (q4, (.inr (10, [.int 1, .ref r, .int 1]) : va_E)) ∈ N ∧ (r, (.inl (G.cO, 10, .inr (.inr (.inr (.inr (va_up (fun _ => none) 0 (some b)))))) : va_E)) ∈ N ∧ (b, (.inl (G.Z.cI, 0, .inl f) : va_E)) ∈ N ∧ Kp M [mo, ka, q4] N)) 9 32 := by
  refine Kr.of (cc := cX7_block) (maxL := 3) (ret := (some .int)) (by decide) rfl (Nat.le_of_ble_eq_true rfl) ?_
  intro X hXl S hRT hIN hXA hQ hD
  subst hXl
  subst hXA
  show J (X.at 0 0) 3 (PL G.Z X.A M) 0 [some (.ref a), some (.int (nI j)), none] []
  have F0 := S.1.at 0 0 (Nat.le_of_ble_eq_true rfl) (Nat.le_of_ble_eq_true rfl)
  have hOR := S.2.1.or
  obtain ⟨pl1, pe1, f1, kn1, tf1, o1_0, o1_1, o1_2, o1_3, o1_4, o1_5, o1_6, o1_7⟩ := id hM
  have h2 : (mo, (.inr (8, [.int tv, .ref pl1, .ref ka, .ref ta]) : va_E)) ∈ M := o1_0
  have h3 : (pl1, (.inr (10, [.int 10, .ref pe1, .int 10]) : va_E)) ∈ M := o1_1
  have h4 : (pe1, (.inl (G.cO, 10, .inr (.inr (.inr (.inr f1)))) : va_E)) ∈ M := o1_2
  have h5 : (ta, (.inl (G.Z.cI, 8, .inl tf1) : va_E)) ∈ M := o1_4
  have h6 : (ka, (.inl (G.cR, 10, .inr (.inr (.inr (.inr kn1)))) : va_E)) ∈ M := o1_6
  have hDo7 := hD
  refine j_aload_n F0 dX7_block_0 rfl ?_
  refine m_get S (C := RX7) (T := TX7) (N := 5) (by decide +kernel) w0 rfl (v := .int (nI p)) 0 (by decide) (by decide +kernel) (fun _ h9 => h9) rfl dX7_block_1 ?_
  refine j_iconst F0 4 dX7_block_4 (by decide) ?_
  refine j_icmp_lt F0 18 dX7_block_5 (by decide) (fun _ => ?_) (fun h9 => absurd (by rw [show (4 : Int32) = nI 4 from rfl, nI_ltI (by omega) (by omega)]; omega) h9)
  refine j_aload_n F0 dX7_block_18 rfl ?_
  refine m_get S (C := RX7) (T := TX7) (N := 5) (by decide +kernel) w0 rfl (v := .ref mo) 4 (by decide) (by decide +kernel) (fun _ h9 => h9) rfl dX7_block_19 ?_
  refine j_iload_n F0 dX7_block_22 rfl ?_
  have hKm9 : Kp M [] M := by
    intro b x hb hx
    exact hx
  have hMo8 := Mo.mono hM hKm9
  refine m_cVNr S (n1 := 1) (rest := []) (r_X8_reading X.l G X.A M j hj hMo8) ⟨_, _, _, _, 2, rfl, rfl, (gB kB_X8_reading), rfl, rfl, (by decide +kernel), (by decide +kernel), ⟨(Nat.le_of_ble_eq_true rfl), (Nat.le_of_ble_eq_true rfl)⟩⟩ (by decide +kernel) (by decide +kernel) h2 rfl rfl (Nat.le_of_ble_eq_true rfl) (Nat.le_of_ble_eq_true rfl) (Nat.le_of_ble_eq_true rfl) rfl dX7_block_23 (fun v10 M11 hD12 hp13 => ?_)
  obtain ⟨hp13m, hp13k, hp13a⟩ := hp13
  have n14 : a ∉ [mo, ka] := by
    intro h9; simp only [List.mem_cons, List.not_mem_nil, or_false] at h9
    rcases h9 with h9 | h9
    · exact (In.ne hD w0 h2 (by simp)) h9
    · exact (In.ne hD w0 h6 (by simp)) h9
  have n15 : g ∉ [mo, ka] := by
    intro h9; simp only [List.mem_cons, List.not_mem_nil, or_false] at h9
    rcases h9 with h9 | h9
    · exact (In.ne hD w1 h2 (by simp)) h9
    · exact (In.ne hD w1 h6 (by simp)) h9
  have n16 : e ∉ [mo, ka] := by
    intro h9; simp only [List.mem_cons, List.not_mem_nil, or_false] at h9
    rcases h9 with h9 | h9
    · exact (In.ne hD w2 h2 (by simp)) h9
    · exact (In.ne hD w2 h6 (fun h9 => hOR (by injection h9 with h9; exact (Prod.mk.inj h9).1))) h9
  have n17 : q3 ∉ [mo, ka] := by
    intro h9; simp only [List.mem_cons, List.not_mem_nil, or_false] at h9
    rcases h9 with h9 | h9
    · exact (In.ne hD w3 h2 (by simp)) h9
    · exact (In.ne hD w3 h6 (by simp)) h9
  have n18 : q4 ∉ [mo, ka] := by
    intro h9; simp only [List.mem_cons, List.not_mem_nil, or_false] at h9
    rcases h9 with h9 | h9
    · exact (In.ne hD w4 h2 (by simp)) h9
    · exact (In.ne hD w4 h6 (by simp)) h9
  have w0 := hp13k _ _ n14 w0
  have w1 := hp13k _ _ n15 w1
  have w2 := hp13k _ _ n16 w2
  have w3 := hp13k _ _ n17 w3
  have w4 := hp13k _ _ n18 w4
  obtain ⟨pl19, pe19, f19, kn19, tf19, o19_0, o19_1, o19_2, o19_3, o19_4, o19_5, o19_6, o19_7⟩ := id hp13m
  have h20 : (mo, (.inr (8, [.int tv, .ref pl19, .ref ka, .ref ta]) : va_E)) ∈ M11 := o19_0
  have h21 : (pl19, (.inr (10, [.int 10, .ref pe19, .int 10]) : va_E)) ∈ M11 := o19_1
  have h22 : (pe19, (.inl (G.cO, 10, .inr (.inr (.inr (.inr f19)))) : va_E)) ∈ M11 := o19_2
  have h23 : (ta, (.inl (G.Z.cI, 8, .inl tf19) : va_E)) ∈ M11 := o19_4
  have h24 : (ka, (.inl (G.cR, 10, .inr (.inr (.inr (.inr kn19)))) : va_E)) ∈ M11 := o19_6
  have hDo25 := hD12
  obtain ⟨q261, q262, q263, q264, q26a, q26b, q26c, q26d, q26e⟩ := hp13a
  have h27 : (v10, (.inr (7, [.int (nI j), .ref q261, .int 0, .int (-1), .ref mo]) : va_E)) ∈ M11 := q26a
  have h28 : (q261, (.inr (10, [.int 1, .ref q262, .int 1]) : va_E)) ∈ M11 := q26b
  have h29 : (q262, (.inl (G.cO, 10, .inr (.inr (.inr (.inr (va_up (fun _ => none) 0 (some q263)))))) : va_E)) ∈ M11 := q26c
  have h30 : (q263, (.inr (6, [.ref q264]) : va_E)) ∈ M11 := q26d
  have h31 : (q264, (.inr (10, [.int 0, .ref G.e0, .int 0]) : va_E)) ∈ M11 := q26e
  have F32 := S.1.at 5 22 (Nat.le_of_ble_eq_true rfl) (Nat.le_of_ble_eq_true rfl)
  refine j_astore_n F32 [some (.ref a), some (.int (nI j)), some (.ref v10)] dX7_block_26 (by decide) rfl rfl ?_
  refine j_aload_n F32 dX7_block_27 rfl ?_
  refine m_get S (C := RX7) (T := TX7) (N := 5) (by decide +kernel) h27 rfl (v := .int 0) 2 (by decide) (by decide +kernel) (fun _ h9 => h9) rfl dX7_block_28 ?_
  refine j_if_le F32 39 dX7_block_31 (by decide) (fun _ => ?_) (fun h9 => absurd (by decide) h9)
  refine j_aload_n F32 dX7_block_39 rfl ?_
  refine j_aload_n F32 dX7_block_40 rfl ?_
  refine m_cVr S (n1 := 0) (rest := [.ref a]) (r_X7_numbers X.l G X.A M11 h27 h28 h29 h30 h31) ⟨_, _, _, _, rfl, (gBV kB_X7_numbers (by decide +kernel)), rfl, rfl, (by decide +kernel), ⟨(Nat.le_of_ble_eq_true rfl), (Nat.le_of_ble_eq_true rfl)⟩⟩ h27 rfl rfl (Nat.le_of_ble_eq_true rfl) (Nat.le_of_ble_eq_true rfl) (Nat.le_of_ble_eq_true rfl) rfl dX7_block_41 (fun v33 M34 hD35 hp36 => ?_)
  obtain ⟨hp36a, hp36k, hp36f⟩ := hp36
  have n37 := hp36f _ _ w0
  have n38 := hp36f _ _ w1
  have n39 := hp36f _ _ w2
  have n40 := hp36f _ _ w3
  have n41 := hp36f _ _ w4
  have n42 := hp36f _ _ h20
  have n43 := hp36f _ _ h21
  have n44 := hp36f _ _ h22
  have n45 := hp36f _ _ h23
  have n46 := hp36f _ _ h24
  have n47 := hp36f _ _ h27
  have n48 := hp36f _ _ h28
  have n49 := hp36f _ _ h29
  have n50 := hp36f _ _ h30
  have n51 := hp36f _ _ h31
  have n52 : a ∉ ([] : List Nat) := List.not_mem_nil
  have n53 : g ∉ ([] : List Nat) := List.not_mem_nil
  have n54 : e ∉ ([] : List Nat) := List.not_mem_nil
  have n55 : q3 ∉ ([] : List Nat) := List.not_mem_nil
  have n56 : q4 ∉ ([] : List Nat) := List.not_mem_nil
  have n57 : mo ∉ ([] : List Nat) := List.not_mem_nil
  have n58 : pl19 ∉ ([] : List Nat) := List.not_mem_nil
  have n59 : pe19 ∉ ([] : List Nat) := List.not_mem_nil
  have n60 : ta ∉ ([] : List Nat) := List.not_mem_nil
  have n61 : ka ∉ ([] : List Nat) := List.not_mem_nil
  have n62 : v10 ∉ ([] : List Nat) := List.not_mem_nil
  have n63 : q261 ∉ ([] : List Nat) := List.not_mem_nil
  have n64 : q262 ∉ ([] : List Nat) := List.not_mem_nil
  have n65 : q263 ∉ ([] : List Nat) := List.not_mem_nil
  have n66 : q264 ∉ ([] : List Nat) := List.not_mem_nil
  have w0 := hp36k _ _ n52 w0
  have w1 := hp36k _ _ n53 w1
  have w2 := hp36k _ _ n54 w2
  have w3 := hp36k _ _ n55 w3
  have w4 := hp36k _ _ n56 w4
  have h20 := hp36k _ _ n57 h20
  have h21 := hp36k _ _ n58 h21
  have h22 := hp36k _ _ n59 h22
  have h23 := hp36k _ _ n60 h23
  have h24 := hp36k _ _ n61 h24
  have h27 := hp36k _ _ n62 h27
  have h28 := hp36k _ _ n63 h28
  have h29 := hp36k _ _ n64 h29
  have h30 := hp36k _ _ n65 h30
  have h31 := hp36k _ _ n66 h31
  have h67 : (v33, (.inl (G.Z.cI, 0, .inl (fun _ => 0)) : va_E)) ∈ M34 := hp36a
  have F68 := S.1.at 6 22 (Nat.le_of_ble_eq_true rfl) (Nat.le_of_ble_eq_true rfl)
  refine m_cVi S (n1 := 1) (rest := []) (r_X7_put0 X.l G X.A M34 w0 w1 w2 w3 w4 h67) ⟨_, _, _, _, rfl, (gBV kB_X7_put (by decide +kernel)), rfl, rfl, (by decide +kernel), ⟨(Nat.le_of_ble_eq_true rfl), (Nat.le_of_ble_eq_true rfl)⟩⟩ w0 rfl rfl (Nat.le_of_ble_eq_true rfl) (Nat.le_of_ble_eq_true rfl) (Nat.le_of_ble_eq_true rfl) rfl dX7_block_44 (fun v69 M70 hD71 hp72 => ?_)
  obtain ⟨hp72v, r73, hp72a, hp72b, hp72k, hp72f⟩ := hp72
  subst hp72v
  have n74 := hp72f _ _ w0
  have n75 := hp72f _ _ w1
  have n76 := hp72f _ _ w2
  have n77 := hp72f _ _ w3
  have n78 := hp72f _ _ w4
  have n79 := hp72f _ _ h20
  have n80 := hp72f _ _ h24
  have n81 := hp72f _ _ h67
  have n82 : a ∉ [q4] := by
    intro h9; simp only [List.mem_cons, List.not_mem_nil, or_false] at h9
    · exact (In.ne hD35 w0 w4 (by simp)) h9
  have n83 : g ∉ [q4] := by
    intro h9; simp only [List.mem_cons, List.not_mem_nil, or_false] at h9
    · exact (In.ne hD35 w1 w4 (by simp)) h9
  have n84 : e ∉ [q4] := by
    intro h9; simp only [List.mem_cons, List.not_mem_nil, or_false] at h9
    · exact (In.ne hD35 w2 w4 (by simp)) h9
  have n85 : q3 ∉ [q4] := by
    intro h9; simp only [List.mem_cons, List.not_mem_nil, or_false] at h9
    · exact (In.ne hD35 w3 w4 (by simp)) h9
  have n86 : mo ∉ [q4] := by
    intro h9; simp only [List.mem_cons, List.not_mem_nil, or_false] at h9
    · exact (In.ne hD35 h20 w4 (by simp)) h9
  have n87 : ka ∉ [q4] := by
    intro h9; simp only [List.mem_cons, List.not_mem_nil, or_false] at h9
    · exact (In.ne hD35 h24 w4 (by simp)) h9
  have n88 : v33 ∉ [q4] := by
    intro h9; simp only [List.mem_cons, List.not_mem_nil, or_false] at h9
    · exact (Ne.symm n41) h9
  have w0 := hp72k _ _ n82 w0
  have w1 := hp72k _ _ n83 w1
  have w2 := hp72k _ _ n84 w2
  have w3 := hp72k _ _ n85 w3
  have h20 := hp72k _ _ n86 h20
  have h24 := hp72k _ _ n87 h24
  have h67 := hp72k _ _ n88 h67
  have h89 : (q4, (.inr (10, [.int 1, .ref r73, .int 1]) : va_E)) ∈ M70 := hp72a
  have h90 : (r73, (.inl (G.cO, 10, .inr (.inr (.inr (.inr (va_up (fun _ => none) 0 (some v33)))))) : va_E)) ∈ M70 := hp72b
  have F91 := S.1.at 9 32 (Nat.le_of_ble_eq_true rfl) (Nat.le_of_ble_eq_true rfl)
  have hKp : Kp M [mo, ka, q4] M70 := by
    intro b x hb hx
    have n92 : b ∉ [mo, ka] := by
      intro h9; simp only [List.mem_cons, List.not_mem_nil, or_false] at h9
      rcases h9 with h9 | h9
      · exact (fun c => hb (by rw [c]; simp)) h9
      · exact (fun c => hb (by rw [c]; simp)) h9
    have hx := hp13k b x n92 hx
    have n93 := hp36f _ _ hx
    have n94 : b ∉ ([] : List Nat) := List.not_mem_nil
    have hx := hp36k b x n94 hx
    have n95 := hp72f _ _ hx
    have n96 : b ∉ [q4] := by
      intro h9; simp only [List.mem_cons, List.not_mem_nil, or_false] at h9
      · exact (fun c => hb (by rw [c]; simp)) h9
    have hx := hp72k b x n96 hx
    exact hx
  exact m_ireturn S hRT rfl hQ (Nat.le_of_ble_eq_true rfl) (Nat.le_of_ble_eq_true rfl) dX7_block_47 rfl ⟨rfl, ⟨_, h20⟩, r73, v33, _, h89, h90, h67, hKp⟩

set_option maxRecDepth 100000 in
set_option maxHeartbeats 4000000 in
theorem r_X7_blockB (l : Launch) (G : RG) (A : Nat → Prop) (M : Wl) {a g e q3 q4 mo : Nat} {ka ta : Nat} {tv : Int32} (p j : Nat) (hp4 : 4 ≤ p) (hp : p < 10) (hpj : j < p) (hj : j < 10) (hM : Mo G mo ka ta tv M) (w0 : (a, .inr (7, [.int (nI p), .ref g, .int 0, .int (-1), .ref mo])) ∈ M) (w1 : (g, .inr (10, [.int 1, .ref e, .int 1])) ∈ M) (w2 : (e, .inl (G.cO, 10, .inr (.inr (.inr (.inr (va_up (fun _ => none) 0 (some q3))))))) ∈ M) (w3 : (q3, .inr (6, [.ref q4])) ∈ M) (w4 : (q4, .inr (10, [.int 0, .ref G.e0, .int 0])) ∈ M) : Kr l G A yX7_block wbX7_block { frames := 7, cells := 9, slots := 32, locals := 153 } M [.ref a, .int (nI j)] (Gi G A (fun v N => (0 : Int32) = v ∧ (∃ pl9 : Nat, (mo, (.inr (8, [.int tv, .ref pl9, .ref ka, .ref ta]) : va_E)) ∈ N) ∧ ∃ (r b : Nat) (f : Nat → Int32), (q4, (.inr (10, [.int 1, .ref r, .int 1]) : va_E)) ∈ N ∧ (r, (.inl (G.cO, 10, .inr (.inr (.inr (.inr (va_up (fun _ => none) 0 (some b)))))) : va_E)) ∈ N ∧ (b, (.inl (G.Z.cI, 0, .inl f) : va_E)) ∈ N ∧ Kp M [mo, ka, q4] N)) 9 32 := by
  refine Kr.of (cc := cX7_block) (maxL := 3) (ret := (some .int)) (by decide) rfl (Nat.le_of_ble_eq_true rfl) ?_
  intro X hXl S hRT hIN hXA hQ hD
  subst hXl
  subst hXA
  show J (X.at 0 0) 3 (PL G.Z X.A M) 0 [some (.ref a), some (.int (nI j)), none] []
  have F0 := S.1.at 0 0 (Nat.le_of_ble_eq_true rfl) (Nat.le_of_ble_eq_true rfl)
  have hOR := S.2.1.or
  obtain ⟨pl1, pe1, f1, kn1, tf1, o1_0, o1_1, o1_2, o1_3, o1_4, o1_5, o1_6, o1_7⟩ := id hM
  have h2 : (mo, (.inr (8, [.int tv, .ref pl1, .ref ka, .ref ta]) : va_E)) ∈ M := o1_0
  have h3 : (pl1, (.inr (10, [.int 10, .ref pe1, .int 10]) : va_E)) ∈ M := o1_1
  have h4 : (pe1, (.inl (G.cO, 10, .inr (.inr (.inr (.inr f1)))) : va_E)) ∈ M := o1_2
  have h5 : (ta, (.inl (G.Z.cI, 8, .inl tf1) : va_E)) ∈ M := o1_4
  have h6 : (ka, (.inl (G.cR, 10, .inr (.inr (.inr (.inr kn1)))) : va_E)) ∈ M := o1_6
  have hDo7 := hD
  refine j_aload_n F0 dX7_block_0 rfl ?_
  refine m_get S (C := RX7) (T := TX7) (N := 5) (by decide +kernel) w0 rfl (v := .int (nI p)) 0 (by decide) (by decide +kernel) (fun _ h9 => h9) rfl dX7_block_1 ?_
  refine j_iconst F0 4 dX7_block_4 (by decide) ?_
  refine j_icmp_lt F0 18 dX7_block_5 (by decide) (fun h9 => absurd h9 (by rw [show (4 : Int32) = nI 4 from rfl, nI_ltI (by omega) (by omega)]; omega)) (fun _ => ?_)
  refine j_iload_n F0 dX7_block_8 rfl ?_
  refine j_aload_n F0 dX7_block_9 rfl ?_
  refine m_get S (C := RX7) (T := TX7) (N := 5) (by decide +kernel) w0 rfl (v := .int (nI p)) 0 (by decide) (by decide +kernel) (fun _ h9 => h9) rfl dX7_block_10 ?_
  refine j_icmp_lt F0 18 dX7_block_13 (by decide) (fun _ => ?_) (fun h9 => absurd (by rw [nI_ltI (by omega) (by omega)]; omega) h9)
  refine j_aload_n F0 dX7_block_18 rfl ?_
  refine m_get S (C := RX7) (T := TX7) (N := 5) (by decide +kernel) w0 rfl (v := .ref mo) 4 (by decide) (by decide +kernel) (fun _ h9 => h9) rfl dX7_block_19 ?_
  refine j_iload_n F0 dX7_block_22 rfl ?_
  have hKm9 : Kp M [] M := by
    intro b x hb hx
    exact hx
  have hMo8 := Mo.mono hM hKm9
  refine m_cVNr S (n1 := 1) (rest := []) (r_X8_reading X.l G X.A M j hj hMo8) ⟨_, _, _, _, 2, rfl, rfl, (gB kB_X8_reading), rfl, rfl, (by decide +kernel), (by decide +kernel), ⟨(Nat.le_of_ble_eq_true rfl), (Nat.le_of_ble_eq_true rfl)⟩⟩ (by decide +kernel) (by decide +kernel) h2 rfl rfl (Nat.le_of_ble_eq_true rfl) (Nat.le_of_ble_eq_true rfl) (Nat.le_of_ble_eq_true rfl) rfl dX7_block_23 (fun v10 M11 hD12 hp13 => ?_)
  obtain ⟨hp13m, hp13k, hp13a⟩ := hp13
  have n14 : a ∉ [mo, ka] := by
    intro h9; simp only [List.mem_cons, List.not_mem_nil, or_false] at h9
    rcases h9 with h9 | h9
    · exact (In.ne hD w0 h2 (by simp)) h9
    · exact (In.ne hD w0 h6 (by simp)) h9
  have n15 : g ∉ [mo, ka] := by
    intro h9; simp only [List.mem_cons, List.not_mem_nil, or_false] at h9
    rcases h9 with h9 | h9
    · exact (In.ne hD w1 h2 (by simp)) h9
    · exact (In.ne hD w1 h6 (by simp)) h9
  have n16 : e ∉ [mo, ka] := by
    intro h9; simp only [List.mem_cons, List.not_mem_nil, or_false] at h9
    rcases h9 with h9 | h9
    · exact (In.ne hD w2 h2 (by simp)) h9
    · exact (In.ne hD w2 h6 (fun h9 => hOR (by injection h9 with h9; exact (Prod.mk.inj h9).1))) h9
  have n17 : q3 ∉ [mo, ka] := by
    intro h9; simp only [List.mem_cons, List.not_mem_nil, or_false] at h9
    rcases h9 with h9 | h9
    · exact (In.ne hD w3 h2 (by simp)) h9
    · exact (In.ne hD w3 h6 (by simp)) h9
  have n18 : q4 ∉ [mo, ka] := by
    intro h9; simp only [List.mem_cons, List.not_mem_nil, or_false] at h9
    rcases h9 with h9 | h9
    · exact (In.ne hD w4 h2 (by simp)) h9
    · exact (In.ne hD w4 h6 (by simp)) h9
  have w0 := hp13k _ _ n14 w0
  have w1 := hp13k _ _ n15 w1
  have w2 := hp13k _ _ n16 w2
  have w3 := hp13k _ _ n17 w3
  have w4 := hp13k _ _ n18 w4
  obtain ⟨pl19, pe19, f19, kn19, tf19, o19_0, o19_1, o19_2, o19_3, o19_4, o19_5, o19_6, o19_7⟩ := id hp13m
  have h20 : (mo, (.inr (8, [.int tv, .ref pl19, .ref ka, .ref ta]) : va_E)) ∈ M11 := o19_0
  have h21 : (pl19, (.inr (10, [.int 10, .ref pe19, .int 10]) : va_E)) ∈ M11 := o19_1
  have h22 : (pe19, (.inl (G.cO, 10, .inr (.inr (.inr (.inr f19)))) : va_E)) ∈ M11 := o19_2
  have h23 : (ta, (.inl (G.Z.cI, 8, .inl tf19) : va_E)) ∈ M11 := o19_4
  have h24 : (ka, (.inl (G.cR, 10, .inr (.inr (.inr (.inr kn19)))) : va_E)) ∈ M11 := o19_6
  have hDo25 := hD12
  obtain ⟨q261, q262, q263, q264, q26a, q26b, q26c, q26d, q26e⟩ := hp13a
  have h27 : (v10, (.inr (7, [.int (nI j), .ref q261, .int 0, .int (-1), .ref mo]) : va_E)) ∈ M11 := q26a
  have h28 : (q261, (.inr (10, [.int 1, .ref q262, .int 1]) : va_E)) ∈ M11 := q26b
  have h29 : (q262, (.inl (G.cO, 10, .inr (.inr (.inr (.inr (va_up (fun _ => none) 0 (some q263)))))) : va_E)) ∈ M11 := q26c
  have h30 : (q263, (.inr (6, [.ref q264]) : va_E)) ∈ M11 := q26d
  have h31 : (q264, (.inr (10, [.int 0, .ref G.e0, .int 0]) : va_E)) ∈ M11 := q26e
  have F32 := S.1.at 5 22 (Nat.le_of_ble_eq_true rfl) (Nat.le_of_ble_eq_true rfl)
  refine j_astore_n F32 [some (.ref a), some (.int (nI j)), some (.ref v10)] dX7_block_26 (by decide) rfl rfl ?_
  refine j_aload_n F32 dX7_block_27 rfl ?_
  refine m_get S (C := RX7) (T := TX7) (N := 5) (by decide +kernel) h27 rfl (v := .int 0) 2 (by decide) (by decide +kernel) (fun _ h9 => h9) rfl dX7_block_28 ?_
  refine j_if_le F32 39 dX7_block_31 (by decide) (fun _ => ?_) (fun h9 => absurd (by decide) h9)
  refine j_aload_n F32 dX7_block_39 rfl ?_
  refine j_aload_n F32 dX7_block_40 rfl ?_
  refine m_cVr S (n1 := 0) (rest := [.ref a]) (r_X7_numbers X.l G X.A M11 h27 h28 h29 h30 h31) ⟨_, _, _, _, rfl, (gBV kB_X7_numbers (by decide +kernel)), rfl, rfl, (by decide +kernel), ⟨(Nat.le_of_ble_eq_true rfl), (Nat.le_of_ble_eq_true rfl)⟩⟩ h27 rfl rfl (Nat.le_of_ble_eq_true rfl) (Nat.le_of_ble_eq_true rfl) (Nat.le_of_ble_eq_true rfl) rfl dX7_block_41 (fun v33 M34 hD35 hp36 => ?_)
  obtain ⟨hp36a, hp36k, hp36f⟩ := hp36
  have n37 := hp36f _ _ w0
  have n38 := hp36f _ _ w1
  have n39 := hp36f _ _ w2
  have n40 := hp36f _ _ w3
  have n41 := hp36f _ _ w4
  have n42 := hp36f _ _ h20
  have n43 := hp36f _ _ h21
  have n44 := hp36f _ _ h22
  have n45 := hp36f _ _ h23
  have n46 := hp36f _ _ h24
  have n47 := hp36f _ _ h27
  have n48 := hp36f _ _ h28
  have n49 := hp36f _ _ h29
  have n50 := hp36f _ _ h30
  have n51 := hp36f _ _ h31
  have n52 : a ∉ ([] : List Nat) := List.not_mem_nil
  have n53 : g ∉ ([] : List Nat) := List.not_mem_nil
  have n54 : e ∉ ([] : List Nat) := List.not_mem_nil
  have n55 : q3 ∉ ([] : List Nat) := List.not_mem_nil
  have n56 : q4 ∉ ([] : List Nat) := List.not_mem_nil
  have n57 : mo ∉ ([] : List Nat) := List.not_mem_nil
  have n58 : pl19 ∉ ([] : List Nat) := List.not_mem_nil
  have n59 : pe19 ∉ ([] : List Nat) := List.not_mem_nil
  have n60 : ta ∉ ([] : List Nat) := List.not_mem_nil
  have n61 : ka ∉ ([] : List Nat) := List.not_mem_nil
  have n62 : v10 ∉ ([] : List Nat) := List.not_mem_nil
  have n63 : q261 ∉ ([] : List Nat) := List.not_mem_nil
  have n64 : q262 ∉ ([] : List Nat) := List.not_mem_nil
  have n65 : q263 ∉ ([] : List Nat) := List.not_mem_nil
  have n66 : q264 ∉ ([] : List Nat) := List.not_mem_nil
  have w0 := hp36k _ _ n52 w0
  have w1 := hp36k _ _ n53 w1
  have w2 := hp36k _ _ n54 w2
  have w3 := hp36k _ _ n55 w3
  have w4 := hp36k _ _ n56 w4
  have h20 := hp36k _ _ n57 h20
  have h21 := hp36k _ _ n58 h21
  have h22 := hp36k _ _ n59 h22
  have h23 := hp36k _ _ n60 h23
  have h24 := hp36k _ _ n61 h24
  have h27 := hp36k _ _ n62 h27
  have h28 := hp36k _ _ n63 h28
  have h29 := hp36k _ _ n64 h29
  have h30 := hp36k _ _ n65 h30
  have h31 := hp36k _ _ n66 h31
  have h67 : (v33, (.inl (G.Z.cI, 0, .inl (fun _ => 0)) : va_E)) ∈ M34 := hp36a
  have F68 := S.1.at 6 22 (Nat.le_of_ble_eq_true rfl) (Nat.le_of_ble_eq_true rfl)
  refine m_cVi S (n1 := 1) (rest := []) (r_X7_put0 X.l G X.A M34 w0 w1 w2 w3 w4 h67) ⟨_, _, _, _, rfl, (gBV kB_X7_put (by decide +kernel)), rfl, rfl, (by decide +kernel), ⟨(Nat.le_of_ble_eq_true rfl), (Nat.le_of_ble_eq_true rfl)⟩⟩ w0 rfl rfl (Nat.le_of_ble_eq_true rfl) (Nat.le_of_ble_eq_true rfl) (Nat.le_of_ble_eq_true rfl) rfl dX7_block_44 (fun v69 M70 hD71 hp72 => ?_)
  obtain ⟨hp72v, r73, hp72a, hp72b, hp72k, hp72f⟩ := hp72
  subst hp72v
  have n74 := hp72f _ _ w0
  have n75 := hp72f _ _ w1
  have n76 := hp72f _ _ w2
  have n77 := hp72f _ _ w3
  have n78 := hp72f _ _ w4
  have n79 := hp72f _ _ h20
  have n80 := hp72f _ _ h24
  have n81 := hp72f _ _ h67
  have n82 : a ∉ [q4] := by
    intro h9; simp only [List.mem_cons, List.not_mem_nil, or_false] at h9
    · exact (In.ne hD35 w0 w4 (by simp)) h9
  have n83 : g ∉ [q4] := by
    intro h9; simp only [List.mem_cons, List.not_mem_nil, or_false] at h9
    · exact (In.ne hD35 w1 w4 (by simp)) h9
  have n84 : e ∉ [q4] := by
    intro h9; simp only [List.mem_cons, List.not_mem_nil, or_false] at h9
    · exact (In.ne hD35 w2 w4 (by simp)) h9
  have n85 : q3 ∉ [q4] := by
    intro h9; simp only [List.mem_cons, List.not_mem_nil, or_false] at h9
    · exact (In.ne hD35 w3 w4 (by simp)) h9
  have n86 : mo ∉ [q4] := by
    intro h9; simp only [List.mem_cons, List.not_mem_nil, or_false] at h9
    · exact (In.ne hD35 h20 w4 (by simp)) h9
  have n87 : ka ∉ [q4] := by
    intro h9; simp only [List.mem_cons, List.not_mem_nil, or_false] at h9
    · exact (In.ne hD35 h24 w4 (by simp)) h9
  have n88 : v33 ∉ [q4] := by
    intro h9; simp only [List.mem_cons, List.not_mem_nil, or_false] at h9
    · exact (Ne.symm n41) h9
  have w0 := hp72k _ _ n82 w0
  have w1 := hp72k _ _ n83 w1
  have w2 := hp72k _ _ n84 w2
  have w3 := hp72k _ _ n85 w3
  have h20 := hp72k _ _ n86 h20
  have h24 := hp72k _ _ n87 h24
  have h67 := hp72k _ _ n88 h67
  have h89 : (q4, (.inr (10, [.int 1, .ref r73, .int 1]) : va_E)) ∈ M70 := hp72a
  have h90 : (r73, (.inl (G.cO, 10, .inr (.inr (.inr (.inr (va_up (fun _ => none) 0 (some v33)))))) : va_E)) ∈ M70 := hp72b
  have F91 := S.1.at 9 32 (Nat.le_of_ble_eq_true rfl) (Nat.le_of_ble_eq_true rfl)
  have hKp : Kp M [mo, ka, q4] M70 := by
    intro b x hb hx
    have n92 : b ∉ [mo, ka] := by
      intro h9; simp only [List.mem_cons, List.not_mem_nil, or_false] at h9
      rcases h9 with h9 | h9
      · exact (fun c => hb (by rw [c]; simp)) h9
      · exact (fun c => hb (by rw [c]; simp)) h9
    have hx := hp13k b x n92 hx
    have n93 := hp36f _ _ hx
    have n94 : b ∉ ([] : List Nat) := List.not_mem_nil
    have hx := hp36k b x n94 hx
    have n95 := hp72f _ _ hx
    have n96 : b ∉ [q4] := by
      intro h9; simp only [List.mem_cons, List.not_mem_nil, or_false] at h9
      · exact (fun c => hb (by rw [c]; simp)) h9
    have hx := hp72k b x n96 hx
    exact hx
  exact m_ireturn S hRT rfl hQ (Nat.le_of_ble_eq_true rfl) (Nat.le_of_ble_eq_true rfl) dX7_block_47 rfl ⟨rfl, ⟨_, h20⟩, r73, v33, _, h89, h90, h67, hKp⟩

set_option maxRecDepth 100000 in
set_option maxHeartbeats 4000000 in
theorem r_X7_readA (l : Launch) (G : RG) (A : Nat → Prop) (M : Wl) {a g e q3 q4 mo : Nat} (p j : Nat) (hj : j < 8) (w0 : (a, .inr (7, [.int (nI p), .ref g, .int 0, .int (-1), .ref mo])) ∈ M) (w1 : (g, .inr (10, [.int 1, .ref e, .int 1])) ∈ M) (w2 : (e, .inl (G.cO, 10, .inr (.inr (.inr (.inr (va_up (fun _ => none) 0 (some q3))))))) ∈ M) (w3 : (q3, .inr (6, [.ref q4])) ∈ M) (w4 : (q4, .inr (10, [.int 0, .ref G.e0, .int 0])) ∈ M) : Kr l G A yX7_read wbX7_read { frames := 6, cells := 4, slots := 12, locals := 145 } M [.ref a, .int (nI j)] (Gi G A (fun v N => (0 : Int32) = v ∧ ∃ (r b : Nat) (f : Nat → Int32), (q4, (.inr (10, [.int 1, .ref r, .int 1]) : va_E)) ∈ N ∧ (r, (.inl (G.cO, 10, .inr (.inr (.inr (.inr (va_up (fun _ => none) 0 (some b)))))) : va_E)) ∈ N ∧ (b, (.inl (G.Z.cI, 1, .inl f) : va_E)) ∈ N ∧ Kp M [q4] N)) 4 12 := by
  refine Kr.of (cc := cX7_read) (maxL := 2) (ret := (some .int)) (by decide) rfl (Nat.le_of_ble_eq_true rfl) ?_
  intro X hXl S hRT hIN hXA hQ hD
  subst hXl
  subst hXA
  show J (X.at 0 0) 2 (PL G.Z X.A M) 0 [some (.ref a), some (.int (nI j))] []
  have F0 := S.1.at 0 0 (Nat.le_of_ble_eq_true rfl) (Nat.le_of_ble_eq_true rfl)
  have hOR := S.2.1.or
  refine j_iload_n F0 dX7_read_0 rfl ?_
  refine j_bipush F0 8 dX7_read_1 (by decide) ?_
  refine j_icmp_ge F0 18 dX7_read_3 (by decide) (fun h9 => absurd h9 (by rw [show (8 : Int32) = nI 8 from rfl, nI_leI (by omega) (by omega)]; omega)) (fun _ => ?_)
  refine j_aload_n F0 dX7_read_6 rfl ?_
  refine j_iconst F0 1 dX7_read_7 (by decide) ?_
  refine m_newi S (N := 1) (by decide +kernel) (by decide) (by decide) (Nat.le_of_ble_eq_true rfl) (Nat.le_of_ble_eq_true rfl) (Nat.le_of_ble_eq_true rfl) dX7_read_8 (fun q1 M3 hD4 hN2 => ?_)
  have n5 := (hN2.2 _ _ w0).2
  have w0 := (hN2.2 _ _ w0).1
  have n6 := (hN2.2 _ _ w1).2
  have w1 := (hN2.2 _ _ w1).1
  have n7 := (hN2.2 _ _ w2).2
  have w2 := (hN2.2 _ _ w2).1
  have n8 := (hN2.2 _ _ w3).2
  have w3 := (hN2.2 _ _ w3).1
  have n9 := (hN2.2 _ _ w4).2
  have w4 := (hN2.2 _ _ w4).1
  have h10 := hN2.1
  have F11 := S.1.at 1 1 (Nat.le_of_ble_eq_true rfl) (Nat.le_of_ble_eq_true rfl)
  refine j_dup F11 dX7_read_10 rfl ?_
  refine j_iconst F11 0 dX7_read_11 (by decide) ?_
  refine j_iload_n F11 dX7_read_12 rfl ?_
  refine m_iastore S (k0 := 0) h10 (by unfold vp_in; decide) (by decide) dX7_read_13 (fun M13 hD14 hU12 => ?_)
  have n15 : a ≠ q1 := n5
  have n16 : g ≠ q1 := n6
  have n17 : e ≠ q1 := n7
  have n18 : q3 ≠ q1 := n8
  have n19 : q4 ≠ q1 := n9
  have w0 := hU12.2 _ _ n15 w0
  have w1 := hU12.2 _ _ n16 w1
  have w2 := hU12.2 _ _ n17 w2
  have w3 := hU12.2 _ _ n18 w3
  have w4 := hU12.2 _ _ n19 w4
  have h10 := hU12.1
  refine m_cVi S (n1 := 1) (rest := []) (r_X7_put1 X.l G X.A M13 w0 w1 w2 w3 w4 h10) ⟨_, _, _, _, rfl, (gBV kB_X7_put (by decide +kernel)), rfl, rfl, (by decide +kernel), ⟨(Nat.le_of_ble_eq_true rfl), (Nat.le_of_ble_eq_true rfl)⟩⟩ w0 rfl rfl (Nat.le_of_ble_eq_true rfl) (Nat.le_of_ble_eq_true rfl) (Nat.le_of_ble_eq_true rfl) rfl dX7_read_14 (fun v20 M21 hD22 hp23 => ?_)
  obtain ⟨hp23v, r24, hp23a, hp23b, hp23k, hp23f⟩ := hp23
  subst hp23v
  have n25 := hp23f _ _ w0
  have n26 := hp23f _ _ w1
  have n27 := hp23f _ _ w2
  have n28 := hp23f _ _ w3
  have n29 := hp23f _ _ w4
  have n30 := hp23f _ _ h10
  have n31 : a ∉ [q4] := by
    intro h9; simp only [List.mem_cons, List.not_mem_nil, or_false] at h9
    · exact (In.ne hD14 w0 w4 (by simp)) h9
  have n32 : g ∉ [q4] := by
    intro h9; simp only [List.mem_cons, List.not_mem_nil, or_false] at h9
    · exact (In.ne hD14 w1 w4 (by simp)) h9
  have n33 : e ∉ [q4] := by
    intro h9; simp only [List.mem_cons, List.not_mem_nil, or_false] at h9
    · exact (In.ne hD14 w2 w4 (by simp)) h9
  have n34 : q3 ∉ [q4] := by
    intro h9; simp only [List.mem_cons, List.not_mem_nil, or_false] at h9
    · exact (In.ne hD14 w3 w4 (by simp)) h9
  have n35 : q1 ∉ [q4] := by
    intro h9; simp only [List.mem_cons, List.not_mem_nil, or_false] at h9
    · exact (Ne.symm n19) h9
  have w0 := hp23k _ _ n31 w0
  have w1 := hp23k _ _ n32 w1
  have w2 := hp23k _ _ n33 w2
  have w3 := hp23k _ _ n34 w3
  have h10 := hp23k _ _ n35 h10
  have h36 : (q4, (.inr (10, [.int 1, .ref r24, .int 1]) : va_E)) ∈ M21 := hp23a
  have h37 : (r24, (.inl (G.cO, 10, .inr (.inr (.inr (.inr (va_up (fun _ => none) 0 (some q1)))))) : va_E)) ∈ M21 := hp23b
  have F38 := S.1.at 4 12 (Nat.le_of_ble_eq_true rfl) (Nat.le_of_ble_eq_true rfl)
  have hKp : Kp M [q4] M21 := by
    intro b x hb hx
    have n39 := (hN2.2 _ _ hx).2
    have hx := (hN2.2 _ _ hx).1
    have hx := hU12.2 _ _ n39 hx
    have n40 := hp23f _ _ hx
    have n41 : b ∉ [q4] := by
      intro h9; simp only [List.mem_cons, List.not_mem_nil, or_false] at h9
      · exact (fun c => hb (by rw [c]; simp)) h9
    have hx := hp23k b x n41 hx
    exact hx
  exact m_ireturn S hRT rfl hQ (Nat.le_of_ble_eq_true rfl) (Nat.le_of_ble_eq_true rfl) dX7_read_17 rfl ⟨rfl, r24, q1, _, h36, h37, h10, hKp⟩

set_option maxRecDepth 100000 in
set_option maxHeartbeats 4000000 in
theorem r_X7_readB (l : Launch) (G : RG) (A : Nat → Prop) (M : Wl) {a g e q3 q4 mo : Nat} (p : Nat) (w0 : (a, .inr (7, [.int (nI p), .ref g, .int 0, .int (-1), .ref mo])) ∈ M) (w1 : (g, .inr (10, [.int 1, .ref e, .int 1])) ∈ M) (w2 : (e, .inl (G.cO, 10, .inr (.inr (.inr (.inr (va_up (fun _ => none) 0 (some q3))))))) ∈ M) (w3 : (q3, .inr (6, [.ref q4])) ∈ M) (w4 : (q4, .inr (10, [.int 0, .ref G.e0, .int 0])) ∈ M) : Kr l G A yX7_read wbX7_read { frames := 5, cells := 2, slots := 4, locals := 100 } M [.ref a, .int 10] (Gi G A (fun v N => (0 : Int32) = v ∧ (g, (.inr (10, [.int 2, .ref e, .int 2]) : va_E)) ∈ N ∧ Kp M [g, e] N)) 2 4 := by
  refine Kr.of (cc := cX7_read) (maxL := 2) (ret := (some .int)) (by decide) rfl (Nat.le_of_ble_eq_true rfl) ?_
  intro X hXl S hRT hIN hXA hQ hD
  subst hXl
  subst hXA
  show J (X.at 0 0) 2 (PL G.Z X.A M) 0 [some (.ref a), some (.int 10)] []
  have F0 := S.1.at 0 0 (Nat.le_of_ble_eq_true rfl) (Nat.le_of_ble_eq_true rfl)
  have hOR := S.2.1.or
  refine j_iload_n F0 dX7_read_0 rfl ?_
  refine j_bipush F0 8 dX7_read_1 (by decide) ?_
  refine j_icmp_ge F0 18 dX7_read_3 (by decide) (fun _ => ?_) (fun h9 => absurd (by decide) h9)
  refine j_iload_n F0 dX7_read_18 rfl ?_
  refine j_bipush F0 10 dX7_read_19 (by decide) ?_
  refine j_icmp_ne F0 41 dX7_read_21 (by decide) (fun h9 => absurd (by decide) h9) (fun _ => ?_)
  refine j_aload_n F0 dX7_read_24 rfl ?_
  refine m_get S (C := RX7) (T := TX7) (N := 5) (by decide +kernel) w0 rfl (v := .ref g) 1 (by decide) (by decide +kernel) (fun _ h9 => h9) rfl dX7_read_25 ?_
  refine m_new S (C := RX6) (T := TX6) (N := 1) (ci := 6) (fs := [.null]) (by decide +kernel) tyX6 tyX6_ok (by decide +kernel) (by decide +kernel) (by decide +kernel) rfl (fun j hj => by rcases (show j = 0 by omega) with rfl <;> rfl) (Nat.le_of_ble_eq_true rfl) (Nat.le_of_ble_eq_true rfl) dX7_read_28 (fun q1 M3 hD4 hN2 => ?_)
  have n5 := (hN2.2 _ _ w0).2
  have w0 := (hN2.2 _ _ w0).1
  have n6 := (hN2.2 _ _ w1).2
  have w1 := (hN2.2 _ _ w1).1
  have n7 := (hN2.2 _ _ w2).2
  have w2 := (hN2.2 _ _ w2).1
  have n8 := (hN2.2 _ _ w3).2
  have w3 := (hN2.2 _ _ w3).1
  have n9 := (hN2.2 _ _ w4).2
  have w4 := (hN2.2 _ _ w4).1
  have h10 := hN2.1
  have F11 := S.1.at 1 1 (Nat.le_of_ble_eq_true rfl) (Nat.le_of_ble_eq_true rfl)
  refine j_dup F11 dX7_read_31 rfl ?_
  refine m_cINv S (n1 := 0) (rest := [.ref q1, .ref g]) (r_X6_init X.l G X.A M3 h10) ⟨_, _, _, _, 1, rfl, rfl, (gB kB_X6_init), rfl, rfl, (by decide +kernel), (by decide +kernel), ⟨(Nat.le_of_ble_eq_true rfl), (Nat.le_of_ble_eq_true rfl)⟩⟩ rfl (by decide +kernel) rfl (Nat.le_of_ble_eq_true rfl) (Nat.le_of_ble_eq_true rfl) (Nat.le_of_ble_eq_true rfl) rfl dX7_read_32 (fun M13 hD14 hp15 => ?_)
  obtain ⟨q16, hp15a, hp15b, hp15k, hp15f⟩ := hp15
  have n17 := hp15f _ _ w0
  have n18 := hp15f _ _ w1
  have n19 := hp15f _ _ w2
  have n20 := hp15f _ _ w3
  have n21 := hp15f _ _ w4
  have n22 := hp15f _ _ h10
  have n23 : a ∉ [q1] := by
    intro h9; simp only [List.mem_cons, List.not_mem_nil, or_false] at h9
    · exact n5 h9
  have n24 : g ∉ [q1] := by
    intro h9; simp only [List.mem_cons, List.not_mem_nil, or_false] at h9
    · exact n6 h9
  have n25 : e ∉ [q1] := by
    intro h9; simp only [List.mem_cons, List.not_mem_nil, or_false] at h9
    · exact n7 h9
  have n26 : q3 ∉ [q1] := by
    intro h9; simp only [List.mem_cons, List.not_mem_nil, or_false] at h9
    · exact n8 h9
  have n27 : q4 ∉ [q1] := by
    intro h9; simp only [List.mem_cons, List.not_mem_nil, or_false] at h9
    · exact n9 h9
  have w0 := hp15k _ _ n23 w0
  have w1 := hp15k _ _ n24 w1
  have w2 := hp15k _ _ n25 w2
  have w3 := hp15k _ _ n26 w3
  have w4 := hp15k _ _ n27 w4
  have h28 : (q1, (.inr (6, [.ref q16]) : va_E)) ∈ M13 := hp15a
  have h29 : (q16, (.inr (10, [.int 0, .ref G.e0, .int 0]) : va_E)) ∈ M13 := hp15b
  have F30 := S.1.at 2 4 (Nat.le_of_ble_eq_true rfl) (Nat.le_of_ble_eq_true rfl)
  refine m_cVi S (n1 := 1) (rest := []) (r_Jx4a65c_add_9ea2dR X.l G X.A M13 q1 (Or.inl ⟨_, _, (RX6, TX6, 1), h28, rfl, .tail _ (.head _)⟩) (Ne.symm n6) 1 (by unfold vp_in; decide) (by decide) (by decide) w1 w2) ⟨_, _, _, _, rfl, (gBV kB_Jx4a65c_add_9ea2d (by decide +kernel)), rfl, rfl, (by decide +kernel), ⟨(Nat.le_of_ble_eq_true rfl), (Nat.le_of_ble_eq_true rfl)⟩⟩ w1 rfl rfl (Nat.le_of_ble_eq_true rfl) (Nat.le_of_ble_eq_true rfl) (Nat.le_of_ble_eq_true rfl) rfl dX7_read_35 (fun v31 M32 hD33 hp34 => ?_)
  obtain ⟨hp34v, hp34⟩ := hp34
  subst hp34v
  rw [show (1 : Int32) + 1 = 2 from by decide] at hp34
  obtain ⟨hp34a, hp34b, hp34k⟩ := hp34
  have n35 : a ∉ [g, e] := by
    intro h9; simp only [List.mem_cons, List.not_mem_nil, or_false] at h9
    rcases h9 with h9 | h9
    · exact (In.ne hD14 w0 w1 (by simp)) h9
    · exact (In.ne hD14 w0 w2 (by simp)) h9
  have n36 : q3 ∉ [g, e] := by
    intro h9; simp only [List.mem_cons, List.not_mem_nil, or_false] at h9
    rcases h9 with h9 | h9
    · exact (In.ne hD14 w3 w1 (by simp)) h9
    · exact (In.ne hD14 w3 w2 (by simp)) h9
  have n37 : q4 ∉ [g, e] := by
    intro h9; simp only [List.mem_cons, List.not_mem_nil, or_false] at h9
    rcases h9 with h9 | h9
    · exact (In.ne hD14 w4 w1 (by simp)) h9
    · exact (In.ne hD14 w4 w2 (by simp)) h9
  have n38 : q1 ∉ [g, e] := by
    intro h9; simp only [List.mem_cons, List.not_mem_nil, or_false] at h9
    rcases h9 with h9 | h9
    · exact (Ne.symm n6) h9
    · exact (Ne.symm n7) h9
  have n39 : q16 ∉ [g, e] := by
    intro h9; simp only [List.mem_cons, List.not_mem_nil, or_false] at h9
    rcases h9 with h9 | h9
    · exact (Ne.symm n18) h9
    · exact (Ne.symm n19) h9
  have w0 := hp34k _ _ n35 w0
  have w3 := hp34k _ _ n36 w3
  have w4 := hp34k _ _ n37 w4
  have h28 := hp34k _ _ n38 h28
  have h29 := hp34k _ _ n39 h29
  have h40 : (g, (.inr (10, [.int 2, .ref e, .int 2]) : va_E)) ∈ M32 := (by have h9 := hp34a; first | (rw [show (1 : Int32) + 1 = 2 from by decide] at h9; exact h9) | exact h9)
  have h41 : (e, (.inl (G.cO, 10, .inr (.inr (.inr (.inr (va_up (va_up (fun _ => none) 0 (some q3)) 1 (some q1)))))) : va_E)) ∈ M32 := hp34b
  refine j_pop F30 dX7_read_38 rfl ?_
  refine j_iconst F30 0 dX7_read_39 (by decide) ?_
  have hKp : Kp M [g, e] M32 := by
    intro b x hb hx
    have n42 := (hN2.2 _ _ hx).2
    have hx := (hN2.2 _ _ hx).1
    have n43 := hp15f _ _ hx
    have n44 : b ∉ [q1] := by
      intro h9; simp only [List.mem_cons, List.not_mem_nil, or_false] at h9
      · exact n42 h9
    have hx := hp15k b x n44 hx
    have n45 : b ∉ [g, e] := by
      intro h9; simp only [List.mem_cons, List.not_mem_nil, or_false] at h9
      rcases h9 with h9 | h9
      · exact (fun c => hb (by rw [c]; simp)) h9
      · exact (fun c => hb (by rw [c]; simp)) h9
    have hx := hp34k b x n45 hx
    exact hx
  exact m_ireturn S hRT rfl hQ (Nat.le_of_ble_eq_true rfl) (Nat.le_of_ble_eq_true rfl) dX7_read_40 rfl ⟨rfl, h40, hKp⟩

set_option maxRecDepth 100000 in
set_option maxHeartbeats 4000000 in
theorem r_X7_readC (l : Launch) (G : RG) (A : Nat → Prop) (M : Wl) {a g e q3 q4 mo : Nat} (p : Nat) (w0 : (a, .inr (7, [.int (nI p), .ref g, .int 0, .int (-1), .ref mo])) ∈ M) (w1 : (g, .inr (10, [.int 1, .ref e, .int 1])) ∈ M) (w2 : (e, .inl (G.cO, 10, .inr (.inr (.inr (.inr (va_up (fun _ => none) 0 (some q3))))))) ∈ M) (w3 : (q3, .inr (6, [.ref q4])) ∈ M) (w4 : (q4, .inr (10, [.int 0, .ref G.e0, .int 0])) ∈ M) : Kr l G A yX7_read wbX7_read { frames := 1, cells := 0, slots := 0, locals := 20 } M [.ref a, .int 11] (Gi G A (fun v N => (2 : Int32) = v ∧ M = N)) 0 0 := by
  refine Kr.of (cc := cX7_read) (maxL := 2) (ret := (some .int)) (by decide) rfl (Nat.le_of_ble_eq_true rfl) ?_
  intro X hXl S hRT hIN hXA hQ hD
  subst hXl
  subst hXA
  show J (X.at 0 0) 2 (PL G.Z X.A M) 0 [some (.ref a), some (.int 11)] []
  have F0 := S.1.at 0 0 (Nat.le_of_ble_eq_true rfl) (Nat.le_of_ble_eq_true rfl)
  have hOR := S.2.1.or
  refine j_iload_n F0 dX7_read_0 rfl ?_
  refine j_bipush F0 8 dX7_read_1 (by decide) ?_
  refine j_icmp_ge F0 18 dX7_read_3 (by decide) (fun _ => ?_) (fun h9 => absurd (by decide) h9)
  refine j_iload_n F0 dX7_read_18 rfl ?_
  refine j_bipush F0 10 dX7_read_19 (by decide) ?_
  refine j_icmp_ne F0 41 dX7_read_21 (by decide) (fun _ => ?_) (fun h9 => absurd h9 (by decide))
  refine j_iload_n F0 dX7_read_41 rfl ?_
  refine j_bipush F0 11 dX7_read_42 (by decide) ?_
  refine j_icmp_ne F0 89 dX7_read_44 (by decide) (fun h9 => absurd (by decide) h9) (fun _ => ?_)
  refine j_aload_n F0 dX7_read_47 rfl ?_
  refine m_get S (C := RX7) (T := TX7) (N := 5) (by decide +kernel) w0 rfl (v := .ref g) 1 (by decide) (by decide +kernel) (fun _ h9 => h9) rfl dX7_read_48 ?_
  refine m_cVi S (n1 := 0) (rest := []) (r_Jx4a65c_size_8abf5 X.l G X.A M w1) ⟨_, _, _, _, rfl, (gBV kB_Jx4a65c_size_8abf5 (by decide +kernel)), rfl, rfl, (by decide +kernel), ⟨(Nat.le_of_ble_eq_true rfl), (Nat.le_of_ble_eq_true rfl)⟩⟩ w1 rfl rfl (Nat.le_of_ble_eq_true rfl) (Nat.le_of_ble_eq_true rfl) (Nat.le_of_ble_eq_true rfl) rfl dX7_read_51 (fun v1 M2 hD3 hp4 => ?_)
  obtain ⟨hp4a, hp4b⟩ := hp4
  subst hp4a
  subst hp4b
  refine j_iconst F0 1 dX7_read_54 (by decide) ?_
  refine j_icmp_ne F0 62 dX7_read_55 (by decide) (fun h9 => absurd (by decide) h9) (fun _ => ?_)
  refine j_iconst F0 2 dX7_read_58 (by decide) ?_
  refine j_goto F0 88 dX7_read_59 (by decide) ?_
  exact m_ireturn S hRT rfl hQ (Nat.le_of_ble_eq_true rfl) (Nat.le_of_ble_eq_true rfl) dX7_read_88 rfl ⟨rfl, rfl⟩

set_option maxRecDepth 100000 in
set_option maxHeartbeats 4000000 in
theorem r_X7_readD (l : Launch) (G : RG) (A : Nat → Prop) (M : Wl) {a g e q3 q4 mo : Nat} (p j : Nat) (hj1 : 22 ≤ j) (hj2 : j ≤ 33) (w0 : (a, .inr (7, [.int (nI p), .ref g, .int 0, .int (-1), .ref mo])) ∈ M) (w1 : (g, .inr (10, [.int 1, .ref e, .int 1])) ∈ M) (w2 : (e, .inl (G.cO, 10, .inr (.inr (.inr (.inr (va_up (fun _ => none) 0 (some q3))))))) ∈ M) (w3 : (q3, .inr (6, [.ref q4])) ∈ M) (w4 : (q4, .inr (10, [.int 0, .ref G.e0, .int 0])) ∈ M) : Kr l G A yX7_read wbX7_read { frames := 4, cells := 0, slots := 0, locals := 84 } M [.ref a, .int (nI j)] (Gi G A (fun v N => (1 : Int32) = v ∧ M = N)) 0 0 := by
  refine Kr.of (cc := cX7_read) (maxL := 2) (ret := (some .int)) (by decide) rfl (Nat.le_of_ble_eq_true rfl) ?_
  intro X hXl S hRT hIN hXA hQ hD
  subst hXl
  subst hXA
  show J (X.at 0 0) 2 (PL G.Z X.A M) 0 [some (.ref a), some (.int (nI j))] []
  have F0 := S.1.at 0 0 (Nat.le_of_ble_eq_true rfl) (Nat.le_of_ble_eq_true rfl)
  have hOR := S.2.1.or
  refine j_iload_n F0 dX7_read_0 rfl ?_
  refine j_bipush F0 8 dX7_read_1 (by decide) ?_
  refine j_icmp_ge F0 18 dX7_read_3 (by decide) (fun _ => ?_) (fun h9 => absurd (by rw [show (8 : Int32) = nI 8 from rfl, nI_leI (by omega) (by omega)]; omega) h9)
  refine j_iload_n F0 dX7_read_18 rfl ?_
  refine j_bipush F0 10 dX7_read_19 (by decide) ?_
  refine j_icmp_ne F0 41 dX7_read_21 (by decide) (fun _ => ?_) (fun h9 => absurd h9 (by rw [show (10 : Int32) = nI 10 from rfl, nI_eq (by omega) (by omega)]; omega))
  refine j_iload_n F0 dX7_read_41 rfl ?_
  refine j_bipush F0 11 dX7_read_42 (by decide) ?_
  refine j_icmp_ne F0 89 dX7_read_44 (by decide) (fun _ => ?_) (fun h9 => absurd h9 (by rw [show (11 : Int32) = nI 11 from rfl, nI_eq (by omega) (by omega)]; omega))
  refine j_iload_n F0 dX7_read_89 rfl ?_
  refine j_bipush F0 40 dX7_read_90 (by decide) ?_
  refine j_icmp_le F0 104 dX7_read_92 (by decide) (fun _ => ?_) (fun h9 => absurd (by rw [show (40 : Int32) = nI 40 from rfl, nI_leI (by omega) (by omega)]; omega) h9)
  refine j_aload_n F0 dX7_read_104 rfl ?_
  refine m_cVr S (n1 := 0) (rest := []) (r_X7_now X.l G X.A M w0 w1 w2 w3) ⟨_, _, _, _, rfl, (gBV kB_X7_now (by decide +kernel)), rfl, rfl, (by decide +kernel), ⟨(Nat.le_of_ble_eq_true rfl), (Nat.le_of_ble_eq_true rfl)⟩⟩ w0 rfl rfl (Nat.le_of_ble_eq_true rfl) (Nat.le_of_ble_eq_true rfl) (Nat.le_of_ble_eq_true rfl) rfl dX7_read_105 (fun v1 M2 hD3 hp4 => ?_)
  obtain ⟨hp4a, hp4b⟩ := hp4
  subst hp4a
  subst hp4b
  refine m_get S (C := RX6) (T := TX6) (N := 1) (by decide +kernel) w3 rfl (v := .ref q4) 0 (by decide) (by decide +kernel) (fun _ h9 => h9) rfl dX7_read_108 ?_
  refine m_cVi S (n1 := 0) (rest := []) (r_Jx4a65c_isEmpty_aae02 X.l G X.A M w4) ⟨_, _, _, _, rfl, (gBV kB_Jx4a65c_isEmpty_aae02 (by decide +kernel)), rfl, rfl, (by decide +kernel), ⟨(Nat.le_of_ble_eq_true rfl), (Nat.le_of_ble_eq_true rfl)⟩⟩ w4 rfl rfl (Nat.le_of_ble_eq_true rfl) (Nat.le_of_ble_eq_true rfl) (Nat.le_of_ble_eq_true rfl) rfl dX7_read_111 (fun v5 M6 hD7 hp8 => ?_)
  obtain ⟨hp8a, hp8b⟩ := hp8
  subst hp8a
  subst hp8b
  refine j_if_eq F0 119 dX7_read_114 (by decide) (fun h9 => absurd h9 (by decide)) (fun _ => ?_)
  refine j_iconst F0 1 dX7_read_117 (by decide) ?_
  exact m_ireturn S hRT rfl hQ (Nat.le_of_ble_eq_true rfl) (Nat.le_of_ble_eq_true rfl) dX7_read_118 rfl ⟨rfl, rfl⟩

set_option maxRecDepth 100000 in
set_option maxHeartbeats 4000000 in
theorem r_X7_readN (l : Launch) (G : RG) (A : Nat → Prop) (M : Wl) {a g e q3 q4 mo : Nat} (p j : Nat) (hp4 : 4 ≤ p) (hp : p < 10) (hpj : p ≤ j - 40) (hj1 : 44 ≤ j) (hj2 : j ≤ 49)  (w0 : (a, .inr (7, [.int (nI p), .ref g, .int 0, .int (-1), .ref mo])) ∈ M) (w1 : (g, .inr (10, [.int 1, .ref e, .int 1])) ∈ M) (w2 : (e, .inl (G.cO, 10, .inr (.inr (.inr (.inr (va_up (fun _ => none) 0 (some q3))))))) ∈ M) (w3 : (q3, .inr (6, [.ref q4])) ∈ M) (w4 : (q4, .inr (10, [.int 0, .ref G.e0, .int 0])) ∈ M) : Kr l G A yX7_read wbX7_read { frames := 1, cells := 0, slots := 0, locals := 22 } M [.ref a, .int (nI j)] (Gi G A (fun v N => (4 : Int32) = v ∧ M = N)) 0 0 := by
  refine Kr.of (cc := cX7_read) (maxL := 2) (ret := (some .int)) (by decide) rfl (Nat.le_of_ble_eq_true rfl) ?_
  intro X hXl S hRT hIN hXA hQ hD
  subst hXl
  subst hXA
  show J (X.at 0 0) 2 (PL G.Z X.A M) 0 [some (.ref a), some (.int (nI j))] []
  have F0 := S.1.at 0 0 (Nat.le_of_ble_eq_true rfl) (Nat.le_of_ble_eq_true rfl)
  have hOR := S.2.1.or
  refine j_iload_n F0 dX7_read_0 rfl ?_
  refine j_bipush F0 8 dX7_read_1 (by decide) ?_
  refine j_icmp_ge F0 18 dX7_read_3 (by decide) (fun _ => ?_) (fun h9 => absurd (by rw [show (8 : Int32) = nI 8 from rfl, nI_leI (by omega) (by omega)]; omega) h9)
  refine j_iload_n F0 dX7_read_18 rfl ?_
  refine j_bipush F0 10 dX7_read_19 (by decide) ?_
  refine j_icmp_ne F0 41 dX7_read_21 (by decide) (fun _ => ?_) (fun h9 => absurd h9 (by rw [show (10 : Int32) = nI 10 from rfl, nI_eq (by omega) (by omega)]; omega))
  refine j_iload_n F0 dX7_read_41 rfl ?_
  refine j_bipush F0 11 dX7_read_42 (by decide) ?_
  refine j_icmp_ne F0 89 dX7_read_44 (by decide) (fun _ => ?_) (fun h9 => absurd h9 (by rw [show (11 : Int32) = nI 11 from rfl, nI_eq (by omega) (by omega)]; omega))
  refine j_iload_n F0 dX7_read_89 rfl ?_
  refine j_bipush F0 40 dX7_read_90 (by decide) ?_
  refine j_icmp_le F0 104 dX7_read_92 (by decide) (fun h9 => absurd h9 (by rw [show (40 : Int32) = nI 40 from rfl, nI_leI (by omega) (by omega)]; omega)) (fun _ => ?_)
  refine j_aload_n F0 dX7_read_95 rfl ?_
  refine j_iload_n F0 dX7_read_96 rfl ?_
  refine j_bipush F0 40 dX7_read_97 (by decide) ?_
  refine j_isub F0 (nI (j - 40)) dX7_read_99 (by rw [show (40 : Int32) = nI 40 from rfl, show nI j = nI (j - 40) + nI 40 from by rw [nI_add]; congr 1; omega, Int32.add_sub_cancel]) ?_
  refine m_cVi S (n1 := 1) (rest := []) (r_X7_blockN X.l G X.A M p (j - 40) hp4 hp hpj (by omega) w0 w1 w2 w3 w4) ⟨_, _, _, _, rfl, (gBV kB_X7_block (by decide +kernel)), rfl, rfl, (by decide +kernel), ⟨(Nat.le_of_ble_eq_true rfl), (Nat.le_of_ble_eq_true rfl)⟩⟩ w0 rfl rfl (Nat.le_of_ble_eq_true rfl) (Nat.le_of_ble_eq_true rfl) (Nat.le_of_ble_eq_true rfl) rfl dX7_read_100 (fun v1 M2 hD3 hp4 => ?_)
  obtain ⟨hp4a, hp4b⟩ := hp4
  subst hp4a
  subst hp4b
  exact m_ireturn S hRT rfl hQ (Nat.le_of_ble_eq_true rfl) (Nat.le_of_ble_eq_true rfl) dX7_read_103 rfl ⟨rfl, rfl⟩

set_option maxRecDepth 100000 in
set_option maxHeartbeats 4000000 in
theorem r_X7_readE (l : Launch) (G : RG) (A : Nat → Prop) (M : Wl) {a g e q3 q4 mo : Nat} {ka ta : Nat} {tv : Int32} (p j : Nat) (hp4 : p < 4) (hj1 : 44 ≤ j) (hj2 : j ≤ 49) (hM : Mo G mo ka ta tv M) (w0 : (a, .inr (7, [.int (nI p), .ref g, .int 0, .int (-1), .ref mo])) ∈ M) (w1 : (g, .inr (10, [.int 1, .ref e, .int 1])) ∈ M) (w2 : (e, .inl (G.cO, 10, .inr (.inr (.inr (.inr (va_up (fun _ => none) 0 (some q3))))))) ∈ M) (w3 : (q3, .inr (6, [.ref q4])) ∈ M) (w4 : (q4, .inr (10, [.int 0, .ref G.e0, .int 0])) ∈ M) : Kr l G A yX7_read wbX7_read { frames := 8, cells := 9, slots := 32, locals := 175 } M [.ref a, .int (nI j)] (Gi G A (fun v N => (0 : Int32) = v ∧ (∃ pl9 : Nat, (mo, (.inr (8, [.int tv, .ref pl9, .ref ka, .ref ta]) : va_E)) ∈ N) ∧ ∃ (r b : Nat) (f : Nat → Int32), (q4, (.inr (10, [.int 1, .ref r, .int 1]) : va_E)) ∈ N ∧ (r, (.inl (G.cO, 10, .inr (.inr (.inr (.inr (va_up (fun _ => none) 0 (some b)))))) : va_E)) ∈ N ∧ (b, (.inl (G.Z.cI, 0, .inl f) : va_E)) ∈ N ∧ Kp M [mo, ka, q4] N)) 9 32 := by
  refine Kr.of (cc := cX7_read) (maxL := 2) (ret := (some .int)) (by decide) rfl (Nat.le_of_ble_eq_true rfl) ?_
  intro X hXl S hRT hIN hXA hQ hD
  subst hXl
  subst hXA
  show J (X.at 0 0) 2 (PL G.Z X.A M) 0 [some (.ref a), some (.int (nI j))] []
  have F0 := S.1.at 0 0 (Nat.le_of_ble_eq_true rfl) (Nat.le_of_ble_eq_true rfl)
  have hOR := S.2.1.or
  obtain ⟨pl1, pe1, f1, kn1, tf1, o1_0, o1_1, o1_2, o1_3, o1_4, o1_5, o1_6, o1_7⟩ := id hM
  have h2 : (mo, (.inr (8, [.int tv, .ref pl1, .ref ka, .ref ta]) : va_E)) ∈ M := o1_0
  have h3 : (pl1, (.inr (10, [.int 10, .ref pe1, .int 10]) : va_E)) ∈ M := o1_1
  have h4 : (pe1, (.inl (G.cO, 10, .inr (.inr (.inr (.inr f1)))) : va_E)) ∈ M := o1_2
  have h5 : (ta, (.inl (G.Z.cI, 8, .inl tf1) : va_E)) ∈ M := o1_4
  have h6 : (ka, (.inl (G.cR, 10, .inr (.inr (.inr (.inr kn1)))) : va_E)) ∈ M := o1_6
  have hDo7 := hD
  refine j_iload_n F0 dX7_read_0 rfl ?_
  refine j_bipush F0 8 dX7_read_1 (by decide) ?_
  refine j_icmp_ge F0 18 dX7_read_3 (by decide) (fun _ => ?_) (fun h9 => absurd (by rw [show (8 : Int32) = nI 8 from rfl, nI_leI (by omega) (by omega)]; omega) h9)
  refine j_iload_n F0 dX7_read_18 rfl ?_
  refine j_bipush F0 10 dX7_read_19 (by decide) ?_
  refine j_icmp_ne F0 41 dX7_read_21 (by decide) (fun _ => ?_) (fun h9 => absurd h9 (by rw [show (10 : Int32) = nI 10 from rfl, nI_eq (by omega) (by omega)]; omega))
  refine j_iload_n F0 dX7_read_41 rfl ?_
  refine j_bipush F0 11 dX7_read_42 (by decide) ?_
  refine j_icmp_ne F0 89 dX7_read_44 (by decide) (fun _ => ?_) (fun h9 => absurd h9 (by rw [show (11 : Int32) = nI 11 from rfl, nI_eq (by omega) (by omega)]; omega))
  refine j_iload_n F0 dX7_read_89 rfl ?_
  refine j_bipush F0 40 dX7_read_90 (by decide) ?_
  refine j_icmp_le F0 104 dX7_read_92 (by decide) (fun h9 => absurd h9 (by rw [show (40 : Int32) = nI 40 from rfl, nI_leI (by omega) (by omega)]; omega)) (fun _ => ?_)
  refine j_aload_n F0 dX7_read_95 rfl ?_
  refine j_iload_n F0 dX7_read_96 rfl ?_
  refine j_bipush F0 40 dX7_read_97 (by decide) ?_
  refine j_isub F0 (nI (j - 40)) dX7_read_99 (by rw [show (40 : Int32) = nI 40 from rfl, show nI j = nI (j - 40) + nI 40 from by rw [nI_add]; congr 1; omega, Int32.add_sub_cancel]) ?_
  refine m_cVi S (n1 := 1) (rest := []) (r_X7_blockA X.l G X.A M p (j - 40) hp4 (by omega) hM w0 w1 w2 w3 w4) ⟨_, _, _, _, rfl, (gBV kB_X7_block (by decide +kernel)), rfl, rfl, (by decide +kernel), ⟨(Nat.le_of_ble_eq_true rfl), (Nat.le_of_ble_eq_true rfl)⟩⟩ w0 rfl rfl (Nat.le_of_ble_eq_true rfl) (Nat.le_of_ble_eq_true rfl) (Nat.le_of_ble_eq_true rfl) rfl dX7_read_100 (fun v8 M9 hD10 hp11 => ?_)
  obtain ⟨hp11v, ⟨pl15, hp11m⟩, r12, b13, f14, hp11a, hp11b, hp11c, hp11k⟩ := hp11
  subst hp11v
  have n16 : a ∉ [mo, ka, q4] := by
    intro h9; simp only [List.mem_cons, List.not_mem_nil, or_false] at h9
    rcases h9 with h9 | h9 | h9
    · exact (In.ne hD w0 h2 (by simp)) h9
    · exact (In.ne hD w0 h6 (by simp)) h9
    · exact (In.ne hD w0 w4 (by simp)) h9
  have n17 : g ∉ [mo, ka, q4] := by
    intro h9; simp only [List.mem_cons, List.not_mem_nil, or_false] at h9
    rcases h9 with h9 | h9 | h9
    · exact (In.ne hD w1 h2 (by simp)) h9
    · exact (In.ne hD w1 h6 (by simp)) h9
    · exact (In.ne hD w1 w4 (by simp)) h9
  have n18 : e ∉ [mo, ka, q4] := by
    intro h9; simp only [List.mem_cons, List.not_mem_nil, or_false] at h9
    rcases h9 with h9 | h9 | h9
    · exact (In.ne hD w2 h2 (by simp)) h9
    · exact (In.ne hD w2 h6 (fun h9 => hOR (by injection h9 with h9; exact (Prod.mk.inj h9).1))) h9
    · exact (In.ne hD w2 w4 (by simp)) h9
  have n19 : q3 ∉ [mo, ka, q4] := by
    intro h9; simp only [List.mem_cons, List.not_mem_nil, or_false] at h9
    rcases h9 with h9 | h9 | h9
    · exact (In.ne hD w3 h2 (by simp)) h9
    · exact (In.ne hD w3 h6 (by simp)) h9
    · exact (In.ne hD w3 w4 (by simp)) h9
  have n20 : pl1 ∉ [mo, ka, q4] := by
    intro h9; simp only [List.mem_cons, List.not_mem_nil, or_false] at h9
    rcases h9 with h9 | h9 | h9
    · exact (In.ne hD h3 h2 (by simp)) h9
    · exact (In.ne hD h3 h6 (by simp)) h9
    · exact (In.ne hD h3 w4 (by simp)) h9
  have n21 : pe1 ∉ [mo, ka, q4] := by
    intro h9; simp only [List.mem_cons, List.not_mem_nil, or_false] at h9
    rcases h9 with h9 | h9 | h9
    · exact (In.ne hD h4 h2 (by simp)) h9
    · exact (In.ne hD h4 h6 (fun h9 => hOR (by injection h9 with h9; exact (Prod.mk.inj h9).1))) h9
    · exact (In.ne hD h4 w4 (by simp)) h9
  have n22 : ta ∉ [mo, ka, q4] := by
    intro h9; simp only [List.mem_cons, List.not_mem_nil, or_false] at h9
    rcases h9 with h9 | h9 | h9
    · exact (In.ne hD h5 h2 (by simp)) h9
    · exact (In.ne hD h5 h6 (by simp)) h9
    · exact (In.ne hD h5 w4 (by simp)) h9
  have w0 := hp11k _ _ n16 w0
  have w1 := hp11k _ _ n17 w1
  have w2 := hp11k _ _ n18 w2
  have w3 := hp11k _ _ n19 w3
  have h3 := hp11k _ _ n20 h3
  have h4 := hp11k _ _ n21 h4
  have h5 := hp11k _ _ n22 h5
  have h23 : (mo, (.inr (8, [.int tv, .ref pl15, .ref ka, .ref ta]) : va_E)) ∈ M9 := hp11m
  have h24 : (q4, (.inr (10, [.int 1, .ref r12, .int 1]) : va_E)) ∈ M9 := hp11a
  have h25 : (r12, (.inl (G.cO, 10, .inr (.inr (.inr (.inr (va_up (fun _ => none) 0 (some b13)))))) : va_E)) ∈ M9 := hp11b
  have h26 : (b13, (.inl (G.Z.cI, 0, .inl f14) : va_E)) ∈ M9 := hp11c
  have F27 := S.1.at 9 32 (Nat.le_of_ble_eq_true rfl) (Nat.le_of_ble_eq_true rfl)
  have hKp : Kp M [mo, ka, q4] M9 := by
    intro b x hb hx
    have n28 : b ∉ [mo, ka, q4] := by
      intro h9; simp only [List.mem_cons, List.not_mem_nil, or_false] at h9
      rcases h9 with h9 | h9 | h9
      · exact (fun c => hb (by rw [c]; simp)) h9
      · exact (fun c => hb (by rw [c]; simp)) h9
      · exact (fun c => hb (by rw [c]; simp)) h9
    have hx := hp11k b x n28 hx
    exact hx
  exact m_ireturn S hRT rfl hQ (Nat.le_of_ble_eq_true rfl) (Nat.le_of_ble_eq_true rfl) dX7_read_103 rfl ⟨rfl, ⟨_, h23⟩, r12, b13, _, h24, h25, h26, hKp⟩

set_option maxRecDepth 100000 in
set_option maxHeartbeats 4000000 in
theorem r_X7_readF (l : Launch) (G : RG) (A : Nat → Prop) (M : Wl) {a g e q3 q4 mo : Nat} {ka ta : Nat} {tv : Int32} (p j : Nat) (hp4 : 4 ≤ p) (hp : p < 10) (hpj : j - 40 < p) (hj1 : 44 ≤ j) (hj2 : j ≤ 49) (hM : Mo G mo ka ta tv M) (w0 : (a, .inr (7, [.int (nI p), .ref g, .int 0, .int (-1), .ref mo])) ∈ M) (w1 : (g, .inr (10, [.int 1, .ref e, .int 1])) ∈ M) (w2 : (e, .inl (G.cO, 10, .inr (.inr (.inr (.inr (va_up (fun _ => none) 0 (some q3))))))) ∈ M) (w3 : (q3, .inr (6, [.ref q4])) ∈ M) (w4 : (q4, .inr (10, [.int 0, .ref G.e0, .int 0])) ∈ M) : Kr l G A yX7_read wbX7_read { frames := 8, cells := 9, slots := 32, locals := 175 } M [.ref a, .int (nI j)] (Gi G A (fun v N => (0 : Int32) = v ∧ (∃ pl9 : Nat, (mo, (.inr (8, [.int tv, .ref pl9, .ref ka, .ref ta]) : va_E)) ∈ N) ∧ ∃ (r b : Nat) (f : Nat → Int32), (q4, (.inr (10, [.int 1, .ref r, .int 1]) : va_E)) ∈ N ∧ (r, (.inl (G.cO, 10, .inr (.inr (.inr (.inr (va_up (fun _ => none) 0 (some b)))))) : va_E)) ∈ N ∧ (b, (.inl (G.Z.cI, 0, .inl f) : va_E)) ∈ N ∧ Kp M [mo, ka, q4] N)) 9 32 := by
  refine Kr.of (cc := cX7_read) (maxL := 2) (ret := (some .int)) (by decide) rfl (Nat.le_of_ble_eq_true rfl) ?_
  intro X hXl S hRT hIN hXA hQ hD
  subst hXl
  subst hXA
  show J (X.at 0 0) 2 (PL G.Z X.A M) 0 [some (.ref a), some (.int (nI j))] []
  have F0 := S.1.at 0 0 (Nat.le_of_ble_eq_true rfl) (Nat.le_of_ble_eq_true rfl)
  have hOR := S.2.1.or
  obtain ⟨pl1, pe1, f1, kn1, tf1, o1_0, o1_1, o1_2, o1_3, o1_4, o1_5, o1_6, o1_7⟩ := id hM
  have h2 : (mo, (.inr (8, [.int tv, .ref pl1, .ref ka, .ref ta]) : va_E)) ∈ M := o1_0
  have h3 : (pl1, (.inr (10, [.int 10, .ref pe1, .int 10]) : va_E)) ∈ M := o1_1
  have h4 : (pe1, (.inl (G.cO, 10, .inr (.inr (.inr (.inr f1)))) : va_E)) ∈ M := o1_2
  have h5 : (ta, (.inl (G.Z.cI, 8, .inl tf1) : va_E)) ∈ M := o1_4
  have h6 : (ka, (.inl (G.cR, 10, .inr (.inr (.inr (.inr kn1)))) : va_E)) ∈ M := o1_6
  have hDo7 := hD
  refine j_iload_n F0 dX7_read_0 rfl ?_
  refine j_bipush F0 8 dX7_read_1 (by decide) ?_
  refine j_icmp_ge F0 18 dX7_read_3 (by decide) (fun _ => ?_) (fun h9 => absurd (by rw [show (8 : Int32) = nI 8 from rfl, nI_leI (by omega) (by omega)]; omega) h9)
  refine j_iload_n F0 dX7_read_18 rfl ?_
  refine j_bipush F0 10 dX7_read_19 (by decide) ?_
  refine j_icmp_ne F0 41 dX7_read_21 (by decide) (fun _ => ?_) (fun h9 => absurd h9 (by rw [show (10 : Int32) = nI 10 from rfl, nI_eq (by omega) (by omega)]; omega))
  refine j_iload_n F0 dX7_read_41 rfl ?_
  refine j_bipush F0 11 dX7_read_42 (by decide) ?_
  refine j_icmp_ne F0 89 dX7_read_44 (by decide) (fun _ => ?_) (fun h9 => absurd h9 (by rw [show (11 : Int32) = nI 11 from rfl, nI_eq (by omega) (by omega)]; omega))
  refine j_iload_n F0 dX7_read_89 rfl ?_
  refine j_bipush F0 40 dX7_read_90 (by decide) ?_
  refine j_icmp_le F0 104 dX7_read_92 (by decide) (fun h9 => absurd h9 (by rw [show (40 : Int32) = nI 40 from rfl, nI_leI (by omega) (by omega)]; omega)) (fun _ => ?_)
  refine j_aload_n F0 dX7_read_95 rfl ?_
  refine j_iload_n F0 dX7_read_96 rfl ?_
  refine j_bipush F0 40 dX7_read_97 (by decide) ?_
  refine j_isub F0 (nI (j - 40)) dX7_read_99 (by rw [show (40 : Int32) = nI 40 from rfl, show nI j = nI (j - 40) + nI 40 from by rw [nI_add]; congr 1; omega, Int32.add_sub_cancel]) ?_
  refine m_cVi S (n1 := 1) (rest := []) (r_X7_blockB X.l G X.A M p (j - 40) hp4 hp hpj (by omega) hM w0 w1 w2 w3 w4) ⟨_, _, _, _, rfl, (gBV kB_X7_block (by decide +kernel)), rfl, rfl, (by decide +kernel), ⟨(Nat.le_of_ble_eq_true rfl), (Nat.le_of_ble_eq_true rfl)⟩⟩ w0 rfl rfl (Nat.le_of_ble_eq_true rfl) (Nat.le_of_ble_eq_true rfl) (Nat.le_of_ble_eq_true rfl) rfl dX7_read_100 (fun v8 M9 hD10 hp11 => ?_)
  obtain ⟨hp11v, ⟨pl15, hp11m⟩, r12, b13, f14, hp11a, hp11b, hp11c, hp11k⟩ := hp11
  subst hp11v
  have n16 : a ∉ [mo, ka, q4] := by
    intro h9; simp only [List.mem_cons, List.not_mem_nil, or_false] at h9
    rcases h9 with h9 | h9 | h9
    · exact (In.ne hD w0 h2 (by simp)) h9
    · exact (In.ne hD w0 h6 (by simp)) h9
    · exact (In.ne hD w0 w4 (by simp)) h9
  have n17 : g ∉ [mo, ka, q4] := by
    intro h9; simp only [List.mem_cons, List.not_mem_nil, or_false] at h9
    rcases h9 with h9 | h9 | h9
    · exact (In.ne hD w1 h2 (by simp)) h9
    · exact (In.ne hD w1 h6 (by simp)) h9
    · exact (In.ne hD w1 w4 (by simp)) h9
  have n18 : e ∉ [mo, ka, q4] := by
    intro h9; simp only [List.mem_cons, List.not_mem_nil, or_false] at h9
    rcases h9 with h9 | h9 | h9
    · exact (In.ne hD w2 h2 (by simp)) h9
    · exact (In.ne hD w2 h6 (fun h9 => hOR (by injection h9 with h9; exact (Prod.mk.inj h9).1))) h9
    · exact (In.ne hD w2 w4 (by simp)) h9
  have n19 : q3 ∉ [mo, ka, q4] := by
    intro h9; simp only [List.mem_cons, List.not_mem_nil, or_false] at h9
    rcases h9 with h9 | h9 | h9
    · exact (In.ne hD w3 h2 (by simp)) h9
    · exact (In.ne hD w3 h6 (by simp)) h9
    · exact (In.ne hD w3 w4 (by simp)) h9
  have n20 : pl1 ∉ [mo, ka, q4] := by
    intro h9; simp only [List.mem_cons, List.not_mem_nil, or_false] at h9
    rcases h9 with h9 | h9 | h9
    · exact (In.ne hD h3 h2 (by simp)) h9
    · exact (In.ne hD h3 h6 (by simp)) h9
    · exact (In.ne hD h3 w4 (by simp)) h9
  have n21 : pe1 ∉ [mo, ka, q4] := by
    intro h9; simp only [List.mem_cons, List.not_mem_nil, or_false] at h9
    rcases h9 with h9 | h9 | h9
    · exact (In.ne hD h4 h2 (by simp)) h9
    · exact (In.ne hD h4 h6 (fun h9 => hOR (by injection h9 with h9; exact (Prod.mk.inj h9).1))) h9
    · exact (In.ne hD h4 w4 (by simp)) h9
  have n22 : ta ∉ [mo, ka, q4] := by
    intro h9; simp only [List.mem_cons, List.not_mem_nil, or_false] at h9
    rcases h9 with h9 | h9 | h9
    · exact (In.ne hD h5 h2 (by simp)) h9
    · exact (In.ne hD h5 h6 (by simp)) h9
    · exact (In.ne hD h5 w4 (by simp)) h9
  have w0 := hp11k _ _ n16 w0
  have w1 := hp11k _ _ n17 w1
  have w2 := hp11k _ _ n18 w2
  have w3 := hp11k _ _ n19 w3
  have h3 := hp11k _ _ n20 h3
  have h4 := hp11k _ _ n21 h4
  have h5 := hp11k _ _ n22 h5
  have h23 : (mo, (.inr (8, [.int tv, .ref pl15, .ref ka, .ref ta]) : va_E)) ∈ M9 := hp11m
  have h24 : (q4, (.inr (10, [.int 1, .ref r12, .int 1]) : va_E)) ∈ M9 := hp11a
  have h25 : (r12, (.inl (G.cO, 10, .inr (.inr (.inr (.inr (va_up (fun _ => none) 0 (some b13)))))) : va_E)) ∈ M9 := hp11b
  have h26 : (b13, (.inl (G.Z.cI, 0, .inl f14) : va_E)) ∈ M9 := hp11c
  have F27 := S.1.at 9 32 (Nat.le_of_ble_eq_true rfl) (Nat.le_of_ble_eq_true rfl)
  have hKp : Kp M [mo, ka, q4] M9 := by
    intro b x hb hx
    have n28 : b ∉ [mo, ka, q4] := by
      intro h9; simp only [List.mem_cons, List.not_mem_nil, or_false] at h9
      rcases h9 with h9 | h9 | h9
      · exact (fun c => hb (by rw [c]; simp)) h9
      · exact (fun c => hb (by rw [c]; simp)) h9
      · exact (fun c => hb (by rw [c]; simp)) h9
    have hx := hp11k b x n28 hx
    exact hx
  exact m_ireturn S hRT rfl hQ (Nat.le_of_ble_eq_true rfl) (Nat.le_of_ble_eq_true rfl) dX7_read_103 rfl ⟨rfl, ⟨_, h23⟩, r12, b13, _, h24, h25, h26, hKp⟩

theorem Mo.keep7 {A : Nat → Prop} {G : RG} {mo ka ta q : Nat} {tv : Int32} {M N : Wl} (hD : va_D A M) (h : Mo G mo ka ta tv M) (hq : (q, (.inr (7, [.int 0, .null, .int 0, .int 0, .null]) : va_E)) ∈ M) (hK : Kp M [q] N) : Mo G mo ka ta tv N := by
  obtain ⟨pl, pe, f, kn, tf, h0, h1, h2, h3, h4, h5, h6, h7⟩ := h
  have k : ∀ (b : Nat) (x : va_E), (b, x) ∈ M → x ≠ .inr (7, [.int 0, .null, .int 0, .int 0, .null]) → (b, x) ∈ N := fun b x h9 n9 => hK b x (fun c => In.ne hD h9 hq n9 (by simpa using c)) h9
  exact ⟨pl, pe, f, kn, tf, k _ _ h0 (by simp), k _ _ h1 (by simp), k _ _ h2 (by simp), fun p hp => (h3 p hp).imp fun t h9 => ⟨h9.1, k _ _ h9.2 (by simp)⟩, k _ _ h4 (by simp), h5, k _ _ h6 (by simp), fun p qq hp hqq => by
    obtain ⟨q1, q2, q3, q4, a0, a1, a2, a3, a4⟩ := h7 p qq hp hqq
    exact ⟨q1, q2, q3, q4, k _ _ a0 (by simp), k _ _ a1 (by simp), k _ _ a2 (by simp), k _ _ a3 (by simp), k _ _ a4 (by simp)⟩⟩
/-- what a reading of one token has made, if nothing is wrong with it: one item of K numbers -/
def Rd1 (G : RG) (mo : Nat) (p : Int32) (K : Nat) (q : Nat) (N : Wl) : Prop := ∃ (q1 q2 q3 q4 q5 q6 : Nat) (f : Nat → Int32), (q, (.inr (7, [.int p, .ref q1, .int 0, .int (-1), .ref mo]) : va_E)) ∈ N ∧ (q1, (.inr (10, [.int 1, .ref q2, .int 1]) : va_E)) ∈ N ∧ (q2, (.inl (G.cO, 10, .inr (.inr (.inr (.inr (va_up (fun _ => none) 0 (some q3)))))) : va_E)) ∈ N ∧ (q3, (.inr (6, [.ref q4]) : va_E)) ∈ N ∧ (q4, (.inr (10, [.int 1, .ref q5, .int 1]) : va_E)) ∈ N ∧ (q5, (.inl (G.cO, 10, .inr (.inr (.inr (.inr (va_up (fun _ => none) 0 (some q6)))))) : va_E)) ∈ N ∧ (q6, (.inl (G.Z.cI, K, .inl f) : va_E)) ∈ N

set_option maxRecDepth 100000 in
set_option maxHeartbeats 4000000 in
theorem r_X7_initA (l : Launch) (G : RG) (A : Nat → Prop) (M : Wl) {a mo t te : Nat} (p k9 : Nat) (hk9 : k9 < 256) (j : Nat) (hj : j < 8) (hv : vb_c k9 = nI j) (w0 : (a, .inr (7, [.int 0, .null, .int 0, .int 0, .null])) ∈ M) (w1 : (t, .inr (10, [.int 1, .ref te, .int 1])) ∈ M) (w2 : (te, .inl (G.cO, 1, .inr (.inr (.inr (.inr (va_up (fun _ => none) 0 (some (G.bx k9)))))))) ∈ M) : Kr l G A yX7_init wbX7_init { frames := 7, cells := 8, slots := 29, locals := 166 } M [.ref a, .ref mo, .int (nI p), .ref t] (Gv G A (fun N => Rd1 G mo (nI p) 1 a N ∧ Kp M [a] N)) 8 29 := by
  refine Kr.of (cc := cX7_init) (maxL := 5) (ret := none) (by decide) rfl (Nat.le_of_ble_eq_true rfl) ?_
  intro X hXl S hRT hIN hXA hQ hD
  subst hXl
  subst hXA
  show J (X.at 0 0) 5 (PL G.Z X.A M) 0 [some (.ref a), some (.ref mo), some (.int (nI p)), some (.ref t), none] []
  have F0 := S.1.at 0 0 (Nat.le_of_ble_eq_true rfl) (Nat.le_of_ble_eq_true rfl)
  have hOR := S.2.1.or
  have hb0 := w0
  refine j_aload_n F0 dX7_init_0 rfl ?_
  refine j_aload_n F0 dX7_init_1 rfl ?_
  refine m_putF S (C := RX7) (T := TX7) (N := 5) (v := .ref mo) (ty := (.object "TreadleLoomModel")) tyX7 tyX7_ok nmX7 (by decide +kernel) w0 rfl 4 (by decide) (by decide +kernel) (fun _ h9 => h9) rfl (hIN rfl) rfl (by decide +kernel) rfl rfl (Nat.le_of_ble_eq_true rfl) dX7_init_2 (fun M2 hD3 hU1 => ?_)
  have hU1 : Up M a (.inr (7, [.int 0, .null, .int 0, .int 0, .ref mo])) M2 := hU1
  have n4 : t ≠ a := (In.ne hD w1 w0 (by simp))
  have n5 : te ≠ a := (In.ne hD w2 w0 (by simp))
  have w1 := hU1.2 _ _ n4 w1
  have w2 := hU1.2 _ _ n5 w2
  have w0 := hU1.1
  refine j_aload_n F0 dX7_init_5 rfl ?_
  refine m_objInit S (by decide +kernel) (by decide +kernel) (by decide +kernel) (Nat.le_of_ble_eq_true rfl) (Nat.le_of_ble_eq_true rfl) dX7_init_6 ?_
  refine j_aload_n F0 dX7_init_9 rfl ?_
  refine m_new S (C := RJx4a65c) (T := TJx4a65c) (N := 3) (ci := 10) (fs := [.int 0, .null, .int 0]) (by decide +kernel) tyJx4a65c tyJx4a65c_ok (by decide +kernel) (by decide +kernel) (by decide +kernel) rfl (fun j hj => by rcases (show j = 0 ∨ j = 1 ∨ j = 2 by omega) with rfl | rfl | rfl <;> rfl) (Nat.le_of_ble_eq_true rfl) (Nat.le_of_ble_eq_true rfl) dX7_init_10 (fun q6 M8 hD9 hN7 => ?_)
  have n10 := (hN7.2 _ _ w0).2
  have w0 := (hN7.2 _ _ w0).1
  have n11 := (hN7.2 _ _ w1).2
  have w1 := (hN7.2 _ _ w1).1
  have n12 := (hN7.2 _ _ w2).2
  have w2 := (hN7.2 _ _ w2).1
  have h13 := hN7.1
  have F14 := S.1.at 1 3 (Nat.le_of_ble_eq_true rfl) (Nat.le_of_ble_eq_true rfl)
  refine j_dup F14 dX7_init_13 rfl ?_
  refine m_cIv S (n1 := 0) (rest := [.ref q6, .ref a]) (r_Jx4a65c_init_da8c8 X.l G X.A M8 h13) ⟨_, _, _, rfl, (gB kB_Jx4a65c_init_da8c8), rfl, rfl, (by decide +kernel), (by decide +kernel), (by decide +kernel), rfl, (by decide +kernel), ⟨(Nat.le_of_ble_eq_true rfl), (Nat.le_of_ble_eq_true rfl)⟩⟩ rfl (Nat.le_of_ble_eq_true rfl) (Nat.le_of_ble_eq_true rfl) (Nat.le_of_ble_eq_true rfl) rfl dX7_init_14 (fun M16 hD17 hp18 => ?_)
  have n19 : a ≠ q6 := n10
  have n20 : t ≠ q6 := n11
  have n21 : te ≠ q6 := n12
  have w0 := hp18.2 _ _ n19 w0
  have w1 := hp18.2 _ _ n20 w1
  have w2 := hp18.2 _ _ n21 w2
  have h13 := hp18.1
  refine m_putF S (C := RX7) (T := TX7) (N := 5) (v := .ref q6) (ty := (.object "java/util/ArrayList")) tyX7 tyX7_ok nmX7 (by decide +kernel) w0 rfl 1 (by decide) (by decide +kernel) (fun _ h9 => h9) rfl (hIN rfl) rfl (by decide +kernel) rfl rfl (Nat.le_of_ble_eq_true rfl) dX7_init_17 (fun M23 hD24 hU22 => ?_)
  have hU22 : Up M16 a (.inr (7, [.int 0, .ref q6, .int 0, .int 0, .ref mo])) M23 := hU22
  have n25 : t ≠ a := n4
  have n26 : te ≠ a := n5
  have n27 : q6 ≠ a := (Ne.symm n19)
  have w1 := hU22.2 _ _ n25 w1
  have w2 := hU22.2 _ _ n26 w2
  have h13 := hU22.2 _ _ n27 h13
  have w0 := hU22.1
  refine j_aload_n F14 dX7_init_20 rfl ?_
  refine j_iconst F14 (-1) dX7_init_21 (by decide) ?_
  refine m_put S (C := RX7) (T := TX7) (N := 5) (v := .int (-1)) (ty := .int) tyX7 tyX7_ok nmX7 (by decide +kernel) w0 rfl 3 (by decide) (by decide +kernel) (fun _ h9 => h9) rfl (by decide +kernel) rfl rfl (Nat.le_of_ble_eq_true rfl) dX7_init_22 (fun M29 hD30 hU28 => ?_)
  have hU28 : Up M23 a (.inr (7, [.int 0, .ref q6, .int 0, .int (-1), .ref mo])) M29 := hU28
  have n31 : t ≠ a := n25
  have n32 : te ≠ a := n26
  have n33 : q6 ≠ a := n27
  have w1 := hU28.2 _ _ n31 w1
  have w2 := hU28.2 _ _ n32 w2
  have h13 := hU28.2 _ _ n33 h13
  have w0 := hU28.1
  refine j_aload_n F14 dX7_init_25 rfl ?_
  refine j_iload_n F14 dX7_init_26 rfl ?_
  refine m_putF S (C := RX7) (T := TX7) (N := 5) (v := .int (nI p)) (ty := .int) tyX7 tyX7_ok nmX7 (by decide +kernel) w0 rfl 0 (by decide) (by decide +kernel) (fun _ h9 => h9) rfl (hIN rfl) rfl (by decide +kernel) rfl rfl (Nat.le_of_ble_eq_true rfl) dX7_init_27 (fun M35 hD36 hU34 => ?_)
  have hU34 : Up M29 a (.inr (7, [.int (nI p), .ref q6, .int 0, .int (-1), .ref mo])) M35 := hU34
  have n37 : t ≠ a := n31
  have n38 : te ≠ a := n32
  have n39 : q6 ≠ a := n33
  have w1 := hU34.2 _ _ n37 w1
  have w2 := hU34.2 _ _ n38 w2
  have h13 := hU34.2 _ _ n39 h13
  have w0 := hU34.1
  refine j_aload_n F14 dX7_init_30 rfl ?_
  refine m_get S (C := RX7) (T := TX7) (N := 5) (by decide +kernel) w0 rfl (v := .ref q6) 1 (by decide) (by decide +kernel) (fun _ h9 => h9) rfl dX7_init_31 ?_
  refine m_new S (C := RX6) (T := TX6) (N := 1) (ci := 6) (fs := [.null]) (by decide +kernel) tyX6 tyX6_ok (by decide +kernel) (by decide +kernel) (by decide +kernel) rfl (fun j hj => by rcases (show j = 0 by omega) with rfl <;> rfl) (Nat.le_of_ble_eq_true rfl) (Nat.le_of_ble_eq_true rfl) dX7_init_34 (fun q40 M42 hD43 hN41 => ?_)
  have n44 := (hN41.2 _ _ w0).2
  have w0 := (hN41.2 _ _ w0).1
  have n45 := (hN41.2 _ _ w1).2
  have w1 := (hN41.2 _ _ w1).1
  have n46 := (hN41.2 _ _ w2).2
  have w2 := (hN41.2 _ _ w2).1
  have n47 := (hN41.2 _ _ h13).2
  have h13 := (hN41.2 _ _ h13).1
  have h48 := hN41.1
  have F49 := S.1.at 2 4 (Nat.le_of_ble_eq_true rfl) (Nat.le_of_ble_eq_true rfl)
  refine j_dup F49 dX7_init_37 rfl ?_
  refine m_cINv S (n1 := 0) (rest := [.ref q40, .ref q6]) (r_X6_init X.l G X.A M42 h48) ⟨_, _, _, _, 1, rfl, rfl, (gB kB_X6_init), rfl, rfl, (by decide +kernel), (by decide +kernel), ⟨(Nat.le_of_ble_eq_true rfl), (Nat.le_of_ble_eq_true rfl)⟩⟩ rfl (by decide +kernel) rfl (Nat.le_of_ble_eq_true rfl) (Nat.le_of_ble_eq_true rfl) (Nat.le_of_ble_eq_true rfl) rfl dX7_init_38 (fun M51 hD52 hp53 => ?_)
  obtain ⟨q54, hp53a, hp53b, hp53k, hp53f⟩ := hp53
  have n55 := hp53f _ _ w0
  have n56 := hp53f _ _ w1
  have n57 := hp53f _ _ w2
  have n58 := hp53f _ _ h13
  have n59 := hp53f _ _ h48
  have n60 : a ∉ [q40] := by
    intro h9; simp only [List.mem_cons, List.not_mem_nil, or_false] at h9
    · exact n44 h9
  have n61 : t ∉ [q40] := by
    intro h9; simp only [List.mem_cons, List.not_mem_nil, or_false] at h9
    · exact n45 h9
  have n62 : te ∉ [q40] := by
    intro h9; simp only [List.mem_cons, List.not_mem_nil, or_false] at h9
    · exact n46 h9
  have n63 : q6 ∉ [q40] := by
    intro h9; simp only [List.mem_cons, List.not_mem_nil, or_false] at h9
    · exact n47 h9
  have w0 := hp53k _ _ n60 w0
  have w1 := hp53k _ _ n61 w1
  have w2 := hp53k _ _ n62 w2
  have h13 := hp53k _ _ n63 h13
  have h64 : (q40, (.inr (6, [.ref q54]) : va_E)) ∈ M51 := hp53a
  have h65 : (q54, (.inr (10, [.int 0, .ref G.e0, .int 0]) : va_E)) ∈ M51 := hp53b
  have F66 := S.1.at 3 7 (Nat.le_of_ble_eq_true rfl) (Nat.le_of_ble_eq_true rfl)
  refine m_cVi S (n1 := 1) (rest := []) (r_Jx4a65c_add_9ea2d X.l G X.A M51 q40 (Or.inl ⟨_, _, (RX6, TX6, 1), h64, rfl, .tail _ (.head _)⟩) (Ne.symm n47) h13) ⟨_, _, _, _, rfl, (gBV kB_Jx4a65c_add_9ea2d (by decide +kernel)), rfl, rfl, (by decide +kernel), ⟨(Nat.le_of_ble_eq_true rfl), (Nat.le_of_ble_eq_true rfl)⟩⟩ h13 rfl rfl (Nat.le_of_ble_eq_true rfl) (Nat.le_of_ble_eq_true rfl) (Nat.le_of_ble_eq_true rfl) rfl dX7_init_41 (fun v67 M68 hD69 hp70 => ?_)
  obtain ⟨hp70v, hp70⟩ := hp70
  subst hp70v
  rw [show (0 : Int32) + 1 = 1 from by decide] at hp70
  obtain ⟨q71, hp70a, hp70b, hp70k, hp70f⟩ := hp70
  have n72 := hp70f _ _ w0
  have n73 := hp70f _ _ w1
  have n74 := hp70f _ _ w2
  have n75 := hp70f _ _ h13
  have n76 := hp70f _ _ h64
  have n77 := hp70f _ _ h65
  have n78 : a ∉ [q6] := by
    intro h9; simp only [List.mem_cons, List.not_mem_nil, or_false] at h9
    · exact n19 h9
  have n79 : t ∉ [q6] := by
    intro h9; simp only [List.mem_cons, List.not_mem_nil, or_false] at h9
    · exact n20 h9
  have n80 : te ∉ [q6] := by
    intro h9; simp only [List.mem_cons, List.not_mem_nil, or_false] at h9
    · exact n21 h9
  have n81 : q40 ∉ [q6] := by
    intro h9; simp only [List.mem_cons, List.not_mem_nil, or_false] at h9
    · exact (Ne.symm n47) h9
  have n82 : q54 ∉ [q6] := by
    intro h9; simp only [List.mem_cons, List.not_mem_nil, or_false] at h9
    · exact (Ne.symm n58) h9
  have w0 := hp70k _ _ n78 w0
  have w1 := hp70k _ _ n79 w1
  have w2 := hp70k _ _ n80 w2
  have h64 := hp70k _ _ n81 h64
  have h65 := hp70k _ _ n82 h65
  have h83 : (q6, (.inr (10, [.int 1, .ref q71, .int 1]) : va_E)) ∈ M68 := hp70a
  have h84 : (q71, (.inl (G.cO, 10, .inr (.inr (.inr (.inr (va_up (fun _ => none) 0 (some q40)))))) : va_E)) ∈ M68 := hp70b
  have F85 := S.1.at 4 17 (Nat.le_of_ble_eq_true rfl) (Nat.le_of_ble_eq_true rfl)
  refine j_pop F85 dX7_init_44 rfl ?_
  refine j_iconst F85 0 dX7_init_45 (by decide) ?_
  refine j_istore F85 [some (.ref a), some (.ref mo), some (.int (nI p)), some (.ref t), some (.int 0)] dX7_init_46 (by decide) rfl rfl ?_
  refine j_iload F85 dX7_init_48 rfl ?_
  refine j_aload_n F85 dX7_init_50 rfl ?_
  refine m_cVi S (n1 := 0) (rest := [.int 0]) (r_Jx4a65c_size_8abf5 X.l G X.A M68 w1) ⟨_, _, _, _, rfl, (gBV kB_Jx4a65c_size_8abf5 (by decide +kernel)), rfl, rfl, (by decide +kernel), ⟨(Nat.le_of_ble_eq_true rfl), (Nat.le_of_ble_eq_true rfl)⟩⟩ w1 rfl rfl (Nat.le_of_ble_eq_true rfl) (Nat.le_of_ble_eq_true rfl) (Nat.le_of_ble_eq_true rfl) rfl dX7_init_51 (fun v86 M87 hD88 hp89 => ?_)
  obtain ⟨hp89a, hp89b⟩ := hp89
  subst hp89a
  subst hp89b
  refine j_icmp_ge F85 103 dX7_init_54 (by decide) (fun h9 => absurd h9 (by decide)) (fun _ => ?_)
  refine j_aload_n F85 dX7_init_57 rfl ?_
  refine m_get S (C := RX7) (T := TX7) (N := 5) (by decide +kernel) w0 rfl (v := .int 0) 2 (by decide) (by decide +kernel) (fun _ h9 => h9) rfl dX7_init_58 ?_
  refine j_if_ne F85 103 dX7_init_61 (by decide) (fun h9 => absurd (by decide) h9) (fun _ => ?_)
  refine j_aload_n F85 dX7_init_64 rfl ?_
  refine j_aload_n F85 dX7_init_65 rfl ?_
  refine j_aload_n F85 dX7_init_66 rfl ?_
  refine j_iload F85 dX7_init_67 rfl ?_
  refine m_cVr S (n1 := 1) (rest := [.ref a, .ref a]) (r_Jx4a65c_get_915e3 X.l G X.A M68 0 (G.bx k9) (by decide) (by decide) (by unfold vp_in; decide) (by simp [va_up]) w1 w2) ⟨_, _, _, _, rfl, (gBV kB_Jx4a65c_get_915e3 (by decide +kernel)), rfl, rfl, (by decide +kernel), ⟨(Nat.le_of_ble_eq_true rfl), (Nat.le_of_ble_eq_true rfl)⟩⟩ w1 rfl rfl (Nat.le_of_ble_eq_true rfl) (Nat.le_of_ble_eq_true rfl) (Nat.le_of_ble_eq_true rfl) rfl dX7_init_69 (fun v90 M91 hD92 hp93 => ?_)
  obtain ⟨hp93a, hp93b⟩ := hp93
  subst hp93a
  subst hp93b
  refine m_castBx S hk9 (by decide +kernel) dX7_init_72 ?_
  refine m_cBx S hk9 (x := nI j) hv ⟨_, _, _, _, rfl, (gBV kB_J6_intValue_8abf5 (by decide +kernel)), rfl, rfl, (by decide +kernel), ⟨(Nat.le_of_ble_eq_true rfl), (Nat.le_of_ble_eq_true rfl)⟩⟩ (Nat.le_of_ble_eq_true rfl) (Nat.le_of_ble_eq_true rfl) (Nat.le_of_ble_eq_true rfl) dX7_init_75 ?_
  refine m_cVi S (n1 := 1) (rest := [.ref a]) (r_X7_readA X.l G X.A M68 p j hj w0 h83 h84 h64 h65) ⟨_, _, _, _, rfl, (gBV kB_X7_read (by decide +kernel)), rfl, rfl, (by decide +kernel), ⟨(Nat.le_of_ble_eq_true rfl), (Nat.le_of_ble_eq_true rfl)⟩⟩ w0 rfl rfl (Nat.le_of_ble_eq_true rfl) (Nat.le_of_ble_eq_true rfl) (Nat.le_of_ble_eq_true rfl) rfl dX7_init_78 (fun v94 M95 hD96 hp97 => ?_)
  obtain ⟨hp97v, r98, b99, f100, hp97a, hp97b, hp97c, hp97k⟩ := hp97
  subst hp97v
  have n101 : a ∉ [q54] := by
    intro h9; simp only [List.mem_cons, List.not_mem_nil, or_false] at h9
    · exact n55 h9
  have n102 : t ∉ [q54] := by
    intro h9; simp only [List.mem_cons, List.not_mem_nil, or_false] at h9
    · exact n56 h9
  have n103 : te ∉ [q54] := by
    intro h9; simp only [List.mem_cons, List.not_mem_nil, or_false] at h9
    · exact n57 h9
  have n104 : q40 ∉ [q54] := by
    intro h9; simp only [List.mem_cons, List.not_mem_nil, or_false] at h9
    · exact n59 h9
  have n105 : q6 ∉ [q54] := by
    intro h9; simp only [List.mem_cons, List.not_mem_nil, or_false] at h9
    · exact n58 h9
  have n106 : q71 ∉ [q54] := by
    intro h9; simp only [List.mem_cons, List.not_mem_nil, or_false] at h9
    · exact (Ne.symm n77) h9
  have w0 := hp97k _ _ n101 w0
  have w1 := hp97k _ _ n102 w1
  have w2 := hp97k _ _ n103 w2
  have h64 := hp97k _ _ n104 h64
  have h83 := hp97k _ _ n105 h83
  have h84 := hp97k _ _ n106 h84
  have h107 : (q54, (.inr (10, [.int 1, .ref r98, .int 1]) : va_E)) ∈ M95 := hp97a
  have h108 : (r98, (.inl (G.cO, 10, .inr (.inr (.inr (.inr (va_up (fun _ => none) 0 (some b99)))))) : va_E)) ∈ M95 := hp97b
  have h109 : (b99, (.inl (G.Z.cI, 1, .inl f100) : va_E)) ∈ M95 := hp97c
  have F110 := S.1.at 8 29 (Nat.le_of_ble_eq_true rfl) (Nat.le_of_ble_eq_true rfl)
  refine m_put S (C := RX7) (T := TX7) (N := 5) (v := .int 0) (ty := .int) tyX7 tyX7_ok nmX7 (by decide +kernel) w0 rfl 2 (by decide) (by decide +kernel) (fun _ h9 => h9) rfl (by decide +kernel) rfl rfl (Nat.le_of_ble_eq_true rfl) dX7_init_81 (fun M112 hD113 hU111 => ?_)
  have hU111 : Up M95 a (.inr (7, [.int (nI p), .ref q6, .int 0, .int (-1), .ref mo])) M112 := hU111
  have n114 : t ≠ a := n37
  have n115 : te ≠ a := n38
  have n116 : q40 ≠ a := (Ne.symm n44)
  have n117 : q6 ≠ a := n39
  have n118 : q71 ≠ a := (Ne.symm n72)
  have n119 : q54 ≠ a := (Ne.symm n55)
  have n120 : r98 ≠ a := (In.ne hD96 h108 w0 (by simp))
  have n121 : b99 ≠ a := (In.ne hD96 h109 w0 (by simp))
  have w1 := hU111.2 _ _ n114 w1
  have w2 := hU111.2 _ _ n115 w2
  have h64 := hU111.2 _ _ n116 h64
  have h83 := hU111.2 _ _ n117 h83
  have h84 := hU111.2 _ _ n118 h84
  have h107 := hU111.2 _ _ n119 h107
  have h108 := hU111.2 _ _ n120 h108
  have h109 := hU111.2 _ _ n121 h109
  have w0 := hU111.1
  refine j_aload_n F110 dX7_init_84 rfl ?_
  refine m_get S (C := RX7) (T := TX7) (N := 5) (by decide +kernel) w0 rfl (v := .int 0) 2 (by decide) (by decide +kernel) (fun _ h9 => h9) rfl dX7_init_85 ?_
  refine j_if_le F110 97 dX7_init_88 (by decide) (fun _ => ?_) (fun h9 => absurd (by decide) h9)
  refine j_iinc F110 1 [some (.ref a), some (.ref mo), some (.int (nI p)), some (.ref t), some (.int 1)] dX7_init_97 rfl (by decide) (by decide) rfl rfl ?_
  refine j_goto F110 48 dX7_init_100 (by decide) ?_
  refine j_iload F110 dX7_init_48 rfl ?_
  refine j_aload_n F110 dX7_init_50 rfl ?_
  refine m_cVi S (n1 := 0) (rest := [.int 1]) (r_Jx4a65c_size_8abf5 X.l G X.A M112 w1) ⟨_, _, _, _, rfl, (gBV kB_Jx4a65c_size_8abf5 (by decide +kernel)), rfl, rfl, (by decide +kernel), ⟨(Nat.le_of_ble_eq_true rfl), (Nat.le_of_ble_eq_true rfl)⟩⟩ w1 rfl rfl (Nat.le_of_ble_eq_true rfl) (Nat.le_of_ble_eq_true rfl) (Nat.le_of_ble_eq_true rfl) rfl dX7_init_51 (fun v122 M123 hD124 hp125 => ?_)
  obtain ⟨hp125a, hp125b⟩ := hp125
  subst hp125a
  subst hp125b
  refine j_icmp_ge F110 103 dX7_init_54 (by decide) (fun _ => ?_) (fun h9 => absurd (by decide) h9)
  refine j_aload_n F110 dX7_init_103 rfl ?_
  refine m_get S (C := RX7) (T := TX7) (N := 5) (by decide +kernel) w0 rfl (v := .int 0) 2 (by decide) (by decide +kernel) (fun _ h9 => h9) rfl dX7_init_104 ?_
  refine j_if_gt F110 121 dX7_init_107 (by decide) (fun h9 => absurd h9 (by decide)) (fun _ => ?_)
  refine j_aload_n F110 dX7_init_110 rfl ?_
  refine m_get S (C := RX7) (T := TX7) (N := 5) (by decide +kernel) w0 rfl (v := .ref q6) 1 (by decide) (by decide +kernel) (fun _ h9 => h9) rfl dX7_init_111 ?_
  refine m_cVi S (n1 := 0) (rest := []) (r_Jx4a65c_size_8abf5 X.l G X.A M112 h83) ⟨_, _, _, _, rfl, (gBV kB_Jx4a65c_size_8abf5 (by decide +kernel)), rfl, rfl, (by decide +kernel), ⟨(Nat.le_of_ble_eq_true rfl), (Nat.le_of_ble_eq_true rfl)⟩⟩ h83 rfl rfl (Nat.le_of_ble_eq_true rfl) (Nat.le_of_ble_eq_true rfl) (Nat.le_of_ble_eq_true rfl) rfl dX7_init_114 (fun v126 M127 hD128 hp129 => ?_)
  obtain ⟨hp129a, hp129b⟩ := hp129
  subst hp129a
  subst hp129b
  refine j_iconst F110 1 dX7_init_117 (by decide) ?_
  refine j_icmp_ne F110 122 dX7_init_118 (by decide) (fun h9 => absurd (by decide) h9) (fun _ => ?_)
  have hKp : Kp M [a] M112 := by
    intro b x hb hx
    have hx := hU1.2 _ _ (fun c => hb (by rw [c]; simp)) hx
    have n130 := (hN7.2 _ _ hx).2
    have hx := (hN7.2 _ _ hx).1
    have hx := hp18.2 _ _ n130 hx
    have hx := hU22.2 _ _ (fun c => hb (by rw [c]; simp)) hx
    have hx := hU28.2 _ _ (fun c => hb (by rw [c]; simp)) hx
    have hx := hU34.2 _ _ (fun c => hb (by rw [c]; simp)) hx
    have n131 := (hN41.2 _ _ hx).2
    have hx := (hN41.2 _ _ hx).1
    have n132 := hp53f _ _ hx
    have n133 : b ∉ [q40] := by
      intro h9; simp only [List.mem_cons, List.not_mem_nil, or_false] at h9
      · exact n131 h9
    have hx := hp53k b x n133 hx
    have n134 := hp70f _ _ hx
    have n135 : b ∉ [q6] := by
      intro h9; simp only [List.mem_cons, List.not_mem_nil, or_false] at h9
      · exact n130 h9
    have hx := hp70k b x n135 hx
    have n136 : b ∉ [q54] := by
      intro h9; simp only [List.mem_cons, List.not_mem_nil, or_false] at h9
      · exact n132 h9
    have hx := hp97k b x n136 hx
    have hx := hU111.2 _ _ (fun c => hb (by rw [c]; simp)) hx
    exact hx
  exact m_return S hRT rfl hQ (Nat.le_of_ble_eq_true rfl) (Nat.le_of_ble_eq_true rfl) dX7_init_121 ⟨⟨q6, q71, q40, q54, r98, b99, _, w0, h83, h84, h64, h107, h108, h109⟩, hKp⟩

set_option maxRecDepth 100000 in
set_option maxHeartbeats 4000000 in
theorem r_X7_initB (l : Launch) (G : RG) (A : Nat → Prop) (M : Wl) {a mo t te : Nat} (p k9 : Nat) (hk9 : k9 < 256) (hv : vb_c k9 = 10) (w0 : (a, .inr (7, [.int 0, .null, .int 0, .int 0, .null])) ∈ M) (w1 : (t, .inr (10, [.int 1, .ref te, .int 1])) ∈ M) (w2 : (te, .inl (G.cO, 1, .inr (.inr (.inr (.inr (va_up (fun _ => none) 0 (some (G.bx k9)))))))) ∈ M) : Kr l G A yX7_init wbX7_init { frames := 6, cells := 6, slots := 21, locals := 121 } M [.ref a, .ref mo, .int (nI p), .ref t] (Gv G A (fun N => ∃ g : Nat, (a, (.inr (7, [.int (nI p), .ref g, .int 3, .int 1, .ref mo]) : va_E)) ∈ N ∧ Kp M [a] N)) 6 21 := by
  refine Kr.of (cc := cX7_init) (maxL := 5) (ret := none) (by decide) rfl (Nat.le_of_ble_eq_true rfl) ?_
  intro X hXl S hRT hIN hXA hQ hD
  subst hXl
  subst hXA
  show J (X.at 0 0) 5 (PL G.Z X.A M) 0 [some (.ref a), some (.ref mo), some (.int (nI p)), some (.ref t), none] []
  have F0 := S.1.at 0 0 (Nat.le_of_ble_eq_true rfl) (Nat.le_of_ble_eq_true rfl)
  have hOR := S.2.1.or
  have hb0 := w0
  refine j_aload_n F0 dX7_init_0 rfl ?_
  refine j_aload_n F0 dX7_init_1 rfl ?_
  refine m_putF S (C := RX7) (T := TX7) (N := 5) (v := .ref mo) (ty := (.object "TreadleLoomModel")) tyX7 tyX7_ok nmX7 (by decide +kernel) w0 rfl 4 (by decide) (by decide +kernel) (fun _ h9 => h9) rfl (hIN rfl) rfl (by decide +kernel) rfl rfl (Nat.le_of_ble_eq_true rfl) dX7_init_2 (fun M2 hD3 hU1 => ?_)
  have hU1 : Up M a (.inr (7, [.int 0, .null, .int 0, .int 0, .ref mo])) M2 := hU1
  have n4 : t ≠ a := (In.ne hD w1 w0 (by simp))
  have n5 : te ≠ a := (In.ne hD w2 w0 (by simp))
  have w1 := hU1.2 _ _ n4 w1
  have w2 := hU1.2 _ _ n5 w2
  have w0 := hU1.1
  refine j_aload_n F0 dX7_init_5 rfl ?_
  refine m_objInit S (by decide +kernel) (by decide +kernel) (by decide +kernel) (Nat.le_of_ble_eq_true rfl) (Nat.le_of_ble_eq_true rfl) dX7_init_6 ?_
  refine j_aload_n F0 dX7_init_9 rfl ?_
  refine m_new S (C := RJx4a65c) (T := TJx4a65c) (N := 3) (ci := 10) (fs := [.int 0, .null, .int 0]) (by decide +kernel) tyJx4a65c tyJx4a65c_ok (by decide +kernel) (by decide +kernel) (by decide +kernel) rfl (fun j hj => by rcases (show j = 0 ∨ j = 1 ∨ j = 2 by omega) with rfl | rfl | rfl <;> rfl) (Nat.le_of_ble_eq_true rfl) (Nat.le_of_ble_eq_true rfl) dX7_init_10 (fun q6 M8 hD9 hN7 => ?_)
  have n10 := (hN7.2 _ _ w0).2
  have w0 := (hN7.2 _ _ w0).1
  have n11 := (hN7.2 _ _ w1).2
  have w1 := (hN7.2 _ _ w1).1
  have n12 := (hN7.2 _ _ w2).2
  have w2 := (hN7.2 _ _ w2).1
  have h13 := hN7.1
  have F14 := S.1.at 1 3 (Nat.le_of_ble_eq_true rfl) (Nat.le_of_ble_eq_true rfl)
  refine j_dup F14 dX7_init_13 rfl ?_
  refine m_cIv S (n1 := 0) (rest := [.ref q6, .ref a]) (r_Jx4a65c_init_da8c8 X.l G X.A M8 h13) ⟨_, _, _, rfl, (gB kB_Jx4a65c_init_da8c8), rfl, rfl, (by decide +kernel), (by decide +kernel), (by decide +kernel), rfl, (by decide +kernel), ⟨(Nat.le_of_ble_eq_true rfl), (Nat.le_of_ble_eq_true rfl)⟩⟩ rfl (Nat.le_of_ble_eq_true rfl) (Nat.le_of_ble_eq_true rfl) (Nat.le_of_ble_eq_true rfl) rfl dX7_init_14 (fun M16 hD17 hp18 => ?_)
  have n19 : a ≠ q6 := n10
  have n20 : t ≠ q6 := n11
  have n21 : te ≠ q6 := n12
  have w0 := hp18.2 _ _ n19 w0
  have w1 := hp18.2 _ _ n20 w1
  have w2 := hp18.2 _ _ n21 w2
  have h13 := hp18.1
  refine m_putF S (C := RX7) (T := TX7) (N := 5) (v := .ref q6) (ty := (.object "java/util/ArrayList")) tyX7 tyX7_ok nmX7 (by decide +kernel) w0 rfl 1 (by decide) (by decide +kernel) (fun _ h9 => h9) rfl (hIN rfl) rfl (by decide +kernel) rfl rfl (Nat.le_of_ble_eq_true rfl) dX7_init_17 (fun M23 hD24 hU22 => ?_)
  have hU22 : Up M16 a (.inr (7, [.int 0, .ref q6, .int 0, .int 0, .ref mo])) M23 := hU22
  have n25 : t ≠ a := n4
  have n26 : te ≠ a := n5
  have n27 : q6 ≠ a := (Ne.symm n19)
  have w1 := hU22.2 _ _ n25 w1
  have w2 := hU22.2 _ _ n26 w2
  have h13 := hU22.2 _ _ n27 h13
  have w0 := hU22.1
  refine j_aload_n F14 dX7_init_20 rfl ?_
  refine j_iconst F14 (-1) dX7_init_21 (by decide) ?_
  refine m_put S (C := RX7) (T := TX7) (N := 5) (v := .int (-1)) (ty := .int) tyX7 tyX7_ok nmX7 (by decide +kernel) w0 rfl 3 (by decide) (by decide +kernel) (fun _ h9 => h9) rfl (by decide +kernel) rfl rfl (Nat.le_of_ble_eq_true rfl) dX7_init_22 (fun M29 hD30 hU28 => ?_)
  have hU28 : Up M23 a (.inr (7, [.int 0, .ref q6, .int 0, .int (-1), .ref mo])) M29 := hU28
  have n31 : t ≠ a := n25
  have n32 : te ≠ a := n26
  have n33 : q6 ≠ a := n27
  have w1 := hU28.2 _ _ n31 w1
  have w2 := hU28.2 _ _ n32 w2
  have h13 := hU28.2 _ _ n33 h13
  have w0 := hU28.1
  refine j_aload_n F14 dX7_init_25 rfl ?_
  refine j_iload_n F14 dX7_init_26 rfl ?_
  refine m_putF S (C := RX7) (T := TX7) (N := 5) (v := .int (nI p)) (ty := .int) tyX7 tyX7_ok nmX7 (by decide +kernel) w0 rfl 0 (by decide) (by decide +kernel) (fun _ h9 => h9) rfl (hIN rfl) rfl (by decide +kernel) rfl rfl (Nat.le_of_ble_eq_true rfl) dX7_init_27 (fun M35 hD36 hU34 => ?_)
  have hU34 : Up M29 a (.inr (7, [.int (nI p), .ref q6, .int 0, .int (-1), .ref mo])) M35 := hU34
  have n37 : t ≠ a := n31
  have n38 : te ≠ a := n32
  have n39 : q6 ≠ a := n33
  have w1 := hU34.2 _ _ n37 w1
  have w2 := hU34.2 _ _ n38 w2
  have h13 := hU34.2 _ _ n39 h13
  have w0 := hU34.1
  refine j_aload_n F14 dX7_init_30 rfl ?_
  refine m_get S (C := RX7) (T := TX7) (N := 5) (by decide +kernel) w0 rfl (v := .ref q6) 1 (by decide) (by decide +kernel) (fun _ h9 => h9) rfl dX7_init_31 ?_
  refine m_new S (C := RX6) (T := TX6) (N := 1) (ci := 6) (fs := [.null]) (by decide +kernel) tyX6 tyX6_ok (by decide +kernel) (by decide +kernel) (by decide +kernel) rfl (fun j hj => by rcases (show j = 0 by omega) with rfl <;> rfl) (Nat.le_of_ble_eq_true rfl) (Nat.le_of_ble_eq_true rfl) dX7_init_34 (fun q40 M42 hD43 hN41 => ?_)
  have n44 := (hN41.2 _ _ w0).2
  have w0 := (hN41.2 _ _ w0).1
  have n45 := (hN41.2 _ _ w1).2
  have w1 := (hN41.2 _ _ w1).1
  have n46 := (hN41.2 _ _ w2).2
  have w2 := (hN41.2 _ _ w2).1
  have n47 := (hN41.2 _ _ h13).2
  have h13 := (hN41.2 _ _ h13).1
  have h48 := hN41.1
  have F49 := S.1.at 2 4 (Nat.le_of_ble_eq_true rfl) (Nat.le_of_ble_eq_true rfl)
  refine j_dup F49 dX7_init_37 rfl ?_
  refine m_cINv S (n1 := 0) (rest := [.ref q40, .ref q6]) (r_X6_init X.l G X.A M42 h48) ⟨_, _, _, _, 1, rfl, rfl, (gB kB_X6_init), rfl, rfl, (by decide +kernel), (by decide +kernel), ⟨(Nat.le_of_ble_eq_true rfl), (Nat.le_of_ble_eq_true rfl)⟩⟩ rfl (by decide +kernel) rfl (Nat.le_of_ble_eq_true rfl) (Nat.le_of_ble_eq_true rfl) (Nat.le_of_ble_eq_true rfl) rfl dX7_init_38 (fun M51 hD52 hp53 => ?_)
  obtain ⟨q54, hp53a, hp53b, hp53k, hp53f⟩ := hp53
  have n55 := hp53f _ _ w0
  have n56 := hp53f _ _ w1
  have n57 := hp53f _ _ w2
  have n58 := hp53f _ _ h13
  have n59 := hp53f _ _ h48
  have n60 : a ∉ [q40] := by
    intro h9; simp only [List.mem_cons, List.not_mem_nil, or_false] at h9
    · exact n44 h9
  have n61 : t ∉ [q40] := by
    intro h9; simp only [List.mem_cons, List.not_mem_nil, or_false] at h9
    · exact n45 h9
  have n62 : te ∉ [q40] := by
    intro h9; simp only [List.mem_cons, List.not_mem_nil, or_false] at h9
    · exact n46 h9
  have n63 : q6 ∉ [q40] := by
    intro h9; simp only [List.mem_cons, List.not_mem_nil, or_false] at h9
    · exact n47 h9
  have w0 := hp53k _ _ n60 w0
  have w1 := hp53k _ _ n61 w1
  have w2 := hp53k _ _ n62 w2
  have h13 := hp53k _ _ n63 h13
  have h64 : (q40, (.inr (6, [.ref q54]) : va_E)) ∈ M51 := hp53a
  have h65 : (q54, (.inr (10, [.int 0, .ref G.e0, .int 0]) : va_E)) ∈ M51 := hp53b
  have F66 := S.1.at 3 7 (Nat.le_of_ble_eq_true rfl) (Nat.le_of_ble_eq_true rfl)
  refine m_cVi S (n1 := 1) (rest := []) (r_Jx4a65c_add_9ea2d X.l G X.A M51 q40 (Or.inl ⟨_, _, (RX6, TX6, 1), h64, rfl, .tail _ (.head _)⟩) (Ne.symm n47) h13) ⟨_, _, _, _, rfl, (gBV kB_Jx4a65c_add_9ea2d (by decide +kernel)), rfl, rfl, (by decide +kernel), ⟨(Nat.le_of_ble_eq_true rfl), (Nat.le_of_ble_eq_true rfl)⟩⟩ h13 rfl rfl (Nat.le_of_ble_eq_true rfl) (Nat.le_of_ble_eq_true rfl) (Nat.le_of_ble_eq_true rfl) rfl dX7_init_41 (fun v67 M68 hD69 hp70 => ?_)
  obtain ⟨hp70v, hp70⟩ := hp70
  subst hp70v
  rw [show (0 : Int32) + 1 = 1 from by decide] at hp70
  obtain ⟨q71, hp70a, hp70b, hp70k, hp70f⟩ := hp70
  have n72 := hp70f _ _ w0
  have n73 := hp70f _ _ w1
  have n74 := hp70f _ _ w2
  have n75 := hp70f _ _ h13
  have n76 := hp70f _ _ h64
  have n77 := hp70f _ _ h65
  have n78 : a ∉ [q6] := by
    intro h9; simp only [List.mem_cons, List.not_mem_nil, or_false] at h9
    · exact n19 h9
  have n79 : t ∉ [q6] := by
    intro h9; simp only [List.mem_cons, List.not_mem_nil, or_false] at h9
    · exact n20 h9
  have n80 : te ∉ [q6] := by
    intro h9; simp only [List.mem_cons, List.not_mem_nil, or_false] at h9
    · exact n21 h9
  have n81 : q40 ∉ [q6] := by
    intro h9; simp only [List.mem_cons, List.not_mem_nil, or_false] at h9
    · exact (Ne.symm n47) h9
  have n82 : q54 ∉ [q6] := by
    intro h9; simp only [List.mem_cons, List.not_mem_nil, or_false] at h9
    · exact (Ne.symm n58) h9
  have w0 := hp70k _ _ n78 w0
  have w1 := hp70k _ _ n79 w1
  have w2 := hp70k _ _ n80 w2
  have h64 := hp70k _ _ n81 h64
  have h65 := hp70k _ _ n82 h65
  have h83 : (q6, (.inr (10, [.int 1, .ref q71, .int 1]) : va_E)) ∈ M68 := hp70a
  have h84 : (q71, (.inl (G.cO, 10, .inr (.inr (.inr (.inr (va_up (fun _ => none) 0 (some q40)))))) : va_E)) ∈ M68 := hp70b
  have F85 := S.1.at 4 17 (Nat.le_of_ble_eq_true rfl) (Nat.le_of_ble_eq_true rfl)
  refine j_pop F85 dX7_init_44 rfl ?_
  refine j_iconst F85 0 dX7_init_45 (by decide) ?_
  refine j_istore F85 [some (.ref a), some (.ref mo), some (.int (nI p)), some (.ref t), some (.int 0)] dX7_init_46 (by decide) rfl rfl ?_
  refine j_iload F85 dX7_init_48 rfl ?_
  refine j_aload_n F85 dX7_init_50 rfl ?_
  refine m_cVi S (n1 := 0) (rest := [.int 0]) (r_Jx4a65c_size_8abf5 X.l G X.A M68 w1) ⟨_, _, _, _, rfl, (gBV kB_Jx4a65c_size_8abf5 (by decide +kernel)), rfl, rfl, (by decide +kernel), ⟨(Nat.le_of_ble_eq_true rfl), (Nat.le_of_ble_eq_true rfl)⟩⟩ w1 rfl rfl (Nat.le_of_ble_eq_true rfl) (Nat.le_of_ble_eq_true rfl) (Nat.le_of_ble_eq_true rfl) rfl dX7_init_51 (fun v86 M87 hD88 hp89 => ?_)
  obtain ⟨hp89a, hp89b⟩ := hp89
  subst hp89a
  subst hp89b
  refine j_icmp_ge F85 103 dX7_init_54 (by decide) (fun h9 => absurd h9 (by decide)) (fun _ => ?_)
  refine j_aload_n F85 dX7_init_57 rfl ?_
  refine m_get S (C := RX7) (T := TX7) (N := 5) (by decide +kernel) w0 rfl (v := .int 0) 2 (by decide) (by decide +kernel) (fun _ h9 => h9) rfl dX7_init_58 ?_
  refine j_if_ne F85 103 dX7_init_61 (by decide) (fun h9 => absurd (by decide) h9) (fun _ => ?_)
  refine j_aload_n F85 dX7_init_64 rfl ?_
  refine j_aload_n F85 dX7_init_65 rfl ?_
  refine j_aload_n F85 dX7_init_66 rfl ?_
  refine j_iload F85 dX7_init_67 rfl ?_
  refine m_cVr S (n1 := 1) (rest := [.ref a, .ref a]) (r_Jx4a65c_get_915e3 X.l G X.A M68 0 (G.bx k9) (by decide) (by decide) (by unfold vp_in; decide) (by simp [va_up]) w1 w2) ⟨_, _, _, _, rfl, (gBV kB_Jx4a65c_get_915e3 (by decide +kernel)), rfl, rfl, (by decide +kernel), ⟨(Nat.le_of_ble_eq_true rfl), (Nat.le_of_ble_eq_true rfl)⟩⟩ w1 rfl rfl (Nat.le_of_ble_eq_true rfl) (Nat.le_of_ble_eq_true rfl) (Nat.le_of_ble_eq_true rfl) rfl dX7_init_69 (fun v90 M91 hD92 hp93 => ?_)
  obtain ⟨hp93a, hp93b⟩ := hp93
  subst hp93a
  subst hp93b
  refine m_castBx S hk9 (by decide +kernel) dX7_init_72 ?_
  refine m_cBx S hk9 (x := 10) hv ⟨_, _, _, _, rfl, (gBV kB_J6_intValue_8abf5 (by decide +kernel)), rfl, rfl, (by decide +kernel), ⟨(Nat.le_of_ble_eq_true rfl), (Nat.le_of_ble_eq_true rfl)⟩⟩ (Nat.le_of_ble_eq_true rfl) (Nat.le_of_ble_eq_true rfl) (Nat.le_of_ble_eq_true rfl) dX7_init_75 ?_
  refine m_cVi S (n1 := 1) (rest := [.ref a]) (r_X7_readB X.l G X.A M68 p w0 h83 h84 h64 h65) ⟨_, _, _, _, rfl, (gBV kB_X7_read (by decide +kernel)), rfl, rfl, (by decide +kernel), ⟨(Nat.le_of_ble_eq_true rfl), (Nat.le_of_ble_eq_true rfl)⟩⟩ w0 rfl rfl (Nat.le_of_ble_eq_true rfl) (Nat.le_of_ble_eq_true rfl) (Nat.le_of_ble_eq_true rfl) rfl dX7_init_78 (fun v94 M95 hD96 hp97 => ?_)
  obtain ⟨hp97v, hp97a, hp97k⟩ := hp97
  subst hp97v
  have n98 : a ∉ [q6, q71] := by
    intro h9; simp only [List.mem_cons, List.not_mem_nil, or_false] at h9
    rcases h9 with h9 | h9
    · exact n19 h9
    · exact n72 h9
  have n99 : t ∉ [q6, q71] := by
    intro h9; simp only [List.mem_cons, List.not_mem_nil, or_false] at h9
    rcases h9 with h9 | h9
    · exact n20 h9
    · exact n73 h9
  have n100 : te ∉ [q6, q71] := by
    intro h9; simp only [List.mem_cons, List.not_mem_nil, or_false] at h9
    rcases h9 with h9 | h9
    · exact n21 h9
    · exact n74 h9
  have w0 := hp97k _ _ n98 w0
  have w1 := hp97k _ _ n99 w1
  have w2 := hp97k _ _ n100 w2
  have h101 : (q6, (.inr (10, [.int 2, .ref q71, .int 2]) : va_E)) ∈ M95 := hp97a
  have F102 := S.1.at 6 21 (Nat.le_of_ble_eq_true rfl) (Nat.le_of_ble_eq_true rfl)
  refine m_put S (C := RX7) (T := TX7) (N := 5) (v := .int 0) (ty := .int) tyX7 tyX7_ok nmX7 (by decide +kernel) w0 rfl 2 (by decide) (by decide +kernel) (fun _ h9 => h9) rfl (by decide +kernel) rfl rfl (Nat.le_of_ble_eq_true rfl) dX7_init_81 (fun M104 hD105 hU103 => ?_)
  have hU103 : Up M95 a (.inr (7, [.int (nI p), .ref q6, .int 0, .int (-1), .ref mo])) M104 := hU103
  have n106 : t ≠ a := n37
  have n107 : te ≠ a := n38
  have n108 : q6 ≠ a := n39
  have w1 := hU103.2 _ _ n106 w1
  have w2 := hU103.2 _ _ n107 w2
  have h101 := hU103.2 _ _ n108 h101
  have w0 := hU103.1
  refine j_aload_n F102 dX7_init_84 rfl ?_
  refine m_get S (C := RX7) (T := TX7) (N := 5) (by decide +kernel) w0 rfl (v := .int 0) 2 (by decide) (by decide +kernel) (fun _ h9 => h9) rfl dX7_init_85 ?_
  refine j_if_le F102 97 dX7_init_88 (by decide) (fun _ => ?_) (fun h9 => absurd (by decide) h9)
  refine j_iinc F102 1 [some (.ref a), some (.ref mo), some (.int (nI p)), some (.ref t), some (.int 1)] dX7_init_97 rfl (by decide) (by decide) rfl rfl ?_
  refine j_goto F102 48 dX7_init_100 (by decide) ?_
  refine j_iload F102 dX7_init_48 rfl ?_
  refine j_aload_n F102 dX7_init_50 rfl ?_
  refine m_cVi S (n1 := 0) (rest := [.int 1]) (r_Jx4a65c_size_8abf5 X.l G X.A M104 w1) ⟨_, _, _, _, rfl, (gBV kB_Jx4a65c_size_8abf5 (by decide +kernel)), rfl, rfl, (by decide +kernel), ⟨(Nat.le_of_ble_eq_true rfl), (Nat.le_of_ble_eq_true rfl)⟩⟩ w1 rfl rfl (Nat.le_of_ble_eq_true rfl) (Nat.le_of_ble_eq_true rfl) (Nat.le_of_ble_eq_true rfl) rfl dX7_init_51 (fun v109 M110 hD111 hp112 => ?_)
  obtain ⟨hp112a, hp112b⟩ := hp112
  subst hp112a
  subst hp112b
  refine j_icmp_ge F102 103 dX7_init_54 (by decide) (fun _ => ?_) (fun h9 => absurd (by decide) h9)
  refine j_aload_n F102 dX7_init_103 rfl ?_
  refine m_get S (C := RX7) (T := TX7) (N := 5) (by decide +kernel) w0 rfl (v := .int 0) 2 (by decide) (by decide +kernel) (fun _ h9 => h9) rfl dX7_init_104 ?_
  refine j_if_gt F102 121 dX7_init_107 (by decide) (fun h9 => absurd h9 (by decide)) (fun _ => ?_)
  refine j_aload_n F102 dX7_init_110 rfl ?_
  refine m_get S (C := RX7) (T := TX7) (N := 5) (by decide +kernel) w0 rfl (v := .ref q6) 1 (by decide) (by decide +kernel) (fun _ h9 => h9) rfl dX7_init_111 ?_
  refine m_cVi S (n1 := 0) (rest := []) (r_Jx4a65c_size_8abf5 X.l G X.A M104 h101) ⟨_, _, _, _, rfl, (gBV kB_Jx4a65c_size_8abf5 (by decide +kernel)), rfl, rfl, (by decide +kernel), ⟨(Nat.le_of_ble_eq_true rfl), (Nat.le_of_ble_eq_true rfl)⟩⟩ h101 rfl rfl (Nat.le_of_ble_eq_true rfl) (Nat.le_of_ble_eq_true rfl) (Nat.le_of_ble_eq_true rfl) rfl dX7_init_114 (fun v113 M114 hD115 hp116 => ?_)
  obtain ⟨hp116a, hp116b⟩ := hp116
  subst hp116a
  subst hp116b
  refine j_iconst F102 1 dX7_init_117 (by decide) ?_
  refine j_icmp_ne F102 122 dX7_init_118 (by decide) (fun _ => ?_) (fun h9 => absurd h9 (by decide))
  refine j_aload_n F102 dX7_init_122 rfl ?_
  refine j_iconst F102 3 dX7_init_123 (by decide) ?_
  refine m_put S (C := RX7) (T := TX7) (N := 5) (v := .int 3) (ty := .int) tyX7 tyX7_ok nmX7 (by decide +kernel) w0 rfl 2 (by decide) (by decide +kernel) (fun _ h9 => h9) rfl (by decide +kernel) rfl rfl (Nat.le_of_ble_eq_true rfl) dX7_init_124 (fun M118 hD119 hU117 => ?_)
  have hU117 : Up M104 a (.inr (7, [.int (nI p), .ref q6, .int 3, .int (-1), .ref mo])) M118 := hU117
  have n120 : t ≠ a := n106
  have n121 : te ≠ a := n107
  have n122 : q6 ≠ a := n108
  have w1 := hU117.2 _ _ n120 w1
  have w2 := hU117.2 _ _ n121 w2
  have h101 := hU117.2 _ _ n122 h101
  have w0 := hU117.1
  refine j_aload_n F102 dX7_init_127 rfl ?_
  refine j_aload_n F102 dX7_init_128 rfl ?_
  refine m_cVi S (n1 := 0) (rest := [.ref a]) (r_Jx4a65c_size_8abf5 X.l G X.A M118 w1) ⟨_, _, _, _, rfl, (gBV kB_Jx4a65c_size_8abf5 (by decide +kernel)), rfl, rfl, (by decide +kernel), ⟨(Nat.le_of_ble_eq_true rfl), (Nat.le_of_ble_eq_true rfl)⟩⟩ w1 rfl rfl (Nat.le_of_ble_eq_true rfl) (Nat.le_of_ble_eq_true rfl) (Nat.le_of_ble_eq_true rfl) rfl dX7_init_129 (fun v123 M124 hD125 hp126 => ?_)
  obtain ⟨hp126a, hp126b⟩ := hp126
  subst hp126a
  subst hp126b
  refine m_put S (C := RX7) (T := TX7) (N := 5) (v := .int 1) (ty := .int) tyX7 tyX7_ok nmX7 (by decide +kernel) w0 rfl 3 (by decide) (by decide +kernel) (fun _ h9 => h9) rfl (by decide +kernel) rfl rfl (Nat.le_of_ble_eq_true rfl) dX7_init_132 (fun M128 hD129 hU127 => ?_)
  have hU127 : Up M118 a (.inr (7, [.int (nI p), .ref q6, .int 3, .int 1, .ref mo])) M128 := hU127
  have n130 : t ≠ a := n120
  have n131 : te ≠ a := n121
  have n132 : q6 ≠ a := n122
  have w1 := hU127.2 _ _ n130 w1
  have w2 := hU127.2 _ _ n131 w2
  have h101 := hU127.2 _ _ n132 h101
  have w0 := hU127.1
  have hKp : Kp M [a] M128 := by
    intro b x hb hx
    have hx := hU1.2 _ _ (fun c => hb (by rw [c]; simp)) hx
    have n133 := (hN7.2 _ _ hx).2
    have hx := (hN7.2 _ _ hx).1
    have hx := hp18.2 _ _ n133 hx
    have hx := hU22.2 _ _ (fun c => hb (by rw [c]; simp)) hx
    have hx := hU28.2 _ _ (fun c => hb (by rw [c]; simp)) hx
    have hx := hU34.2 _ _ (fun c => hb (by rw [c]; simp)) hx
    have n134 := (hN41.2 _ _ hx).2
    have hx := (hN41.2 _ _ hx).1
    have n135 := hp53f _ _ hx
    have n136 : b ∉ [q40] := by
      intro h9; simp only [List.mem_cons, List.not_mem_nil, or_false] at h9
      · exact n134 h9
    have hx := hp53k b x n136 hx
    have n137 := hp70f _ _ hx
    have n138 : b ∉ [q6] := by
      intro h9; simp only [List.mem_cons, List.not_mem_nil, or_false] at h9
      · exact n133 h9
    have hx := hp70k b x n138 hx
    have n139 : b ∉ [q6, q71] := by
      intro h9; simp only [List.mem_cons, List.not_mem_nil, or_false] at h9
      rcases h9 with h9 | h9
      · exact n133 h9
      · exact n137 h9
    have hx := hp97k b x n139 hx
    have hx := hU103.2 _ _ (fun c => hb (by rw [c]; simp)) hx
    have hx := hU117.2 _ _ (fun c => hb (by rw [c]; simp)) hx
    have hx := hU127.2 _ _ (fun c => hb (by rw [c]; simp)) hx
    exact hx
  exact m_return S hRT rfl hQ (Nat.le_of_ble_eq_true rfl) (Nat.le_of_ble_eq_true rfl) dX7_init_135 ⟨_, w0, hKp⟩

set_option maxRecDepth 100000 in
set_option maxHeartbeats 4000000 in
theorem r_X7_initC (l : Launch) (G : RG) (A : Nat → Prop) (M : Wl) {a mo t te : Nat} (p k9 : Nat) (hk9 : k9 < 256) (hv : vb_c k9 = 11) (w0 : (a, .inr (7, [.int 0, .null, .int 0, .int 0, .null])) ∈ M) (w1 : (t, .inr (10, [.int 1, .ref te, .int 1])) ∈ M) (w2 : (te, .inl (G.cO, 1, .inr (.inr (.inr (.inr (va_up (fun _ => none) 0 (some (G.bx k9)))))))) ∈ M) : Kr l G A yX7_init wbX7_init { frames := 5, cells := 4, slots := 17, locals := 108 } M [.ref a, .ref mo, .int (nI p), .ref t] (Gv G A (fun N => ∃ g : Nat, (a, (.inr (7, [.int (nI p), .ref g, .int 2, .int 0, .ref mo]) : va_E)) ∈ N ∧ Kp M [a] N)) 4 17 := by
  refine Kr.of (cc := cX7_init) (maxL := 5) (ret := none) (by decide) rfl (Nat.le_of_ble_eq_true rfl) ?_
  intro X hXl S hRT hIN hXA hQ hD
  subst hXl
  subst hXA
  show J (X.at 0 0) 5 (PL G.Z X.A M) 0 [some (.ref a), some (.ref mo), some (.int (nI p)), some (.ref t), none] []
  have F0 := S.1.at 0 0 (Nat.le_of_ble_eq_true rfl) (Nat.le_of_ble_eq_true rfl)
  have hOR := S.2.1.or
  have hb0 := w0
  refine j_aload_n F0 dX7_init_0 rfl ?_
  refine j_aload_n F0 dX7_init_1 rfl ?_
  refine m_putF S (C := RX7) (T := TX7) (N := 5) (v := .ref mo) (ty := (.object "TreadleLoomModel")) tyX7 tyX7_ok nmX7 (by decide +kernel) w0 rfl 4 (by decide) (by decide +kernel) (fun _ h9 => h9) rfl (hIN rfl) rfl (by decide +kernel) rfl rfl (Nat.le_of_ble_eq_true rfl) dX7_init_2 (fun M2 hD3 hU1 => ?_)
  have hU1 : Up M a (.inr (7, [.int 0, .null, .int 0, .int 0, .ref mo])) M2 := hU1
  have n4 : t ≠ a := (In.ne hD w1 w0 (by simp))
  have n5 : te ≠ a := (In.ne hD w2 w0 (by simp))
  have w1 := hU1.2 _ _ n4 w1
  have w2 := hU1.2 _ _ n5 w2
  have w0 := hU1.1
  refine j_aload_n F0 dX7_init_5 rfl ?_
  refine m_objInit S (by decide +kernel) (by decide +kernel) (by decide +kernel) (Nat.le_of_ble_eq_true rfl) (Nat.le_of_ble_eq_true rfl) dX7_init_6 ?_
  refine j_aload_n F0 dX7_init_9 rfl ?_
  refine m_new S (C := RJx4a65c) (T := TJx4a65c) (N := 3) (ci := 10) (fs := [.int 0, .null, .int 0]) (by decide +kernel) tyJx4a65c tyJx4a65c_ok (by decide +kernel) (by decide +kernel) (by decide +kernel) rfl (fun j hj => by rcases (show j = 0 ∨ j = 1 ∨ j = 2 by omega) with rfl | rfl | rfl <;> rfl) (Nat.le_of_ble_eq_true rfl) (Nat.le_of_ble_eq_true rfl) dX7_init_10 (fun q6 M8 hD9 hN7 => ?_)
  have n10 := (hN7.2 _ _ w0).2
  have w0 := (hN7.2 _ _ w0).1
  have n11 := (hN7.2 _ _ w1).2
  have w1 := (hN7.2 _ _ w1).1
  have n12 := (hN7.2 _ _ w2).2
  have w2 := (hN7.2 _ _ w2).1
  have h13 := hN7.1
  have F14 := S.1.at 1 3 (Nat.le_of_ble_eq_true rfl) (Nat.le_of_ble_eq_true rfl)
  refine j_dup F14 dX7_init_13 rfl ?_
  refine m_cIv S (n1 := 0) (rest := [.ref q6, .ref a]) (r_Jx4a65c_init_da8c8 X.l G X.A M8 h13) ⟨_, _, _, rfl, (gB kB_Jx4a65c_init_da8c8), rfl, rfl, (by decide +kernel), (by decide +kernel), (by decide +kernel), rfl, (by decide +kernel), ⟨(Nat.le_of_ble_eq_true rfl), (Nat.le_of_ble_eq_true rfl)⟩⟩ rfl (Nat.le_of_ble_eq_true rfl) (Nat.le_of_ble_eq_true rfl) (Nat.le_of_ble_eq_true rfl) rfl dX7_init_14 (fun M16 hD17 hp18 => ?_)
  have n19 : a ≠ q6 := n10
  have n20 : t ≠ q6 := n11
  have n21 : te ≠ q6 := n12
  have w0 := hp18.2 _ _ n19 w0
  have w1 := hp18.2 _ _ n20 w1
  have w2 := hp18.2 _ _ n21 w2
  have h13 := hp18.1
  refine m_putF S (C := RX7) (T := TX7) (N := 5) (v := .ref q6) (ty := (.object "java/util/ArrayList")) tyX7 tyX7_ok nmX7 (by decide +kernel) w0 rfl 1 (by decide) (by decide +kernel) (fun _ h9 => h9) rfl (hIN rfl) rfl (by decide +kernel) rfl rfl (Nat.le_of_ble_eq_true rfl) dX7_init_17 (fun M23 hD24 hU22 => ?_)
  have hU22 : Up M16 a (.inr (7, [.int 0, .ref q6, .int 0, .int 0, .ref mo])) M23 := hU22
  have n25 : t ≠ a := n4
  have n26 : te ≠ a := n5
  have n27 : q6 ≠ a := (Ne.symm n19)
  have w1 := hU22.2 _ _ n25 w1
  have w2 := hU22.2 _ _ n26 w2
  have h13 := hU22.2 _ _ n27 h13
  have w0 := hU22.1
  refine j_aload_n F14 dX7_init_20 rfl ?_
  refine j_iconst F14 (-1) dX7_init_21 (by decide) ?_
  refine m_put S (C := RX7) (T := TX7) (N := 5) (v := .int (-1)) (ty := .int) tyX7 tyX7_ok nmX7 (by decide +kernel) w0 rfl 3 (by decide) (by decide +kernel) (fun _ h9 => h9) rfl (by decide +kernel) rfl rfl (Nat.le_of_ble_eq_true rfl) dX7_init_22 (fun M29 hD30 hU28 => ?_)
  have hU28 : Up M23 a (.inr (7, [.int 0, .ref q6, .int 0, .int (-1), .ref mo])) M29 := hU28
  have n31 : t ≠ a := n25
  have n32 : te ≠ a := n26
  have n33 : q6 ≠ a := n27
  have w1 := hU28.2 _ _ n31 w1
  have w2 := hU28.2 _ _ n32 w2
  have h13 := hU28.2 _ _ n33 h13
  have w0 := hU28.1
  refine j_aload_n F14 dX7_init_25 rfl ?_
  refine j_iload_n F14 dX7_init_26 rfl ?_
  refine m_putF S (C := RX7) (T := TX7) (N := 5) (v := .int (nI p)) (ty := .int) tyX7 tyX7_ok nmX7 (by decide +kernel) w0 rfl 0 (by decide) (by decide +kernel) (fun _ h9 => h9) rfl (hIN rfl) rfl (by decide +kernel) rfl rfl (Nat.le_of_ble_eq_true rfl) dX7_init_27 (fun M35 hD36 hU34 => ?_)
  have hU34 : Up M29 a (.inr (7, [.int (nI p), .ref q6, .int 0, .int (-1), .ref mo])) M35 := hU34
  have n37 : t ≠ a := n31
  have n38 : te ≠ a := n32
  have n39 : q6 ≠ a := n33
  have w1 := hU34.2 _ _ n37 w1
  have w2 := hU34.2 _ _ n38 w2
  have h13 := hU34.2 _ _ n39 h13
  have w0 := hU34.1
  refine j_aload_n F14 dX7_init_30 rfl ?_
  refine m_get S (C := RX7) (T := TX7) (N := 5) (by decide +kernel) w0 rfl (v := .ref q6) 1 (by decide) (by decide +kernel) (fun _ h9 => h9) rfl dX7_init_31 ?_
  refine m_new S (C := RX6) (T := TX6) (N := 1) (ci := 6) (fs := [.null]) (by decide +kernel) tyX6 tyX6_ok (by decide +kernel) (by decide +kernel) (by decide +kernel) rfl (fun j hj => by rcases (show j = 0 by omega) with rfl <;> rfl) (Nat.le_of_ble_eq_true rfl) (Nat.le_of_ble_eq_true rfl) dX7_init_34 (fun q40 M42 hD43 hN41 => ?_)
  have n44 := (hN41.2 _ _ w0).2
  have w0 := (hN41.2 _ _ w0).1
  have n45 := (hN41.2 _ _ w1).2
  have w1 := (hN41.2 _ _ w1).1
  have n46 := (hN41.2 _ _ w2).2
  have w2 := (hN41.2 _ _ w2).1
  have n47 := (hN41.2 _ _ h13).2
  have h13 := (hN41.2 _ _ h13).1
  have h48 := hN41.1
  have F49 := S.1.at 2 4 (Nat.le_of_ble_eq_true rfl) (Nat.le_of_ble_eq_true rfl)
  refine j_dup F49 dX7_init_37 rfl ?_
  refine m_cINv S (n1 := 0) (rest := [.ref q40, .ref q6]) (r_X6_init X.l G X.A M42 h48) ⟨_, _, _, _, 1, rfl, rfl, (gB kB_X6_init), rfl, rfl, (by decide +kernel), (by decide +kernel), ⟨(Nat.le_of_ble_eq_true rfl), (Nat.le_of_ble_eq_true rfl)⟩⟩ rfl (by decide +kernel) rfl (Nat.le_of_ble_eq_true rfl) (Nat.le_of_ble_eq_true rfl) (Nat.le_of_ble_eq_true rfl) rfl dX7_init_38 (fun M51 hD52 hp53 => ?_)
  obtain ⟨q54, hp53a, hp53b, hp53k, hp53f⟩ := hp53
  have n55 := hp53f _ _ w0
  have n56 := hp53f _ _ w1
  have n57 := hp53f _ _ w2
  have n58 := hp53f _ _ h13
  have n59 := hp53f _ _ h48
  have n60 : a ∉ [q40] := by
    intro h9; simp only [List.mem_cons, List.not_mem_nil, or_false] at h9
    · exact n44 h9
  have n61 : t ∉ [q40] := by
    intro h9; simp only [List.mem_cons, List.not_mem_nil, or_false] at h9
    · exact n45 h9
  have n62 : te ∉ [q40] := by
    intro h9; simp only [List.mem_cons, List.not_mem_nil, or_false] at h9
    · exact n46 h9
  have n63 : q6 ∉ [q40] := by
    intro h9; simp only [List.mem_cons, List.not_mem_nil, or_false] at h9
    · exact n47 h9
  have w0 := hp53k _ _ n60 w0
  have w1 := hp53k _ _ n61 w1
  have w2 := hp53k _ _ n62 w2
  have h13 := hp53k _ _ n63 h13
  have h64 : (q40, (.inr (6, [.ref q54]) : va_E)) ∈ M51 := hp53a
  have h65 : (q54, (.inr (10, [.int 0, .ref G.e0, .int 0]) : va_E)) ∈ M51 := hp53b
  have F66 := S.1.at 3 7 (Nat.le_of_ble_eq_true rfl) (Nat.le_of_ble_eq_true rfl)
  refine m_cVi S (n1 := 1) (rest := []) (r_Jx4a65c_add_9ea2d X.l G X.A M51 q40 (Or.inl ⟨_, _, (RX6, TX6, 1), h64, rfl, .tail _ (.head _)⟩) (Ne.symm n47) h13) ⟨_, _, _, _, rfl, (gBV kB_Jx4a65c_add_9ea2d (by decide +kernel)), rfl, rfl, (by decide +kernel), ⟨(Nat.le_of_ble_eq_true rfl), (Nat.le_of_ble_eq_true rfl)⟩⟩ h13 rfl rfl (Nat.le_of_ble_eq_true rfl) (Nat.le_of_ble_eq_true rfl) (Nat.le_of_ble_eq_true rfl) rfl dX7_init_41 (fun v67 M68 hD69 hp70 => ?_)
  obtain ⟨hp70v, hp70⟩ := hp70
  subst hp70v
  rw [show (0 : Int32) + 1 = 1 from by decide] at hp70
  obtain ⟨q71, hp70a, hp70b, hp70k, hp70f⟩ := hp70
  have n72 := hp70f _ _ w0
  have n73 := hp70f _ _ w1
  have n74 := hp70f _ _ w2
  have n75 := hp70f _ _ h13
  have n76 := hp70f _ _ h64
  have n77 := hp70f _ _ h65
  have n78 : a ∉ [q6] := by
    intro h9; simp only [List.mem_cons, List.not_mem_nil, or_false] at h9
    · exact n19 h9
  have n79 : t ∉ [q6] := by
    intro h9; simp only [List.mem_cons, List.not_mem_nil, or_false] at h9
    · exact n20 h9
  have n80 : te ∉ [q6] := by
    intro h9; simp only [List.mem_cons, List.not_mem_nil, or_false] at h9
    · exact n21 h9
  have n81 : q40 ∉ [q6] := by
    intro h9; simp only [List.mem_cons, List.not_mem_nil, or_false] at h9
    · exact (Ne.symm n47) h9
  have n82 : q54 ∉ [q6] := by
    intro h9; simp only [List.mem_cons, List.not_mem_nil, or_false] at h9
    · exact (Ne.symm n58) h9
  have w0 := hp70k _ _ n78 w0
  have w1 := hp70k _ _ n79 w1
  have w2 := hp70k _ _ n80 w2
  have h64 := hp70k _ _ n81 h64
  have h65 := hp70k _ _ n82 h65
  have h83 : (q6, (.inr (10, [.int 1, .ref q71, .int 1]) : va_E)) ∈ M68 := hp70a
  have h84 : (q71, (.inl (G.cO, 10, .inr (.inr (.inr (.inr (va_up (fun _ => none) 0 (some q40)))))) : va_E)) ∈ M68 := hp70b
  have F85 := S.1.at 4 17 (Nat.le_of_ble_eq_true rfl) (Nat.le_of_ble_eq_true rfl)
  refine j_pop F85 dX7_init_44 rfl ?_
  refine j_iconst F85 0 dX7_init_45 (by decide) ?_
  refine j_istore F85 [some (.ref a), some (.ref mo), some (.int (nI p)), some (.ref t), some (.int 0)] dX7_init_46 (by decide) rfl rfl ?_
  refine j_iload F85 dX7_init_48 rfl ?_
  refine j_aload_n F85 dX7_init_50 rfl ?_
  refine m_cVi S (n1 := 0) (rest := [.int 0]) (r_Jx4a65c_size_8abf5 X.l G X.A M68 w1) ⟨_, _, _, _, rfl, (gBV kB_Jx4a65c_size_8abf5 (by decide +kernel)), rfl, rfl, (by decide +kernel), ⟨(Nat.le_of_ble_eq_true rfl), (Nat.le_of_ble_eq_true rfl)⟩⟩ w1 rfl rfl (Nat.le_of_ble_eq_true rfl) (Nat.le_of_ble_eq_true rfl) (Nat.le_of_ble_eq_true rfl) rfl dX7_init_51 (fun v86 M87 hD88 hp89 => ?_)
  obtain ⟨hp89a, hp89b⟩ := hp89
  subst hp89a
  subst hp89b
  refine j_icmp_ge F85 103 dX7_init_54 (by decide) (fun h9 => absurd h9 (by decide)) (fun _ => ?_)
  refine j_aload_n F85 dX7_init_57 rfl ?_
  refine m_get S (C := RX7) (T := TX7) (N := 5) (by decide +kernel) w0 rfl (v := .int 0) 2 (by decide) (by decide +kernel) (fun _ h9 => h9) rfl dX7_init_58 ?_
  refine j_if_ne F85 103 dX7_init_61 (by decide) (fun h9 => absurd (by decide) h9) (fun _ => ?_)
  refine j_aload_n F85 dX7_init_64 rfl ?_
  refine j_aload_n F85 dX7_init_65 rfl ?_
  refine j_aload_n F85 dX7_init_66 rfl ?_
  refine j_iload F85 dX7_init_67 rfl ?_
  refine m_cVr S (n1 := 1) (rest := [.ref a, .ref a]) (r_Jx4a65c_get_915e3 X.l G X.A M68 0 (G.bx k9) (by decide) (by decide) (by unfold vp_in; decide) (by simp [va_up]) w1 w2) ⟨_, _, _, _, rfl, (gBV kB_Jx4a65c_get_915e3 (by decide +kernel)), rfl, rfl, (by decide +kernel), ⟨(Nat.le_of_ble_eq_true rfl), (Nat.le_of_ble_eq_true rfl)⟩⟩ w1 rfl rfl (Nat.le_of_ble_eq_true rfl) (Nat.le_of_ble_eq_true rfl) (Nat.le_of_ble_eq_true rfl) rfl dX7_init_69 (fun v90 M91 hD92 hp93 => ?_)
  obtain ⟨hp93a, hp93b⟩ := hp93
  subst hp93a
  subst hp93b
  refine m_castBx S hk9 (by decide +kernel) dX7_init_72 ?_
  refine m_cBx S hk9 (x := 11) hv ⟨_, _, _, _, rfl, (gBV kB_J6_intValue_8abf5 (by decide +kernel)), rfl, rfl, (by decide +kernel), ⟨(Nat.le_of_ble_eq_true rfl), (Nat.le_of_ble_eq_true rfl)⟩⟩ (Nat.le_of_ble_eq_true rfl) (Nat.le_of_ble_eq_true rfl) (Nat.le_of_ble_eq_true rfl) dX7_init_75 ?_
  refine m_cVi S (n1 := 1) (rest := [.ref a]) (r_X7_readC X.l G X.A M68 p w0 h83 h84 h64 h65) ⟨_, _, _, _, rfl, (gBV kB_X7_read (by decide +kernel)), rfl, rfl, (by decide +kernel), ⟨(Nat.le_of_ble_eq_true rfl), (Nat.le_of_ble_eq_true rfl)⟩⟩ w0 rfl rfl (Nat.le_of_ble_eq_true rfl) (Nat.le_of_ble_eq_true rfl) (Nat.le_of_ble_eq_true rfl) rfl dX7_init_78 (fun v94 M95 hD96 hp97 => ?_)
  obtain ⟨hp97a, hp97b⟩ := hp97
  subst hp97a
  subst hp97b
  refine m_put S (C := RX7) (T := TX7) (N := 5) (v := .int 2) (ty := .int) tyX7 tyX7_ok nmX7 (by decide +kernel) w0 rfl 2 (by decide) (by decide +kernel) (fun _ h9 => h9) rfl (by decide +kernel) rfl rfl (Nat.le_of_ble_eq_true rfl) dX7_init_81 (fun M99 hD100 hU98 => ?_)
  have hU98 : Up M68 a (.inr (7, [.int (nI p), .ref q6, .int 2, .int (-1), .ref mo])) M99 := hU98
  have n101 : t ≠ a := n37
  have n102 : te ≠ a := n38
  have n103 : q40 ≠ a := (Ne.symm n44)
  have n104 : q54 ≠ a := (Ne.symm n55)
  have n105 : q6 ≠ a := n39
  have n106 : q71 ≠ a := (Ne.symm n72)
  have w1 := hU98.2 _ _ n101 w1
  have w2 := hU98.2 _ _ n102 w2
  have h64 := hU98.2 _ _ n103 h64
  have h65 := hU98.2 _ _ n104 h65
  have h83 := hU98.2 _ _ n105 h83
  have h84 := hU98.2 _ _ n106 h84
  have w0 := hU98.1
  refine j_aload_n F85 dX7_init_84 rfl ?_
  refine m_get S (C := RX7) (T := TX7) (N := 5) (by decide +kernel) w0 rfl (v := .int 2) 2 (by decide) (by decide +kernel) (fun _ h9 => h9) rfl dX7_init_85 ?_
  refine j_if_le F85 97 dX7_init_88 (by decide) (fun h9 => absurd h9 (by decide)) (fun _ => ?_)
  refine j_aload_n F85 dX7_init_91 rfl ?_
  refine j_iload F85 dX7_init_92 rfl ?_
  refine m_put S (C := RX7) (T := TX7) (N := 5) (v := .int 0) (ty := .int) tyX7 tyX7_ok nmX7 (by decide +kernel) w0 rfl 3 (by decide) (by decide +kernel) (fun _ h9 => h9) rfl (by decide +kernel) rfl rfl (Nat.le_of_ble_eq_true rfl) dX7_init_94 (fun M108 hD109 hU107 => ?_)
  have hU107 : Up M99 a (.inr (7, [.int (nI p), .ref q6, .int 2, .int 0, .ref mo])) M108 := hU107
  have n110 : t ≠ a := n101
  have n111 : te ≠ a := n102
  have n112 : q40 ≠ a := n103
  have n113 : q54 ≠ a := n104
  have n114 : q6 ≠ a := n105
  have n115 : q71 ≠ a := n106
  have w1 := hU107.2 _ _ n110 w1
  have w2 := hU107.2 _ _ n111 w2
  have h64 := hU107.2 _ _ n112 h64
  have h65 := hU107.2 _ _ n113 h65
  have h83 := hU107.2 _ _ n114 h83
  have h84 := hU107.2 _ _ n115 h84
  have w0 := hU107.1
  refine j_iinc F85 1 [some (.ref a), some (.ref mo), some (.int (nI p)), some (.ref t), some (.int 1)] dX7_init_97 rfl (by decide) (by decide) rfl rfl ?_
  refine j_goto F85 48 dX7_init_100 (by decide) ?_
  refine j_iload F85 dX7_init_48 rfl ?_
  refine j_aload_n F85 dX7_init_50 rfl ?_
  refine m_cVi S (n1 := 0) (rest := [.int 1]) (r_Jx4a65c_size_8abf5 X.l G X.A M108 w1) ⟨_, _, _, _, rfl, (gBV kB_Jx4a65c_size_8abf5 (by decide +kernel)), rfl, rfl, (by decide +kernel), ⟨(Nat.le_of_ble_eq_true rfl), (Nat.le_of_ble_eq_true rfl)⟩⟩ w1 rfl rfl (Nat.le_of_ble_eq_true rfl) (Nat.le_of_ble_eq_true rfl) (Nat.le_of_ble_eq_true rfl) rfl dX7_init_51 (fun v116 M117 hD118 hp119 => ?_)
  obtain ⟨hp119a, hp119b⟩ := hp119
  subst hp119a
  subst hp119b
  refine j_icmp_ge F85 103 dX7_init_54 (by decide) (fun _ => ?_) (fun h9 => absurd (by decide) h9)
  refine j_aload_n F85 dX7_init_103 rfl ?_
  refine m_get S (C := RX7) (T := TX7) (N := 5) (by decide +kernel) w0 rfl (v := .int 2) 2 (by decide) (by decide +kernel) (fun _ h9 => h9) rfl dX7_init_104 ?_
  refine j_if_gt F85 121 dX7_init_107 (by decide) (fun _ => ?_) (fun h9 => absurd (by decide) h9)
  have hKp : Kp M [a] M108 := by
    intro b x hb hx
    have hx := hU1.2 _ _ (fun c => hb (by rw [c]; simp)) hx
    have n120 := (hN7.2 _ _ hx).2
    have hx := (hN7.2 _ _ hx).1
    have hx := hp18.2 _ _ n120 hx
    have hx := hU22.2 _ _ (fun c => hb (by rw [c]; simp)) hx
    have hx := hU28.2 _ _ (fun c => hb (by rw [c]; simp)) hx
    have hx := hU34.2 _ _ (fun c => hb (by rw [c]; simp)) hx
    have n121 := (hN41.2 _ _ hx).2
    have hx := (hN41.2 _ _ hx).1
    have n122 := hp53f _ _ hx
    have n123 : b ∉ [q40] := by
      intro h9; simp only [List.mem_cons, List.not_mem_nil, or_false] at h9
      · exact n121 h9
    have hx := hp53k b x n123 hx
    have n124 := hp70f _ _ hx
    have n125 : b ∉ [q6] := by
      intro h9; simp only [List.mem_cons, List.not_mem_nil, or_false] at h9
      · exact n120 h9
    have hx := hp70k b x n125 hx
    have hx := hU98.2 _ _ (fun c => hb (by rw [c]; simp)) hx
    have hx := hU107.2 _ _ (fun c => hb (by rw [c]; simp)) hx
    exact hx
  exact m_return S hRT rfl hQ (Nat.le_of_ble_eq_true rfl) (Nat.le_of_ble_eq_true rfl) dX7_init_121 ⟨_, w0, hKp⟩

set_option maxRecDepth 100000 in
set_option maxHeartbeats 4000000 in
theorem r_X7_initD (l : Launch) (G : RG) (A : Nat → Prop) (M : Wl) {a mo t te : Nat} (p k9 : Nat) (hk9 : k9 < 256) (j : Nat) (hj1 : 22 ≤ j) (hj2 : j ≤ 33) (hv : vb_c k9 = nI j) (w0 : (a, .inr (7, [.int 0, .null, .int 0, .int 0, .null])) ∈ M) (w1 : (t, .inr (10, [.int 1, .ref te, .int 1])) ∈ M) (w2 : (te, .inl (G.cO, 1, .inr (.inr (.inr (.inr (va_up (fun _ => none) 0 (some (G.bx k9)))))))) ∈ M) : Kr l G A yX7_init wbX7_init { frames := 5, cells := 4, slots := 17, locals := 108 } M [.ref a, .ref mo, .int (nI p), .ref t] (Gv G A (fun N => ∃ g : Nat, (a, (.inr (7, [.int (nI p), .ref g, .int 1, .int 0, .ref mo]) : va_E)) ∈ N ∧ Kp M [a] N)) 4 17 := by
  refine Kr.of (cc := cX7_init) (maxL := 5) (ret := none) (by decide) rfl (Nat.le_of_ble_eq_true rfl) ?_
  intro X hXl S hRT hIN hXA hQ hD
  subst hXl
  subst hXA
  show J (X.at 0 0) 5 (PL G.Z X.A M) 0 [some (.ref a), some (.ref mo), some (.int (nI p)), some (.ref t), none] []
  have F0 := S.1.at 0 0 (Nat.le_of_ble_eq_true rfl) (Nat.le_of_ble_eq_true rfl)
  have hOR := S.2.1.or
  have hb0 := w0
  refine j_aload_n F0 dX7_init_0 rfl ?_
  refine j_aload_n F0 dX7_init_1 rfl ?_
  refine m_putF S (C := RX7) (T := TX7) (N := 5) (v := .ref mo) (ty := (.object "TreadleLoomModel")) tyX7 tyX7_ok nmX7 (by decide +kernel) w0 rfl 4 (by decide) (by decide +kernel) (fun _ h9 => h9) rfl (hIN rfl) rfl (by decide +kernel) rfl rfl (Nat.le_of_ble_eq_true rfl) dX7_init_2 (fun M2 hD3 hU1 => ?_)
  have hU1 : Up M a (.inr (7, [.int 0, .null, .int 0, .int 0, .ref mo])) M2 := hU1
  have n4 : t ≠ a := (In.ne hD w1 w0 (by simp))
  have n5 : te ≠ a := (In.ne hD w2 w0 (by simp))
  have w1 := hU1.2 _ _ n4 w1
  have w2 := hU1.2 _ _ n5 w2
  have w0 := hU1.1
  refine j_aload_n F0 dX7_init_5 rfl ?_
  refine m_objInit S (by decide +kernel) (by decide +kernel) (by decide +kernel) (Nat.le_of_ble_eq_true rfl) (Nat.le_of_ble_eq_true rfl) dX7_init_6 ?_
  refine j_aload_n F0 dX7_init_9 rfl ?_
  refine m_new S (C := RJx4a65c) (T := TJx4a65c) (N := 3) (ci := 10) (fs := [.int 0, .null, .int 0]) (by decide +kernel) tyJx4a65c tyJx4a65c_ok (by decide +kernel) (by decide +kernel) (by decide +kernel) rfl (fun j hj => by rcases (show j = 0 ∨ j = 1 ∨ j = 2 by omega) with rfl | rfl | rfl <;> rfl) (Nat.le_of_ble_eq_true rfl) (Nat.le_of_ble_eq_true rfl) dX7_init_10 (fun q6 M8 hD9 hN7 => ?_)
  have n10 := (hN7.2 _ _ w0).2
  have w0 := (hN7.2 _ _ w0).1
  have n11 := (hN7.2 _ _ w1).2
  have w1 := (hN7.2 _ _ w1).1
  have n12 := (hN7.2 _ _ w2).2
  have w2 := (hN7.2 _ _ w2).1
  have h13 := hN7.1
  have F14 := S.1.at 1 3 (Nat.le_of_ble_eq_true rfl) (Nat.le_of_ble_eq_true rfl)
  refine j_dup F14 dX7_init_13 rfl ?_
  refine m_cIv S (n1 := 0) (rest := [.ref q6, .ref a]) (r_Jx4a65c_init_da8c8 X.l G X.A M8 h13) ⟨_, _, _, rfl, (gB kB_Jx4a65c_init_da8c8), rfl, rfl, (by decide +kernel), (by decide +kernel), (by decide +kernel), rfl, (by decide +kernel), ⟨(Nat.le_of_ble_eq_true rfl), (Nat.le_of_ble_eq_true rfl)⟩⟩ rfl (Nat.le_of_ble_eq_true rfl) (Nat.le_of_ble_eq_true rfl) (Nat.le_of_ble_eq_true rfl) rfl dX7_init_14 (fun M16 hD17 hp18 => ?_)
  have n19 : a ≠ q6 := n10
  have n20 : t ≠ q6 := n11
  have n21 : te ≠ q6 := n12
  have w0 := hp18.2 _ _ n19 w0
  have w1 := hp18.2 _ _ n20 w1
  have w2 := hp18.2 _ _ n21 w2
  have h13 := hp18.1
  refine m_putF S (C := RX7) (T := TX7) (N := 5) (v := .ref q6) (ty := (.object "java/util/ArrayList")) tyX7 tyX7_ok nmX7 (by decide +kernel) w0 rfl 1 (by decide) (by decide +kernel) (fun _ h9 => h9) rfl (hIN rfl) rfl (by decide +kernel) rfl rfl (Nat.le_of_ble_eq_true rfl) dX7_init_17 (fun M23 hD24 hU22 => ?_)
  have hU22 : Up M16 a (.inr (7, [.int 0, .ref q6, .int 0, .int 0, .ref mo])) M23 := hU22
  have n25 : t ≠ a := n4
  have n26 : te ≠ a := n5
  have n27 : q6 ≠ a := (Ne.symm n19)
  have w1 := hU22.2 _ _ n25 w1
  have w2 := hU22.2 _ _ n26 w2
  have h13 := hU22.2 _ _ n27 h13
  have w0 := hU22.1
  refine j_aload_n F14 dX7_init_20 rfl ?_
  refine j_iconst F14 (-1) dX7_init_21 (by decide) ?_
  refine m_put S (C := RX7) (T := TX7) (N := 5) (v := .int (-1)) (ty := .int) tyX7 tyX7_ok nmX7 (by decide +kernel) w0 rfl 3 (by decide) (by decide +kernel) (fun _ h9 => h9) rfl (by decide +kernel) rfl rfl (Nat.le_of_ble_eq_true rfl) dX7_init_22 (fun M29 hD30 hU28 => ?_)
  have hU28 : Up M23 a (.inr (7, [.int 0, .ref q6, .int 0, .int (-1), .ref mo])) M29 := hU28
  have n31 : t ≠ a := n25
  have n32 : te ≠ a := n26
  have n33 : q6 ≠ a := n27
  have w1 := hU28.2 _ _ n31 w1
  have w2 := hU28.2 _ _ n32 w2
  have h13 := hU28.2 _ _ n33 h13
  have w0 := hU28.1
  refine j_aload_n F14 dX7_init_25 rfl ?_
  refine j_iload_n F14 dX7_init_26 rfl ?_
  refine m_putF S (C := RX7) (T := TX7) (N := 5) (v := .int (nI p)) (ty := .int) tyX7 tyX7_ok nmX7 (by decide +kernel) w0 rfl 0 (by decide) (by decide +kernel) (fun _ h9 => h9) rfl (hIN rfl) rfl (by decide +kernel) rfl rfl (Nat.le_of_ble_eq_true rfl) dX7_init_27 (fun M35 hD36 hU34 => ?_)
  have hU34 : Up M29 a (.inr (7, [.int (nI p), .ref q6, .int 0, .int (-1), .ref mo])) M35 := hU34
  have n37 : t ≠ a := n31
  have n38 : te ≠ a := n32
  have n39 : q6 ≠ a := n33
  have w1 := hU34.2 _ _ n37 w1
  have w2 := hU34.2 _ _ n38 w2
  have h13 := hU34.2 _ _ n39 h13
  have w0 := hU34.1
  refine j_aload_n F14 dX7_init_30 rfl ?_
  refine m_get S (C := RX7) (T := TX7) (N := 5) (by decide +kernel) w0 rfl (v := .ref q6) 1 (by decide) (by decide +kernel) (fun _ h9 => h9) rfl dX7_init_31 ?_
  refine m_new S (C := RX6) (T := TX6) (N := 1) (ci := 6) (fs := [.null]) (by decide +kernel) tyX6 tyX6_ok (by decide +kernel) (by decide +kernel) (by decide +kernel) rfl (fun j hj => by rcases (show j = 0 by omega) with rfl <;> rfl) (Nat.le_of_ble_eq_true rfl) (Nat.le_of_ble_eq_true rfl) dX7_init_34 (fun q40 M42 hD43 hN41 => ?_)
  have n44 := (hN41.2 _ _ w0).2
  have w0 := (hN41.2 _ _ w0).1
  have n45 := (hN41.2 _ _ w1).2
  have w1 := (hN41.2 _ _ w1).1
  have n46 := (hN41.2 _ _ w2).2
  have w2 := (hN41.2 _ _ w2).1
  have n47 := (hN41.2 _ _ h13).2
  have h13 := (hN41.2 _ _ h13).1
  have h48 := hN41.1
  have F49 := S.1.at 2 4 (Nat.le_of_ble_eq_true rfl) (Nat.le_of_ble_eq_true rfl)
  refine j_dup F49 dX7_init_37 rfl ?_
  refine m_cINv S (n1 := 0) (rest := [.ref q40, .ref q6]) (r_X6_init X.l G X.A M42 h48) ⟨_, _, _, _, 1, rfl, rfl, (gB kB_X6_init), rfl, rfl, (by decide +kernel), (by decide +kernel), ⟨(Nat.le_of_ble_eq_true rfl), (Nat.le_of_ble_eq_true rfl)⟩⟩ rfl (by decide +kernel) rfl (Nat.le_of_ble_eq_true rfl) (Nat.le_of_ble_eq_true rfl) (Nat.le_of_ble_eq_true rfl) rfl dX7_init_38 (fun M51 hD52 hp53 => ?_)
  obtain ⟨q54, hp53a, hp53b, hp53k, hp53f⟩ := hp53
  have n55 := hp53f _ _ w0
  have n56 := hp53f _ _ w1
  have n57 := hp53f _ _ w2
  have n58 := hp53f _ _ h13
  have n59 := hp53f _ _ h48
  have n60 : a ∉ [q40] := by
    intro h9; simp only [List.mem_cons, List.not_mem_nil, or_false] at h9
    · exact n44 h9
  have n61 : t ∉ [q40] := by
    intro h9; simp only [List.mem_cons, List.not_mem_nil, or_false] at h9
    · exact n45 h9
  have n62 : te ∉ [q40] := by
    intro h9; simp only [List.mem_cons, List.not_mem_nil, or_false] at h9
    · exact n46 h9
  have n63 : q6 ∉ [q40] := by
    intro h9; simp only [List.mem_cons, List.not_mem_nil, or_false] at h9
    · exact n47 h9
  have w0 := hp53k _ _ n60 w0
  have w1 := hp53k _ _ n61 w1
  have w2 := hp53k _ _ n62 w2
  have h13 := hp53k _ _ n63 h13
  have h64 : (q40, (.inr (6, [.ref q54]) : va_E)) ∈ M51 := hp53a
  have h65 : (q54, (.inr (10, [.int 0, .ref G.e0, .int 0]) : va_E)) ∈ M51 := hp53b
  have F66 := S.1.at 3 7 (Nat.le_of_ble_eq_true rfl) (Nat.le_of_ble_eq_true rfl)
  refine m_cVi S (n1 := 1) (rest := []) (r_Jx4a65c_add_9ea2d X.l G X.A M51 q40 (Or.inl ⟨_, _, (RX6, TX6, 1), h64, rfl, .tail _ (.head _)⟩) (Ne.symm n47) h13) ⟨_, _, _, _, rfl, (gBV kB_Jx4a65c_add_9ea2d (by decide +kernel)), rfl, rfl, (by decide +kernel), ⟨(Nat.le_of_ble_eq_true rfl), (Nat.le_of_ble_eq_true rfl)⟩⟩ h13 rfl rfl (Nat.le_of_ble_eq_true rfl) (Nat.le_of_ble_eq_true rfl) (Nat.le_of_ble_eq_true rfl) rfl dX7_init_41 (fun v67 M68 hD69 hp70 => ?_)
  obtain ⟨hp70v, hp70⟩ := hp70
  subst hp70v
  rw [show (0 : Int32) + 1 = 1 from by decide] at hp70
  obtain ⟨q71, hp70a, hp70b, hp70k, hp70f⟩ := hp70
  have n72 := hp70f _ _ w0
  have n73 := hp70f _ _ w1
  have n74 := hp70f _ _ w2
  have n75 := hp70f _ _ h13
  have n76 := hp70f _ _ h64
  have n77 := hp70f _ _ h65
  have n78 : a ∉ [q6] := by
    intro h9; simp only [List.mem_cons, List.not_mem_nil, or_false] at h9
    · exact n19 h9
  have n79 : t ∉ [q6] := by
    intro h9; simp only [List.mem_cons, List.not_mem_nil, or_false] at h9
    · exact n20 h9
  have n80 : te ∉ [q6] := by
    intro h9; simp only [List.mem_cons, List.not_mem_nil, or_false] at h9
    · exact n21 h9
  have n81 : q40 ∉ [q6] := by
    intro h9; simp only [List.mem_cons, List.not_mem_nil, or_false] at h9
    · exact (Ne.symm n47) h9
  have n82 : q54 ∉ [q6] := by
    intro h9; simp only [List.mem_cons, List.not_mem_nil, or_false] at h9
    · exact (Ne.symm n58) h9
  have w0 := hp70k _ _ n78 w0
  have w1 := hp70k _ _ n79 w1
  have w2 := hp70k _ _ n80 w2
  have h64 := hp70k _ _ n81 h64
  have h65 := hp70k _ _ n82 h65
  have h83 : (q6, (.inr (10, [.int 1, .ref q71, .int 1]) : va_E)) ∈ M68 := hp70a
  have h84 : (q71, (.inl (G.cO, 10, .inr (.inr (.inr (.inr (va_up (fun _ => none) 0 (some q40)))))) : va_E)) ∈ M68 := hp70b
  have F85 := S.1.at 4 17 (Nat.le_of_ble_eq_true rfl) (Nat.le_of_ble_eq_true rfl)
  refine j_pop F85 dX7_init_44 rfl ?_
  refine j_iconst F85 0 dX7_init_45 (by decide) ?_
  refine j_istore F85 [some (.ref a), some (.ref mo), some (.int (nI p)), some (.ref t), some (.int 0)] dX7_init_46 (by decide) rfl rfl ?_
  refine j_iload F85 dX7_init_48 rfl ?_
  refine j_aload_n F85 dX7_init_50 rfl ?_
  refine m_cVi S (n1 := 0) (rest := [.int 0]) (r_Jx4a65c_size_8abf5 X.l G X.A M68 w1) ⟨_, _, _, _, rfl, (gBV kB_Jx4a65c_size_8abf5 (by decide +kernel)), rfl, rfl, (by decide +kernel), ⟨(Nat.le_of_ble_eq_true rfl), (Nat.le_of_ble_eq_true rfl)⟩⟩ w1 rfl rfl (Nat.le_of_ble_eq_true rfl) (Nat.le_of_ble_eq_true rfl) (Nat.le_of_ble_eq_true rfl) rfl dX7_init_51 (fun v86 M87 hD88 hp89 => ?_)
  obtain ⟨hp89a, hp89b⟩ := hp89
  subst hp89a
  subst hp89b
  refine j_icmp_ge F85 103 dX7_init_54 (by decide) (fun h9 => absurd h9 (by decide)) (fun _ => ?_)
  refine j_aload_n F85 dX7_init_57 rfl ?_
  refine m_get S (C := RX7) (T := TX7) (N := 5) (by decide +kernel) w0 rfl (v := .int 0) 2 (by decide) (by decide +kernel) (fun _ h9 => h9) rfl dX7_init_58 ?_
  refine j_if_ne F85 103 dX7_init_61 (by decide) (fun h9 => absurd (by decide) h9) (fun _ => ?_)
  refine j_aload_n F85 dX7_init_64 rfl ?_
  refine j_aload_n F85 dX7_init_65 rfl ?_
  refine j_aload_n F85 dX7_init_66 rfl ?_
  refine j_iload F85 dX7_init_67 rfl ?_
  refine m_cVr S (n1 := 1) (rest := [.ref a, .ref a]) (r_Jx4a65c_get_915e3 X.l G X.A M68 0 (G.bx k9) (by decide) (by decide) (by unfold vp_in; decide) (by simp [va_up]) w1 w2) ⟨_, _, _, _, rfl, (gBV kB_Jx4a65c_get_915e3 (by decide +kernel)), rfl, rfl, (by decide +kernel), ⟨(Nat.le_of_ble_eq_true rfl), (Nat.le_of_ble_eq_true rfl)⟩⟩ w1 rfl rfl (Nat.le_of_ble_eq_true rfl) (Nat.le_of_ble_eq_true rfl) (Nat.le_of_ble_eq_true rfl) rfl dX7_init_69 (fun v90 M91 hD92 hp93 => ?_)
  obtain ⟨hp93a, hp93b⟩ := hp93
  subst hp93a
  subst hp93b
  refine m_castBx S hk9 (by decide +kernel) dX7_init_72 ?_
  refine m_cBx S hk9 (x := nI j) hv ⟨_, _, _, _, rfl, (gBV kB_J6_intValue_8abf5 (by decide +kernel)), rfl, rfl, (by decide +kernel), ⟨(Nat.le_of_ble_eq_true rfl), (Nat.le_of_ble_eq_true rfl)⟩⟩ (Nat.le_of_ble_eq_true rfl) (Nat.le_of_ble_eq_true rfl) (Nat.le_of_ble_eq_true rfl) dX7_init_75 ?_
  refine m_cVi S (n1 := 1) (rest := [.ref a]) (r_X7_readD X.l G X.A M68 p j hj1 hj2 w0 h83 h84 h64 h65) ⟨_, _, _, _, rfl, (gBV kB_X7_read (by decide +kernel)), rfl, rfl, (by decide +kernel), ⟨(Nat.le_of_ble_eq_true rfl), (Nat.le_of_ble_eq_true rfl)⟩⟩ w0 rfl rfl (Nat.le_of_ble_eq_true rfl) (Nat.le_of_ble_eq_true rfl) (Nat.le_of_ble_eq_true rfl) rfl dX7_init_78 (fun v94 M95 hD96 hp97 => ?_)
  obtain ⟨hp97a, hp97b⟩ := hp97
  subst hp97a
  subst hp97b
  refine m_put S (C := RX7) (T := TX7) (N := 5) (v := .int 1) (ty := .int) tyX7 tyX7_ok nmX7 (by decide +kernel) w0 rfl 2 (by decide) (by decide +kernel) (fun _ h9 => h9) rfl (by decide +kernel) rfl rfl (Nat.le_of_ble_eq_true rfl) dX7_init_81 (fun M99 hD100 hU98 => ?_)
  have hU98 : Up M68 a (.inr (7, [.int (nI p), .ref q6, .int 1, .int (-1), .ref mo])) M99 := hU98
  have n101 : t ≠ a := n37
  have n102 : te ≠ a := n38
  have n103 : q40 ≠ a := (Ne.symm n44)
  have n104 : q54 ≠ a := (Ne.symm n55)
  have n105 : q6 ≠ a := n39
  have n106 : q71 ≠ a := (Ne.symm n72)
  have w1 := hU98.2 _ _ n101 w1
  have w2 := hU98.2 _ _ n102 w2
  have h64 := hU98.2 _ _ n103 h64
  have h65 := hU98.2 _ _ n104 h65
  have h83 := hU98.2 _ _ n105 h83
  have h84 := hU98.2 _ _ n106 h84
  have w0 := hU98.1
  refine j_aload_n F85 dX7_init_84 rfl ?_
  refine m_get S (C := RX7) (T := TX7) (N := 5) (by decide +kernel) w0 rfl (v := .int 1) 2 (by decide) (by decide +kernel) (fun _ h9 => h9) rfl dX7_init_85 ?_
  refine j_if_le F85 97 dX7_init_88 (by decide) (fun h9 => absurd h9 (by decide)) (fun _ => ?_)
  refine j_aload_n F85 dX7_init_91 rfl ?_
  refine j_iload F85 dX7_init_92 rfl ?_
  refine m_put S (C := RX7) (T := TX7) (N := 5) (v := .int 0) (ty := .int) tyX7 tyX7_ok nmX7 (by decide +kernel) w0 rfl 3 (by decide) (by decide +kernel) (fun _ h9 => h9) rfl (by decide +kernel) rfl rfl (Nat.le_of_ble_eq_true rfl) dX7_init_94 (fun M108 hD109 hU107 => ?_)
  have hU107 : Up M99 a (.inr (7, [.int (nI p), .ref q6, .int 1, .int 0, .ref mo])) M108 := hU107
  have n110 : t ≠ a := n101
  have n111 : te ≠ a := n102
  have n112 : q40 ≠ a := n103
  have n113 : q54 ≠ a := n104
  have n114 : q6 ≠ a := n105
  have n115 : q71 ≠ a := n106
  have w1 := hU107.2 _ _ n110 w1
  have w2 := hU107.2 _ _ n111 w2
  have h64 := hU107.2 _ _ n112 h64
  have h65 := hU107.2 _ _ n113 h65
  have h83 := hU107.2 _ _ n114 h83
  have h84 := hU107.2 _ _ n115 h84
  have w0 := hU107.1
  refine j_iinc F85 1 [some (.ref a), some (.ref mo), some (.int (nI p)), some (.ref t), some (.int 1)] dX7_init_97 rfl (by decide) (by decide) rfl rfl ?_
  refine j_goto F85 48 dX7_init_100 (by decide) ?_
  refine j_iload F85 dX7_init_48 rfl ?_
  refine j_aload_n F85 dX7_init_50 rfl ?_
  refine m_cVi S (n1 := 0) (rest := [.int 1]) (r_Jx4a65c_size_8abf5 X.l G X.A M108 w1) ⟨_, _, _, _, rfl, (gBV kB_Jx4a65c_size_8abf5 (by decide +kernel)), rfl, rfl, (by decide +kernel), ⟨(Nat.le_of_ble_eq_true rfl), (Nat.le_of_ble_eq_true rfl)⟩⟩ w1 rfl rfl (Nat.le_of_ble_eq_true rfl) (Nat.le_of_ble_eq_true rfl) (Nat.le_of_ble_eq_true rfl) rfl dX7_init_51 (fun v116 M117 hD118 hp119 => ?_)
  obtain ⟨hp119a, hp119b⟩ := hp119
  subst hp119a
  subst hp119b
  refine j_icmp_ge F85 103 dX7_init_54 (by decide) (fun _ => ?_) (fun h9 => absurd (by decide) h9)
  refine j_aload_n F85 dX7_init_103 rfl ?_
  refine m_get S (C := RX7) (T := TX7) (N := 5) (by decide +kernel) w0 rfl (v := .int 1) 2 (by decide) (by decide +kernel) (fun _ h9 => h9) rfl dX7_init_104 ?_
  refine j_if_gt F85 121 dX7_init_107 (by decide) (fun _ => ?_) (fun h9 => absurd (by decide) h9)
  have hKp : Kp M [a] M108 := by
    intro b x hb hx
    have hx := hU1.2 _ _ (fun c => hb (by rw [c]; simp)) hx
    have n120 := (hN7.2 _ _ hx).2
    have hx := (hN7.2 _ _ hx).1
    have hx := hp18.2 _ _ n120 hx
    have hx := hU22.2 _ _ (fun c => hb (by rw [c]; simp)) hx
    have hx := hU28.2 _ _ (fun c => hb (by rw [c]; simp)) hx
    have hx := hU34.2 _ _ (fun c => hb (by rw [c]; simp)) hx
    have n121 := (hN41.2 _ _ hx).2
    have hx := (hN41.2 _ _ hx).1
    have n122 := hp53f _ _ hx
    have n123 : b ∉ [q40] := by
      intro h9; simp only [List.mem_cons, List.not_mem_nil, or_false] at h9
      · exact n121 h9
    have hx := hp53k b x n123 hx
    have n124 := hp70f _ _ hx
    have n125 : b ∉ [q6] := by
      intro h9; simp only [List.mem_cons, List.not_mem_nil, or_false] at h9
      · exact n120 h9
    have hx := hp70k b x n125 hx
    have hx := hU98.2 _ _ (fun c => hb (by rw [c]; simp)) hx
    have hx := hU107.2 _ _ (fun c => hb (by rw [c]; simp)) hx
    exact hx
  exact m_return S hRT rfl hQ (Nat.le_of_ble_eq_true rfl) (Nat.le_of_ble_eq_true rfl) dX7_init_121 ⟨_, w0, hKp⟩

set_option maxRecDepth 100000 in
set_option maxHeartbeats 4000000 in
theorem r_X7_initN (l : Launch) (G : RG) (A : Nat → Prop) (M : Wl) {a mo t te : Nat} (p k9 : Nat) (hk9 : k9 < 256) (j : Nat) (hp4 : 4 ≤ p) (hp : p < 10) (hpj : p ≤ j - 40) (hj1 : 44 ≤ j) (hj2 : j ≤ 49) (hv : vb_c k9 = nI j) (w0 : (a, .inr (7, [.int 0, .null, .int 0, .int 0, .null])) ∈ M) (w1 : (t, .inr (10, [.int 1, .ref te, .int 1])) ∈ M) (w2 : (te, .inl (G.cO, 1, .inr (.inr (.inr (.inr (va_up (fun _ => none) 0 (some (G.bx k9)))))))) ∈ M) : Kr l G A yX7_init wbX7_init { frames := 5, cells := 4, slots := 17, locals := 108 } M [.ref a, .ref mo, .int (nI p), .ref t] (Gv G A (fun N => ∃ g : Nat, (a, (.inr (7, [.int (nI p), .ref g, .int 4, .int 0, .ref mo]) : va_E)) ∈ N ∧ Kp M [a] N)) 4 17 := by
  refine Kr.of (cc := cX7_init) (maxL := 5) (ret := none) (by decide) rfl (Nat.le_of_ble_eq_true rfl) ?_
  intro X hXl S hRT hIN hXA hQ hD
  subst hXl
  subst hXA
  show J (X.at 0 0) 5 (PL G.Z X.A M) 0 [some (.ref a), some (.ref mo), some (.int (nI p)), some (.ref t), none] []
  have F0 := S.1.at 0 0 (Nat.le_of_ble_eq_true rfl) (Nat.le_of_ble_eq_true rfl)
  have hOR := S.2.1.or
  have hb0 := w0
  refine j_aload_n F0 dX7_init_0 rfl ?_
  refine j_aload_n F0 dX7_init_1 rfl ?_
  refine m_putF S (C := RX7) (T := TX7) (N := 5) (v := .ref mo) (ty := (.object "TreadleLoomModel")) tyX7 tyX7_ok nmX7 (by decide +kernel) w0 rfl 4 (by decide) (by decide +kernel) (fun _ h9 => h9) rfl (hIN rfl) rfl (by decide +kernel) rfl rfl (Nat.le_of_ble_eq_true rfl) dX7_init_2 (fun M2 hD3 hU1 => ?_)
  have hU1 : Up M a (.inr (7, [.int 0, .null, .int 0, .int 0, .ref mo])) M2 := hU1
  have n4 : t ≠ a := (In.ne hD w1 w0 (by simp))
  have n5 : te ≠ a := (In.ne hD w2 w0 (by simp))
  have w1 := hU1.2 _ _ n4 w1
  have w2 := hU1.2 _ _ n5 w2
  have w0 := hU1.1
  refine j_aload_n F0 dX7_init_5 rfl ?_
  refine m_objInit S (by decide +kernel) (by decide +kernel) (by decide +kernel) (Nat.le_of_ble_eq_true rfl) (Nat.le_of_ble_eq_true rfl) dX7_init_6 ?_
  refine j_aload_n F0 dX7_init_9 rfl ?_
  refine m_new S (C := RJx4a65c) (T := TJx4a65c) (N := 3) (ci := 10) (fs := [.int 0, .null, .int 0]) (by decide +kernel) tyJx4a65c tyJx4a65c_ok (by decide +kernel) (by decide +kernel) (by decide +kernel) rfl (fun j hj => by rcases (show j = 0 ∨ j = 1 ∨ j = 2 by omega) with rfl | rfl | rfl <;> rfl) (Nat.le_of_ble_eq_true rfl) (Nat.le_of_ble_eq_true rfl) dX7_init_10 (fun q6 M8 hD9 hN7 => ?_)
  have n10 := (hN7.2 _ _ w0).2
  have w0 := (hN7.2 _ _ w0).1
  have n11 := (hN7.2 _ _ w1).2
  have w1 := (hN7.2 _ _ w1).1
  have n12 := (hN7.2 _ _ w2).2
  have w2 := (hN7.2 _ _ w2).1
  have h13 := hN7.1
  have F14 := S.1.at 1 3 (Nat.le_of_ble_eq_true rfl) (Nat.le_of_ble_eq_true rfl)
  refine j_dup F14 dX7_init_13 rfl ?_
  refine m_cIv S (n1 := 0) (rest := [.ref q6, .ref a]) (r_Jx4a65c_init_da8c8 X.l G X.A M8 h13) ⟨_, _, _, rfl, (gB kB_Jx4a65c_init_da8c8), rfl, rfl, (by decide +kernel), (by decide +kernel), (by decide +kernel), rfl, (by decide +kernel), ⟨(Nat.le_of_ble_eq_true rfl), (Nat.le_of_ble_eq_true rfl)⟩⟩ rfl (Nat.le_of_ble_eq_true rfl) (Nat.le_of_ble_eq_true rfl) (Nat.le_of_ble_eq_true rfl) rfl dX7_init_14 (fun M16 hD17 hp18 => ?_)
  have n19 : a ≠ q6 := n10
  have n20 : t ≠ q6 := n11
  have n21 : te ≠ q6 := n12
  have w0 := hp18.2 _ _ n19 w0
  have w1 := hp18.2 _ _ n20 w1
  have w2 := hp18.2 _ _ n21 w2
  have h13 := hp18.1
  refine m_putF S (C := RX7) (T := TX7) (N := 5) (v := .ref q6) (ty := (.object "java/util/ArrayList")) tyX7 tyX7_ok nmX7 (by decide +kernel) w0 rfl 1 (by decide) (by decide +kernel) (fun _ h9 => h9) rfl (hIN rfl) rfl (by decide +kernel) rfl rfl (Nat.le_of_ble_eq_true rfl) dX7_init_17 (fun M23 hD24 hU22 => ?_)
  have hU22 : Up M16 a (.inr (7, [.int 0, .ref q6, .int 0, .int 0, .ref mo])) M23 := hU22
  have n25 : t ≠ a := n4
  have n26 : te ≠ a := n5
  have n27 : q6 ≠ a := (Ne.symm n19)
  have w1 := hU22.2 _ _ n25 w1
  have w2 := hU22.2 _ _ n26 w2
  have h13 := hU22.2 _ _ n27 h13
  have w0 := hU22.1
  refine j_aload_n F14 dX7_init_20 rfl ?_
  refine j_iconst F14 (-1) dX7_init_21 (by decide) ?_
  refine m_put S (C := RX7) (T := TX7) (N := 5) (v := .int (-1)) (ty := .int) tyX7 tyX7_ok nmX7 (by decide +kernel) w0 rfl 3 (by decide) (by decide +kernel) (fun _ h9 => h9) rfl (by decide +kernel) rfl rfl (Nat.le_of_ble_eq_true rfl) dX7_init_22 (fun M29 hD30 hU28 => ?_)
  have hU28 : Up M23 a (.inr (7, [.int 0, .ref q6, .int 0, .int (-1), .ref mo])) M29 := hU28
  have n31 : t ≠ a := n25
  have n32 : te ≠ a := n26
  have n33 : q6 ≠ a := n27
  have w1 := hU28.2 _ _ n31 w1
  have w2 := hU28.2 _ _ n32 w2
  have h13 := hU28.2 _ _ n33 h13
  have w0 := hU28.1
  refine j_aload_n F14 dX7_init_25 rfl ?_
  refine j_iload_n F14 dX7_init_26 rfl ?_
  refine m_putF S (C := RX7) (T := TX7) (N := 5) (v := .int (nI p)) (ty := .int) tyX7 tyX7_ok nmX7 (by decide +kernel) w0 rfl 0 (by decide) (by decide +kernel) (fun _ h9 => h9) rfl (hIN rfl) rfl (by decide +kernel) rfl rfl (Nat.le_of_ble_eq_true rfl) dX7_init_27 (fun M35 hD36 hU34 => ?_)
  have hU34 : Up M29 a (.inr (7, [.int (nI p), .ref q6, .int 0, .int (-1), .ref mo])) M35 := hU34
  have n37 : t ≠ a := n31
  have n38 : te ≠ a := n32
  have n39 : q6 ≠ a := n33
  have w1 := hU34.2 _ _ n37 w1
  have w2 := hU34.2 _ _ n38 w2
  have h13 := hU34.2 _ _ n39 h13
  have w0 := hU34.1
  refine j_aload_n F14 dX7_init_30 rfl ?_
  refine m_get S (C := RX7) (T := TX7) (N := 5) (by decide +kernel) w0 rfl (v := .ref q6) 1 (by decide) (by decide +kernel) (fun _ h9 => h9) rfl dX7_init_31 ?_
  refine m_new S (C := RX6) (T := TX6) (N := 1) (ci := 6) (fs := [.null]) (by decide +kernel) tyX6 tyX6_ok (by decide +kernel) (by decide +kernel) (by decide +kernel) rfl (fun j hj => by rcases (show j = 0 by omega) with rfl <;> rfl) (Nat.le_of_ble_eq_true rfl) (Nat.le_of_ble_eq_true rfl) dX7_init_34 (fun q40 M42 hD43 hN41 => ?_)
  have n44 := (hN41.2 _ _ w0).2
  have w0 := (hN41.2 _ _ w0).1
  have n45 := (hN41.2 _ _ w1).2
  have w1 := (hN41.2 _ _ w1).1
  have n46 := (hN41.2 _ _ w2).2
  have w2 := (hN41.2 _ _ w2).1
  have n47 := (hN41.2 _ _ h13).2
  have h13 := (hN41.2 _ _ h13).1
  have h48 := hN41.1
  have F49 := S.1.at 2 4 (Nat.le_of_ble_eq_true rfl) (Nat.le_of_ble_eq_true rfl)
  refine j_dup F49 dX7_init_37 rfl ?_
  refine m_cINv S (n1 := 0) (rest := [.ref q40, .ref q6]) (r_X6_init X.l G X.A M42 h48) ⟨_, _, _, _, 1, rfl, rfl, (gB kB_X6_init), rfl, rfl, (by decide +kernel), (by decide +kernel), ⟨(Nat.le_of_ble_eq_true rfl), (Nat.le_of_ble_eq_true rfl)⟩⟩ rfl (by decide +kernel) rfl (Nat.le_of_ble_eq_true rfl) (Nat.le_of_ble_eq_true rfl) (Nat.le_of_ble_eq_true rfl) rfl dX7_init_38 (fun M51 hD52 hp53 => ?_)
  obtain ⟨q54, hp53a, hp53b, hp53k, hp53f⟩ := hp53
  have n55 := hp53f _ _ w0
  have n56 := hp53f _ _ w1
  have n57 := hp53f _ _ w2
  have n58 := hp53f _ _ h13
  have n59 := hp53f _ _ h48
  have n60 : a ∉ [q40] := by
    intro h9; simp only [List.mem_cons, List.not_mem_nil, or_false] at h9
    · exact n44 h9
  have n61 : t ∉ [q40] := by
    intro h9; simp only [List.mem_cons, List.not_mem_nil, or_false] at h9
    · exact n45 h9
  have n62 : te ∉ [q40] := by
    intro h9; simp only [List.mem_cons, List.not_mem_nil, or_false] at h9
    · exact n46 h9
  have n63 : q6 ∉ [q40] := by
    intro h9; simp only [List.mem_cons, List.not_mem_nil, or_false] at h9
    · exact n47 h9
  have w0 := hp53k _ _ n60 w0
  have w1 := hp53k _ _ n61 w1
  have w2 := hp53k _ _ n62 w2
  have h13 := hp53k _ _ n63 h13
  have h64 : (q40, (.inr (6, [.ref q54]) : va_E)) ∈ M51 := hp53a
  have h65 : (q54, (.inr (10, [.int 0, .ref G.e0, .int 0]) : va_E)) ∈ M51 := hp53b
  have F66 := S.1.at 3 7 (Nat.le_of_ble_eq_true rfl) (Nat.le_of_ble_eq_true rfl)
  refine m_cVi S (n1 := 1) (rest := []) (r_Jx4a65c_add_9ea2d X.l G X.A M51 q40 (Or.inl ⟨_, _, (RX6, TX6, 1), h64, rfl, .tail _ (.head _)⟩) (Ne.symm n47) h13) ⟨_, _, _, _, rfl, (gBV kB_Jx4a65c_add_9ea2d (by decide +kernel)), rfl, rfl, (by decide +kernel), ⟨(Nat.le_of_ble_eq_true rfl), (Nat.le_of_ble_eq_true rfl)⟩⟩ h13 rfl rfl (Nat.le_of_ble_eq_true rfl) (Nat.le_of_ble_eq_true rfl) (Nat.le_of_ble_eq_true rfl) rfl dX7_init_41 (fun v67 M68 hD69 hp70 => ?_)
  obtain ⟨hp70v, hp70⟩ := hp70
  subst hp70v
  rw [show (0 : Int32) + 1 = 1 from by decide] at hp70
  obtain ⟨q71, hp70a, hp70b, hp70k, hp70f⟩ := hp70
  have n72 := hp70f _ _ w0
  have n73 := hp70f _ _ w1
  have n74 := hp70f _ _ w2
  have n75 := hp70f _ _ h13
  have n76 := hp70f _ _ h64
  have n77 := hp70f _ _ h65
  have n78 : a ∉ [q6] := by
    intro h9; simp only [List.mem_cons, List.not_mem_nil, or_false] at h9
    · exact n19 h9
  have n79 : t ∉ [q6] := by
    intro h9; simp only [List.mem_cons, List.not_mem_nil, or_false] at h9
    · exact n20 h9
  have n80 : te ∉ [q6] := by
    intro h9; simp only [List.mem_cons, List.not_mem_nil, or_false] at h9
    · exact n21 h9
  have n81 : q40 ∉ [q6] := by
    intro h9; simp only [List.mem_cons, List.not_mem_nil, or_false] at h9
    · exact (Ne.symm n47) h9
  have n82 : q54 ∉ [q6] := by
    intro h9; simp only [List.mem_cons, List.not_mem_nil, or_false] at h9
    · exact (Ne.symm n58) h9
  have w0 := hp70k _ _ n78 w0
  have w1 := hp70k _ _ n79 w1
  have w2 := hp70k _ _ n80 w2
  have h64 := hp70k _ _ n81 h64
  have h65 := hp70k _ _ n82 h65
  have h83 : (q6, (.inr (10, [.int 1, .ref q71, .int 1]) : va_E)) ∈ M68 := hp70a
  have h84 : (q71, (.inl (G.cO, 10, .inr (.inr (.inr (.inr (va_up (fun _ => none) 0 (some q40)))))) : va_E)) ∈ M68 := hp70b
  have F85 := S.1.at 4 17 (Nat.le_of_ble_eq_true rfl) (Nat.le_of_ble_eq_true rfl)
  refine j_pop F85 dX7_init_44 rfl ?_
  refine j_iconst F85 0 dX7_init_45 (by decide) ?_
  refine j_istore F85 [some (.ref a), some (.ref mo), some (.int (nI p)), some (.ref t), some (.int 0)] dX7_init_46 (by decide) rfl rfl ?_
  refine j_iload F85 dX7_init_48 rfl ?_
  refine j_aload_n F85 dX7_init_50 rfl ?_
  refine m_cVi S (n1 := 0) (rest := [.int 0]) (r_Jx4a65c_size_8abf5 X.l G X.A M68 w1) ⟨_, _, _, _, rfl, (gBV kB_Jx4a65c_size_8abf5 (by decide +kernel)), rfl, rfl, (by decide +kernel), ⟨(Nat.le_of_ble_eq_true rfl), (Nat.le_of_ble_eq_true rfl)⟩⟩ w1 rfl rfl (Nat.le_of_ble_eq_true rfl) (Nat.le_of_ble_eq_true rfl) (Nat.le_of_ble_eq_true rfl) rfl dX7_init_51 (fun v86 M87 hD88 hp89 => ?_)
  obtain ⟨hp89a, hp89b⟩ := hp89
  subst hp89a
  subst hp89b
  refine j_icmp_ge F85 103 dX7_init_54 (by decide) (fun h9 => absurd h9 (by decide)) (fun _ => ?_)
  refine j_aload_n F85 dX7_init_57 rfl ?_
  refine m_get S (C := RX7) (T := TX7) (N := 5) (by decide +kernel) w0 rfl (v := .int 0) 2 (by decide) (by decide +kernel) (fun _ h9 => h9) rfl dX7_init_58 ?_
  refine j_if_ne F85 103 dX7_init_61 (by decide) (fun h9 => absurd (by decide) h9) (fun _ => ?_)
  refine j_aload_n F85 dX7_init_64 rfl ?_
  refine j_aload_n F85 dX7_init_65 rfl ?_
  refine j_aload_n F85 dX7_init_66 rfl ?_
  refine j_iload F85 dX7_init_67 rfl ?_
  refine m_cVr S (n1 := 1) (rest := [.ref a, .ref a]) (r_Jx4a65c_get_915e3 X.l G X.A M68 0 (G.bx k9) (by decide) (by decide) (by unfold vp_in; decide) (by simp [va_up]) w1 w2) ⟨_, _, _, _, rfl, (gBV kB_Jx4a65c_get_915e3 (by decide +kernel)), rfl, rfl, (by decide +kernel), ⟨(Nat.le_of_ble_eq_true rfl), (Nat.le_of_ble_eq_true rfl)⟩⟩ w1 rfl rfl (Nat.le_of_ble_eq_true rfl) (Nat.le_of_ble_eq_true rfl) (Nat.le_of_ble_eq_true rfl) rfl dX7_init_69 (fun v90 M91 hD92 hp93 => ?_)
  obtain ⟨hp93a, hp93b⟩ := hp93
  subst hp93a
  subst hp93b
  refine m_castBx S hk9 (by decide +kernel) dX7_init_72 ?_
  refine m_cBx S hk9 (x := nI j) hv ⟨_, _, _, _, rfl, (gBV kB_J6_intValue_8abf5 (by decide +kernel)), rfl, rfl, (by decide +kernel), ⟨(Nat.le_of_ble_eq_true rfl), (Nat.le_of_ble_eq_true rfl)⟩⟩ (Nat.le_of_ble_eq_true rfl) (Nat.le_of_ble_eq_true rfl) (Nat.le_of_ble_eq_true rfl) dX7_init_75 ?_
  refine m_cVi S (n1 := 1) (rest := [.ref a]) (r_X7_readN X.l G X.A M68 p j hp4 hp hpj hj1 hj2 w0 h83 h84 h64 h65) ⟨_, _, _, _, rfl, (gBV kB_X7_read (by decide +kernel)), rfl, rfl, (by decide +kernel), ⟨(Nat.le_of_ble_eq_true rfl), (Nat.le_of_ble_eq_true rfl)⟩⟩ w0 rfl rfl (Nat.le_of_ble_eq_true rfl) (Nat.le_of_ble_eq_true rfl) (Nat.le_of_ble_eq_true rfl) rfl dX7_init_78 (fun v94 M95 hD96 hp97 => ?_)
  obtain ⟨hp97a, hp97b⟩ := hp97
  subst hp97a
  subst hp97b
  refine m_put S (C := RX7) (T := TX7) (N := 5) (v := .int 4) (ty := .int) tyX7 tyX7_ok nmX7 (by decide +kernel) w0 rfl 2 (by decide) (by decide +kernel) (fun _ h9 => h9) rfl (by decide +kernel) rfl rfl (Nat.le_of_ble_eq_true rfl) dX7_init_81 (fun M99 hD100 hU98 => ?_)
  have hU98 : Up M68 a (.inr (7, [.int (nI p), .ref q6, .int 4, .int (-1), .ref mo])) M99 := hU98
  have n101 : t ≠ a := n37
  have n102 : te ≠ a := n38
  have n103 : q40 ≠ a := (Ne.symm n44)
  have n104 : q54 ≠ a := (Ne.symm n55)
  have n105 : q6 ≠ a := n39
  have n106 : q71 ≠ a := (Ne.symm n72)
  have w1 := hU98.2 _ _ n101 w1
  have w2 := hU98.2 _ _ n102 w2
  have h64 := hU98.2 _ _ n103 h64
  have h65 := hU98.2 _ _ n104 h65
  have h83 := hU98.2 _ _ n105 h83
  have h84 := hU98.2 _ _ n106 h84
  have w0 := hU98.1
  refine j_aload_n F85 dX7_init_84 rfl ?_
  refine m_get S (C := RX7) (T := TX7) (N := 5) (by decide +kernel) w0 rfl (v := .int 4) 2 (by decide) (by decide +kernel) (fun _ h9 => h9) rfl dX7_init_85 ?_
  refine j_if_le F85 97 dX7_init_88 (by decide) (fun h9 => absurd h9 (by decide)) (fun _ => ?_)
  refine j_aload_n F85 dX7_init_91 rfl ?_
  refine j_iload F85 dX7_init_92 rfl ?_
  refine m_put S (C := RX7) (T := TX7) (N := 5) (v := .int 0) (ty := .int) tyX7 tyX7_ok nmX7 (by decide +kernel) w0 rfl 3 (by decide) (by decide +kernel) (fun _ h9 => h9) rfl (by decide +kernel) rfl rfl (Nat.le_of_ble_eq_true rfl) dX7_init_94 (fun M108 hD109 hU107 => ?_)
  have hU107 : Up M99 a (.inr (7, [.int (nI p), .ref q6, .int 4, .int 0, .ref mo])) M108 := hU107
  have n110 : t ≠ a := n101
  have n111 : te ≠ a := n102
  have n112 : q40 ≠ a := n103
  have n113 : q54 ≠ a := n104
  have n114 : q6 ≠ a := n105
  have n115 : q71 ≠ a := n106
  have w1 := hU107.2 _ _ n110 w1
  have w2 := hU107.2 _ _ n111 w2
  have h64 := hU107.2 _ _ n112 h64
  have h65 := hU107.2 _ _ n113 h65
  have h83 := hU107.2 _ _ n114 h83
  have h84 := hU107.2 _ _ n115 h84
  have w0 := hU107.1
  refine j_iinc F85 1 [some (.ref a), some (.ref mo), some (.int (nI p)), some (.ref t), some (.int 1)] dX7_init_97 rfl (by decide) (by decide) rfl rfl ?_
  refine j_goto F85 48 dX7_init_100 (by decide) ?_
  refine j_iload F85 dX7_init_48 rfl ?_
  refine j_aload_n F85 dX7_init_50 rfl ?_
  refine m_cVi S (n1 := 0) (rest := [.int 1]) (r_Jx4a65c_size_8abf5 X.l G X.A M108 w1) ⟨_, _, _, _, rfl, (gBV kB_Jx4a65c_size_8abf5 (by decide +kernel)), rfl, rfl, (by decide +kernel), ⟨(Nat.le_of_ble_eq_true rfl), (Nat.le_of_ble_eq_true rfl)⟩⟩ w1 rfl rfl (Nat.le_of_ble_eq_true rfl) (Nat.le_of_ble_eq_true rfl) (Nat.le_of_ble_eq_true rfl) rfl dX7_init_51 (fun v116 M117 hD118 hp119 => ?_)
  obtain ⟨hp119a, hp119b⟩ := hp119
  subst hp119a
  subst hp119b
  refine j_icmp_ge F85 103 dX7_init_54 (by decide) (fun _ => ?_) (fun h9 => absurd (by decide) h9)
  refine j_aload_n F85 dX7_init_103 rfl ?_
  refine m_get S (C := RX7) (T := TX7) (N := 5) (by decide +kernel) w0 rfl (v := .int 4) 2 (by decide) (by decide +kernel) (fun _ h9 => h9) rfl dX7_init_104 ?_
  refine j_if_gt F85 121 dX7_init_107 (by decide) (fun _ => ?_) (fun h9 => absurd (by decide) h9)
  have hKp : Kp M [a] M108 := by
    intro b x hb hx
    have hx := hU1.2 _ _ (fun c => hb (by rw [c]; simp)) hx
    have n120 := (hN7.2 _ _ hx).2
    have hx := (hN7.2 _ _ hx).1
    have hx := hp18.2 _ _ n120 hx
    have hx := hU22.2 _ _ (fun c => hb (by rw [c]; simp)) hx
    have hx := hU28.2 _ _ (fun c => hb (by rw [c]; simp)) hx
    have hx := hU34.2 _ _ (fun c => hb (by rw [c]; simp)) hx
    have n121 := (hN41.2 _ _ hx).2
    have hx := (hN41.2 _ _ hx).1
    have n122 := hp53f _ _ hx
    have n123 : b ∉ [q40] := by
      intro h9; simp only [List.mem_cons, List.not_mem_nil, or_false] at h9
      · exact n121 h9
    have hx := hp53k b x n123 hx
    have n124 := hp70f _ _ hx
    have n125 : b ∉ [q6] := by
      intro h9; simp only [List.mem_cons, List.not_mem_nil, or_false] at h9
      · exact n120 h9
    have hx := hp70k b x n125 hx
    have hx := hU98.2 _ _ (fun c => hb (by rw [c]; simp)) hx
    have hx := hU107.2 _ _ (fun c => hb (by rw [c]; simp)) hx
    exact hx
  exact m_return S hRT rfl hQ (Nat.le_of_ble_eq_true rfl) (Nat.le_of_ble_eq_true rfl) dX7_init_121 ⟨_, w0, hKp⟩

set_option maxRecDepth 100000 in
set_option maxHeartbeats 4000000 in
theorem r_X7_initE (l : Launch) (G : RG) (A : Nat → Prop) (M : Wl) {a mo t te : Nat} (p k9 : Nat) (hk9 : k9 < 256)  {ka ta : Nat} {tv : Int32} (j : Nat) (hp4 : p < 4) (hj1 : 44 ≤ j) (hj2 : j ≤ 49) (hv : vb_c k9 = nI j) (hM : Mo G mo ka ta tv M) (w0 : (a, .inr (7, [.int 0, .null, .int 0, .int 0, .null])) ∈ M) (w1 : (t, .inr (10, [.int 1, .ref te, .int 1])) ∈ M) (w2 : (te, .inl (G.cO, 1, .inr (.inr (.inr (.inr (va_up (fun _ => none) 0 (some (G.bx k9)))))))) ∈ M) : Kr l G A yX7_init wbX7_init { frames := 9, cells := 13, slots := 49, locals := 196 } M [.ref a, .ref mo, .int (nI p), .ref t] (Gv G A (fun N => Rd1 G mo (nI p) 0 a N ∧ (∃ pl9 : Nat, (mo, (.inr (8, [.int tv, .ref pl9, .ref ka, .ref ta]) : va_E)) ∈ N) ∧ Kp M [a, mo, ka] N)) 13 49 := by
  refine Kr.of (cc := cX7_init) (maxL := 5) (ret := none) (by decide) rfl (Nat.le_of_ble_eq_true rfl) ?_
  intro X hXl S hRT hIN hXA hQ hD
  subst hXl
  subst hXA
  show J (X.at 0 0) 5 (PL G.Z X.A M) 0 [some (.ref a), some (.ref mo), some (.int (nI p)), some (.ref t), none] []
  have F0 := S.1.at 0 0 (Nat.le_of_ble_eq_true rfl) (Nat.le_of_ble_eq_true rfl)
  have hOR := S.2.1.or
  have hb0 := w0
  refine j_aload_n F0 dX7_init_0 rfl ?_
  refine j_aload_n F0 dX7_init_1 rfl ?_
  refine m_putF S (C := RX7) (T := TX7) (N := 5) (v := .ref mo) (ty := (.object "TreadleLoomModel")) tyX7 tyX7_ok nmX7 (by decide +kernel) w0 rfl 4 (by decide) (by decide +kernel) (fun _ h9 => h9) rfl (hIN rfl) rfl (by decide +kernel) rfl rfl (Nat.le_of_ble_eq_true rfl) dX7_init_2 (fun M2 hD3 hU1 => ?_)
  have hU1 : Up M a (.inr (7, [.int 0, .null, .int 0, .int 0, .ref mo])) M2 := hU1
  have n4 : t ≠ a := (In.ne hD w1 w0 (by simp))
  have n5 : te ≠ a := (In.ne hD w2 w0 (by simp))
  have w1 := hU1.2 _ _ n4 w1
  have w2 := hU1.2 _ _ n5 w2
  have w0 := hU1.1
  refine j_aload_n F0 dX7_init_5 rfl ?_
  refine m_objInit S (by decide +kernel) (by decide +kernel) (by decide +kernel) (Nat.le_of_ble_eq_true rfl) (Nat.le_of_ble_eq_true rfl) dX7_init_6 ?_
  refine j_aload_n F0 dX7_init_9 rfl ?_
  refine m_new S (C := RJx4a65c) (T := TJx4a65c) (N := 3) (ci := 10) (fs := [.int 0, .null, .int 0]) (by decide +kernel) tyJx4a65c tyJx4a65c_ok (by decide +kernel) (by decide +kernel) (by decide +kernel) rfl (fun j hj => by rcases (show j = 0 ∨ j = 1 ∨ j = 2 by omega) with rfl | rfl | rfl <;> rfl) (Nat.le_of_ble_eq_true rfl) (Nat.le_of_ble_eq_true rfl) dX7_init_10 (fun q6 M8 hD9 hN7 => ?_)
  have n10 := (hN7.2 _ _ w0).2
  have w0 := (hN7.2 _ _ w0).1
  have n11 := (hN7.2 _ _ w1).2
  have w1 := (hN7.2 _ _ w1).1
  have n12 := (hN7.2 _ _ w2).2
  have w2 := (hN7.2 _ _ w2).1
  have h13 := hN7.1
  have F14 := S.1.at 1 3 (Nat.le_of_ble_eq_true rfl) (Nat.le_of_ble_eq_true rfl)
  refine j_dup F14 dX7_init_13 rfl ?_
  refine m_cIv S (n1 := 0) (rest := [.ref q6, .ref a]) (r_Jx4a65c_init_da8c8 X.l G X.A M8 h13) ⟨_, _, _, rfl, (gB kB_Jx4a65c_init_da8c8), rfl, rfl, (by decide +kernel), (by decide +kernel), (by decide +kernel), rfl, (by decide +kernel), ⟨(Nat.le_of_ble_eq_true rfl), (Nat.le_of_ble_eq_true rfl)⟩⟩ rfl (Nat.le_of_ble_eq_true rfl) (Nat.le_of_ble_eq_true rfl) (Nat.le_of_ble_eq_true rfl) rfl dX7_init_14 (fun M16 hD17 hp18 => ?_)
  have n19 : a ≠ q6 := n10
  have n20 : t ≠ q6 := n11
  have n21 : te ≠ q6 := n12
  have w0 := hp18.2 _ _ n19 w0
  have w1 := hp18.2 _ _ n20 w1
  have w2 := hp18.2 _ _ n21 w2
  have h13 := hp18.1
  refine m_putF S (C := RX7) (T := TX7) (N := 5) (v := .ref q6) (ty := (.object "java/util/ArrayList")) tyX7 tyX7_ok nmX7 (by decide +kernel) w0 rfl 1 (by decide) (by decide +kernel) (fun _ h9 => h9) rfl (hIN rfl) rfl (by decide +kernel) rfl rfl (Nat.le_of_ble_eq_true rfl) dX7_init_17 (fun M23 hD24 hU22 => ?_)
  have hU22 : Up M16 a (.inr (7, [.int 0, .ref q6, .int 0, .int 0, .ref mo])) M23 := hU22
  have n25 : t ≠ a := n4
  have n26 : te ≠ a := n5
  have n27 : q6 ≠ a := (Ne.symm n19)
  have w1 := hU22.2 _ _ n25 w1
  have w2 := hU22.2 _ _ n26 w2
  have h13 := hU22.2 _ _ n27 h13
  have w0 := hU22.1
  refine j_aload_n F14 dX7_init_20 rfl ?_
  refine j_iconst F14 (-1) dX7_init_21 (by decide) ?_
  refine m_put S (C := RX7) (T := TX7) (N := 5) (v := .int (-1)) (ty := .int) tyX7 tyX7_ok nmX7 (by decide +kernel) w0 rfl 3 (by decide) (by decide +kernel) (fun _ h9 => h9) rfl (by decide +kernel) rfl rfl (Nat.le_of_ble_eq_true rfl) dX7_init_22 (fun M29 hD30 hU28 => ?_)
  have hU28 : Up M23 a (.inr (7, [.int 0, .ref q6, .int 0, .int (-1), .ref mo])) M29 := hU28
  have n31 : t ≠ a := n25
  have n32 : te ≠ a := n26
  have n33 : q6 ≠ a := n27
  have w1 := hU28.2 _ _ n31 w1
  have w2 := hU28.2 _ _ n32 w2
  have h13 := hU28.2 _ _ n33 h13
  have w0 := hU28.1
  refine j_aload_n F14 dX7_init_25 rfl ?_
  refine j_iload_n F14 dX7_init_26 rfl ?_
  refine m_putF S (C := RX7) (T := TX7) (N := 5) (v := .int (nI p)) (ty := .int) tyX7 tyX7_ok nmX7 (by decide +kernel) w0 rfl 0 (by decide) (by decide +kernel) (fun _ h9 => h9) rfl (hIN rfl) rfl (by decide +kernel) rfl rfl (Nat.le_of_ble_eq_true rfl) dX7_init_27 (fun M35 hD36 hU34 => ?_)
  have hU34 : Up M29 a (.inr (7, [.int (nI p), .ref q6, .int 0, .int (-1), .ref mo])) M35 := hU34
  have n37 : t ≠ a := n31
  have n38 : te ≠ a := n32
  have n39 : q6 ≠ a := n33
  have w1 := hU34.2 _ _ n37 w1
  have w2 := hU34.2 _ _ n38 w2
  have h13 := hU34.2 _ _ n39 h13
  have w0 := hU34.1
  refine j_aload_n F14 dX7_init_30 rfl ?_
  refine m_get S (C := RX7) (T := TX7) (N := 5) (by decide +kernel) w0 rfl (v := .ref q6) 1 (by decide) (by decide +kernel) (fun _ h9 => h9) rfl dX7_init_31 ?_
  refine m_new S (C := RX6) (T := TX6) (N := 1) (ci := 6) (fs := [.null]) (by decide +kernel) tyX6 tyX6_ok (by decide +kernel) (by decide +kernel) (by decide +kernel) rfl (fun j hj => by rcases (show j = 0 by omega) with rfl <;> rfl) (Nat.le_of_ble_eq_true rfl) (Nat.le_of_ble_eq_true rfl) dX7_init_34 (fun q40 M42 hD43 hN41 => ?_)
  have n44 := (hN41.2 _ _ w0).2
  have w0 := (hN41.2 _ _ w0).1
  have n45 := (hN41.2 _ _ w1).2
  have w1 := (hN41.2 _ _ w1).1
  have n46 := (hN41.2 _ _ w2).2
  have w2 := (hN41.2 _ _ w2).1
  have n47 := (hN41.2 _ _ h13).2
  have h13 := (hN41.2 _ _ h13).1
  have h48 := hN41.1
  have F49 := S.1.at 2 4 (Nat.le_of_ble_eq_true rfl) (Nat.le_of_ble_eq_true rfl)
  refine j_dup F49 dX7_init_37 rfl ?_
  refine m_cINv S (n1 := 0) (rest := [.ref q40, .ref q6]) (r_X6_init X.l G X.A M42 h48) ⟨_, _, _, _, 1, rfl, rfl, (gB kB_X6_init), rfl, rfl, (by decide +kernel), (by decide +kernel), ⟨(Nat.le_of_ble_eq_true rfl), (Nat.le_of_ble_eq_true rfl)⟩⟩ rfl (by decide +kernel) rfl (Nat.le_of_ble_eq_true rfl) (Nat.le_of_ble_eq_true rfl) (Nat.le_of_ble_eq_true rfl) rfl dX7_init_38 (fun M51 hD52 hp53 => ?_)
  obtain ⟨q54, hp53a, hp53b, hp53k, hp53f⟩ := hp53
  have n55 := hp53f _ _ w0
  have n56 := hp53f _ _ w1
  have n57 := hp53f _ _ w2
  have n58 := hp53f _ _ h13
  have n59 := hp53f _ _ h48
  have n60 : a ∉ [q40] := by
    intro h9; simp only [List.mem_cons, List.not_mem_nil, or_false] at h9
    · exact n44 h9
  have n61 : t ∉ [q40] := by
    intro h9; simp only [List.mem_cons, List.not_mem_nil, or_false] at h9
    · exact n45 h9
  have n62 : te ∉ [q40] := by
    intro h9; simp only [List.mem_cons, List.not_mem_nil, or_false] at h9
    · exact n46 h9
  have n63 : q6 ∉ [q40] := by
    intro h9; simp only [List.mem_cons, List.not_mem_nil, or_false] at h9
    · exact n47 h9
  have w0 := hp53k _ _ n60 w0
  have w1 := hp53k _ _ n61 w1
  have w2 := hp53k _ _ n62 w2
  have h13 := hp53k _ _ n63 h13
  have h64 : (q40, (.inr (6, [.ref q54]) : va_E)) ∈ M51 := hp53a
  have h65 : (q54, (.inr (10, [.int 0, .ref G.e0, .int 0]) : va_E)) ∈ M51 := hp53b
  have F66 := S.1.at 3 7 (Nat.le_of_ble_eq_true rfl) (Nat.le_of_ble_eq_true rfl)
  refine m_cVi S (n1 := 1) (rest := []) (r_Jx4a65c_add_9ea2d X.l G X.A M51 q40 (Or.inl ⟨_, _, (RX6, TX6, 1), h64, rfl, .tail _ (.head _)⟩) (Ne.symm n47) h13) ⟨_, _, _, _, rfl, (gBV kB_Jx4a65c_add_9ea2d (by decide +kernel)), rfl, rfl, (by decide +kernel), ⟨(Nat.le_of_ble_eq_true rfl), (Nat.le_of_ble_eq_true rfl)⟩⟩ h13 rfl rfl (Nat.le_of_ble_eq_true rfl) (Nat.le_of_ble_eq_true rfl) (Nat.le_of_ble_eq_true rfl) rfl dX7_init_41 (fun v67 M68 hD69 hp70 => ?_)
  obtain ⟨hp70v, hp70⟩ := hp70
  subst hp70v
  rw [show (0 : Int32) + 1 = 1 from by decide] at hp70
  obtain ⟨q71, hp70a, hp70b, hp70k, hp70f⟩ := hp70
  have n72 := hp70f _ _ w0
  have n73 := hp70f _ _ w1
  have n74 := hp70f _ _ w2
  have n75 := hp70f _ _ h13
  have n76 := hp70f _ _ h64
  have n77 := hp70f _ _ h65
  have n78 : a ∉ [q6] := by
    intro h9; simp only [List.mem_cons, List.not_mem_nil, or_false] at h9
    · exact n19 h9
  have n79 : t ∉ [q6] := by
    intro h9; simp only [List.mem_cons, List.not_mem_nil, or_false] at h9
    · exact n20 h9
  have n80 : te ∉ [q6] := by
    intro h9; simp only [List.mem_cons, List.not_mem_nil, or_false] at h9
    · exact n21 h9
  have n81 : q40 ∉ [q6] := by
    intro h9; simp only [List.mem_cons, List.not_mem_nil, or_false] at h9
    · exact (Ne.symm n47) h9
  have n82 : q54 ∉ [q6] := by
    intro h9; simp only [List.mem_cons, List.not_mem_nil, or_false] at h9
    · exact (Ne.symm n58) h9
  have w0 := hp70k _ _ n78 w0
  have w1 := hp70k _ _ n79 w1
  have w2 := hp70k _ _ n80 w2
  have h64 := hp70k _ _ n81 h64
  have h65 := hp70k _ _ n82 h65
  have h83 : (q6, (.inr (10, [.int 1, .ref q71, .int 1]) : va_E)) ∈ M68 := hp70a
  have h84 : (q71, (.inl (G.cO, 10, .inr (.inr (.inr (.inr (va_up (fun _ => none) 0 (some q40)))))) : va_E)) ∈ M68 := hp70b
  have F85 := S.1.at 4 17 (Nat.le_of_ble_eq_true rfl) (Nat.le_of_ble_eq_true rfl)
  refine j_pop F85 dX7_init_44 rfl ?_
  refine j_iconst F85 0 dX7_init_45 (by decide) ?_
  refine j_istore F85 [some (.ref a), some (.ref mo), some (.int (nI p)), some (.ref t), some (.int 0)] dX7_init_46 (by decide) rfl rfl ?_
  refine j_iload F85 dX7_init_48 rfl ?_
  refine j_aload_n F85 dX7_init_50 rfl ?_
  refine m_cVi S (n1 := 0) (rest := [.int 0]) (r_Jx4a65c_size_8abf5 X.l G X.A M68 w1) ⟨_, _, _, _, rfl, (gBV kB_Jx4a65c_size_8abf5 (by decide +kernel)), rfl, rfl, (by decide +kernel), ⟨(Nat.le_of_ble_eq_true rfl), (Nat.le_of_ble_eq_true rfl)⟩⟩ w1 rfl rfl (Nat.le_of_ble_eq_true rfl) (Nat.le_of_ble_eq_true rfl) (Nat.le_of_ble_eq_true rfl) rfl dX7_init_51 (fun v86 M87 hD88 hp89 => ?_)
  obtain ⟨hp89a, hp89b⟩ := hp89
  subst hp89a
  subst hp89b
  refine j_icmp_ge F85 103 dX7_init_54 (by decide) (fun h9 => absurd h9 (by decide)) (fun _ => ?_)
  refine j_aload_n F85 dX7_init_57 rfl ?_
  refine m_get S (C := RX7) (T := TX7) (N := 5) (by decide +kernel) w0 rfl (v := .int 0) 2 (by decide) (by decide +kernel) (fun _ h9 => h9) rfl dX7_init_58 ?_
  refine j_if_ne F85 103 dX7_init_61 (by decide) (fun h9 => absurd (by decide) h9) (fun _ => ?_)
  refine j_aload_n F85 dX7_init_64 rfl ?_
  refine j_aload_n F85 dX7_init_65 rfl ?_
  refine j_aload_n F85 dX7_init_66 rfl ?_
  refine j_iload F85 dX7_init_67 rfl ?_
  refine m_cVr S (n1 := 1) (rest := [.ref a, .ref a]) (r_Jx4a65c_get_915e3 X.l G X.A M68 0 (G.bx k9) (by decide) (by decide) (by unfold vp_in; decide) (by simp [va_up]) w1 w2) ⟨_, _, _, _, rfl, (gBV kB_Jx4a65c_get_915e3 (by decide +kernel)), rfl, rfl, (by decide +kernel), ⟨(Nat.le_of_ble_eq_true rfl), (Nat.le_of_ble_eq_true rfl)⟩⟩ w1 rfl rfl (Nat.le_of_ble_eq_true rfl) (Nat.le_of_ble_eq_true rfl) (Nat.le_of_ble_eq_true rfl) rfl dX7_init_69 (fun v90 M91 hD92 hp93 => ?_)
  obtain ⟨hp93a, hp93b⟩ := hp93
  subst hp93a
  subst hp93b
  refine m_castBx S hk9 (by decide +kernel) dX7_init_72 ?_
  refine m_cBx S hk9 (x := nI j) hv ⟨_, _, _, _, rfl, (gBV kB_J6_intValue_8abf5 (by decide +kernel)), rfl, rfl, (by decide +kernel), ⟨(Nat.le_of_ble_eq_true rfl), (Nat.le_of_ble_eq_true rfl)⟩⟩ (Nat.le_of_ble_eq_true rfl) (Nat.le_of_ble_eq_true rfl) (Nat.le_of_ble_eq_true rfl) dX7_init_75 ?_
  have hKm : Kp M [a] M68 := by
    intro b x hb hx
    have hx := hU1.2 _ _ (fun c => hb (by rw [c]; simp)) hx
    have n94 := (hN7.2 _ _ hx).2
    have hx := (hN7.2 _ _ hx).1
    have hx := hp18.2 _ _ n94 hx
    have hx := hU22.2 _ _ (fun c => hb (by rw [c]; simp)) hx
    have hx := hU28.2 _ _ (fun c => hb (by rw [c]; simp)) hx
    have hx := hU34.2 _ _ (fun c => hb (by rw [c]; simp)) hx
    have n95 := (hN41.2 _ _ hx).2
    have hx := (hN41.2 _ _ hx).1
    have n96 := hp53f _ _ hx
    have n97 : b ∉ [q40] := by
      intro h9; simp only [List.mem_cons, List.not_mem_nil, or_false] at h9
      · exact n95 h9
    have hx := hp53k b x n97 hx
    have n98 := hp70f _ _ hx
    have n99 : b ∉ [q6] := by
      intro h9; simp only [List.mem_cons, List.not_mem_nil, or_false] at h9
      · exact n94 h9
    have hx := hp70k b x n99 hx
    exact hx
  have hMo9 := Mo.keep7 hD hM hb0 hKm
  obtain ⟨pl100, pe100, f100, kn100, tf100, o100_0, o100_1, o100_2, o100_3, o100_4, o100_5, o100_6, o100_7⟩ := id hMo9
  have h101 : (mo, (.inr (8, [.int tv, .ref pl100, .ref ka, .ref ta]) : va_E)) ∈ M68 := o100_0
  have h102 : (pl100, (.inr (10, [.int 10, .ref pe100, .int 10]) : va_E)) ∈ M68 := o100_1
  have h103 : (pe100, (.inl (G.cO, 10, .inr (.inr (.inr (.inr f100)))) : va_E)) ∈ M68 := o100_2
  have h104 : (ta, (.inl (G.Z.cI, 8, .inl tf100) : va_E)) ∈ M68 := o100_4
  have h105 : (ka, (.inl (G.cR, 10, .inr (.inr (.inr (.inr kn100)))) : va_E)) ∈ M68 := o100_6
  have hDo106 := hD69
  refine m_cVi S (n1 := 1) (rest := [.ref a]) (r_X7_readE X.l G X.A M68 p j hp4 hj1 hj2 hMo9 w0 h83 h84 h64 h65) ⟨_, _, _, _, rfl, (gBV kB_X7_read (by decide +kernel)), rfl, rfl, (by decide +kernel), ⟨(Nat.le_of_ble_eq_true rfl), (Nat.le_of_ble_eq_true rfl)⟩⟩ w0 rfl rfl (Nat.le_of_ble_eq_true rfl) (Nat.le_of_ble_eq_true rfl) (Nat.le_of_ble_eq_true rfl) rfl dX7_init_78 (fun v107 M108 hD109 hp110 => ?_)
  obtain ⟨hp110v, ⟨pl114, hp110m⟩, r111, b112, f113, hp110a, hp110b, hp110c, hp110k⟩ := hp110
  subst hp110v
  have n115 : a ∉ [mo, ka, q54] := by
    intro h9; simp only [List.mem_cons, List.not_mem_nil, or_false] at h9
    rcases h9 with h9 | h9 | h9
    · exact (In.ne hD69 w0 h101 (by simp)) h9
    · exact (In.ne hD69 w0 h105 (by simp)) h9
    · exact n55 h9
  have n116 : t ∉ [mo, ka, q54] := by
    intro h9; simp only [List.mem_cons, List.not_mem_nil, or_false] at h9
    rcases h9 with h9 | h9 | h9
    · exact (In.ne hD69 w1 h101 (by simp)) h9
    · exact (In.ne hD69 w1 h105 (by simp)) h9
    · exact n56 h9
  have n117 : te ∉ [mo, ka, q54] := by
    intro h9; simp only [List.mem_cons, List.not_mem_nil, or_false] at h9
    rcases h9 with h9 | h9 | h9
    · exact (In.ne hD69 w2 h101 (by simp)) h9
    · exact (In.ne hD69 w2 h105 (fun h9 => hOR (by injection h9 with h9; exact (Prod.mk.inj h9).1))) h9
    · exact n57 h9
  have n118 : q40 ∉ [mo, ka, q54] := by
    intro h9; simp only [List.mem_cons, List.not_mem_nil, or_false] at h9
    rcases h9 with h9 | h9 | h9
    · exact (In.ne hD69 h64 h101 (by simp)) h9
    · exact (In.ne hD69 h64 h105 (by simp)) h9
    · exact n59 h9
  have n119 : q6 ∉ [mo, ka, q54] := by
    intro h9; simp only [List.mem_cons, List.not_mem_nil, or_false] at h9
    rcases h9 with h9 | h9 | h9
    · exact (In.ne hD69 h83 h101 (by simp)) h9
    · exact (In.ne hD69 h83 h105 (by simp)) h9
    · exact n58 h9
  have n120 : q71 ∉ [mo, ka, q54] := by
    intro h9; simp only [List.mem_cons, List.not_mem_nil, or_false] at h9
    rcases h9 with h9 | h9 | h9
    · exact (In.ne hD69 h84 h101 (by simp)) h9
    · exact (In.ne hD69 h84 h105 (fun h9 => hOR (by injection h9 with h9; exact (Prod.mk.inj h9).1))) h9
    · exact (Ne.symm n77) h9
  have w0 := hp110k _ _ n115 w0
  have w1 := hp110k _ _ n116 w1
  have w2 := hp110k _ _ n117 w2
  have h64 := hp110k _ _ n118 h64
  have h83 := hp110k _ _ n119 h83
  have h84 := hp110k _ _ n120 h84
  have h121 : (mo, (.inr (8, [.int tv, .ref pl114, .ref ka, .ref ta]) : va_E)) ∈ M108 := hp110m
  have h122 : (q54, (.inr (10, [.int 1, .ref r111, .int 1]) : va_E)) ∈ M108 := hp110a
  have h123 : (r111, (.inl (G.cO, 10, .inr (.inr (.inr (.inr (va_up (fun _ => none) 0 (some b112)))))) : va_E)) ∈ M108 := hp110b
  have h124 : (b112, (.inl (G.Z.cI, 0, .inl f113) : va_E)) ∈ M108 := hp110c
  have F125 := S.1.at 13 49 (Nat.le_of_ble_eq_true rfl) (Nat.le_of_ble_eq_true rfl)
  refine m_put S (C := RX7) (T := TX7) (N := 5) (v := .int 0) (ty := .int) tyX7 tyX7_ok nmX7 (by decide +kernel) w0 rfl 2 (by decide) (by decide +kernel) (fun _ h9 => h9) rfl (by decide +kernel) rfl rfl (Nat.le_of_ble_eq_true rfl) dX7_init_81 (fun M127 hD128 hU126 => ?_)
  have hU126 : Up M108 a (.inr (7, [.int (nI p), .ref q6, .int 0, .int (-1), .ref mo])) M127 := hU126
  have n129 : t ≠ a := n37
  have n130 : te ≠ a := n38
  have n131 : q40 ≠ a := (Ne.symm n44)
  have n132 : q6 ≠ a := n39
  have n133 : q71 ≠ a := (Ne.symm n72)
  have n134 : mo ≠ a := (In.ne hD109 h121 w0 (by simp))
  have n135 : q54 ≠ a := (Ne.symm n55)
  have n136 : r111 ≠ a := (In.ne hD109 h123 w0 (by simp))
  have n137 : b112 ≠ a := (In.ne hD109 h124 w0 (by simp))
  have w1 := hU126.2 _ _ n129 w1
  have w2 := hU126.2 _ _ n130 w2
  have h64 := hU126.2 _ _ n131 h64
  have h83 := hU126.2 _ _ n132 h83
  have h84 := hU126.2 _ _ n133 h84
  have h121 := hU126.2 _ _ n134 h121
  have h122 := hU126.2 _ _ n135 h122
  have h123 := hU126.2 _ _ n136 h123
  have h124 := hU126.2 _ _ n137 h124
  have w0 := hU126.1
  refine j_aload_n F125 dX7_init_84 rfl ?_
  refine m_get S (C := RX7) (T := TX7) (N := 5) (by decide +kernel) w0 rfl (v := .int 0) 2 (by decide) (by decide +kernel) (fun _ h9 => h9) rfl dX7_init_85 ?_
  refine j_if_le F125 97 dX7_init_88 (by decide) (fun _ => ?_) (fun h9 => absurd (by decide) h9)
  refine j_iinc F125 1 [some (.ref a), some (.ref mo), some (.int (nI p)), some (.ref t), some (.int 1)] dX7_init_97 rfl (by decide) (by decide) rfl rfl ?_
  refine j_goto F125 48 dX7_init_100 (by decide) ?_
  refine j_iload F125 dX7_init_48 rfl ?_
  refine j_aload_n F125 dX7_init_50 rfl ?_
  refine m_cVi S (n1 := 0) (rest := [.int 1]) (r_Jx4a65c_size_8abf5 X.l G X.A M127 w1) ⟨_, _, _, _, rfl, (gBV kB_Jx4a65c_size_8abf5 (by decide +kernel)), rfl, rfl, (by decide +kernel), ⟨(Nat.le_of_ble_eq_true rfl), (Nat.le_of_ble_eq_true rfl)⟩⟩ w1 rfl rfl (Nat.le_of_ble_eq_true rfl) (Nat.le_of_ble_eq_true rfl) (Nat.le_of_ble_eq_true rfl) rfl dX7_init_51 (fun v138 M139 hD140 hp141 => ?_)
  obtain ⟨hp141a, hp141b⟩ := hp141
  subst hp141a
  subst hp141b
  refine j_icmp_ge F125 103 dX7_init_54 (by decide) (fun _ => ?_) (fun h9 => absurd (by decide) h9)
  refine j_aload_n F125 dX7_init_103 rfl ?_
  refine m_get S (C := RX7) (T := TX7) (N := 5) (by decide +kernel) w0 rfl (v := .int 0) 2 (by decide) (by decide +kernel) (fun _ h9 => h9) rfl dX7_init_104 ?_
  refine j_if_gt F125 121 dX7_init_107 (by decide) (fun h9 => absurd h9 (by decide)) (fun _ => ?_)
  refine j_aload_n F125 dX7_init_110 rfl ?_
  refine m_get S (C := RX7) (T := TX7) (N := 5) (by decide +kernel) w0 rfl (v := .ref q6) 1 (by decide) (by decide +kernel) (fun _ h9 => h9) rfl dX7_init_111 ?_
  refine m_cVi S (n1 := 0) (rest := []) (r_Jx4a65c_size_8abf5 X.l G X.A M127 h83) ⟨_, _, _, _, rfl, (gBV kB_Jx4a65c_size_8abf5 (by decide +kernel)), rfl, rfl, (by decide +kernel), ⟨(Nat.le_of_ble_eq_true rfl), (Nat.le_of_ble_eq_true rfl)⟩⟩ h83 rfl rfl (Nat.le_of_ble_eq_true rfl) (Nat.le_of_ble_eq_true rfl) (Nat.le_of_ble_eq_true rfl) rfl dX7_init_114 (fun v142 M143 hD144 hp145 => ?_)
  obtain ⟨hp145a, hp145b⟩ := hp145
  subst hp145a
  subst hp145b
  refine j_iconst F125 1 dX7_init_117 (by decide) ?_
  refine j_icmp_ne F125 122 dX7_init_118 (by decide) (fun h9 => absurd (by decide) h9) (fun _ => ?_)
  have hKp : Kp M [a, mo, ka] M127 := by
    intro b x hb hx
    have hx := hU1.2 _ _ (fun c => hb (by rw [c]; simp)) hx
    have n146 := (hN7.2 _ _ hx).2
    have hx := (hN7.2 _ _ hx).1
    have hx := hp18.2 _ _ n146 hx
    have hx := hU22.2 _ _ (fun c => hb (by rw [c]; simp)) hx
    have hx := hU28.2 _ _ (fun c => hb (by rw [c]; simp)) hx
    have hx := hU34.2 _ _ (fun c => hb (by rw [c]; simp)) hx
    have n147 := (hN41.2 _ _ hx).2
    have hx := (hN41.2 _ _ hx).1
    have n148 := hp53f _ _ hx
    have n149 : b ∉ [q40] := by
      intro h9; simp only [List.mem_cons, List.not_mem_nil, or_false] at h9
      · exact n147 h9
    have hx := hp53k b x n149 hx
    have n150 := hp70f _ _ hx
    have n151 : b ∉ [q6] := by
      intro h9; simp only [List.mem_cons, List.not_mem_nil, or_false] at h9
      · exact n146 h9
    have hx := hp70k b x n151 hx
    have n152 : b ∉ [mo, ka, q54] := by
      intro h9; simp only [List.mem_cons, List.not_mem_nil, or_false] at h9
      rcases h9 with h9 | h9 | h9
      · exact (fun c => hb (by rw [c]; simp)) h9
      · exact (fun c => hb (by rw [c]; simp)) h9
      · exact n148 h9
    have hx := hp110k b x n152 hx
    have hx := hU126.2 _ _ (fun c => hb (by rw [c]; simp)) hx
    exact hx
  exact m_return S hRT rfl hQ (Nat.le_of_ble_eq_true rfl) (Nat.le_of_ble_eq_true rfl) dX7_init_121 ⟨⟨q6, q71, q40, q54, r111, b112, _, w0, h83, h84, h64, h122, h123, h124⟩, ⟨_, h121⟩, hKp⟩

set_option maxRecDepth 100000 in
set_option maxHeartbeats 4000000 in
theorem r_X7_initF (l : Launch) (G : RG) (A : Nat → Prop) (M : Wl) {a mo t te : Nat} (p k9 : Nat) (hk9 : k9 < 256)  {ka ta : Nat} {tv : Int32} (j : Nat) (hp4 : 4 ≤ p) (hp : p < 10) (hpj : j - 40 < p) (hj1 : 44 ≤ j) (hj2 : j ≤ 49) (hv : vb_c k9 = nI j) (hM : Mo G mo ka ta tv M) (w0 : (a, .inr (7, [.int 0, .null, .int 0, .int 0, .null])) ∈ M) (w1 : (t, .inr (10, [.int 1, .ref te, .int 1])) ∈ M) (w2 : (te, .inl (G.cO, 1, .inr (.inr (.inr (.inr (va_up (fun _ => none) 0 (some (G.bx k9)))))))) ∈ M) : Kr l G A yX7_init wbX7_init { frames := 9, cells := 13, slots := 49, locals := 196 } M [.ref a, .ref mo, .int (nI p), .ref t] (Gv G A (fun N => Rd1 G mo (nI p) 0 a N ∧ (∃ pl9 : Nat, (mo, (.inr (8, [.int tv, .ref pl9, .ref ka, .ref ta]) : va_E)) ∈ N) ∧ Kp M [a, mo, ka] N)) 13 49 := by
  refine Kr.of (cc := cX7_init) (maxL := 5) (ret := none) (by decide) rfl (Nat.le_of_ble_eq_true rfl) ?_
  intro X hXl S hRT hIN hXA hQ hD
  subst hXl
  subst hXA
  show J (X.at 0 0) 5 (PL G.Z X.A M) 0 [some (.ref a), some (.ref mo), some (.int (nI p)), some (.ref t), none] []
  have F0 := S.1.at 0 0 (Nat.le_of_ble_eq_true rfl) (Nat.le_of_ble_eq_true rfl)
  have hOR := S.2.1.or
  have hb0 := w0
  refine j_aload_n F0 dX7_init_0 rfl ?_
  refine j_aload_n F0 dX7_init_1 rfl ?_
  refine m_putF S (C := RX7) (T := TX7) (N := 5) (v := .ref mo) (ty := (.object "TreadleLoomModel")) tyX7 tyX7_ok nmX7 (by decide +kernel) w0 rfl 4 (by decide) (by decide +kernel) (fun _ h9 => h9) rfl (hIN rfl) rfl (by decide +kernel) rfl rfl (Nat.le_of_ble_eq_true rfl) dX7_init_2 (fun M2 hD3 hU1 => ?_)
  have hU1 : Up M a (.inr (7, [.int 0, .null, .int 0, .int 0, .ref mo])) M2 := hU1
  have n4 : t ≠ a := (In.ne hD w1 w0 (by simp))
  have n5 : te ≠ a := (In.ne hD w2 w0 (by simp))
  have w1 := hU1.2 _ _ n4 w1
  have w2 := hU1.2 _ _ n5 w2
  have w0 := hU1.1
  refine j_aload_n F0 dX7_init_5 rfl ?_
  refine m_objInit S (by decide +kernel) (by decide +kernel) (by decide +kernel) (Nat.le_of_ble_eq_true rfl) (Nat.le_of_ble_eq_true rfl) dX7_init_6 ?_
  refine j_aload_n F0 dX7_init_9 rfl ?_
  refine m_new S (C := RJx4a65c) (T := TJx4a65c) (N := 3) (ci := 10) (fs := [.int 0, .null, .int 0]) (by decide +kernel) tyJx4a65c tyJx4a65c_ok (by decide +kernel) (by decide +kernel) (by decide +kernel) rfl (fun j hj => by rcases (show j = 0 ∨ j = 1 ∨ j = 2 by omega) with rfl | rfl | rfl <;> rfl) (Nat.le_of_ble_eq_true rfl) (Nat.le_of_ble_eq_true rfl) dX7_init_10 (fun q6 M8 hD9 hN7 => ?_)
  have n10 := (hN7.2 _ _ w0).2
  have w0 := (hN7.2 _ _ w0).1
  have n11 := (hN7.2 _ _ w1).2
  have w1 := (hN7.2 _ _ w1).1
  have n12 := (hN7.2 _ _ w2).2
  have w2 := (hN7.2 _ _ w2).1
  have h13 := hN7.1
  have F14 := S.1.at 1 3 (Nat.le_of_ble_eq_true rfl) (Nat.le_of_ble_eq_true rfl)
  refine j_dup F14 dX7_init_13 rfl ?_
  refine m_cIv S (n1 := 0) (rest := [.ref q6, .ref a]) (r_Jx4a65c_init_da8c8 X.l G X.A M8 h13) ⟨_, _, _, rfl, (gB kB_Jx4a65c_init_da8c8), rfl, rfl, (by decide +kernel), (by decide +kernel), (by decide +kernel), rfl, (by decide +kernel), ⟨(Nat.le_of_ble_eq_true rfl), (Nat.le_of_ble_eq_true rfl)⟩⟩ rfl (Nat.le_of_ble_eq_true rfl) (Nat.le_of_ble_eq_true rfl) (Nat.le_of_ble_eq_true rfl) rfl dX7_init_14 (fun M16 hD17 hp18 => ?_)
  have n19 : a ≠ q6 := n10
  have n20 : t ≠ q6 := n11
  have n21 : te ≠ q6 := n12
  have w0 := hp18.2 _ _ n19 w0
  have w1 := hp18.2 _ _ n20 w1
  have w2 := hp18.2 _ _ n21 w2
  have h13 := hp18.1
  refine m_putF S (C := RX7) (T := TX7) (N := 5) (v := .ref q6) (ty := (.object "java/util/ArrayList")) tyX7 tyX7_ok nmX7 (by decide +kernel) w0 rfl 1 (by decide) (by decide +kernel) (fun _ h9 => h9) rfl (hIN rfl) rfl (by decide +kernel) rfl rfl (Nat.le_of_ble_eq_true rfl) dX7_init_17 (fun M23 hD24 hU22 => ?_)
  have hU22 : Up M16 a (.inr (7, [.int 0, .ref q6, .int 0, .int 0, .ref mo])) M23 := hU22
  have n25 : t ≠ a := n4
  have n26 : te ≠ a := n5
  have n27 : q6 ≠ a := (Ne.symm n19)
  have w1 := hU22.2 _ _ n25 w1
  have w2 := hU22.2 _ _ n26 w2
  have h13 := hU22.2 _ _ n27 h13
  have w0 := hU22.1
  refine j_aload_n F14 dX7_init_20 rfl ?_
  refine j_iconst F14 (-1) dX7_init_21 (by decide) ?_
  refine m_put S (C := RX7) (T := TX7) (N := 5) (v := .int (-1)) (ty := .int) tyX7 tyX7_ok nmX7 (by decide +kernel) w0 rfl 3 (by decide) (by decide +kernel) (fun _ h9 => h9) rfl (by decide +kernel) rfl rfl (Nat.le_of_ble_eq_true rfl) dX7_init_22 (fun M29 hD30 hU28 => ?_)
  have hU28 : Up M23 a (.inr (7, [.int 0, .ref q6, .int 0, .int (-1), .ref mo])) M29 := hU28
  have n31 : t ≠ a := n25
  have n32 : te ≠ a := n26
  have n33 : q6 ≠ a := n27
  have w1 := hU28.2 _ _ n31 w1
  have w2 := hU28.2 _ _ n32 w2
  have h13 := hU28.2 _ _ n33 h13
  have w0 := hU28.1
  refine j_aload_n F14 dX7_init_25 rfl ?_
  refine j_iload_n F14 dX7_init_26 rfl ?_
  refine m_putF S (C := RX7) (T := TX7) (N := 5) (v := .int (nI p)) (ty := .int) tyX7 tyX7_ok nmX7 (by decide +kernel) w0 rfl 0 (by decide) (by decide +kernel) (fun _ h9 => h9) rfl (hIN rfl) rfl (by decide +kernel) rfl rfl (Nat.le_of_ble_eq_true rfl) dX7_init_27 (fun M35 hD36 hU34 => ?_)
  have hU34 : Up M29 a (.inr (7, [.int (nI p), .ref q6, .int 0, .int (-1), .ref mo])) M35 := hU34
  have n37 : t ≠ a := n31
  have n38 : te ≠ a := n32
  have n39 : q6 ≠ a := n33
  have w1 := hU34.2 _ _ n37 w1
  have w2 := hU34.2 _ _ n38 w2
  have h13 := hU34.2 _ _ n39 h13
  have w0 := hU34.1
  refine j_aload_n F14 dX7_init_30 rfl ?_
  refine m_get S (C := RX7) (T := TX7) (N := 5) (by decide +kernel) w0 rfl (v := .ref q6) 1 (by decide) (by decide +kernel) (fun _ h9 => h9) rfl dX7_init_31 ?_
  refine m_new S (C := RX6) (T := TX6) (N := 1) (ci := 6) (fs := [.null]) (by decide +kernel) tyX6 tyX6_ok (by decide +kernel) (by decide +kernel) (by decide +kernel) rfl (fun j hj => by rcases (show j = 0 by omega) with rfl <;> rfl) (Nat.le_of_ble_eq_true rfl) (Nat.le_of_ble_eq_true rfl) dX7_init_34 (fun q40 M42 hD43 hN41 => ?_)
  have n44 := (hN41.2 _ _ w0).2
  have w0 := (hN41.2 _ _ w0).1
  have n45 := (hN41.2 _ _ w1).2
  have w1 := (hN41.2 _ _ w1).1
  have n46 := (hN41.2 _ _ w2).2
  have w2 := (hN41.2 _ _ w2).1
  have n47 := (hN41.2 _ _ h13).2
  have h13 := (hN41.2 _ _ h13).1
  have h48 := hN41.1
  have F49 := S.1.at 2 4 (Nat.le_of_ble_eq_true rfl) (Nat.le_of_ble_eq_true rfl)
  refine j_dup F49 dX7_init_37 rfl ?_
  refine m_cINv S (n1 := 0) (rest := [.ref q40, .ref q6]) (r_X6_init X.l G X.A M42 h48) ⟨_, _, _, _, 1, rfl, rfl, (gB kB_X6_init), rfl, rfl, (by decide +kernel), (by decide +kernel), ⟨(Nat.le_of_ble_eq_true rfl), (Nat.le_of_ble_eq_true rfl)⟩⟩ rfl (by decide +kernel) rfl (Nat.le_of_ble_eq_true rfl) (Nat.le_of_ble_eq_true rfl) (Nat.le_of_ble_eq_true rfl) rfl dX7_init_38 (fun M51 hD52 hp53 => ?_)
  obtain ⟨q54, hp53a, hp53b, hp53k, hp53f⟩ := hp53
  have n55 := hp53f _ _ w0
  have n56 := hp53f _ _ w1
  have n57 := hp53f _ _ w2
  have n58 := hp53f _ _ h13
  have n59 := hp53f _ _ h48
  have n60 : a ∉ [q40] := by
    intro h9; simp only [List.mem_cons, List.not_mem_nil, or_false] at h9
    · exact n44 h9
  have n61 : t ∉ [q40] := by
    intro h9; simp only [List.mem_cons, List.not_mem_nil, or_false] at h9
    · exact n45 h9
  have n62 : te ∉ [q40] := by
    intro h9; simp only [List.mem_cons, List.not_mem_nil, or_false] at h9
    · exact n46 h9
  have n63 : q6 ∉ [q40] := by
    intro h9; simp only [List.mem_cons, List.not_mem_nil, or_false] at h9
    · exact n47 h9
  have w0 := hp53k _ _ n60 w0
  have w1 := hp53k _ _ n61 w1
  have w2 := hp53k _ _ n62 w2
  have h13 := hp53k _ _ n63 h13
  have h64 : (q40, (.inr (6, [.ref q54]) : va_E)) ∈ M51 := hp53a
  have h65 : (q54, (.inr (10, [.int 0, .ref G.e0, .int 0]) : va_E)) ∈ M51 := hp53b
  have F66 := S.1.at 3 7 (Nat.le_of_ble_eq_true rfl) (Nat.le_of_ble_eq_true rfl)
  refine m_cVi S (n1 := 1) (rest := []) (r_Jx4a65c_add_9ea2d X.l G X.A M51 q40 (Or.inl ⟨_, _, (RX6, TX6, 1), h64, rfl, .tail _ (.head _)⟩) (Ne.symm n47) h13) ⟨_, _, _, _, rfl, (gBV kB_Jx4a65c_add_9ea2d (by decide +kernel)), rfl, rfl, (by decide +kernel), ⟨(Nat.le_of_ble_eq_true rfl), (Nat.le_of_ble_eq_true rfl)⟩⟩ h13 rfl rfl (Nat.le_of_ble_eq_true rfl) (Nat.le_of_ble_eq_true rfl) (Nat.le_of_ble_eq_true rfl) rfl dX7_init_41 (fun v67 M68 hD69 hp70 => ?_)
  obtain ⟨hp70v, hp70⟩ := hp70
  subst hp70v
  rw [show (0 : Int32) + 1 = 1 from by decide] at hp70
  obtain ⟨q71, hp70a, hp70b, hp70k, hp70f⟩ := hp70
  have n72 := hp70f _ _ w0
  have n73 := hp70f _ _ w1
  have n74 := hp70f _ _ w2
  have n75 := hp70f _ _ h13
  have n76 := hp70f _ _ h64
  have n77 := hp70f _ _ h65
  have n78 : a ∉ [q6] := by
    intro h9; simp only [List.mem_cons, List.not_mem_nil, or_false] at h9
    · exact n19 h9
  have n79 : t ∉ [q6] := by
    intro h9; simp only [List.mem_cons, List.not_mem_nil, or_false] at h9
    · exact n20 h9
  have n80 : te ∉ [q6] := by
    intro h9; simp only [List.mem_cons, List.not_mem_nil, or_false] at h9
    · exact n21 h9
  have n81 : q40 ∉ [q6] := by
    intro h9; simp only [List.mem_cons, List.not_mem_nil, or_false] at h9
    · exact (Ne.symm n47) h9
  have n82 : q54 ∉ [q6] := by
    intro h9; simp only [List.mem_cons, List.not_mem_nil, or_false] at h9
    · exact (Ne.symm n58) h9
  have w0 := hp70k _ _ n78 w0
  have w1 := hp70k _ _ n79 w1
  have w2 := hp70k _ _ n80 w2
  have h64 := hp70k _ _ n81 h64
  have h65 := hp70k _ _ n82 h65
  have h83 : (q6, (.inr (10, [.int 1, .ref q71, .int 1]) : va_E)) ∈ M68 := hp70a
  have h84 : (q71, (.inl (G.cO, 10, .inr (.inr (.inr (.inr (va_up (fun _ => none) 0 (some q40)))))) : va_E)) ∈ M68 := hp70b
  have F85 := S.1.at 4 17 (Nat.le_of_ble_eq_true rfl) (Nat.le_of_ble_eq_true rfl)
  refine j_pop F85 dX7_init_44 rfl ?_
  refine j_iconst F85 0 dX7_init_45 (by decide) ?_
  refine j_istore F85 [some (.ref a), some (.ref mo), some (.int (nI p)), some (.ref t), some (.int 0)] dX7_init_46 (by decide) rfl rfl ?_
  refine j_iload F85 dX7_init_48 rfl ?_
  refine j_aload_n F85 dX7_init_50 rfl ?_
  refine m_cVi S (n1 := 0) (rest := [.int 0]) (r_Jx4a65c_size_8abf5 X.l G X.A M68 w1) ⟨_, _, _, _, rfl, (gBV kB_Jx4a65c_size_8abf5 (by decide +kernel)), rfl, rfl, (by decide +kernel), ⟨(Nat.le_of_ble_eq_true rfl), (Nat.le_of_ble_eq_true rfl)⟩⟩ w1 rfl rfl (Nat.le_of_ble_eq_true rfl) (Nat.le_of_ble_eq_true rfl) (Nat.le_of_ble_eq_true rfl) rfl dX7_init_51 (fun v86 M87 hD88 hp89 => ?_)
  obtain ⟨hp89a, hp89b⟩ := hp89
  subst hp89a
  subst hp89b
  refine j_icmp_ge F85 103 dX7_init_54 (by decide) (fun h9 => absurd h9 (by decide)) (fun _ => ?_)
  refine j_aload_n F85 dX7_init_57 rfl ?_
  refine m_get S (C := RX7) (T := TX7) (N := 5) (by decide +kernel) w0 rfl (v := .int 0) 2 (by decide) (by decide +kernel) (fun _ h9 => h9) rfl dX7_init_58 ?_
  refine j_if_ne F85 103 dX7_init_61 (by decide) (fun h9 => absurd (by decide) h9) (fun _ => ?_)
  refine j_aload_n F85 dX7_init_64 rfl ?_
  refine j_aload_n F85 dX7_init_65 rfl ?_
  refine j_aload_n F85 dX7_init_66 rfl ?_
  refine j_iload F85 dX7_init_67 rfl ?_
  refine m_cVr S (n1 := 1) (rest := [.ref a, .ref a]) (r_Jx4a65c_get_915e3 X.l G X.A M68 0 (G.bx k9) (by decide) (by decide) (by unfold vp_in; decide) (by simp [va_up]) w1 w2) ⟨_, _, _, _, rfl, (gBV kB_Jx4a65c_get_915e3 (by decide +kernel)), rfl, rfl, (by decide +kernel), ⟨(Nat.le_of_ble_eq_true rfl), (Nat.le_of_ble_eq_true rfl)⟩⟩ w1 rfl rfl (Nat.le_of_ble_eq_true rfl) (Nat.le_of_ble_eq_true rfl) (Nat.le_of_ble_eq_true rfl) rfl dX7_init_69 (fun v90 M91 hD92 hp93 => ?_)
  obtain ⟨hp93a, hp93b⟩ := hp93
  subst hp93a
  subst hp93b
  refine m_castBx S hk9 (by decide +kernel) dX7_init_72 ?_
  refine m_cBx S hk9 (x := nI j) hv ⟨_, _, _, _, rfl, (gBV kB_J6_intValue_8abf5 (by decide +kernel)), rfl, rfl, (by decide +kernel), ⟨(Nat.le_of_ble_eq_true rfl), (Nat.le_of_ble_eq_true rfl)⟩⟩ (Nat.le_of_ble_eq_true rfl) (Nat.le_of_ble_eq_true rfl) (Nat.le_of_ble_eq_true rfl) dX7_init_75 ?_
  have hKm : Kp M [a] M68 := by
    intro b x hb hx
    have hx := hU1.2 _ _ (fun c => hb (by rw [c]; simp)) hx
    have n94 := (hN7.2 _ _ hx).2
    have hx := (hN7.2 _ _ hx).1
    have hx := hp18.2 _ _ n94 hx
    have hx := hU22.2 _ _ (fun c => hb (by rw [c]; simp)) hx
    have hx := hU28.2 _ _ (fun c => hb (by rw [c]; simp)) hx
    have hx := hU34.2 _ _ (fun c => hb (by rw [c]; simp)) hx
    have n95 := (hN41.2 _ _ hx).2
    have hx := (hN41.2 _ _ hx).1
    have n96 := hp53f _ _ hx
    have n97 : b ∉ [q40] := by
      intro h9; simp only [List.mem_cons, List.not_mem_nil, or_false] at h9
      · exact n95 h9
    have hx := hp53k b x n97 hx
    have n98 := hp70f _ _ hx
    have n99 : b ∉ [q6] := by
      intro h9; simp only [List.mem_cons, List.not_mem_nil, or_false] at h9
      · exact n94 h9
    have hx := hp70k b x n99 hx
    exact hx
  have hMo9 := Mo.keep7 hD hM hb0 hKm
  obtain ⟨pl100, pe100, f100, kn100, tf100, o100_0, o100_1, o100_2, o100_3, o100_4, o100_5, o100_6, o100_7⟩ := id hMo9
  have h101 : (mo, (.inr (8, [.int tv, .ref pl100, .ref ka, .ref ta]) : va_E)) ∈ M68 := o100_0
  have h102 : (pl100, (.inr (10, [.int 10, .ref pe100, .int 10]) : va_E)) ∈ M68 := o100_1
  have h103 : (pe100, (.inl (G.cO, 10, .inr (.inr (.inr (.inr f100)))) : va_E)) ∈ M68 := o100_2
  have h104 : (ta, (.inl (G.Z.cI, 8, .inl tf100) : va_E)) ∈ M68 := o100_4
  have h105 : (ka, (.inl (G.cR, 10, .inr (.inr (.inr (.inr kn100)))) : va_E)) ∈ M68 := o100_6
  have hDo106 := hD69
  refine m_cVi S (n1 := 1) (rest := [.ref a]) (r_X7_readF X.l G X.A M68 p j hp4 hp hpj hj1 hj2 hMo9 w0 h83 h84 h64 h65) ⟨_, _, _, _, rfl, (gBV kB_X7_read (by decide +kernel)), rfl, rfl, (by decide +kernel), ⟨(Nat.le_of_ble_eq_true rfl), (Nat.le_of_ble_eq_true rfl)⟩⟩ w0 rfl rfl (Nat.le_of_ble_eq_true rfl) (Nat.le_of_ble_eq_true rfl) (Nat.le_of_ble_eq_true rfl) rfl dX7_init_78 (fun v107 M108 hD109 hp110 => ?_)
  obtain ⟨hp110v, ⟨pl114, hp110m⟩, r111, b112, f113, hp110a, hp110b, hp110c, hp110k⟩ := hp110
  subst hp110v
  have n115 : a ∉ [mo, ka, q54] := by
    intro h9; simp only [List.mem_cons, List.not_mem_nil, or_false] at h9
    rcases h9 with h9 | h9 | h9
    · exact (In.ne hD69 w0 h101 (by simp)) h9
    · exact (In.ne hD69 w0 h105 (by simp)) h9
    · exact n55 h9
  have n116 : t ∉ [mo, ka, q54] := by
    intro h9; simp only [List.mem_cons, List.not_mem_nil, or_false] at h9
    rcases h9 with h9 | h9 | h9
    · exact (In.ne hD69 w1 h101 (by simp)) h9
    · exact (In.ne hD69 w1 h105 (by simp)) h9
    · exact n56 h9
  have n117 : te ∉ [mo, ka, q54] := by
    intro h9; simp only [List.mem_cons, List.not_mem_nil, or_false] at h9
    rcases h9 with h9 | h9 | h9
    · exact (In.ne hD69 w2 h101 (by simp)) h9
    · exact (In.ne hD69 w2 h105 (fun h9 => hOR (by injection h9 with h9; exact (Prod.mk.inj h9).1))) h9
    · exact n57 h9
  have n118 : q40 ∉ [mo, ka, q54] := by
    intro h9; simp only [List.mem_cons, List.not_mem_nil, or_false] at h9
    rcases h9 with h9 | h9 | h9
    · exact (In.ne hD69 h64 h101 (by simp)) h9
    · exact (In.ne hD69 h64 h105 (by simp)) h9
    · exact n59 h9
  have n119 : q6 ∉ [mo, ka, q54] := by
    intro h9; simp only [List.mem_cons, List.not_mem_nil, or_false] at h9
    rcases h9 with h9 | h9 | h9
    · exact (In.ne hD69 h83 h101 (by simp)) h9
    · exact (In.ne hD69 h83 h105 (by simp)) h9
    · exact n58 h9
  have n120 : q71 ∉ [mo, ka, q54] := by
    intro h9; simp only [List.mem_cons, List.not_mem_nil, or_false] at h9
    rcases h9 with h9 | h9 | h9
    · exact (In.ne hD69 h84 h101 (by simp)) h9
    · exact (In.ne hD69 h84 h105 (fun h9 => hOR (by injection h9 with h9; exact (Prod.mk.inj h9).1))) h9
    · exact (Ne.symm n77) h9
  have w0 := hp110k _ _ n115 w0
  have w1 := hp110k _ _ n116 w1
  have w2 := hp110k _ _ n117 w2
  have h64 := hp110k _ _ n118 h64
  have h83 := hp110k _ _ n119 h83
  have h84 := hp110k _ _ n120 h84
  have h121 : (mo, (.inr (8, [.int tv, .ref pl114, .ref ka, .ref ta]) : va_E)) ∈ M108 := hp110m
  have h122 : (q54, (.inr (10, [.int 1, .ref r111, .int 1]) : va_E)) ∈ M108 := hp110a
  have h123 : (r111, (.inl (G.cO, 10, .inr (.inr (.inr (.inr (va_up (fun _ => none) 0 (some b112)))))) : va_E)) ∈ M108 := hp110b
  have h124 : (b112, (.inl (G.Z.cI, 0, .inl f113) : va_E)) ∈ M108 := hp110c
  have F125 := S.1.at 13 49 (Nat.le_of_ble_eq_true rfl) (Nat.le_of_ble_eq_true rfl)
  refine m_put S (C := RX7) (T := TX7) (N := 5) (v := .int 0) (ty := .int) tyX7 tyX7_ok nmX7 (by decide +kernel) w0 rfl 2 (by decide) (by decide +kernel) (fun _ h9 => h9) rfl (by decide +kernel) rfl rfl (Nat.le_of_ble_eq_true rfl) dX7_init_81 (fun M127 hD128 hU126 => ?_)
  have hU126 : Up M108 a (.inr (7, [.int (nI p), .ref q6, .int 0, .int (-1), .ref mo])) M127 := hU126
  have n129 : t ≠ a := n37
  have n130 : te ≠ a := n38
  have n131 : q40 ≠ a := (Ne.symm n44)
  have n132 : q6 ≠ a := n39
  have n133 : q71 ≠ a := (Ne.symm n72)
  have n134 : mo ≠ a := (In.ne hD109 h121 w0 (by simp))
  have n135 : q54 ≠ a := (Ne.symm n55)
  have n136 : r111 ≠ a := (In.ne hD109 h123 w0 (by simp))
  have n137 : b112 ≠ a := (In.ne hD109 h124 w0 (by simp))
  have w1 := hU126.2 _ _ n129 w1
  have w2 := hU126.2 _ _ n130 w2
  have h64 := hU126.2 _ _ n131 h64
  have h83 := hU126.2 _ _ n132 h83
  have h84 := hU126.2 _ _ n133 h84
  have h121 := hU126.2 _ _ n134 h121
  have h122 := hU126.2 _ _ n135 h122
  have h123 := hU126.2 _ _ n136 h123
  have h124 := hU126.2 _ _ n137 h124
  have w0 := hU126.1
  refine j_aload_n F125 dX7_init_84 rfl ?_
  refine m_get S (C := RX7) (T := TX7) (N := 5) (by decide +kernel) w0 rfl (v := .int 0) 2 (by decide) (by decide +kernel) (fun _ h9 => h9) rfl dX7_init_85 ?_
  refine j_if_le F125 97 dX7_init_88 (by decide) (fun _ => ?_) (fun h9 => absurd (by decide) h9)
  refine j_iinc F125 1 [some (.ref a), some (.ref mo), some (.int (nI p)), some (.ref t), some (.int 1)] dX7_init_97 rfl (by decide) (by decide) rfl rfl ?_
  refine j_goto F125 48 dX7_init_100 (by decide) ?_
  refine j_iload F125 dX7_init_48 rfl ?_
  refine j_aload_n F125 dX7_init_50 rfl ?_
  refine m_cVi S (n1 := 0) (rest := [.int 1]) (r_Jx4a65c_size_8abf5 X.l G X.A M127 w1) ⟨_, _, _, _, rfl, (gBV kB_Jx4a65c_size_8abf5 (by decide +kernel)), rfl, rfl, (by decide +kernel), ⟨(Nat.le_of_ble_eq_true rfl), (Nat.le_of_ble_eq_true rfl)⟩⟩ w1 rfl rfl (Nat.le_of_ble_eq_true rfl) (Nat.le_of_ble_eq_true rfl) (Nat.le_of_ble_eq_true rfl) rfl dX7_init_51 (fun v138 M139 hD140 hp141 => ?_)
  obtain ⟨hp141a, hp141b⟩ := hp141
  subst hp141a
  subst hp141b
  refine j_icmp_ge F125 103 dX7_init_54 (by decide) (fun _ => ?_) (fun h9 => absurd (by decide) h9)
  refine j_aload_n F125 dX7_init_103 rfl ?_
  refine m_get S (C := RX7) (T := TX7) (N := 5) (by decide +kernel) w0 rfl (v := .int 0) 2 (by decide) (by decide +kernel) (fun _ h9 => h9) rfl dX7_init_104 ?_
  refine j_if_gt F125 121 dX7_init_107 (by decide) (fun h9 => absurd h9 (by decide)) (fun _ => ?_)
  refine j_aload_n F125 dX7_init_110 rfl ?_
  refine m_get S (C := RX7) (T := TX7) (N := 5) (by decide +kernel) w0 rfl (v := .ref q6) 1 (by decide) (by decide +kernel) (fun _ h9 => h9) rfl dX7_init_111 ?_
  refine m_cVi S (n1 := 0) (rest := []) (r_Jx4a65c_size_8abf5 X.l G X.A M127 h83) ⟨_, _, _, _, rfl, (gBV kB_Jx4a65c_size_8abf5 (by decide +kernel)), rfl, rfl, (by decide +kernel), ⟨(Nat.le_of_ble_eq_true rfl), (Nat.le_of_ble_eq_true rfl)⟩⟩ h83 rfl rfl (Nat.le_of_ble_eq_true rfl) (Nat.le_of_ble_eq_true rfl) (Nat.le_of_ble_eq_true rfl) rfl dX7_init_114 (fun v142 M143 hD144 hp145 => ?_)
  obtain ⟨hp145a, hp145b⟩ := hp145
  subst hp145a
  subst hp145b
  refine j_iconst F125 1 dX7_init_117 (by decide) ?_
  refine j_icmp_ne F125 122 dX7_init_118 (by decide) (fun h9 => absurd (by decide) h9) (fun _ => ?_)
  have hKp : Kp M [a, mo, ka] M127 := by
    intro b x hb hx
    have hx := hU1.2 _ _ (fun c => hb (by rw [c]; simp)) hx
    have n146 := (hN7.2 _ _ hx).2
    have hx := (hN7.2 _ _ hx).1
    have hx := hp18.2 _ _ n146 hx
    have hx := hU22.2 _ _ (fun c => hb (by rw [c]; simp)) hx
    have hx := hU28.2 _ _ (fun c => hb (by rw [c]; simp)) hx
    have hx := hU34.2 _ _ (fun c => hb (by rw [c]; simp)) hx
    have n147 := (hN41.2 _ _ hx).2
    have hx := (hN41.2 _ _ hx).1
    have n148 := hp53f _ _ hx
    have n149 : b ∉ [q40] := by
      intro h9; simp only [List.mem_cons, List.not_mem_nil, or_false] at h9
      · exact n147 h9
    have hx := hp53k b x n149 hx
    have n150 := hp70f _ _ hx
    have n151 : b ∉ [q6] := by
      intro h9; simp only [List.mem_cons, List.not_mem_nil, or_false] at h9
      · exact n146 h9
    have hx := hp70k b x n151 hx
    have n152 : b ∉ [mo, ka, q54] := by
      intro h9; simp only [List.mem_cons, List.not_mem_nil, or_false] at h9
      rcases h9 with h9 | h9 | h9
      · exact (fun c => hb (by rw [c]; simp)) h9
      · exact (fun c => hb (by rw [c]; simp)) h9
      · exact n148 h9
    have hx := hp110k b x n152 hx
    have hx := hU126.2 _ _ (fun c => hb (by rw [c]; simp)) hx
    exact hx
  exact m_return S hRT rfl hQ (Nat.le_of_ble_eq_true rfl) (Nat.le_of_ble_eq_true rfl) dX7_init_121 ⟨⟨q6, q71, q40, q54, r111, b112, _, w0, h83, h84, h64, h122, h123, h124⟩, ⟨_, h121⟩, hKp⟩
