set_option maxRecDepth 100000 in
set_option maxHeartbeats 4000000 in
theorem r_X8_tie_t (l : Launch) (G : RG) (A : Nat → Prop) (M : Wl) {mo ka ta : Nat} {tv : Int32} (t : Nat) (ht : t < 8) (y : Int32) (hb : ¬ (0 ≤ y ∧ y ≤ 255)) (hM : Mo G mo ka ta tv M) : Kr l G A yX8_tie wsX8_tie { frames := 2, cells := 0, slots := 0, locals := 44 } M [.ref mo, .int (nI t), .int y] (Gi G A (fun v N => ∃ pl k9 t9 : Nat, (mo, (.inr (8, [.int 2, .ref pl, .ref k9, .ref t9]) : va_E)) ∈ N ∧ KL G M N ∧ (0 : Int32) = v)) 0 0 := by
  refine Kr.of (cc := cX8_tie) (maxL := 4) (ret := (some .int)) (by decide) rfl (Nat.le_of_ble_eq_true rfl) ?_
  intro X hXl S hRT hIN hXA hQ hD
  subst hXl
  subst hXA
  show J (X.at 0 0) 4 (PL G.Z X.A M) 0 [some (.ref mo), some (.int (nI t)), some (.int y), none] []
  have F0 := S.1.at 0 0 (Nat.le_of_ble_eq_true rfl) (Nat.le_of_ble_eq_true rfl)
  have hOR := S.2.1.or
  obtain ⟨pl1, pe1, f1, kn1, tf1, o1_0, o1_1, o1_2, o1_3, o1_4, o1_5, o1_6, o1_7⟩ := id hM
  have h2 : (mo, (.inr (8, [.int tv, .ref pl1, .ref ka, .ref ta]) : va_E)) ∈ M := o1_0
  have h3 : (pl1, (.inr (10, [.int 10, .ref pe1, .int 10]) : va_E)) ∈ M := o1_1
  have h4 : (pe1, (.inl (G.cO, 10, .inr (.inr (.inr (.inr f1)))) : va_E)) ∈ M := o1_2
  have h5 : (ta, (.inl (G.Z.cI, 8, .inl tf1) : va_E)) ∈ M := o1_4
  have h6 : (ka, (.inl (G.cR, 10, .inr (.inr (.inr (.inr kn1)))) : va_E)) ∈ M := o1_6
  have hDo7 := hD
  refine j_aload_n F0 dX8_tie_0 rfl ?_
  refine j_iload_n F0 dX8_tie_1 rfl ?_
  refine m_cSi S (n1 := 1) (rest := [.ref mo]) (r_X8_isNoEight X.l G X.A M (nI t)) ⟨_, _, _, _, rfl, gX8_tie_X8_isNoEight, rfl, rfl, (by decide +kernel), ⟨(Nat.le_of_ble_eq_true rfl), (Nat.le_of_ble_eq_true rfl)⟩⟩ rfl (Nat.le_of_ble_eq_true rfl) (Nat.le_of_ble_eq_true rfl) (Nat.le_of_ble_eq_true rfl) rfl dX8_tie_2 (fun v8 M9 hD10 hp11 => ?_)
  obtain ⟨hp11a, hp11b⟩ := hp11
  subst hp11a
  subst hp11b
  refine j_iconst F0 1 dX8_tie_5 (by decide) ?_
  refine m_cVi S (n1 := 2) (rest := []) (r_X8_start X.l G X.A M (c := EigP (nI t)) 1 (by decide) h2) ⟨_, _, _, _, rfl, gX8_tie_X8_start, rfl, rfl, (by decide +kernel), ⟨(Nat.le_of_ble_eq_true rfl), (Nat.le_of_ble_eq_true rfl)⟩⟩ h2 rfl rfl (Nat.le_of_ble_eq_true rfl) (Nat.le_of_ble_eq_true rfl) (Nat.le_of_ble_eq_true rfl) rfl dX8_tie_6 (fun v12 M13 hD14 hp15 => ?_)
  obtain ⟨hp15v, hp15a, hp15k⟩ := hp15
  have hp15v : (if EigP (nI t) then (1 : Int32) else 0) = v12 := hp15v
  subst hp15v
  have n16 : pl1 ∉ [mo] := by
    intro h9; simp only [List.mem_cons, List.not_mem_nil, or_false] at h9
    · exact (In.ne hD h3 h2 (by simp)) h9
  have n17 : pe1 ∉ [mo] := by
    intro h9; simp only [List.mem_cons, List.not_mem_nil, or_false] at h9
    · exact (In.ne hD h4 h2 (by simp)) h9
  have n18 : ta ∉ [mo] := by
    intro h9; simp only [List.mem_cons, List.not_mem_nil, or_false] at h9
    · exact (In.ne hD h5 h2 (by simp)) h9
  have n19 : ka ∉ [mo] := by
    intro h9; simp only [List.mem_cons, List.not_mem_nil, or_false] at h9
    · exact (In.ne hD h6 h2 (by simp)) h9
  have h3 := hp15k _ _ n16 h3
  have h4 := hp15k _ _ n17 h4
  have h5 := hp15k _ _ n18 h5
  have h6 := hp15k _ _ n19 h6
  have h20 : (mo, (.inr (8, [.int (if EigP (nI t) then 1 else 0), .ref pl1, .ref ka, .ref ta]) : va_E)) ∈ M13 := hp15a
  refine j_if_ne F0 36 dX8_tie_9 (by decide) (fun h9 => absurd (if0.mpr (eig_ok ht)) h9) (fun _ => ?_)
  have h21 : (mo, (.inr (8, [.int 0, .ref pl1, .ref ka, .ref ta]) : va_E)) ∈ M13 := by have h9 := h20; rw [if_neg (eig_ok ht)] at h9; exact h9
  refine j_aload_n F0 dX8_tie_12 rfl ?_
  refine j_iload_n F0 dX8_tie_13 rfl ?_
  refine j_iconst F0 0 dX8_tie_14 (by decide) ?_
  refine j_sipush F0 255 dX8_tie_15 (by decide) ?_
  refine m_cSi S (n1 := 3) (rest := [.ref mo]) (r_X8_isIn X.l G X.A M13 y 0 255) ⟨_, _, _, _, rfl, gX8_tie_X8_isIn, rfl, rfl, (by decide +kernel), ⟨(Nat.le_of_ble_eq_true rfl), (Nat.le_of_ble_eq_true rfl)⟩⟩ rfl (Nat.le_of_ble_eq_true rfl) (Nat.le_of_ble_eq_true rfl) (Nat.le_of_ble_eq_true rfl) rfl dX8_tie_18 (fun v22 M23 hD24 hp25 => ?_)
  obtain ⟨hp25a, hp25b⟩ := hp25
  subst hp25a
  subst hp25b
  refine j_if_ne F0 28 dX8_tie_21 (by decide) (fun h9 => absurd (if0.mpr hb) h9) (fun _ => ?_)
  refine j_iconst F0 1 dX8_tie_24 (by decide) ?_
  refine j_goto F0 29 dX8_tie_25 (by decide) ?_
  refine j_iconst F0 2 dX8_tie_29 (by decide) ?_
  refine m_cVi S (n1 := 2) (rest := []) (r_X8_refuse X.l G X.A M13 (c := True) 2 (by decide) h21) ⟨_, _, _, _, rfl, gX8_tie_X8_refuse, rfl, rfl, (by decide +kernel), ⟨(Nat.le_of_ble_eq_true rfl), (Nat.le_of_ble_eq_true rfl)⟩⟩ h21 rfl rfl (Nat.le_of_ble_eq_true rfl) (Nat.le_of_ble_eq_true rfl) (Nat.le_of_ble_eq_true rfl) rfl dX8_tie_30 (fun v26 M27 hD28 hp29 => ?_)
  obtain ⟨hp29v, hp29a, hp29k⟩ := hp29
  have hp29v : (1 : Int32) = v26 := hp29v
  subst hp29v
  have n30 : pl1 ∉ [mo] := by
    intro h9; simp only [List.mem_cons, List.not_mem_nil, or_false] at h9
    · exact (In.ne hD14 h3 h21 (by simp)) h9
  have n31 : pe1 ∉ [mo] := by
    intro h9; simp only [List.mem_cons, List.not_mem_nil, or_false] at h9
    · exact (In.ne hD14 h4 h21 (by simp)) h9
  have n32 : ta ∉ [mo] := by
    intro h9; simp only [List.mem_cons, List.not_mem_nil, or_false] at h9
    · exact (In.ne hD14 h5 h21 (by simp)) h9
  have n33 : ka ∉ [mo] := by
    intro h9; simp only [List.mem_cons, List.not_mem_nil, or_false] at h9
    · exact (In.ne hD14 h6 h21 (by simp)) h9
  have h3 := hp29k _ _ n30 h3
  have h4 := hp29k _ _ n31 h4
  have h5 := hp29k _ _ n32 h5
  have h6 := hp29k _ _ n33 h6
  have h34 : (mo, (.inr (8, [.int 2, .ref pl1, .ref ka, .ref ta]) : va_E)) ∈ M27 := hp29a
  refine j_if_eq F0 38 dX8_tie_33 (by decide) (fun h9 => absurd h9 (by decide)) (fun _ => ?_)
  refine j_iconst F0 0 dX8_tie_36 (by decide) ?_
  have hKp : Kp M [mo, ka] M27 := by
    intro b x hb hx
    have n35 : b ∉ [mo] := by
      intro h9; simp only [List.mem_cons, List.not_mem_nil, or_false] at h9
      · exact (fun c => hb (by rw [c]; simp)) h9
    have hx := hp15k b x n35 hx
    have n36 : b ∉ [mo] := by
      intro h9; simp only [List.mem_cons, List.not_mem_nil, or_false] at h9
      · exact (fun c => hb (by rw [c]; simp)) h9
    have hx := hp29k b x n36 hx
    exact hx
  have hKL : KL G M M27 := fun o n f ho => hKp _ _ (by
    intro h9; simp only [List.mem_cons, List.not_mem_nil, or_false] at h9
    rcases h9 with h9 | h9
    · exact In.ne hD ho o1_0 (by simp) h9
    · exact In.ne hD ho o1_6 (by simp) h9
    ) ho
  exact m_ireturn S hRT rfl hQ (Nat.le_of_ble_eq_true rfl) (Nat.le_of_ble_eq_true rfl) dX8_tie_37 rfl ⟨_, _, _, h34, hKL, rfl⟩

set_option maxRecDepth 100000 in
set_option maxHeartbeats 4000000 in
theorem r_X8_tie (l : Launch) (G : RG) (A : Nat → Prop) (M : Wl) {mo ka ta : Nat} {tv : Int32} (t : Nat) (ht : t < 8) (y : Int32) (hg : 0 ≤ y ∧ y ≤ 255) (hM : Mo G mo ka ta tv M) : Kr l G A yX8_tie wsX8_tie { frames := 2, cells := 0, slots := 0, locals := 44 } M [.ref mo, .int (nI t), .int y] (Gi G A (fun v N => ∃ pl k9 t9 : Nat, (mo, (.inr (8, [.int 0, .ref pl, .ref k9, .ref t9]) : va_E)) ∈ N ∧ KL G M N ∧ (tie0 t : Int32) = v)) 0 0 := by
  refine Kr.of (cc := cX8_tie) (maxL := 4) (ret := (some .int)) (by decide) rfl (Nat.le_of_ble_eq_true rfl) ?_
  intro X hXl S hRT hIN hXA hQ hD
  subst hXl
  subst hXA
  show J (X.at 0 0) 4 (PL G.Z X.A M) 0 [some (.ref mo), some (.int (nI t)), some (.int y), none] []
  have F0 := S.1.at 0 0 (Nat.le_of_ble_eq_true rfl) (Nat.le_of_ble_eq_true rfl)
  have hOR := S.2.1.or
  obtain ⟨pl1, pe1, f1, kn1, tf1, o1_0, o1_1, o1_2, o1_3, o1_4, o1_5, o1_6, o1_7⟩ := id hM
  have h2 : (mo, (.inr (8, [.int tv, .ref pl1, .ref ka, .ref ta]) : va_E)) ∈ M := o1_0
  have h3 : (pl1, (.inr (10, [.int 10, .ref pe1, .int 10]) : va_E)) ∈ M := o1_1
  have h4 : (pe1, (.inl (G.cO, 10, .inr (.inr (.inr (.inr f1)))) : va_E)) ∈ M := o1_2
  have h5 : (ta, (.inl (G.Z.cI, 8, .inl tf1) : va_E)) ∈ M := o1_4
  have h6 : (ka, (.inl (G.cR, 10, .inr (.inr (.inr (.inr kn1)))) : va_E)) ∈ M := o1_6
  have hDo7 := hD
  refine j_aload_n F0 dX8_tie_0 rfl ?_
  refine j_iload_n F0 dX8_tie_1 rfl ?_
  refine m_cSi S (n1 := 1) (rest := [.ref mo]) (r_X8_isNoEight X.l G X.A M (nI t)) ⟨_, _, _, _, rfl, gX8_tie_X8_isNoEight, rfl, rfl, (by decide +kernel), ⟨(Nat.le_of_ble_eq_true rfl), (Nat.le_of_ble_eq_true rfl)⟩⟩ rfl (Nat.le_of_ble_eq_true rfl) (Nat.le_of_ble_eq_true rfl) (Nat.le_of_ble_eq_true rfl) rfl dX8_tie_2 (fun v8 M9 hD10 hp11 => ?_)
  obtain ⟨hp11a, hp11b⟩ := hp11
  subst hp11a
  subst hp11b
  refine j_iconst F0 1 dX8_tie_5 (by decide) ?_
  refine m_cVi S (n1 := 2) (rest := []) (r_X8_start X.l G X.A M (c := EigP (nI t)) 1 (by decide) h2) ⟨_, _, _, _, rfl, gX8_tie_X8_start, rfl, rfl, (by decide +kernel), ⟨(Nat.le_of_ble_eq_true rfl), (Nat.le_of_ble_eq_true rfl)⟩⟩ h2 rfl rfl (Nat.le_of_ble_eq_true rfl) (Nat.le_of_ble_eq_true rfl) (Nat.le_of_ble_eq_true rfl) rfl dX8_tie_6 (fun v12 M13 hD14 hp15 => ?_)
  obtain ⟨hp15v, hp15a, hp15k⟩ := hp15
  have hp15v : (if EigP (nI t) then (1 : Int32) else 0) = v12 := hp15v
  subst hp15v
  have n16 : pl1 ∉ [mo] := by
    intro h9; simp only [List.mem_cons, List.not_mem_nil, or_false] at h9
    · exact (In.ne hD h3 h2 (by simp)) h9
  have n17 : pe1 ∉ [mo] := by
    intro h9; simp only [List.mem_cons, List.not_mem_nil, or_false] at h9
    · exact (In.ne hD h4 h2 (by simp)) h9
  have n18 : ta ∉ [mo] := by
    intro h9; simp only [List.mem_cons, List.not_mem_nil, or_false] at h9
    · exact (In.ne hD h5 h2 (by simp)) h9
  have n19 : ka ∉ [mo] := by
    intro h9; simp only [List.mem_cons, List.not_mem_nil, or_false] at h9
    · exact (In.ne hD h6 h2 (by simp)) h9
  have h3 := hp15k _ _ n16 h3
  have h4 := hp15k _ _ n17 h4
  have h5 := hp15k _ _ n18 h5
  have h6 := hp15k _ _ n19 h6
  have h20 : (mo, (.inr (8, [.int (if EigP (nI t) then 1 else 0), .ref pl1, .ref ka, .ref ta]) : va_E)) ∈ M13 := hp15a
  refine j_if_ne F0 36 dX8_tie_9 (by decide) (fun h9 => absurd (if0.mpr (eig_ok ht)) h9) (fun _ => ?_)
  have h21 : (mo, (.inr (8, [.int 0, .ref pl1, .ref ka, .ref ta]) : va_E)) ∈ M13 := by have h9 := h20; rw [if_neg (eig_ok ht)] at h9; exact h9
  refine j_aload_n F0 dX8_tie_12 rfl ?_
  refine j_iload_n F0 dX8_tie_13 rfl ?_
  refine j_iconst F0 0 dX8_tie_14 (by decide) ?_
  refine j_sipush F0 255 dX8_tie_15 (by decide) ?_
  refine m_cSi S (n1 := 3) (rest := [.ref mo]) (r_X8_isIn X.l G X.A M13 y 0 255) ⟨_, _, _, _, rfl, gX8_tie_X8_isIn, rfl, rfl, (by decide +kernel), ⟨(Nat.le_of_ble_eq_true rfl), (Nat.le_of_ble_eq_true rfl)⟩⟩ rfl (Nat.le_of_ble_eq_true rfl) (Nat.le_of_ble_eq_true rfl) (Nat.le_of_ble_eq_true rfl) rfl dX8_tie_18 (fun v22 M23 hD24 hp25 => ?_)
  obtain ⟨hp25a, hp25b⟩ := hp25
  subst hp25a
  subst hp25b
  refine j_if_ne F0 28 dX8_tie_21 (by decide) (fun _ => ?_) (fun h9 => absurd h9 (if1.mpr hg))
  refine j_iconst F0 0 dX8_tie_28 (by decide) ?_
  refine j_iconst F0 2 dX8_tie_29 (by decide) ?_
  refine m_cVi S (n1 := 2) (rest := []) (r_X8_refuse X.l G X.A M13 (c := False) 2 (by decide) h21) ⟨_, _, _, _, rfl, gX8_tie_X8_refuse, rfl, rfl, (by decide +kernel), ⟨(Nat.le_of_ble_eq_true rfl), (Nat.le_of_ble_eq_true rfl)⟩⟩ h21 rfl rfl (Nat.le_of_ble_eq_true rfl) (Nat.le_of_ble_eq_true rfl) (Nat.le_of_ble_eq_true rfl) rfl dX8_tie_30 (fun v26 M27 hD28 hp29 => ?_)
  obtain ⟨hp29v, hp29a, hp29k⟩ := hp29
  have hp29v : (0 : Int32) = v26 := hp29v
  subst hp29v
  have n30 : pl1 ∉ [mo] := by
    intro h9; simp only [List.mem_cons, List.not_mem_nil, or_false] at h9
    · exact (In.ne hD14 h3 h21 (by simp)) h9
  have n31 : pe1 ∉ [mo] := by
    intro h9; simp only [List.mem_cons, List.not_mem_nil, or_false] at h9
    · exact (In.ne hD14 h4 h21 (by simp)) h9
  have n32 : ta ∉ [mo] := by
    intro h9; simp only [List.mem_cons, List.not_mem_nil, or_false] at h9
    · exact (In.ne hD14 h5 h21 (by simp)) h9
  have n33 : ka ∉ [mo] := by
    intro h9; simp only [List.mem_cons, List.not_mem_nil, or_false] at h9
    · exact (In.ne hD14 h6 h21 (by simp)) h9
  have h3 := hp29k _ _ n30 h3
  have h4 := hp29k _ _ n31 h4
  have h5 := hp29k _ _ n32 h5
  have h6 := hp29k _ _ n33 h6
  have h34 : (mo, (.inr (8, [.int 0, .ref pl1, .ref ka, .ref ta]) : va_E)) ∈ M27 := hp29a
  refine j_if_eq F0 38 dX8_tie_33 (by decide) (fun _ => ?_) (fun h9 => absurd (by decide) h9)
  refine j_aload_n F0 dX8_tie_38 rfl ?_
  refine m_get S (C := RX8) (T := TX8) (N := 4) (by decide +kernel) h34 rfl (v := .ref ta) 3 (by decide) (by decide +kernel) (fun _ h9 => h9) rfl dX8_tie_39 ?_
  refine j_iload_n F0 dX8_tie_42 rfl ?_
  refine m_iaload S (v := tie0 t) h5 (vp_in_nI ht (by decide)) (by rw [nI_clamp (by omega)]; exact o1_5 t ht) dX8_tie_43 ?_
  refine j_istore_n F0 [some (.ref mo), some (.int (nI t)), some (.int y), some (.int (tie0 t))] dX8_tie_44 (by decide) rfl rfl ?_
  refine j_aload_n F0 dX8_tie_45 rfl ?_
  refine m_get S (C := RX8) (T := TX8) (N := 4) (by decide +kernel) h34 rfl (v := .ref ta) 3 (by decide) (by decide +kernel) (fun _ h9 => h9) rfl dX8_tie_46 ?_
  refine j_iload_n F0 dX8_tie_49 rfl ?_
  refine j_iload_n F0 dX8_tie_50 rfl ?_
  refine m_iastore S (k0 := t) h5 (vp_in_nI ht (by decide)) (nI_clamp (by omega)) dX8_tie_51 (fun M36 hD37 hU35 => ?_)
  have n38 : pl1 ≠ ta := (In.ne hD28 h3 h5 (by simp))
  have n39 : pe1 ≠ ta := (In.ne hD28 h4 h5 (by simp))
  have n40 : ka ≠ ta := (In.ne hD28 h6 h5 (by simp))
  have n41 : mo ≠ ta := (In.ne hD28 h34 h5 (by simp))
  have h3 := hU35.2 _ _ n38 h3
  have h4 := hU35.2 _ _ n39 h4
  have h6 := hU35.2 _ _ n40 h6
  have h34 := hU35.2 _ _ n41 h34
  have h5 := hU35.1
  refine j_iload_n F0 dX8_tie_52 rfl ?_
  have hKp : Kp M [mo, ka, ta] M36 := by
    intro b x hb hx
    have n42 : b ∉ [mo] := by
      intro h9; simp only [List.mem_cons, List.not_mem_nil, or_false] at h9
      · exact (fun c => hb (by rw [c]; simp)) h9
    have hx := hp15k b x n42 hx
    have n43 : b ∉ [mo] := by
      intro h9; simp only [List.mem_cons, List.not_mem_nil, or_false] at h9
      · exact (fun c => hb (by rw [c]; simp)) h9
    have hx := hp29k b x n43 hx
    have hx := hU35.2 _ _ (fun c => hb (by rw [c]; simp)) hx
    exact hx
  have hKL : KL G M M36 := fun o n f ho => hKp _ _ (by
    intro h9; simp only [List.mem_cons, List.not_mem_nil, or_false] at h9
    rcases h9 with h9 | h9 | h9
    · exact In.ne hD ho o1_0 (by simp) h9
    · exact In.ne hD ho o1_6 (by simp) h9
    · exact In.ne hD ho o1_4 (by simp) h9
    ) ho
  exact m_ireturn S hRT rfl hQ (Nat.le_of_ble_eq_true rfl) (Nat.le_of_ble_eq_true rfl) dX8_tie_53 rfl ⟨_, _, _, h34, hKL, rfl⟩

set_option maxRecDepth 100000 in
set_option maxHeartbeats 4000000 in
theorem r_X8_untoken (l : Launch) (G : RG) (A : Nat → Prop) (M : Wl) {mo ka ta : Nat} {tv : Int32} (p : Nat) (hp : p < 10) (y : Int32) (hg : 1 ≤ y ∧ y ≤ 40) (hM : Mo G mo ka ta tv M) : Kr l G A yX8_untoken wsX8_untoken { frames := 3, cells := 0, slots := 0, locals := 65 } M [.ref mo, .int (nI p), .int y] (Gi G A (fun v N => ∃ pl k9 t9 : Nat, (mo, (.inr (8, [.int 0, .ref pl, .ref k9, .ref t9]) : va_E)) ∈ N ∧ KL G M N ∧ (0 : Int32) = v)) 0 0 := by
  refine Kr.of (cc := cX8_untoken) (maxL := 5) (ret := (some .int)) (by decide) rfl (Nat.le_of_ble_eq_true rfl) ?_
  intro X hXl S hRT hIN hXA hQ hD
  subst hXl
  subst hXA
  show J (X.at 0 0) 5 (PL G.Z X.A M) 0 [some (.ref mo), some (.int (nI p)), some (.int y), none, none] []
  have F0 := S.1.at 0 0 (Nat.le_of_ble_eq_true rfl) (Nat.le_of_ble_eq_true rfl)
  have hOR := S.2.1.or
  obtain ⟨pl1, pe1, f1, kn1, tf1, o1_0, o1_1, o1_2, o1_3, o1_4, o1_5, o1_6, o1_7⟩ := id hM
  have h2 : (mo, (.inr (8, [.int tv, .ref pl1, .ref ka, .ref ta]) : va_E)) ∈ M := o1_0
  have h3 : (pl1, (.inr (10, [.int 10, .ref pe1, .int 10]) : va_E)) ∈ M := o1_1
  have h4 : (pe1, (.inl (G.cO, 10, .inr (.inr (.inr (.inr f1)))) : va_E)) ∈ M := o1_2
  have h5 : (ta, (.inl (G.Z.cI, 8, .inl tf1) : va_E)) ∈ M := o1_4
  have h6 : (ka, (.inl (G.cR, 10, .inr (.inr (.inr (.inr kn1)))) : va_E)) ∈ M := o1_6
  have hDo7 := hD
  obtain ⟨t9, ht9, ht8⟩ := o1_3 p hp
  have h8 : (t9, (.inr (10, [.int 0, .ref G.e0, .int 0]) : va_E)) ∈ M := ht8
  refine j_aload_n F0 dX8_untoken_0 rfl ?_
  refine j_iload_n F0 dX8_untoken_1 rfl ?_
  refine m_cVi S (n1 := 1) (rest := []) (r_X8_isNoProgram X.l G X.A M (nI p) h2) ⟨_, _, _, _, rfl, gX8_untoken_X8_isNoProgram, rfl, rfl, (by decide +kernel), ⟨(Nat.le_of_ble_eq_true rfl), (Nat.le_of_ble_eq_true rfl)⟩⟩ h2 rfl rfl (Nat.le_of_ble_eq_true rfl) (Nat.le_of_ble_eq_true rfl) (Nat.le_of_ble_eq_true rfl) rfl dX8_untoken_2 (fun v9 M10 hD11 hp12 => ?_)
  obtain ⟨hp12v, hp12a, hp12k⟩ := hp12
  subst hp12v
  have n13 : pl1 ∉ [mo] := by
    intro h9; simp only [List.mem_cons, List.not_mem_nil, or_false] at h9
    · exact (In.ne hD h3 h2 (by simp)) h9
  have n14 : pe1 ∉ [mo] := by
    intro h9; simp only [List.mem_cons, List.not_mem_nil, or_false] at h9
    · exact (In.ne hD h4 h2 (by simp)) h9
  have n15 : ta ∉ [mo] := by
    intro h9; simp only [List.mem_cons, List.not_mem_nil, or_false] at h9
    · exact (In.ne hD h5 h2 (by simp)) h9
  have n16 : ka ∉ [mo] := by
    intro h9; simp only [List.mem_cons, List.not_mem_nil, or_false] at h9
    · exact (In.ne hD h6 h2 (by simp)) h9
  have n17 : t9 ∉ [mo] := by
    intro h9; simp only [List.mem_cons, List.not_mem_nil, or_false] at h9
    · exact (In.ne hD h8 h2 (by simp)) h9
  have h3 := hp12k _ _ n13 h3
  have h4 := hp12k _ _ n14 h4
  have h5 := hp12k _ _ n15 h5
  have h6 := hp12k _ _ n16 h6
  have h8 := hp12k _ _ n17 h8
  have h18 : (mo, (.inr (8, [.int (if ProP (nI p) then (1 : Int32) else 0), .ref pl1, .ref ka, .ref ta]) : va_E)) ∈ M10 := hp12a
  refine j_if_ne F0 31 dX8_untoken_5 (by decide) (fun h9 => absurd (if0.mpr (pro_ok hp)) h9) (fun _ => ?_)
  have h19 : (mo, (.inr (8, [.int 0, .ref pl1, .ref ka, .ref ta]) : va_E)) ∈ M10 := by have h9 := h18; rw [if_neg (pro_ok hp)] at h9; exact h9
  refine j_aload_n F0 dX8_untoken_8 rfl ?_
  refine j_iload_n F0 dX8_untoken_9 rfl ?_
  refine j_iconst F0 1 dX8_untoken_10 (by decide) ?_
  refine j_bipush F0 40 dX8_untoken_11 (by decide) ?_
  refine m_cSi S (n1 := 3) (rest := [.ref mo]) (r_X8_isIn X.l G X.A M10 y 1 40) ⟨_, _, _, _, rfl, gX8_untoken_X8_isIn, rfl, rfl, (by decide +kernel), ⟨(Nat.le_of_ble_eq_true rfl), (Nat.le_of_ble_eq_true rfl)⟩⟩ rfl (Nat.le_of_ble_eq_true rfl) (Nat.le_of_ble_eq_true rfl) (Nat.le_of_ble_eq_true rfl) rfl dX8_untoken_13 (fun v20 M21 hD22 hp23 => ?_)
  obtain ⟨hp23a, hp23b⟩ := hp23
  subst hp23a
  subst hp23b
  refine j_if_ne F0 23 dX8_untoken_16 (by decide) (fun _ => ?_) (fun h9 => absurd h9 (if1.mpr hg))
  refine j_iconst F0 0 dX8_untoken_23 (by decide) ?_
  refine j_iconst F0 2 dX8_untoken_24 (by decide) ?_
  refine m_cVi S (n1 := 2) (rest := []) (r_X8_refuse X.l G X.A M10 (c := False) 2 (by decide) h19) ⟨_, _, _, _, rfl, gX8_untoken_X8_refuse, rfl, rfl, (by decide +kernel), ⟨(Nat.le_of_ble_eq_true rfl), (Nat.le_of_ble_eq_true rfl)⟩⟩ h19 rfl rfl (Nat.le_of_ble_eq_true rfl) (Nat.le_of_ble_eq_true rfl) (Nat.le_of_ble_eq_true rfl) rfl dX8_untoken_25 (fun v24 M25 hD26 hp27 => ?_)
  obtain ⟨hp27v, hp27a, hp27k⟩ := hp27
  have hp27v : (0 : Int32) = v24 := hp27v
  subst hp27v
  have n28 : pl1 ∉ [mo] := by
    intro h9; simp only [List.mem_cons, List.not_mem_nil, or_false] at h9
    · exact (In.ne hD11 h3 h19 (by simp)) h9
  have n29 : pe1 ∉ [mo] := by
    intro h9; simp only [List.mem_cons, List.not_mem_nil, or_false] at h9
    · exact (In.ne hD11 h4 h19 (by simp)) h9
  have n30 : ta ∉ [mo] := by
    intro h9; simp only [List.mem_cons, List.not_mem_nil, or_false] at h9
    · exact (In.ne hD11 h5 h19 (by simp)) h9
  have n31 : ka ∉ [mo] := by
    intro h9; simp only [List.mem_cons, List.not_mem_nil, or_false] at h9
    · exact (In.ne hD11 h6 h19 (by simp)) h9
  have n32 : t9 ∉ [mo] := by
    intro h9; simp only [List.mem_cons, List.not_mem_nil, or_false] at h9
    · exact (In.ne hD11 h8 h19 (by simp)) h9
  have h3 := hp27k _ _ n28 h3
  have h4 := hp27k _ _ n29 h4
  have h5 := hp27k _ _ n30 h5
  have h6 := hp27k _ _ n31 h6
  have h8 := hp27k _ _ n32 h8
  have h33 : (mo, (.inr (8, [.int 0, .ref pl1, .ref ka, .ref ta]) : va_E)) ∈ M25 := hp27a
  refine j_if_eq F0 33 dX8_untoken_28 (by decide) (fun _ => ?_) (fun h9 => absurd (by decide) h9)
  refine j_aload_n F0 dX8_untoken_33 rfl ?_
  refine m_cVv S (n1 := 0) (rest := []) (r_X8_forget X.l G X.A M25 h33 h6) ⟨_, _, _, _, rfl, gX8_untoken_X8_forget, rfl, rfl, (by decide +kernel), ⟨(Nat.le_of_ble_eq_true rfl), (Nat.le_of_ble_eq_true rfl)⟩⟩ h33 rfl rfl (Nat.le_of_ble_eq_true rfl) (Nat.le_of_ble_eq_true rfl) (Nat.le_of_ble_eq_true rfl) rfl dX8_untoken_34 (fun M35 hD36 hp37 => ?_)
  obtain ⟨f38, hp37a, hp37n, hp37k⟩ := hp37
  have n39 : pl1 ∉ [ka] := by
    intro h9; simp only [List.mem_cons, List.not_mem_nil, or_false] at h9
    · exact (In.ne hD26 h3 h6 (by simp)) h9
  have n40 : pe1 ∉ [ka] := by
    intro h9; simp only [List.mem_cons, List.not_mem_nil, or_false] at h9
    · exact (In.ne hD26 h4 h6 (fun h9 => hOR (by injection h9 with h9; exact (Prod.mk.inj h9).1))) h9
  have n41 : ta ∉ [ka] := by
    intro h9; simp only [List.mem_cons, List.not_mem_nil, or_false] at h9
    · exact (In.ne hD26 h5 h6 (by simp)) h9
  have n42 : t9 ∉ [ka] := by
    intro h9; simp only [List.mem_cons, List.not_mem_nil, or_false] at h9
    · exact (In.ne hD26 h8 h6 (by simp)) h9
  have n43 : mo ∉ [ka] := by
    intro h9; simp only [List.mem_cons, List.not_mem_nil, or_false] at h9
    · exact (In.ne hD26 h33 h6 (by simp)) h9
  have h3 := hp37k _ _ n39 h3
  have h4 := hp37k _ _ n40 h4
  have h5 := hp37k _ _ n41 h5
  have h8 := hp37k _ _ n42 h8
  have h33 := hp37k _ _ n43 h33
  have h44 : (ka, (.inl (G.cR, 10, .inr (.inr (.inr (.inr f38)))) : va_E)) ∈ M35 := hp37a
  refine j_aload_n F0 dX8_untoken_37 rfl ?_
  refine m_get S (C := RX8) (T := TX8) (N := 4) (by decide +kernel) h33 rfl (v := .ref pl1) 1 (by decide) (by decide +kernel) (fun _ h9 => h9) rfl dX8_untoken_38 ?_
  refine j_iload_n F0 dX8_untoken_41 rfl ?_
  refine m_cVr S (n1 := 1) (rest := []) (r_Jx4a65c_get_915e3 X.l G X.A M35 (nI p) t9 (nI_pos (by omega)) (by rw [show (10 : Int32) = nI 10 from rfl, nI_ltI (by omega) (by omega)]; exact hp) (vp_in_nI hp (by decide)) (by rw [nI_clamp (by omega)]; exact ht9) h3 h4) ⟨_, _, _, _, rfl, gX8_untoken_Jx4a65c_get_915e3, rfl, rfl, (by decide +kernel), ⟨(Nat.le_of_ble_eq_true rfl), (Nat.le_of_ble_eq_true rfl)⟩⟩ h3 rfl rfl (Nat.le_of_ble_eq_true rfl) (Nat.le_of_ble_eq_true rfl) (Nat.le_of_ble_eq_true rfl) rfl dX8_untoken_42 (fun v45 M46 hD47 hp48 => ?_)
  obtain ⟨hp48a, hp48b⟩ := hp48
  subst hp48a
  subst hp48b
  refine m_cast S (C := "java/util/ArrayList") h8 rfl (by decide +kernel) dX8_untoken_45 ?_
  refine j_astore_n F0 [some (.ref mo), some (.int (nI p)), some (.int y), some (.ref t9), none] dX8_untoken_48 (by decide) rfl rfl ?_
  refine j_iconst F0 0 dX8_untoken_49 (by decide) ?_
  refine j_istore F0 [some (.ref mo), some (.int (nI p)), some (.int y), some (.ref t9), some (.int 0)] dX8_untoken_50 (by decide) rfl rfl ?_
  refine j_iload F0 dX8_untoken_52 rfl ?_
  refine j_iload_n F0 dX8_untoken_54 rfl ?_
  refine j_icmp_ge F0 82 dX8_untoken_55 (by decide) (fun h => ?_) (fun h => ?_)
  · skip
    refine j_aload_n F0 dX8_untoken_82 rfl ?_
    refine m_cVi S (n1 := 0) (rest := []) (r_Jx4a65c_size_8abf5 X.l G X.A M35 h8) ⟨_, _, _, _, rfl, gX8_untoken_Jx4a65c_size_8abf5, rfl, rfl, (by decide +kernel), ⟨(Nat.le_of_ble_eq_true rfl), (Nat.le_of_ble_eq_true rfl)⟩⟩ h8 rfl rfl (Nat.le_of_ble_eq_true rfl) (Nat.le_of_ble_eq_true rfl) (Nat.le_of_ble_eq_true rfl) rfl dX8_untoken_83 (fun v49 M50 hD51 hp52 => ?_)
    obtain ⟨hp52a, hp52b⟩ := hp52
    subst hp52a
    subst hp52b
    have hKp : Kp M [mo, ka] M35 := by
      intro b x hb hx
      have n53 : b ∉ [mo] := by
        intro h9; simp only [List.mem_cons, List.not_mem_nil, or_false] at h9
        · exact (fun c => hb (by rw [c]; simp)) h9
      have hx := hp12k b x n53 hx
      have n54 : b ∉ [mo] := by
        intro h9; simp only [List.mem_cons, List.not_mem_nil, or_false] at h9
        · exact (fun c => hb (by rw [c]; simp)) h9
      have hx := hp27k b x n54 hx
      have n55 : b ∉ [ka] := by
        intro h9; simp only [List.mem_cons, List.not_mem_nil, or_false] at h9
        · exact (fun c => hb (by rw [c]; simp)) h9
      have hx := hp37k b x n55 hx
      exact hx
    have hKL : KL G M M35 := fun o n f ho => hKp _ _ (by
      intro h9; simp only [List.mem_cons, List.not_mem_nil, or_false] at h9
      rcases h9 with h9 | h9
      · exact In.ne hD ho o1_0 (by simp) h9
      · exact In.ne hD ho o1_6 (by simp) h9
      ) ho
    exact m_ireturn S hRT rfl hQ (Nat.le_of_ble_eq_true rfl) (Nat.le_of_ble_eq_true rfl) dX8_untoken_86 rfl ⟨_, _, _, h33, hKL, rfl⟩
  · skip
    refine j_aload_n F0 dX8_untoken_58 rfl ?_
    refine m_cVi S (n1 := 0) (rest := []) (r_Jx4a65c_isEmpty_aae02 X.l G X.A M35 h8) ⟨_, _, _, _, rfl, gX8_untoken_Jx4a65c_isEmpty_aae02, rfl, rfl, (by decide +kernel), ⟨(Nat.le_of_ble_eq_true rfl), (Nat.le_of_ble_eq_true rfl)⟩⟩ h8 rfl rfl (Nat.le_of_ble_eq_true rfl) (Nat.le_of_ble_eq_true rfl) (Nat.le_of_ble_eq_true rfl) rfl dX8_untoken_59 (fun v56 M57 hD58 hp59 => ?_)
    obtain ⟨hp59a, hp59b⟩ := hp59
    subst hp59a
    subst hp59b
    refine j_if_ne F0 82 dX8_untoken_62 (by decide) (fun _ => ?_) (fun h9 => absurd h9 (by decide))
    refine j_aload_n F0 dX8_untoken_82 rfl ?_
    refine m_cVi S (n1 := 0) (rest := []) (r_Jx4a65c_size_8abf5 X.l G X.A M35 h8) ⟨_, _, _, _, rfl, gX8_untoken_Jx4a65c_size_8abf5, rfl, rfl, (by decide +kernel), ⟨(Nat.le_of_ble_eq_true rfl), (Nat.le_of_ble_eq_true rfl)⟩⟩ h8 rfl rfl (Nat.le_of_ble_eq_true rfl) (Nat.le_of_ble_eq_true rfl) (Nat.le_of_ble_eq_true rfl) rfl dX8_untoken_83 (fun v60 M61 hD62 hp63 => ?_)
    obtain ⟨hp63a, hp63b⟩ := hp63
    subst hp63a
    subst hp63b
    have hKp : Kp M [mo, ka] M35 := by
      intro b x hb hx
      have n64 : b ∉ [mo] := by
        intro h9; simp only [List.mem_cons, List.not_mem_nil, or_false] at h9
        · exact (fun c => hb (by rw [c]; simp)) h9
      have hx := hp12k b x n64 hx
      have n65 : b ∉ [mo] := by
        intro h9; simp only [List.mem_cons, List.not_mem_nil, or_false] at h9
        · exact (fun c => hb (by rw [c]; simp)) h9
      have hx := hp27k b x n65 hx
      have n66 : b ∉ [ka] := by
        intro h9; simp only [List.mem_cons, List.not_mem_nil, or_false] at h9
        · exact (fun c => hb (by rw [c]; simp)) h9
      have hx := hp37k b x n66 hx
      exact hx
    have hKL : KL G M M35 := fun o n f ho => hKp _ _ (by
      intro h9; simp only [List.mem_cons, List.not_mem_nil, or_false] at h9
      rcases h9 with h9 | h9
      · exact In.ne hD ho o1_0 (by simp) h9
      · exact In.ne hD ho o1_6 (by simp) h9
      ) ho
    exact m_ireturn S hRT rfl hQ (Nat.le_of_ble_eq_true rfl) (Nat.le_of_ble_eq_true rfl) dX8_untoken_86 rfl ⟨_, _, _, h33, hKL, rfl⟩

theorem bx_out {X : Cx} {G : RG} {cc : ByteArray} {nL : Nat} {Ts : List Cond} {own : String} {R : Room} (S : Gx X G cc nL Ts own R) {k : Nat} (hk : k < 256) : ¬ X.A (G.bx k) := by
  obtain ⟨cell, -, -, -, h⟩ := S.2.2.1.2.2.2.2.2.2.2.1.1 k hk
  exact h
theorem m_saload {X : Cx} {G : RG} {cc : ByteArray} {nL : Nat} {Ts : List Cond} {own : String} {R : Room} {M : Wl} {pc k n : Nat} {lv : List (Option Value)} {rest : List Value} (S : Gx X G cc nL Ts own R) {C : String} {t N : Nat} {f : Nat → Value} {i : Int32} {v : Value} (hT : va_T (.object C) t N f X.A X.s X.s.heap) (hin : vp_in i N) (hv : f i.toNatClampNeg = v) (hd : decode cc pc = .ok (.aaload, 1)) (kk : J (X.at k n) nL (PL G.Z X.A M) (pc + 1) lv (v :: rest)) : J (X.at k n) nL (PL G.Z X.A M) pc lv (.int i :: .ref t :: rest) :=
  fun H locs ls hw hS hl => vb_tq S.1.ex S.1.by hT hS hin hv hd (kk H locs ls hw hS hl)
theorem vb_c_add {k : Nat} : vb_c k + 128 = nI k := by
  unfold vb_c
  rw [Int32.sub_add_cancel]
  rfl
theorem vb_c_all : ∀ k, k < 256 → (vb_c k).toInt = (k : Int) - 128 := by decide +kernel
theorem vb_lo {k : Nat} (hk : k < 256) : ¬ vb_c k < -128 := fun h => by
  rw [Int32.lt_iff_toInt_lt, vb_c_all k hk] at h
  have h9 : ((-128 : Int32)).toInt = -128 := by decide
  omega
theorem vb_hi {k : Nat} (hk : k < 256) : ¬ 127 < vb_c k := fun h => by
  rw [Int32.lt_iff_toInt_lt, vb_c_all k hk] at h
  have h9 : ((127 : Int32)).toInt = 127 := by decide
  omega

set_option maxRecDepth 100000 in
set_option maxHeartbeats 4000000 in
theorem r_J6_valueOf_2dffe (l : Launch) (G : RG) (A : Nat → Prop) (M : Wl) (k : Nat) (hk : k < 256) : Kr l G A yJ6_valueOf_2dffe wsJ6_valueOf_2dffe { frames := 0, cells := 0, slots := 0, locals := 0 } M [.int (vb_c k)] (Gr G A (fun v N => G.bx k = v ∧ M = N)) 0 0 := by
  refine Kr.of (cc := cJ6_valueOf_2dffe) (maxL := 1) (ret := (some (.object "java/lang/Integer"))) (by decide) rfl (Nat.le_of_ble_eq_true rfl) ?_
  intro X hXl S hRT hIN hXA hQ hD
  subst hXl
  subst hXA
  show J (X.at 0 0) 1 (PL G.Z X.A M) 0 [some (.int (vb_c k))] []
  have F0 := S.1.at 0 0 (Nat.le_of_ble_eq_true rfl) (Nat.le_of_ble_eq_true rfl)
  have hOR := S.2.1.or
  refine j_iload_n F0 dJ6_valueOf_2dffe_0 rfl ?_
  refine j_bipush F0 (-128) dJ6_valueOf_2dffe_1 (by decide) ?_
  refine j_icmp_lt F0 23 dJ6_valueOf_2dffe_3 (by decide) (fun h9 => absurd h9 (vb_lo hk)) (fun _ => ?_)
  refine j_iload_n F0 dJ6_valueOf_2dffe_6 rfl ?_
  refine m_gets S S.2.2.1.2.2.2.2.1 (by decide +kernel) rfl dJ6_valueOf_2dffe_7 ?_
  refine j_icmp_gt F0 23 dJ6_valueOf_2dffe_10 (by decide) (fun h9 => absurd h9 (vb_hi hk)) (fun _ => ?_)
  refine m_gets S S.2.2.1.2.2.2.2.2.1 (by decide +kernel) rfl dJ6_valueOf_2dffe_13 ?_
  refine j_iload_n F0 dJ6_valueOf_2dffe_16 rfl ?_
  refine j_sipush F0 128 dJ6_valueOf_2dffe_17 (by decide) ?_
  refine j_iadd F0 (nI k) dJ6_valueOf_2dffe_20 vb_c_add ?_
  refine m_saload S (v := .ref (G.bx k)) S.2.2.1.2.2.2.2.2.2.1 (vp_in_nI hk (by decide)) (by rw [nI_clamp (by omega)]) dJ6_valueOf_2dffe_21 ?_
  exact m_areturn S hRT (by first | exact Or.inl ⟨_, rfl⟩ | exact Or.inr ⟨_, rfl⟩) rfl hQ (Nat.le_of_ble_eq_true rfl) (Nat.le_of_ble_eq_true rfl) dJ6_valueOf_2dffe_22 ⟨rfl, rfl⟩

set_option maxRecDepth 100000 in
set_option maxHeartbeats 4000000 in
theorem r_X8_token (l : Launch) (G : RG) (A : Nat → Prop) (M : Wl) {mo ka ta : Nat} {tv : Int32} (p : Nat) (hp : p < 10) (k9 : Nat) (hk9 : k9 < 256) (hy : TokP (vb_c k9)) (hM : Mo G mo ka ta tv M) : Kr l G A yX8_token wsX8_token { frames := 5, cells := 1, slots := 10, locals := 108 } M [.ref mo, .int (nI p), .int (vb_c k9)] (Gi G A (fun v N => ∃ pl k9 t9 : Nat, (mo, (.inr (8, [.int 0, .ref pl, .ref k9, .ref t9]) : va_E)) ∈ N ∧ KL G M N ∧ (1 : Int32) = v)) 1 10 := by
  refine Kr.of (cc := cX8_token) (maxL := 3) (ret := (some .int)) (by decide) rfl (Nat.le_of_ble_eq_true rfl) ?_
  intro X hXl S hRT hIN hXA hQ hD
  subst hXl
  subst hXA
  show J (X.at 0 0) 3 (PL G.Z X.A M) 0 [some (.ref mo), some (.int (nI p)), some (.int (vb_c k9))] []
  have F0 := S.1.at 0 0 (Nat.le_of_ble_eq_true rfl) (Nat.le_of_ble_eq_true rfl)
  have hOR := S.2.1.or
  obtain ⟨pl1, pe1, f1, kn1, tf1, o1_0, o1_1, o1_2, o1_3, o1_4, o1_5, o1_6, o1_7⟩ := id hM
  have h2 : (mo, (.inr (8, [.int tv, .ref pl1, .ref ka, .ref ta]) : va_E)) ∈ M := o1_0
  have h3 : (pl1, (.inr (10, [.int 10, .ref pe1, .int 10]) : va_E)) ∈ M := o1_1
  have h4 : (pe1, (.inl (G.cO, 10, .inr (.inr (.inr (.inr f1)))) : va_E)) ∈ M := o1_2
  have h5 : (ta, (.inl (G.Z.cI, 8, .inl tf1) : va_E)) ∈ M := o1_4
  have h6 : (ka, (.inl (G.cR, 10, .inr (.inr (.inr (.inr kn1)))) : va_E)) ∈ M := o1_6
  have hDo7 := hD
  obtain ⟨t9, ht9, ht8⟩ := o1_3 p hp
  have h8 : (t9, (.inr (10, [.int 0, .ref G.e0, .int 0]) : va_E)) ∈ M := ht8
  refine j_aload_n F0 dX8_token_0 rfl ?_
  refine j_iload_n F0 dX8_token_1 rfl ?_
  refine m_cVi S (n1 := 1) (rest := []) (r_X8_isNoProgram X.l G X.A M (nI p) h2) ⟨_, _, _, _, rfl, gX8_token_X8_isNoProgram, rfl, rfl, (by decide +kernel), ⟨(Nat.le_of_ble_eq_true rfl), (Nat.le_of_ble_eq_true rfl)⟩⟩ h2 rfl rfl (Nat.le_of_ble_eq_true rfl) (Nat.le_of_ble_eq_true rfl) (Nat.le_of_ble_eq_true rfl) rfl dX8_token_2 (fun v9 M10 hD11 hp12 => ?_)
  obtain ⟨hp12v, hp12a, hp12k⟩ := hp12
  subst hp12v
  have n13 : pl1 ∉ [mo] := by
    intro h9; simp only [List.mem_cons, List.not_mem_nil, or_false] at h9
    · exact (In.ne hD h3 h2 (by simp)) h9
  have n14 : pe1 ∉ [mo] := by
    intro h9; simp only [List.mem_cons, List.not_mem_nil, or_false] at h9
    · exact (In.ne hD h4 h2 (by simp)) h9
  have n15 : ta ∉ [mo] := by
    intro h9; simp only [List.mem_cons, List.not_mem_nil, or_false] at h9
    · exact (In.ne hD h5 h2 (by simp)) h9
  have n16 : ka ∉ [mo] := by
    intro h9; simp only [List.mem_cons, List.not_mem_nil, or_false] at h9
    · exact (In.ne hD h6 h2 (by simp)) h9
  have n17 : t9 ∉ [mo] := by
    intro h9; simp only [List.mem_cons, List.not_mem_nil, or_false] at h9
    · exact (In.ne hD h8 h2 (by simp)) h9
  have h3 := hp12k _ _ n13 h3
  have h4 := hp12k _ _ n14 h4
  have h5 := hp12k _ _ n15 h5
  have h6 := hp12k _ _ n16 h6
  have h8 := hp12k _ _ n17 h8
  have h18 : (mo, (.inr (8, [.int (if ProP (nI p) then (1 : Int32) else 0), .ref pl1, .ref ka, .ref ta]) : va_E)) ∈ M10 := hp12a
  refine j_if_ne F0 60 dX8_token_5 (by decide) (fun h9 => absurd (if0.mpr (pro_ok hp)) h9) (fun _ => ?_)
  have h19 : (mo, (.inr (8, [.int 0, .ref pl1, .ref ka, .ref ta]) : va_E)) ∈ M10 := by have h9 := h18; rw [if_neg (pro_ok hp)] at h9; exact h9
  refine j_aload_n F0 dX8_token_8 rfl ?_
  refine j_iload_n F0 dX8_token_9 rfl ?_
  refine m_cSi S (n1 := 1) (rest := [.ref mo]) (r_X8_isToken X.l G X.A M10 (vb_c k9)) ⟨_, _, _, _, rfl, gX8_token_X8_isToken, rfl, rfl, (by decide +kernel), ⟨(Nat.le_of_ble_eq_true rfl), (Nat.le_of_ble_eq_true rfl)⟩⟩ rfl (Nat.le_of_ble_eq_true rfl) (Nat.le_of_ble_eq_true rfl) (Nat.le_of_ble_eq_true rfl) rfl dX8_token_10 (fun v20 M21 hD22 hp23 => ?_)
  obtain ⟨hp23a, hp23b⟩ := hp23
  subst hp23a
  subst hp23b
  refine j_if_ne F0 20 dX8_token_13 (by decide) (fun _ => ?_) (fun h9 => absurd h9 (if1.mpr hy))
  refine j_iconst F0 0 dX8_token_20 (by decide) ?_
  refine j_iconst F0 2 dX8_token_21 (by decide) ?_
  refine m_cVi S (n1 := 2) (rest := []) (r_X8_refuse X.l G X.A M10 (c := False) 2 (by decide) h19) ⟨_, _, _, _, rfl, gX8_token_X8_refuse, rfl, rfl, (by decide +kernel), ⟨(Nat.le_of_ble_eq_true rfl), (Nat.le_of_ble_eq_true rfl)⟩⟩ h19 rfl rfl (Nat.le_of_ble_eq_true rfl) (Nat.le_of_ble_eq_true rfl) (Nat.le_of_ble_eq_true rfl) rfl dX8_token_22 (fun v24 M25 hD26 hp27 => ?_)
  obtain ⟨hp27v, hp27a, hp27k⟩ := hp27
  have hp27v : (0 : Int32) = v24 := hp27v
  subst hp27v
  have n28 : pl1 ∉ [mo] := by
    intro h9; simp only [List.mem_cons, List.not_mem_nil, or_false] at h9
    · exact (In.ne hD11 h3 h19 (by simp)) h9
  have n29 : pe1 ∉ [mo] := by
    intro h9; simp only [List.mem_cons, List.not_mem_nil, or_false] at h9
    · exact (In.ne hD11 h4 h19 (by simp)) h9
  have n30 : ta ∉ [mo] := by
    intro h9; simp only [List.mem_cons, List.not_mem_nil, or_false] at h9
    · exact (In.ne hD11 h5 h19 (by simp)) h9
  have n31 : ka ∉ [mo] := by
    intro h9; simp only [List.mem_cons, List.not_mem_nil, or_false] at h9
    · exact (In.ne hD11 h6 h19 (by simp)) h9
  have n32 : t9 ∉ [mo] := by
    intro h9; simp only [List.mem_cons, List.not_mem_nil, or_false] at h9
    · exact (In.ne hD11 h8 h19 (by simp)) h9
  have h3 := hp27k _ _ n28 h3
  have h4 := hp27k _ _ n29 h4
  have h5 := hp27k _ _ n30 h5
  have h6 := hp27k _ _ n31 h6
  have h8 := hp27k _ _ n32 h8
  have h33 : (mo, (.inr (8, [.int 0, .ref pl1, .ref ka, .ref ta]) : va_E)) ∈ M25 := hp27a
  refine j_if_ne F0 60 dX8_token_25 (by decide) (fun h9 => absurd (by decide) h9) (fun _ => ?_)
  refine j_aload_n F0 dX8_token_28 rfl ?_
  refine j_aload_n F0 dX8_token_29 rfl ?_
  refine m_get S (C := RX8) (T := TX8) (N := 4) (by decide +kernel) h33 rfl (v := .ref pl1) 1 (by decide) (by decide +kernel) (fun _ h9 => h9) rfl dX8_token_30 ?_
  refine j_iload_n F0 dX8_token_33 rfl ?_
  refine m_cVr S (n1 := 1) (rest := [.ref mo]) (r_Jx4a65c_get_915e3 X.l G X.A M25 (nI p) t9 (nI_pos (by omega)) (by rw [show (10 : Int32) = nI 10 from rfl, nI_ltI (by omega) (by omega)]; exact hp) (vp_in_nI hp (by decide)) (by rw [nI_clamp (by omega)]; exact ht9) h3 h4) ⟨_, _, _, _, rfl, gX8_token_Jx4a65c_get_915e3, rfl, rfl, (by decide +kernel), ⟨(Nat.le_of_ble_eq_true rfl), (Nat.le_of_ble_eq_true rfl)⟩⟩ h3 rfl rfl (Nat.le_of_ble_eq_true rfl) (Nat.le_of_ble_eq_true rfl) (Nat.le_of_ble_eq_true rfl) rfl dX8_token_34 (fun v34 M35 hD36 hp37 => ?_)
  obtain ⟨hp37a, hp37b⟩ := hp37
  subst hp37a
  subst hp37b
  refine m_cast S (C := "java/util/ArrayList") h8 rfl (by decide +kernel) dX8_token_37 ?_
  refine m_cVi S (n1 := 0) (rest := [.ref mo]) (r_Jx4a65c_size_8abf5 X.l G X.A M25 h8) ⟨_, _, _, _, rfl, gX8_token_Jx4a65c_size_8abf5, rfl, rfl, (by decide +kernel), ⟨(Nat.le_of_ble_eq_true rfl), (Nat.le_of_ble_eq_true rfl)⟩⟩ h8 rfl rfl (Nat.le_of_ble_eq_true rfl) (Nat.le_of_ble_eq_true rfl) (Nat.le_of_ble_eq_true rfl) rfl dX8_token_40 (fun v38 M39 hD40 hp41 => ?_)
  obtain ⟨hp41a, hp41b⟩ := hp41
  subst hp41a
  subst hp41b
  refine j_bipush F0 40 dX8_token_43 (by decide) ?_
  refine j_icmp_ne F0 52 dX8_token_45 (by decide) (fun _ => ?_) (fun h9 => absurd h9 (by decide))
  refine j_iconst F0 0 dX8_token_52 (by decide) ?_
  refine j_iconst F0 3 dX8_token_53 (by decide) ?_
  refine m_cVi S (n1 := 2) (rest := []) (r_X8_refuse X.l G X.A M25 (c := False) 3 (by decide) h33) ⟨_, _, _, _, rfl, gX8_token_X8_refuse, rfl, rfl, (by decide +kernel), ⟨(Nat.le_of_ble_eq_true rfl), (Nat.le_of_ble_eq_true rfl)⟩⟩ h33 rfl rfl (Nat.le_of_ble_eq_true rfl) (Nat.le_of_ble_eq_true rfl) (Nat.le_of_ble_eq_true rfl) rfl dX8_token_54 (fun v42 M43 hD44 hp45 => ?_)
  obtain ⟨hp45v, hp45a, hp45k⟩ := hp45
  have hp45v : (0 : Int32) = v42 := hp45v
  subst hp45v
  have n46 : pl1 ∉ [mo] := by
    intro h9; simp only [List.mem_cons, List.not_mem_nil, or_false] at h9
    · exact (In.ne hD26 h3 h33 (by simp)) h9
  have n47 : pe1 ∉ [mo] := by
    intro h9; simp only [List.mem_cons, List.not_mem_nil, or_false] at h9
    · exact (In.ne hD26 h4 h33 (by simp)) h9
  have n48 : ta ∉ [mo] := by
    intro h9; simp only [List.mem_cons, List.not_mem_nil, or_false] at h9
    · exact (In.ne hD26 h5 h33 (by simp)) h9
  have n49 : ka ∉ [mo] := by
    intro h9; simp only [List.mem_cons, List.not_mem_nil, or_false] at h9
    · exact (In.ne hD26 h6 h33 (by simp)) h9
  have n50 : t9 ∉ [mo] := by
    intro h9; simp only [List.mem_cons, List.not_mem_nil, or_false] at h9
    · exact (In.ne hD26 h8 h33 (by simp)) h9
  have h3 := hp45k _ _ n46 h3
  have h4 := hp45k _ _ n47 h4
  have h5 := hp45k _ _ n48 h5
  have h6 := hp45k _ _ n49 h6
  have h8 := hp45k _ _ n50 h8
  have h51 : (mo, (.inr (8, [.int 0, .ref pl1, .ref ka, .ref ta]) : va_E)) ∈ M43 := hp45a
  refine j_if_eq F0 62 dX8_token_57 (by decide) (fun _ => ?_) (fun h9 => absurd (by decide) h9)
  refine j_aload_n F0 dX8_token_62 rfl ?_
  refine m_cVv S (n1 := 0) (rest := []) (r_X8_forget X.l G X.A M43 h51 h6) ⟨_, _, _, _, rfl, gX8_token_X8_forget, rfl, rfl, (by decide +kernel), ⟨(Nat.le_of_ble_eq_true rfl), (Nat.le_of_ble_eq_true rfl)⟩⟩ h51 rfl rfl (Nat.le_of_ble_eq_true rfl) (Nat.le_of_ble_eq_true rfl) (Nat.le_of_ble_eq_true rfl) rfl dX8_token_63 (fun M53 hD54 hp55 => ?_)
  obtain ⟨f56, hp55a, hp55n, hp55k⟩ := hp55
  have n57 : pl1 ∉ [ka] := by
    intro h9; simp only [List.mem_cons, List.not_mem_nil, or_false] at h9
    · exact (In.ne hD44 h3 h6 (by simp)) h9
  have n58 : pe1 ∉ [ka] := by
    intro h9; simp only [List.mem_cons, List.not_mem_nil, or_false] at h9
    · exact (In.ne hD44 h4 h6 (fun h9 => hOR (by injection h9 with h9; exact (Prod.mk.inj h9).1))) h9
  have n59 : ta ∉ [ka] := by
    intro h9; simp only [List.mem_cons, List.not_mem_nil, or_false] at h9
    · exact (In.ne hD44 h5 h6 (by simp)) h9
  have n60 : t9 ∉ [ka] := by
    intro h9; simp only [List.mem_cons, List.not_mem_nil, or_false] at h9
    · exact (In.ne hD44 h8 h6 (by simp)) h9
  have n61 : mo ∉ [ka] := by
    intro h9; simp only [List.mem_cons, List.not_mem_nil, or_false] at h9
    · exact (In.ne hD44 h51 h6 (by simp)) h9
  have h3 := hp55k _ _ n57 h3
  have h4 := hp55k _ _ n58 h4
  have h5 := hp55k _ _ n59 h5
  have h8 := hp55k _ _ n60 h8
  have h51 := hp55k _ _ n61 h51
  have h62 : (ka, (.inl (G.cR, 10, .inr (.inr (.inr (.inr f56)))) : va_E)) ∈ M53 := hp55a
  refine j_aload_n F0 dX8_token_66 rfl ?_
  refine m_get S (C := RX8) (T := TX8) (N := 4) (by decide +kernel) h51 rfl (v := .ref pl1) 1 (by decide) (by decide +kernel) (fun _ h9 => h9) rfl dX8_token_67 ?_
  refine j_iload_n F0 dX8_token_70 rfl ?_
  refine m_cVr S (n1 := 1) (rest := []) (r_Jx4a65c_get_915e3 X.l G X.A M53 (nI p) t9 (nI_pos (by omega)) (by rw [show (10 : Int32) = nI 10 from rfl, nI_ltI (by omega) (by omega)]; exact hp) (vp_in_nI hp (by decide)) (by rw [nI_clamp (by omega)]; exact ht9) h3 h4) ⟨_, _, _, _, rfl, gX8_token_Jx4a65c_get_915e3, rfl, rfl, (by decide +kernel), ⟨(Nat.le_of_ble_eq_true rfl), (Nat.le_of_ble_eq_true rfl)⟩⟩ h3 rfl rfl (Nat.le_of_ble_eq_true rfl) (Nat.le_of_ble_eq_true rfl) (Nat.le_of_ble_eq_true rfl) rfl dX8_token_71 (fun v63 M64 hD65 hp66 => ?_)
  obtain ⟨hp66a, hp66b⟩ := hp66
  subst hp66a
  subst hp66b
  refine m_cast S (C := "java/util/ArrayList") h8 rfl (by decide +kernel) dX8_token_74 ?_
  refine j_iload_n F0 dX8_token_77 rfl ?_
  refine m_cSr S (n1 := 1) (rest := [.ref t9]) (r_J6_valueOf_2dffe X.l G X.A M53 k9 hk9) ⟨_, _, _, _, rfl, gX8_token_J6_valueOf_2dffe, rfl, rfl, (by decide +kernel), ⟨(Nat.le_of_ble_eq_true rfl), (Nat.le_of_ble_eq_true rfl)⟩⟩ rfl (Nat.le_of_ble_eq_true rfl) (Nat.le_of_ble_eq_true rfl) (Nat.le_of_ble_eq_true rfl) rfl dX8_token_78 (fun v67 M68 hD69 hp70 => ?_)
  obtain ⟨hp70a, hp70b⟩ := hp70
  subst hp70a
  subst hp70b
  refine m_cVi S (n1 := 1) (rest := []) (r_Jx4a65c_add_9ea2d X.l G X.A M53 (G.bx k9) (Or.inr (Or.inr ⟨k9, hk9, rfl⟩)) (fun c => bx_out S hk9 (c ▸ In.a hD54 h8)) h8) ⟨_, _, _, _, rfl, gX8_token_Jx4a65c_add_9ea2d, rfl, rfl, (by decide +kernel), ⟨(Nat.le_of_ble_eq_true rfl), (Nat.le_of_ble_eq_true rfl)⟩⟩ h8 rfl rfl (Nat.le_of_ble_eq_true rfl) (Nat.le_of_ble_eq_true rfl) (Nat.le_of_ble_eq_true rfl) rfl dX8_token_81 (fun v71 M72 hD73 hp74 => ?_)
  obtain ⟨hp74v, hp74⟩ := hp74
  subst hp74v
  rw [show (0 : Int32) + 1 = 1 from by decide] at hp74
  obtain ⟨q75, hp74a, hp74b, hp74k, hp74f⟩ := hp74
  have n76 := hp74f _ _ h3
  have n77 := hp74f _ _ h4
  have n78 := hp74f _ _ h5
  have n79 := hp74f _ _ h8
  have n80 := hp74f _ _ h51
  have n81 := hp74f _ _ h62
  have n82 : pl1 ∉ [t9] := by
    intro h9; simp only [List.mem_cons, List.not_mem_nil, or_false] at h9
    · exact (In.ne hD54 h3 h8 (by simp)) h9
  have n83 : pe1 ∉ [t9] := by
    intro h9; simp only [List.mem_cons, List.not_mem_nil, or_false] at h9
    · exact (In.ne hD54 h4 h8 (by simp)) h9
  have n84 : ta ∉ [t9] := by
    intro h9; simp only [List.mem_cons, List.not_mem_nil, or_false] at h9
    · exact (In.ne hD54 h5 h8 (by simp)) h9
  have n85 : mo ∉ [t9] := by
    intro h9; simp only [List.mem_cons, List.not_mem_nil, or_false] at h9
    · exact (In.ne hD54 h51 h8 (by simp)) h9
  have n86 : ka ∉ [t9] := by
    intro h9; simp only [List.mem_cons, List.not_mem_nil, or_false] at h9
    · exact (In.ne hD54 h62 h8 (by simp)) h9
  have h3 := hp74k _ _ n82 h3
  have h4 := hp74k _ _ n83 h4
  have h5 := hp74k _ _ n84 h5
  have h51 := hp74k _ _ n85 h51
  have h62 := hp74k _ _ n86 h62
  have h87 : (t9, (.inr (10, [.int 1, .ref q75, .int 1]) : va_E)) ∈ M72 := hp74a
  have h88 : (q75, (.inl (G.cO, 10, .inr (.inr (.inr (.inr (va_up (fun _ => none) 0 (some (G.bx k9))))))) : va_E)) ∈ M72 := hp74b
  have F89 := S.1.at 1 10 (Nat.le_of_ble_eq_true rfl) (Nat.le_of_ble_eq_true rfl)
  refine j_pop F89 dX8_token_84 rfl ?_
  refine j_aload_n F89 dX8_token_85 rfl ?_
  refine m_get S (C := RX8) (T := TX8) (N := 4) (by decide +kernel) h51 rfl (v := .ref pl1) 1 (by decide) (by decide +kernel) (fun _ h9 => h9) rfl dX8_token_86 ?_
  refine j_iload_n F89 dX8_token_89 rfl ?_
  refine m_cVr S (n1 := 1) (rest := []) (r_Jx4a65c_get_915e3 X.l G X.A M72 (nI p) t9 (nI_pos (by omega)) (by rw [show (10 : Int32) = nI 10 from rfl, nI_ltI (by omega) (by omega)]; exact hp) (vp_in_nI hp (by decide)) (by rw [nI_clamp (by omega)]; exact ht9) h3 h4) ⟨_, _, _, _, rfl, gX8_token_Jx4a65c_get_915e3, rfl, rfl, (by decide +kernel), ⟨(Nat.le_of_ble_eq_true rfl), (Nat.le_of_ble_eq_true rfl)⟩⟩ h3 rfl rfl (Nat.le_of_ble_eq_true rfl) (Nat.le_of_ble_eq_true rfl) (Nat.le_of_ble_eq_true rfl) rfl dX8_token_90 (fun v90 M91 hD92 hp93 => ?_)
  obtain ⟨hp93a, hp93b⟩ := hp93
  subst hp93a
  subst hp93b
  refine m_cast S (C := "java/util/ArrayList") h87 rfl (by decide +kernel) dX8_token_93 ?_
  refine m_cVi S (n1 := 0) (rest := []) (r_Jx4a65c_size_8abf5 X.l G X.A M72 h87) ⟨_, _, _, _, rfl, gX8_token_Jx4a65c_size_8abf5, rfl, rfl, (by decide +kernel), ⟨(Nat.le_of_ble_eq_true rfl), (Nat.le_of_ble_eq_true rfl)⟩⟩ h87 rfl rfl (Nat.le_of_ble_eq_true rfl) (Nat.le_of_ble_eq_true rfl) (Nat.le_of_ble_eq_true rfl) rfl dX8_token_96 (fun v94 M95 hD96 hp97 => ?_)
  obtain ⟨hp97a, hp97b⟩ := hp97
  subst hp97a
  subst hp97b
  have hKp : Kp M [mo, ka, t9] M72 := by
    intro b x hb hx
    have n98 : b ∉ [mo] := by
      intro h9; simp only [List.mem_cons, List.not_mem_nil, or_false] at h9
      · exact (fun c => hb (by rw [c]; simp)) h9
    have hx := hp12k b x n98 hx
    have n99 : b ∉ [mo] := by
      intro h9; simp only [List.mem_cons, List.not_mem_nil, or_false] at h9
      · exact (fun c => hb (by rw [c]; simp)) h9
    have hx := hp27k b x n99 hx
    have n100 : b ∉ [mo] := by
      intro h9; simp only [List.mem_cons, List.not_mem_nil, or_false] at h9
      · exact (fun c => hb (by rw [c]; simp)) h9
    have hx := hp45k b x n100 hx
    have n101 : b ∉ [ka] := by
      intro h9; simp only [List.mem_cons, List.not_mem_nil, or_false] at h9
      · exact (fun c => hb (by rw [c]; simp)) h9
    have hx := hp55k b x n101 hx
    have n102 := hp74f _ _ hx
    have n103 : b ∉ [t9] := by
      intro h9; simp only [List.mem_cons, List.not_mem_nil, or_false] at h9
      · exact (fun c => hb (by rw [c]; simp)) h9
    have hx := hp74k b x n103 hx
    exact hx
  have hKL : KL G M M72 := fun o n f ho => hKp _ _ (by
    intro h9; simp only [List.mem_cons, List.not_mem_nil, or_false] at h9
    rcases h9 with h9 | h9 | h9
    · exact In.ne hD ho o1_0 (by simp) h9
    · exact In.ne hD ho o1_6 (by simp) h9
    · exact In.ne hD ho ht8 (by simp) h9
    ) ho
  exact m_ireturn S hRT rfl hQ (Nat.le_of_ble_eq_true rfl) (Nat.le_of_ble_eq_true rfl) dX8_token_99 rfl ⟨_, _, _, h51, hKL, rfl⟩

set_option maxRecDepth 100000 in
set_option maxHeartbeats 4000000 in
theorem r_X8_add (l : Launch) (G : RG) (A : Nat → Prop) (M : Wl) (d w : Int64) : Kr l G A yX8_add wsX8_add { frames := 0, cells := 0, slots := 0, locals := 0 } M [.long d, .long w] (Gl G A (fun v N => (d * 31 + w) = v ∧ M = N)) 0 0 := by
  refine Kr.of (cc := cX8_add) (maxL := 4) (ret := (some .long)) (by decide) rfl (Nat.le_of_ble_eq_true rfl) ?_
  intro X hXl S hRT hIN hXA hQ hD
  subst hXl
  subst hXA
  show J (X.at 0 0) 4 (PL G.Z X.A M) 0 [some (.long d), none, some (.long w), none] []
  have F0 := S.1.at 0 0 (Nat.le_of_ble_eq_true rfl) (Nat.le_of_ble_eq_true rfl)
  have hOR := S.2.1.or
  refine j_lload_n F0 dX8_add_0 rfl ?_
  refine j_ldc2 F0 (v := 31) (by decide +kernel) dX8_add_1 ?_
  refine j_lmul F0 (d * 31) dX8_add_4 rfl ?_
  refine j_lload_n F0 dX8_add_5 rfl ?_
  refine j_ladd F0 ((d * 31) + w) dX8_add_6 rfl ?_
  exact m_lreturn S hRT rfl hQ (Nat.le_of_ble_eq_true rfl) (Nat.le_of_ble_eq_true rfl) dX8_add_7 ⟨rfl, rfl⟩
