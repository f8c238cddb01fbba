set_option maxRecDepth 100000 in
set_option maxHeartbeats 4000000 in
theorem r_X8_lengthWith_b (l : Launch) (G : RG) (A : Nat → Prop) (M : Wl) {mo ka ta : Nat} {tv : Int32} (x : Int32) (hb : ProP x) (y : Int32) (hM : Mo G mo ka ta tv M) : Kr l G A yX8_lengthWith wsX8_lengthWith { frames := 3, cells := 0, slots := 0, locals := 65 } M [.ref mo, .int x, .int y] (Gi G A (fun v N => ∃ pl k9 t9 : Nat, (mo, (.inr (8, [.int 1, .ref pl, .ref k9, .ref t9]) : va_E)) ∈ N ∧ KL G M N ∧ (0 : Int32) = v)) 0 0 := by
  refine Kr.of (cc := cX8_lengthWith) (maxL := 5) (ret := (some .int)) (by decide) rfl (Nat.le_of_ble_eq_true rfl) ?_
  intro X hXl S hRT hIN hXA hQ hD
  subst hXl
  subst hXA
  show J (X.at 0 0) 5 (PL G.Z X.A M) 0 [some (.ref mo), some (.int x), some (.int y), none, none] []
  have F0 := S.1.at 0 0 (Nat.le_of_ble_eq_true rfl) (Nat.le_of_ble_eq_true rfl)
  have hOR := S.2.1.or
  obtain ⟨pl1, pe1, f1, kn1, tf1, o1_0, o1_1, o1_2, o1_3, o1_4, o1_5, o1_6, o1_7⟩ := id hM
  have h2 : (mo, (.inr (8, [.int tv, .ref pl1, .ref ka, .ref ta]) : va_E)) ∈ M := o1_0
  have h3 : (pl1, (.inr (10, [.int 10, .ref pe1, .int 10]) : va_E)) ∈ M := o1_1
  have h4 : (pe1, (.inl (G.cO, 10, .inr (.inr (.inr (.inr f1)))) : va_E)) ∈ M := o1_2
  have h5 : (ta, (.inl (G.Z.cI, 8, .inl tf1) : va_E)) ∈ M := o1_4
  have h6 : (ka, (.inl (G.cR, 10, .inr (.inr (.inr (.inr kn1)))) : va_E)) ∈ M := o1_6
  have hDo7 := hD
  refine j_aload_n F0 dX8_lengthWith_0 rfl ?_
  refine j_iload_n F0 dX8_lengthWith_1 rfl ?_
  refine m_cVi S (n1 := 1) (rest := []) (r_X8_isNoProgram X.l G X.A M x h2) ⟨_, _, _, _, rfl, gX8_lengthWith_X8_isNoProgram, rfl, rfl, (by decide +kernel), ⟨(Nat.le_of_ble_eq_true rfl), (Nat.le_of_ble_eq_true rfl)⟩⟩ h2 rfl rfl (Nat.le_of_ble_eq_true rfl) (Nat.le_of_ble_eq_true rfl) (Nat.le_of_ble_eq_true rfl) rfl dX8_lengthWith_2 (fun v8 M9 hD10 hp11 => ?_)
  obtain ⟨hp11v, hp11a, hp11k⟩ := hp11
  subst hp11v
  have n12 : pl1 ∉ [mo] := by
    intro h9; simp only [List.mem_cons, List.not_mem_nil, or_false] at h9
    · exact (In.ne hD h3 h2 (by simp)) h9
  have n13 : pe1 ∉ [mo] := by
    intro h9; simp only [List.mem_cons, List.not_mem_nil, or_false] at h9
    · exact (In.ne hD h4 h2 (by simp)) h9
  have n14 : ta ∉ [mo] := by
    intro h9; simp only [List.mem_cons, List.not_mem_nil, or_false] at h9
    · exact (In.ne hD h5 h2 (by simp)) h9
  have n15 : ka ∉ [mo] := by
    intro h9; simp only [List.mem_cons, List.not_mem_nil, or_false] at h9
    · exact (In.ne hD h6 h2 (by simp)) h9
  have h3 := hp11k _ _ n12 h3
  have h4 := hp11k _ _ n13 h4
  have h5 := hp11k _ _ n14 h5
  have h6 := hp11k _ _ n15 h6
  have h16 : (mo, (.inr (8, [.int (if ProP x then (1 : Int32) else 0), .ref pl1, .ref ka, .ref ta]) : va_E)) ∈ M9 := hp11a
  refine j_if_ne F0 60 dX8_lengthWith_5 (by decide) (fun _ => ?_) (fun h9 => absurd h9 (if1.mpr hb))
  have h17 : (mo, (.inr (8, [.int 1, .ref pl1, .ref ka, .ref ta]) : va_E)) ∈ M9 := by have h9 := h16; rw [if_pos hb] at h9; exact h9
  refine j_iconst F0 0 dX8_lengthWith_60 (by decide) ?_
  have hKp : Kp M [mo, ka] M9 := by
    intro b x hb hx
    have n18 : b ∉ [mo] := by
      intro h9; simp only [List.mem_cons, List.not_mem_nil, or_false] at h9
      · exact (fun c => hb (by rw [c]; simp)) h9
    have hx := hp11k b x n18 hx
    exact hx
  have hKL : KL G M M9 := fun o n f ho => hKp _ _ (by
    intro h9; simp only [List.mem_cons, List.not_mem_nil, or_false] at h9
    rcases h9 with h9 | h9
    · exact In.ne hD ho o1_0 (by simp) h9
    · exact In.ne hD ho o1_6 (by simp) h9
    ) ho
  exact m_ireturn S hRT rfl hQ (Nat.le_of_ble_eq_true rfl) (Nat.le_of_ble_eq_true rfl) dX8_lengthWith_61 rfl ⟨_, _, _, h17, hKL, rfl⟩

set_option maxRecDepth 100000 in
set_option maxHeartbeats 4000000 in
theorem r_X8_lengthWith_t (l : Launch) (G : RG) (A : Nat → Prop) (M : Wl) {mo ka ta : Nat} {tv : Int32} (p : Nat) (hp : p < 10) (y : Int32) (hb : ¬ TokP y) (hM : Mo G mo ka ta tv M) : Kr l G A yX8_lengthWith wsX8_lengthWith { frames := 3, cells := 0, slots := 0, locals := 65 } M [.ref mo, .int (nI p), .int y] (Gi G A (fun v N => ∃ pl k9 t9 : Nat, (mo, (.inr (8, [.int 2, .ref pl, .ref k9, .ref t9]) : va_E)) ∈ N ∧ KL G M N ∧ (0 : Int32) = v)) 0 0 := by
  refine Kr.of (cc := cX8_lengthWith) (maxL := 5) (ret := (some .int)) (by decide) rfl (Nat.le_of_ble_eq_true rfl) ?_
  intro X hXl S hRT hIN hXA hQ hD
  subst hXl
  subst hXA
  show J (X.at 0 0) 5 (PL G.Z X.A M) 0 [some (.ref mo), some (.int (nI p)), some (.int y), none, none] []
  have F0 := S.1.at 0 0 (Nat.le_of_ble_eq_true rfl) (Nat.le_of_ble_eq_true rfl)
  have hOR := S.2.1.or
  obtain ⟨pl1, pe1, f1, kn1, tf1, o1_0, o1_1, o1_2, o1_3, o1_4, o1_5, o1_6, o1_7⟩ := id hM
  have h2 : (mo, (.inr (8, [.int tv, .ref pl1, .ref ka, .ref ta]) : va_E)) ∈ M := o1_0
  have h3 : (pl1, (.inr (10, [.int 10, .ref pe1, .int 10]) : va_E)) ∈ M := o1_1
  have h4 : (pe1, (.inl (G.cO, 10, .inr (.inr (.inr (.inr f1)))) : va_E)) ∈ M := o1_2
  have h5 : (ta, (.inl (G.Z.cI, 8, .inl tf1) : va_E)) ∈ M := o1_4
  have h6 : (ka, (.inl (G.cR, 10, .inr (.inr (.inr (.inr kn1)))) : va_E)) ∈ M := o1_6
  have hDo7 := hD
  refine j_aload_n F0 dX8_lengthWith_0 rfl ?_
  refine j_iload_n F0 dX8_lengthWith_1 rfl ?_
  refine m_cVi S (n1 := 1) (rest := []) (r_X8_isNoProgram X.l G X.A M (nI p) h2) ⟨_, _, _, _, rfl, gX8_lengthWith_X8_isNoProgram, rfl, rfl, (by decide +kernel), ⟨(Nat.le_of_ble_eq_true rfl), (Nat.le_of_ble_eq_true rfl)⟩⟩ h2 rfl rfl (Nat.le_of_ble_eq_true rfl) (Nat.le_of_ble_eq_true rfl) (Nat.le_of_ble_eq_true rfl) rfl dX8_lengthWith_2 (fun v8 M9 hD10 hp11 => ?_)
  obtain ⟨hp11v, hp11a, hp11k⟩ := hp11
  subst hp11v
  have n12 : pl1 ∉ [mo] := by
    intro h9; simp only [List.mem_cons, List.not_mem_nil, or_false] at h9
    · exact (In.ne hD h3 h2 (by simp)) h9
  have n13 : pe1 ∉ [mo] := by
    intro h9; simp only [List.mem_cons, List.not_mem_nil, or_false] at h9
    · exact (In.ne hD h4 h2 (by simp)) h9
  have n14 : ta ∉ [mo] := by
    intro h9; simp only [List.mem_cons, List.not_mem_nil, or_false] at h9
    · exact (In.ne hD h5 h2 (by simp)) h9
  have n15 : ka ∉ [mo] := by
    intro h9; simp only [List.mem_cons, List.not_mem_nil, or_false] at h9
    · exact (In.ne hD h6 h2 (by simp)) h9
  have h3 := hp11k _ _ n12 h3
  have h4 := hp11k _ _ n13 h4
  have h5 := hp11k _ _ n14 h5
  have h6 := hp11k _ _ n15 h6
  have h16 : (mo, (.inr (8, [.int (if ProP (nI p) then (1 : Int32) else 0), .ref pl1, .ref ka, .ref ta]) : va_E)) ∈ M9 := hp11a
  refine j_if_ne F0 60 dX8_lengthWith_5 (by decide) (fun h9 => absurd (if0.mpr (pro_ok hp)) h9) (fun _ => ?_)
  have h17 : (mo, (.inr (8, [.int 0, .ref pl1, .ref ka, .ref ta]) : va_E)) ∈ M9 := by have h9 := h16; rw [if_neg (pro_ok hp)] at h9; exact h9
  refine j_aload_n F0 dX8_lengthWith_8 rfl ?_
  refine j_iload_n F0 dX8_lengthWith_9 rfl ?_
  refine m_cSi S (n1 := 1) (rest := [.ref mo]) (r_X8_isToken X.l G X.A M9 y) ⟨_, _, _, _, rfl, gX8_lengthWith_X8_isToken, rfl, rfl, (by decide +kernel), ⟨(Nat.le_of_ble_eq_true rfl), (Nat.le_of_ble_eq_true rfl)⟩⟩ rfl (Nat.le_of_ble_eq_true rfl) (Nat.le_of_ble_eq_true rfl) (Nat.le_of_ble_eq_true rfl) rfl dX8_lengthWith_10 (fun v18 M19 hD20 hp21 => ?_)
  obtain ⟨hp21a, hp21b⟩ := hp21
  subst hp21a
  subst hp21b
  refine j_if_ne F0 20 dX8_lengthWith_13 (by decide) (fun h9 => absurd (if0.mpr hb) h9) (fun _ => ?_)
  refine j_iconst F0 1 dX8_lengthWith_16 (by decide) ?_
  refine j_goto F0 21 dX8_lengthWith_17 (by decide) ?_
  refine j_iconst F0 2 dX8_lengthWith_21 (by decide) ?_
  refine m_cVi S (n1 := 2) (rest := []) (r_X8_refuse X.l G X.A M9 (c := True) 2 (by decide) h17) ⟨_, _, _, _, rfl, gX8_lengthWith_X8_refuse, rfl, rfl, (by decide +kernel), ⟨(Nat.le_of_ble_eq_true rfl), (Nat.le_of_ble_eq_true rfl)⟩⟩ h17 rfl rfl (Nat.le_of_ble_eq_true rfl) (Nat.le_of_ble_eq_true rfl) (Nat.le_of_ble_eq_true rfl) rfl dX8_lengthWith_22 (fun v22 M23 hD24 hp25 => ?_)
  obtain ⟨hp25v, hp25a, hp25k⟩ := hp25
  have hp25v : (1 : Int32) = v22 := hp25v
  subst hp25v
  have n26 : pl1 ∉ [mo] := by
    intro h9; simp only [List.mem_cons, List.not_mem_nil, or_false] at h9
    · exact (In.ne hD10 h3 h17 (by simp)) h9
  have n27 : pe1 ∉ [mo] := by
    intro h9; simp only [List.mem_cons, List.not_mem_nil, or_false] at h9
    · exact (In.ne hD10 h4 h17 (by simp)) h9
  have n28 : ta ∉ [mo] := by
    intro h9; simp only [List.mem_cons, List.not_mem_nil, or_false] at h9
    · exact (In.ne hD10 h5 h17 (by simp)) h9
  have n29 : ka ∉ [mo] := by
    intro h9; simp only [List.mem_cons, List.not_mem_nil, or_false] at h9
    · exact (In.ne hD10 h6 h17 (by simp)) h9
  have h3 := hp25k _ _ n26 h3
  have h4 := hp25k _ _ n27 h4
  have h5 := hp25k _ _ n28 h5
  have h6 := hp25k _ _ n29 h6
  have h30 : (mo, (.inr (8, [.int 2, .ref pl1, .ref ka, .ref ta]) : va_E)) ∈ M23 := hp25a
  refine j_if_ne F0 60 dX8_lengthWith_25 (by decide) (fun _ => ?_) (fun h9 => absurd h9 (by decide))
  refine j_iconst F0 0 dX8_lengthWith_60 (by decide) ?_
  have hKp : Kp M [mo, ka] M23 := by
    intro b x hb hx
    have n31 : b ∉ [mo] := by
      intro h9; simp only [List.mem_cons, List.not_mem_nil, or_false] at h9
      · exact (fun c => hb (by rw [c]; simp)) h9
    have hx := hp11k b x n31 hx
    have n32 : b ∉ [mo] := by
      intro h9; simp only [List.mem_cons, List.not_mem_nil, or_false] at h9
      · exact (fun c => hb (by rw [c]; simp)) h9
    have hx := hp25k b x n32 hx
    exact hx
  have hKL : KL G M M23 := fun o n f ho => hKp _ _ (by
    intro h9; simp only [List.mem_cons, List.not_mem_nil, or_false] at h9
    rcases h9 with h9 | h9
    · exact In.ne hD ho o1_0 (by simp) h9
    · exact In.ne hD ho o1_6 (by simp) h9
    ) ho
  exact m_ireturn S hRT rfl hQ (Nat.le_of_ble_eq_true rfl) (Nat.le_of_ble_eq_true rfl) dX8_lengthWith_61 rfl ⟨_, _, _, h30, hKL, rfl⟩
