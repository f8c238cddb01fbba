/-- rows of longs stay -/
def KL (G : RG) (M N : Wl) : Prop := ∀ (o n : Nat) (f : Nat → Int64), (o, .inl (G.cL, n, .inr (.inl f))) ∈ M → (o, .inl (G.cL, n, .inr (.inl f))) ∈ N
theorem pro_ok {p : Nat} (hp : p < 10) : ¬ ProP (nI p) := fun h => h ⟨Int32.not_lt.mp (nI_pos (by omega)), by rw [show (9 : Int32) = nI 9 from rfl, nI_leI (by omega) (by omega)]; omega⟩
theorem eig_ok {p : Nat} (hp : p < 8) : ¬ EigP (nI p) := fun h => h ⟨Int32.not_lt.mp (nI_pos (by omega)), by rw [show (7 : Int32) = nI 7 from rfl, nI_leI (by omega) (by omega)]; omega⟩

theorem no_in {y : Int32} (h1 : 0 ≤ y) (h2 : y ≤ -1) : False := absurd (Int32.le_trans h1 h2) (by decide)

set_option maxRecDepth 100000 in
set_option maxHeartbeats 4000000 in
theorem r_X8_token_b (l : Launch) (G : RG) (A : Nat → Prop) (M : Wl) {mo ka ta : Nat} {tv : Int32} (x : Int32) (hb : ProP x) (y : Int32) (hM : Mo G mo ka ta tv M) : Kr l G A yX8_token wsX8_token { frames := 3, cells := 0, slots := 0, locals := 65 } M [.ref mo, .int x, .int y] (Gi G A (fun v N => ∃ pl k9 t9 : Nat, (mo, (.inr (8, [.int 1, .ref pl, .ref k9, .ref t9]) : va_E)) ∈ N ∧ KL G M N ∧ (0 : Int32) = v)) 0 0 := by
  refine Kr.of (cc := cX8_token) (maxL := 3) (ret := (some .int)) (by decide) rfl (Nat.le_of_ble_eq_true rfl) ?_
  intro X hXl S hRT hIN hXA hQ hD
  subst hXl
  subst hXA
  show J (X.at 0 0) 3 (PL G.Z X.A M) 0 [some (.ref mo), some (.int x), some (.int y)] []
  have F0 := S.1.at 0 0 (Nat.le_of_ble_eq_true rfl) (Nat.le_of_ble_eq_true rfl)
  have hOR := S.2.1.or
  obtain ⟨pl1, pe1, f1, kn1, tf1, o1_0, o1_1, o1_2, o1_3, o1_4, o1_5, o1_6, o1_7⟩ := id hM
  have h2 : (mo, (.inr (8, [.int tv, .ref pl1, .ref ka, .ref ta]) : va_E)) ∈ M := o1_0
  have h3 : (pl1, (.inr (10, [.int 10, .ref pe1, .int 10]) : va_E)) ∈ M := o1_1
  have h4 : (pe1, (.inl (G.cO, 10, .inr (.inr (.inr (.inr f1)))) : va_E)) ∈ M := o1_2
  have h5 : (ta, (.inl (G.Z.cI, 8, .inl tf1) : va_E)) ∈ M := o1_4
  have h6 : (ka, (.inl (G.cR, 10, .inr (.inr (.inr (.inr kn1)))) : va_E)) ∈ M := o1_6
  have hDo7 := hD
  refine j_aload_n F0 dX8_token_0 rfl ?_
  refine j_iload_n F0 dX8_token_1 rfl ?_
  refine m_cVi S (n1 := 1) (rest := []) (r_X8_isNoProgram X.l G X.A M x h2) ⟨_, _, _, _, rfl, gX8_token_X8_isNoProgram, rfl, rfl, (by decide +kernel), ⟨(Nat.le_of_ble_eq_true rfl), (Nat.le_of_ble_eq_true rfl)⟩⟩ h2 rfl rfl (Nat.le_of_ble_eq_true rfl) (Nat.le_of_ble_eq_true rfl) (Nat.le_of_ble_eq_true rfl) rfl dX8_token_2 (fun v8 M9 hD10 hp11 => ?_)
  obtain ⟨hp11v, hp11a, hp11k⟩ := hp11
  subst hp11v
  have n12 : pl1 ∉ [mo] := by
    intro h9; simp only [List.mem_cons, List.not_mem_nil, or_false] at h9
    · exact (In.ne hD h3 h2 (by simp)) h9
  have n13 : pe1 ∉ [mo] := by
    intro h9; simp only [List.mem_cons, List.not_mem_nil, or_false] at h9
    · exact (In.ne hD h4 h2 (by simp)) h9
  have n14 : ta ∉ [mo] := by
    intro h9; simp only [List.mem_cons, List.not_mem_nil, or_false] at h9
    · exact (In.ne hD h5 h2 (by simp)) h9
  have n15 : ka ∉ [mo] := by
    intro h9; simp only [List.mem_cons, List.not_mem_nil, or_false] at h9
    · exact (In.ne hD h6 h2 (by simp)) h9
  have h3 := hp11k _ _ n12 h3
  have h4 := hp11k _ _ n13 h4
  have h5 := hp11k _ _ n14 h5
  have h6 := hp11k _ _ n15 h6
  have h16 : (mo, (.inr (8, [.int (if ProP x then (1 : Int32) else 0), .ref pl1, .ref ka, .ref ta]) : va_E)) ∈ M9 := hp11a
  refine j_if_ne F0 60 dX8_token_5 (by decide) (fun _ => ?_) (fun h9 => absurd h9 (if1.mpr hb))
  have h17 : (mo, (.inr (8, [.int 1, .ref pl1, .ref ka, .ref ta]) : va_E)) ∈ M9 := by have h9 := h16; rw [if_pos hb] at h9; exact h9
  refine j_iconst F0 0 dX8_token_60 (by decide) ?_
  have hKp : Kp M [mo, ka] M9 := by
    intro b x hb hx
    have n18 : b ∉ [mo] := by
      intro h9; simp only [List.mem_cons, List.not_mem_nil, or_false] at h9
      · exact (fun c => hb (by rw [c]; simp)) h9
    have hx := hp11k b x n18 hx
    exact hx
  have hKL : KL G M M9 := fun o n f ho => hKp _ _ (by
    intro h9; simp only [List.mem_cons, List.not_mem_nil, or_false] at h9
    rcases h9 with h9 | h9
    · exact In.ne hD ho o1_0 (by simp) h9
    · exact In.ne hD ho o1_6 (by simp) h9
    ) ho
  exact m_ireturn S hRT rfl hQ (Nat.le_of_ble_eq_true rfl) (Nat.le_of_ble_eq_true rfl) dX8_token_61 rfl ⟨_, _, _, h17, hKL, rfl⟩

set_option maxRecDepth 100000 in
set_option maxHeartbeats 4000000 in
theorem r_X8_token_t (l : Launch) (G : RG) (A : Nat → Prop) (M : Wl) {mo ka ta : Nat} {tv : Int32} (p : Nat) (hp : p < 10) (y : Int32) (hb : ¬ TokP y) (hM : Mo G mo ka ta tv M) : Kr l G A yX8_token wsX8_token { frames := 3, cells := 0, slots := 0, locals := 65 } M [.ref mo, .int (nI p), .int y] (Gi G A (fun v N => ∃ pl k9 t9 : Nat, (mo, (.inr (8, [.int 2, .ref pl, .ref k9, .ref t9]) : va_E)) ∈ N ∧ KL G M N ∧ (0 : Int32) = v)) 0 0 := by
  refine Kr.of (cc := cX8_token) (maxL := 3) (ret := (some .int)) (by decide) rfl (Nat.le_of_ble_eq_true rfl) ?_
  intro X hXl S hRT hIN hXA hQ hD
  subst hXl
  subst hXA
  show J (X.at 0 0) 3 (PL G.Z X.A M) 0 [some (.ref mo), some (.int (nI p)), some (.int y)] []
  have F0 := S.1.at 0 0 (Nat.le_of_ble_eq_true rfl) (Nat.le_of_ble_eq_true rfl)
  have hOR := S.2.1.or
  obtain ⟨pl1, pe1, f1, kn1, tf1, o1_0, o1_1, o1_2, o1_3, o1_4, o1_5, o1_6, o1_7⟩ := id hM
  have h2 : (mo, (.inr (8, [.int tv, .ref pl1, .ref ka, .ref ta]) : va_E)) ∈ M := o1_0
  have h3 : (pl1, (.inr (10, [.int 10, .ref pe1, .int 10]) : va_E)) ∈ M := o1_1
  have h4 : (pe1, (.inl (G.cO, 10, .inr (.inr (.inr (.inr f1)))) : va_E)) ∈ M := o1_2
  have h5 : (ta, (.inl (G.Z.cI, 8, .inl tf1) : va_E)) ∈ M := o1_4
  have h6 : (ka, (.inl (G.cR, 10, .inr (.inr (.inr (.inr kn1)))) : va_E)) ∈ M := o1_6
  have hDo7 := hD
  refine j_aload_n F0 dX8_token_0 rfl ?_
  refine j_iload_n F0 dX8_token_1 rfl ?_
  refine m_cVi S (n1 := 1) (rest := []) (r_X8_isNoProgram X.l G X.A M (nI p) h2) ⟨_, _, _, _, rfl, gX8_token_X8_isNoProgram, rfl, rfl, (by decide +kernel), ⟨(Nat.le_of_ble_eq_true rfl), (Nat.le_of_ble_eq_true rfl)⟩⟩ h2 rfl rfl (Nat.le_of_ble_eq_true rfl) (Nat.le_of_ble_eq_true rfl) (Nat.le_of_ble_eq_true rfl) rfl dX8_token_2 (fun v8 M9 hD10 hp11 => ?_)
  obtain ⟨hp11v, hp11a, hp11k⟩ := hp11
  subst hp11v
  have n12 : pl1 ∉ [mo] := by
    intro h9; simp only [List.mem_cons, List.not_mem_nil, or_false] at h9
    · exact (In.ne hD h3 h2 (by simp)) h9
  have n13 : pe1 ∉ [mo] := by
    intro h9; simp only [List.mem_cons, List.not_mem_nil, or_false] at h9
    · exact (In.ne hD h4 h2 (by simp)) h9
  have n14 : ta ∉ [mo] := by
    intro h9; simp only [List.mem_cons, List.not_mem_nil, or_false] at h9
    · exact (In.ne hD h5 h2 (by simp)) h9
  have n15 : ka ∉ [mo] := by
    intro h9; simp only [List.mem_cons, List.not_mem_nil, or_false] at h9
    · exact (In.ne hD h6 h2 (by simp)) h9
  have h3 := hp11k _ _ n12 h3
  have h4 := hp11k _ _ n13 h4
  have h5 := hp11k _ _ n14 h5
  have h6 := hp11k _ _ n15 h6
  have h16 : (mo, (.inr (8, [.int (if ProP (nI p) then (1 : Int32) else 0), .ref pl1, .ref ka, .ref ta]) : va_E)) ∈ M9 := hp11a
  refine j_if_ne F0 60 dX8_token_5 (by decide) (fun h9 => absurd (if0.mpr (pro_ok hp)) h9) (fun _ => ?_)
  have h17 : (mo, (.inr (8, [.int 0, .ref pl1, .ref ka, .ref ta]) : va_E)) ∈ M9 := by have h9 := h16; rw [if_neg (pro_ok hp)] at h9; exact h9
  refine j_aload_n F0 dX8_token_8 rfl ?_
  refine j_iload_n F0 dX8_token_9 rfl ?_
  refine m_cSi S (n1 := 1) (rest := [.ref mo]) (r_X8_isToken X.l G X.A M9 y) ⟨_, _, _, _, rfl, gX8_token_X8_isToken, rfl, rfl, (by decide +kernel), ⟨(Nat.le_of_ble_eq_true rfl), (Nat.le_of_ble_eq_true rfl)⟩⟩ rfl (Nat.le_of_ble_eq_true rfl) (Nat.le_of_ble_eq_true rfl) (Nat.le_of_ble_eq_true rfl) rfl dX8_token_10 (fun v18 M19 hD20 hp21 => ?_)
  obtain ⟨hp21a, hp21b⟩ := hp21
  subst hp21a
  subst hp21b
  refine j_if_ne F0 20 dX8_token_13 (by decide) (fun h9 => absurd (if0.mpr hb) h9) (fun _ => ?_)
  refine j_iconst F0 1 dX8_token_16 (by decide) ?_
  refine j_goto F0 21 dX8_token_17 (by decide) ?_
  refine j_iconst F0 2 dX8_token_21 (by decide) ?_
  refine m_cVi S (n1 := 2) (rest := []) (r_X8_refuse X.l G X.A M9 (c := True) 2 (by decide) h17) ⟨_, _, _, _, rfl, gX8_token_X8_refuse, rfl, rfl, (by decide +kernel), ⟨(Nat.le_of_ble_eq_true rfl), (Nat.le_of_ble_eq_true rfl)⟩⟩ h17 rfl rfl (Nat.le_of_ble_eq_true rfl) (Nat.le_of_ble_eq_true rfl) (Nat.le_of_ble_eq_true rfl) rfl dX8_token_22 (fun v22 M23 hD24 hp25 => ?_)
  obtain ⟨hp25v, hp25a, hp25k⟩ := hp25
  have hp25v : (1 : Int32) = v22 := hp25v
  subst hp25v
  have n26 : pl1 ∉ [mo] := by
    intro h9; simp only [List.mem_cons, List.not_mem_nil, or_false] at h9
    · exact (In.ne hD10 h3 h17 (by simp)) h9
  have n27 : pe1 ∉ [mo] := by
    intro h9; simp only [List.mem_cons, List.not_mem_nil, or_false] at h9
    · exact (In.ne hD10 h4 h17 (by simp)) h9
  have n28 : ta ∉ [mo] := by
    intro h9; simp only [List.mem_cons, List.not_mem_nil, or_false] at h9
    · exact (In.ne hD10 h5 h17 (by simp)) h9
  have n29 : ka ∉ [mo] := by
    intro h9; simp only [List.mem_cons, List.not_mem_nil, or_false] at h9
    · exact (In.ne hD10 h6 h17 (by simp)) h9
  have h3 := hp25k _ _ n26 h3
  have h4 := hp25k _ _ n27 h4
  have h5 := hp25k _ _ n28 h5
  have h6 := hp25k _ _ n29 h6
  have h30 : (mo, (.inr (8, [.int 2, .ref pl1, .ref ka, .ref ta]) : va_E)) ∈ M23 := hp25a
  refine j_if_ne F0 60 dX8_token_25 (by decide) (fun _ => ?_) (fun h9 => absurd h9 (by decide))
  refine j_iconst F0 0 dX8_token_60 (by decide) ?_
  have hKp : Kp M [mo, ka] M23 := by
    intro b x hb hx
    have n31 : b ∉ [mo] := by
      intro h9; simp only [List.mem_cons, List.not_mem_nil, or_false] at h9
      · exact (fun c => hb (by rw [c]; simp)) h9
    have hx := hp11k b x n31 hx
    have n32 : b ∉ [mo] := by
      intro h9; simp only [List.mem_cons, List.not_mem_nil, or_false] at h9
      · exact (fun c => hb (by rw [c]; simp)) h9
    have hx := hp25k b x n32 hx
    exact hx
  have hKL : KL G M M23 := fun o n f ho => hKp _ _ (by
    intro h9; simp only [List.mem_cons, List.not_mem_nil, or_false] at h9
    rcases h9 with h9 | h9
    · exact In.ne hD ho o1_0 (by simp) h9
    · exact In.ne hD ho o1_6 (by simp) h9
    ) ho
  exact m_ireturn S hRT rfl hQ (Nat.le_of_ble_eq_true rfl) (Nat.le_of_ble_eq_true rfl) dX8_token_61 rfl ⟨_, _, _, h30, hKL, rfl⟩

set_option maxRecDepth 100000 in
set_option maxHeartbeats 4000000 in
theorem r_X8_untoken_b (l : Launch) (G : RG) (A : Nat → Prop) (M : Wl) {mo ka ta : Nat} {tv : Int32} (x : Int32) (hb : ProP x) (y : Int32) (hM : Mo G mo ka ta tv M) : Kr l G A yX8_untoken wsX8_untoken { frames := 3, cells := 0, slots := 0, locals := 65 } M [.ref mo, .int x, .int y] (Gi G A (fun v N => ∃ pl k9 t9 : Nat, (mo, (.inr (8, [.int 1, .ref pl, .ref k9, .ref t9]) : va_E)) ∈ N ∧ KL G M N ∧ (0 : Int32) = v)) 0 0 := by
  refine Kr.of (cc := cX8_untoken) (maxL := 5) (ret := (some .int)) (by decide) rfl (Nat.le_of_ble_eq_true rfl) ?_
  intro X hXl S hRT hIN hXA hQ hD
  subst hXl
  subst hXA
  show J (X.at 0 0) 5 (PL G.Z X.A M) 0 [some (.ref mo), some (.int x), some (.int y), none, none] []
  have F0 := S.1.at 0 0 (Nat.le_of_ble_eq_true rfl) (Nat.le_of_ble_eq_true rfl)
  have hOR := S.2.1.or
  obtain ⟨pl1, pe1, f1, kn1, tf1, o1_0, o1_1, o1_2, o1_3, o1_4, o1_5, o1_6, o1_7⟩ := id hM
  have h2 : (mo, (.inr (8, [.int tv, .ref pl1, .ref ka, .ref ta]) : va_E)) ∈ M := o1_0
  have h3 : (pl1, (.inr (10, [.int 10, .ref pe1, .int 10]) : va_E)) ∈ M := o1_1
  have h4 : (pe1, (.inl (G.cO, 10, .inr (.inr (.inr (.inr f1)))) : va_E)) ∈ M := o1_2
  have h5 : (ta, (.inl (G.Z.cI, 8, .inl tf1) : va_E)) ∈ M := o1_4
  have h6 : (ka, (.inl (G.cR, 10, .inr (.inr (.inr (.inr kn1)))) : va_E)) ∈ M := o1_6
  have hDo7 := hD
  refine j_aload_n F0 dX8_untoken_0 rfl ?_
  refine j_iload_n F0 dX8_untoken_1 rfl ?_
  refine m_cVi S (n1 := 1) (rest := []) (r_X8_isNoProgram X.l G X.A M x h2) ⟨_, _, _, _, rfl, gX8_untoken_X8_isNoProgram, rfl, rfl, (by decide +kernel), ⟨(Nat.le_of_ble_eq_true rfl), (Nat.le_of_ble_eq_true rfl)⟩⟩ h2 rfl rfl (Nat.le_of_ble_eq_true rfl) (Nat.le_of_ble_eq_true rfl) (Nat.le_of_ble_eq_true rfl) rfl dX8_untoken_2 (fun v8 M9 hD10 hp11 => ?_)
  obtain ⟨hp11v, hp11a, hp11k⟩ := hp11
  subst hp11v
  have n12 : pl1 ∉ [mo] := by
    intro h9; simp only [List.mem_cons, List.not_mem_nil, or_false] at h9
    · exact (In.ne hD h3 h2 (by simp)) h9
  have n13 : pe1 ∉ [mo] := by
    intro h9; simp only [List.mem_cons, List.not_mem_nil, or_false] at h9
    · exact (In.ne hD h4 h2 (by simp)) h9
  have n14 : ta ∉ [mo] := by
    intro h9; simp only [List.mem_cons, List.not_mem_nil, or_false] at h9
    · exact (In.ne hD h5 h2 (by simp)) h9
  have n15 : ka ∉ [mo] := by
    intro h9; simp only [List.mem_cons, List.not_mem_nil, or_false] at h9
    · exact (In.ne hD h6 h2 (by simp)) h9
  have h3 := hp11k _ _ n12 h3
  have h4 := hp11k _ _ n13 h4
  have h5 := hp11k _ _ n14 h5
  have h6 := hp11k _ _ n15 h6
  have h16 : (mo, (.inr (8, [.int (if ProP x then (1 : Int32) else 0), .ref pl1, .ref ka, .ref ta]) : va_E)) ∈ M9 := hp11a
  refine j_if_ne F0 31 dX8_untoken_5 (by decide) (fun _ => ?_) (fun h9 => absurd h9 (if1.mpr hb))
  have h17 : (mo, (.inr (8, [.int 1, .ref pl1, .ref ka, .ref ta]) : va_E)) ∈ M9 := by have h9 := h16; rw [if_pos hb] at h9; exact h9
  refine j_iconst F0 0 dX8_untoken_31 (by decide) ?_
  have hKp : Kp M [mo, ka] M9 := by
    intro b x hb hx
    have n18 : b ∉ [mo] := by
      intro h9; simp only [List.mem_cons, List.not_mem_nil, or_false] at h9
      · exact (fun c => hb (by rw [c]; simp)) h9
    have hx := hp11k b x n18 hx
    exact hx
  have hKL : KL G M M9 := fun o n f ho => hKp _ _ (by
    intro h9; simp only [List.mem_cons, List.not_mem_nil, or_false] at h9
    rcases h9 with h9 | h9
    · exact In.ne hD ho o1_0 (by simp) h9
    · exact In.ne hD ho o1_6 (by simp) h9
    ) ho
  exact m_ireturn S hRT rfl hQ (Nat.le_of_ble_eq_true rfl) (Nat.le_of_ble_eq_true rfl) dX8_untoken_32 rfl ⟨_, _, _, h17, hKL, rfl⟩

set_option maxRecDepth 100000 in
set_option maxHeartbeats 4000000 in
theorem r_X8_untoken_t (l : Launch) (G : RG) (A : Nat → Prop) (M : Wl) {mo ka ta : Nat} {tv : Int32} (p : Nat) (hp : p < 10) (y : Int32) (hb : ¬ (1 ≤ y ∧ y ≤ 40)) (hM : Mo G mo ka ta tv M) : Kr l G A yX8_untoken wsX8_untoken { frames := 3, cells := 0, slots := 0, locals := 65 } M [.ref mo, .int (nI p), .int y] (Gi G A (fun v N => ∃ pl k9 t9 : Nat, (mo, (.inr (8, [.int 2, .ref pl, .ref k9, .ref t9]) : va_E)) ∈ N ∧ KL G M N ∧ (0 : Int32) = v)) 0 0 := by
  refine Kr.of (cc := cX8_untoken) (maxL := 5) (ret := (some .int)) (by decide) rfl (Nat.le_of_ble_eq_true rfl) ?_
  intro X hXl S hRT hIN hXA hQ hD
  subst hXl
  subst hXA
  show J (X.at 0 0) 5 (PL G.Z X.A M) 0 [some (.ref mo), some (.int (nI p)), some (.int y), none, none] []
  have F0 := S.1.at 0 0 (Nat.le_of_ble_eq_true rfl) (Nat.le_of_ble_eq_true rfl)
  have hOR := S.2.1.or
  obtain ⟨pl1, pe1, f1, kn1, tf1, o1_0, o1_1, o1_2, o1_3, o1_4, o1_5, o1_6, o1_7⟩ := id hM
  have h2 : (mo, (.inr (8, [.int tv, .ref pl1, .ref ka, .ref ta]) : va_E)) ∈ M := o1_0
  have h3 : (pl1, (.inr (10, [.int 10, .ref pe1, .int 10]) : va_E)) ∈ M := o1_1
  have h4 : (pe1, (.inl (G.cO, 10, .inr (.inr (.inr (.inr f1)))) : va_E)) ∈ M := o1_2
  have h5 : (ta, (.inl (G.Z.cI, 8, .inl tf1) : va_E)) ∈ M := o1_4
  have h6 : (ka, (.inl (G.cR, 10, .inr (.inr (.inr (.inr kn1)))) : va_E)) ∈ M := o1_6
  have hDo7 := hD
  refine j_aload_n F0 dX8_untoken_0 rfl ?_
  refine j_iload_n F0 dX8_untoken_1 rfl ?_
  refine m_cVi S (n1 := 1) (rest := []) (r_X8_isNoProgram X.l G X.A M (nI p) h2) ⟨_, _, _, _, rfl, gX8_untoken_X8_isNoProgram, rfl, rfl, (by decide +kernel), ⟨(Nat.le_of_ble_eq_true rfl), (Nat.le_of_ble_eq_true rfl)⟩⟩ h2 rfl rfl (Nat.le_of_ble_eq_true rfl) (Nat.le_of_ble_eq_true rfl) (Nat.le_of_ble_eq_true rfl) rfl dX8_untoken_2 (fun v8 M9 hD10 hp11 => ?_)
  obtain ⟨hp11v, hp11a, hp11k⟩ := hp11
  subst hp11v
  have n12 : pl1 ∉ [mo] := by
    intro h9; simp only [List.mem_cons, List.not_mem_nil, or_false] at h9
    · exact (In.ne hD h3 h2 (by simp)) h9
  have n13 : pe1 ∉ [mo] := by
    intro h9; simp only [List.mem_cons, List.not_mem_nil, or_false] at h9
    · exact (In.ne hD h4 h2 (by simp)) h9
  have n14 : ta ∉ [mo] := by
    intro h9; simp only [List.mem_cons, List.not_mem_nil, or_false] at h9
    · exact (In.ne hD h5 h2 (by simp)) h9
  have n15 : ka ∉ [mo] := by
    intro h9; simp only [List.mem_cons, List.not_mem_nil, or_false] at h9
    · exact (In.ne hD h6 h2 (by simp)) h9
  have h3 := hp11k _ _ n12 h3
  have h4 := hp11k _ _ n13 h4
  have h5 := hp11k _ _ n14 h5
  have h6 := hp11k _ _ n15 h6
  have h16 : (mo, (.inr (8, [.int (if ProP (nI p) then (1 : Int32) else 0), .ref pl1, .ref ka, .ref ta]) : va_E)) ∈ M9 := hp11a
  refine j_if_ne F0 31 dX8_untoken_5 (by decide) (fun h9 => absurd (if0.mpr (pro_ok hp)) h9) (fun _ => ?_)
  have h17 : (mo, (.inr (8, [.int 0, .ref pl1, .ref ka, .ref ta]) : va_E)) ∈ M9 := by have h9 := h16; rw [if_neg (pro_ok hp)] at h9; exact h9
  refine j_aload_n F0 dX8_untoken_8 rfl ?_
  refine j_iload_n F0 dX8_untoken_9 rfl ?_
  refine j_iconst F0 1 dX8_untoken_10 (by decide) ?_
  refine j_bipush F0 40 dX8_untoken_11 (by decide) ?_
  refine m_cSi S (n1 := 3) (rest := [.ref mo]) (r_X8_isIn X.l G X.A M9 y 1 40) ⟨_, _, _, _, rfl, gX8_untoken_X8_isIn, rfl, rfl, (by decide +kernel), ⟨(Nat.le_of_ble_eq_true rfl), (Nat.le_of_ble_eq_true rfl)⟩⟩ rfl (Nat.le_of_ble_eq_true rfl) (Nat.le_of_ble_eq_true rfl) (Nat.le_of_ble_eq_true rfl) rfl dX8_untoken_13 (fun v18 M19 hD20 hp21 => ?_)
  obtain ⟨hp21a, hp21b⟩ := hp21
  subst hp21a
  subst hp21b
  refine j_if_ne F0 23 dX8_untoken_16 (by decide) (fun h9 => absurd (if0.mpr hb) h9) (fun _ => ?_)
  refine j_iconst F0 1 dX8_untoken_19 (by decide) ?_
  refine j_goto F0 24 dX8_untoken_20 (by decide) ?_
  refine j_iconst F0 2 dX8_untoken_24 (by decide) ?_
  refine m_cVi S (n1 := 2) (rest := []) (r_X8_refuse X.l G X.A M9 (c := True) 2 (by decide) h17) ⟨_, _, _, _, rfl, gX8_untoken_X8_refuse, rfl, rfl, (by decide +kernel), ⟨(Nat.le_of_ble_eq_true rfl), (Nat.le_of_ble_eq_true rfl)⟩⟩ h17 rfl rfl (Nat.le_of_ble_eq_true rfl) (Nat.le_of_ble_eq_true rfl) (Nat.le_of_ble_eq_true rfl) rfl dX8_untoken_25 (fun v22 M23 hD24 hp25 => ?_)
  obtain ⟨hp25v, hp25a, hp25k⟩ := hp25
  have hp25v : (1 : Int32) = v22 := hp25v
  subst hp25v
  have n26 : pl1 ∉ [mo] := by
    intro h9; simp only [List.mem_cons, List.not_mem_nil, or_false] at h9
    · exact (In.ne hD10 h3 h17 (by simp)) h9
  have n27 : pe1 ∉ [mo] := by
    intro h9; simp only [List.mem_cons, List.not_mem_nil, or_false] at h9
    · exact (In.ne hD10 h4 h17 (by simp)) h9
  have n28 : ta ∉ [mo] := by
    intro h9; simp only [List.mem_cons, List.not_mem_nil, or_false] at h9
    · exact (In.ne hD10 h5 h17 (by simp)) h9
  have n29 : ka ∉ [mo] := by
    intro h9; simp only [List.mem_cons, List.not_mem_nil, or_false] at h9
    · exact (In.ne hD10 h6 h17 (by simp)) h9
  have h3 := hp25k _ _ n26 h3
  have h4 := hp25k _ _ n27 h4
  have h5 := hp25k _ _ n28 h5
  have h6 := hp25k _ _ n29 h6
  have h30 : (mo, (.inr (8, [.int 2, .ref pl1, .ref ka, .ref ta]) : va_E)) ∈ M23 := hp25a
  refine j_if_eq F0 33 dX8_untoken_28 (by decide) (fun h9 => absurd h9 (by decide)) (fun _ => ?_)
  refine j_iconst F0 0 dX8_untoken_31 (by decide) ?_
  have hKp : Kp M [mo, ka] M23 := by
    intro b x hb hx
    have n31 : b ∉ [mo] := by
      intro h9; simp only [List.mem_cons, List.not_mem_nil, or_false] at h9
      · exact (fun c => hb (by rw [c]; simp)) h9
    have hx := hp11k b x n31 hx
    have n32 : b ∉ [mo] := by
      intro h9; simp only [List.mem_cons, List.not_mem_nil, or_false] at h9
      · exact (fun c => hb (by rw [c]; simp)) h9
    have hx := hp25k b x n32 hx
    exact hx
  have hKL : KL G M M23 := fun o n f ho => hKp _ _ (by
    intro h9; simp only [List.mem_cons, List.not_mem_nil, or_false] at h9
    rcases h9 with h9 | h9
    · exact In.ne hD ho o1_0 (by simp) h9
    · exact In.ne hD ho o1_6 (by simp) h9
    ) ho
  exact m_ireturn S hRT rfl hQ (Nat.le_of_ble_eq_true rfl) (Nat.le_of_ble_eq_true rfl) dX8_untoken_32 rfl ⟨_, _, _, h30, hKL, rfl⟩

set_option maxRecDepth 100000 in
set_option maxHeartbeats 4000000 in
theorem r_X8_ofProgram_b (l : Launch) (G : RG) (A : Nat → Prop) (M : Wl) {mo ka ta : Nat} {tv : Int32} (x : Int32) (hb : ProP x) (y : Int32) (hM : Mo G mo ka ta tv M) : Kr l G A yX8_ofProgram wbX8_ofProgram { frames := 3, cells := 0, slots := 0, locals := 65 } M [.ref mo, .int x, .int y] (Gi G A (fun v N => ∃ pl k9 t9 : Nat, (mo, (.inr (8, [.int 1, .ref pl, .ref k9, .ref t9]) : va_E)) ∈ N ∧ KL G M N ∧ (0 : Int32) = v)) 0 0 := by
  refine Kr.of (cc := cX8_ofProgram) (maxL := 3) (ret := (some .int)) (by decide) rfl (Nat.le_of_ble_eq_true rfl) ?_
  intro X hXl S hRT hIN hXA hQ hD
  subst hXl
  subst hXA
  show J (X.at 0 0) 3 (PL G.Z X.A M) 0 [some (.ref mo), some (.int x), some (.int y)] []
  have F0 := S.1.at 0 0 (Nat.le_of_ble_eq_true rfl) (Nat.le_of_ble_eq_true rfl)
  have hOR := S.2.1.or
  obtain ⟨pl1, pe1, f1, kn1, tf1, o1_0, o1_1, o1_2, o1_3, o1_4, o1_5, o1_6, o1_7⟩ := id hM
  have h2 : (mo, (.inr (8, [.int tv, .ref pl1, .ref ka, .ref ta]) : va_E)) ∈ M := o1_0
  have h3 : (pl1, (.inr (10, [.int 10, .ref pe1, .int 10]) : va_E)) ∈ M := o1_1
  have h4 : (pe1, (.inl (G.cO, 10, .inr (.inr (.inr (.inr f1)))) : va_E)) ∈ M := o1_2
  have h5 : (ta, (.inl (G.Z.cI, 8, .inl tf1) : va_E)) ∈ M := o1_4
  have h6 : (ka, (.inl (G.cR, 10, .inr (.inr (.inr (.inr kn1)))) : va_E)) ∈ M := o1_6
  have hDo7 := hD
  refine j_aload_n F0 dX8_ofProgram_0 rfl ?_
  refine j_iload_n F0 dX8_ofProgram_1 rfl ?_
  refine m_cVi S (n1 := 1) (rest := []) (r_X8_isNoProgram X.l G X.A M x h2) ⟨_, _, _, _, rfl, (gBV kB_X8_isNoProgram (by decide +kernel)), rfl, rfl, (by decide +kernel), ⟨(Nat.le_of_ble_eq_true rfl), (Nat.le_of_ble_eq_true rfl)⟩⟩ h2 rfl rfl (Nat.le_of_ble_eq_true rfl) (Nat.le_of_ble_eq_true rfl) (Nat.le_of_ble_eq_true rfl) rfl dX8_ofProgram_2 (fun v8 M9 hD10 hp11 => ?_)
  obtain ⟨hp11v, hp11a, hp11k⟩ := hp11
  subst hp11v
  have n12 : pl1 ∉ [mo] := by
    intro h9; simp only [List.mem_cons, List.not_mem_nil, or_false] at h9
    · exact (In.ne hD h3 h2 (by simp)) h9
  have n13 : pe1 ∉ [mo] := by
    intro h9; simp only [List.mem_cons, List.not_mem_nil, or_false] at h9
    · exact (In.ne hD h4 h2 (by simp)) h9
  have n14 : ta ∉ [mo] := by
    intro h9; simp only [List.mem_cons, List.not_mem_nil, or_false] at h9
    · exact (In.ne hD h5 h2 (by simp)) h9
  have n15 : ka ∉ [mo] := by
    intro h9; simp only [List.mem_cons, List.not_mem_nil, or_false] at h9
    · exact (In.ne hD h6 h2 (by simp)) h9
  have h3 := hp11k _ _ n12 h3
  have h4 := hp11k _ _ n13 h4
  have h5 := hp11k _ _ n14 h5
  have h6 := hp11k _ _ n15 h6
  have h16 : (mo, (.inr (8, [.int (if ProP x then (1 : Int32) else 0), .ref pl1, .ref ka, .ref ta]) : va_E)) ∈ M9 := hp11a
  refine j_if_ne F0 30 dX8_ofProgram_5 (by decide) (fun _ => ?_) (fun h9 => absurd h9 (if1.mpr hb))
  have h17 : (mo, (.inr (8, [.int 1, .ref pl1, .ref ka, .ref ta]) : va_E)) ∈ M9 := by have h9 := h16; rw [if_pos hb] at h9; exact h9
  refine j_iconst F0 0 dX8_ofProgram_30 (by decide) ?_
  refine j_goto F0 40 dX8_ofProgram_31 (by decide) ?_
  have hKp : Kp M [mo, ka] M9 := by
    intro b x hb hx
    have n18 : b ∉ [mo] := by
      intro h9; simp only [List.mem_cons, List.not_mem_nil, or_false] at h9
      · exact (fun c => hb (by rw [c]; simp)) h9
    have hx := hp11k b x n18 hx
    exact hx
  have hKL : KL G M M9 := fun o n f ho => hKp _ _ (by
    intro h9; simp only [List.mem_cons, List.not_mem_nil, or_false] at h9
    rcases h9 with h9 | h9
    · exact In.ne hD ho o1_0 (by simp) h9
    · exact In.ne hD ho o1_6 (by simp) h9
    ) ho
  exact m_ireturn S hRT rfl hQ (Nat.le_of_ble_eq_true rfl) (Nat.le_of_ble_eq_true rfl) dX8_ofProgram_40 rfl ⟨_, _, _, h17, hKL, rfl⟩

set_option maxRecDepth 100000 in
set_option maxHeartbeats 4000000 in
theorem r_X8_ofProgram_t (l : Launch) (G : RG) (A : Nat → Prop) (M : Wl) {mo ka ta : Nat} {tv : Int32} (p : Nat) (hp : p < 10) (y : Int32) (hb : ¬ (0 ≤ y ∧ y ≤ 3)) (hM : Mo G mo ka ta tv M) : Kr l G A yX8_ofProgram wbX8_ofProgram { frames := 3, cells := 0, slots := 0, locals := 65 } M [.ref mo, .int (nI p), .int y] (Gi G A (fun v N => ∃ pl k9 t9 : Nat, (mo, (.inr (8, [.int 2, .ref pl, .ref k9, .ref t9]) : va_E)) ∈ N ∧ KL G M N ∧ (0 : Int32) = v)) 0 0 := by
  refine Kr.of (cc := cX8_ofProgram) (maxL := 3) (ret := (some .int)) (by decide) rfl (Nat.le_of_ble_eq_true rfl) ?_
  intro X hXl S hRT hIN hXA hQ hD
  subst hXl
  subst hXA
  show J (X.at 0 0) 3 (PL G.Z X.A M) 0 [some (.ref mo), some (.int (nI p)), some (.int y)] []
  have F0 := S.1.at 0 0 (Nat.le_of_ble_eq_true rfl) (Nat.le_of_ble_eq_true rfl)
  have hOR := S.2.1.or
  obtain ⟨pl1, pe1, f1, kn1, tf1, o1_0, o1_1, o1_2, o1_3, o1_4, o1_5, o1_6, o1_7⟩ := id hM
  have h2 : (mo, (.inr (8, [.int tv, .ref pl1, .ref ka, .ref ta]) : va_E)) ∈ M := o1_0
  have h3 : (pl1, (.inr (10, [.int 10, .ref pe1, .int 10]) : va_E)) ∈ M := o1_1
  have h4 : (pe1, (.inl (G.cO, 10, .inr (.inr (.inr (.inr f1)))) : va_E)) ∈ M := o1_2
  have h5 : (ta, (.inl (G.Z.cI, 8, .inl tf1) : va_E)) ∈ M := o1_4
  have h6 : (ka, (.inl (G.cR, 10, .inr (.inr (.inr (.inr kn1)))) : va_E)) ∈ M := o1_6
  have hDo7 := hD
  refine j_aload_n F0 dX8_ofProgram_0 rfl ?_
  refine j_iload_n F0 dX8_ofProgram_1 rfl ?_
  refine m_cVi S (n1 := 1) (rest := []) (r_X8_isNoProgram X.l G X.A M (nI p) h2) ⟨_, _, _, _, rfl, (gBV kB_X8_isNoProgram (by decide +kernel)), rfl, rfl, (by decide +kernel), ⟨(Nat.le_of_ble_eq_true rfl), (Nat.le_of_ble_eq_true rfl)⟩⟩ h2 rfl rfl (Nat.le_of_ble_eq_true rfl) (Nat.le_of_ble_eq_true rfl) (Nat.le_of_ble_eq_true rfl) rfl dX8_ofProgram_2 (fun v8 M9 hD10 hp11 => ?_)
  obtain ⟨hp11v, hp11a, hp11k⟩ := hp11
  subst hp11v
  have n12 : pl1 ∉ [mo] := by
    intro h9; simp only [List.mem_cons, List.not_mem_nil, or_false] at h9
    · exact (In.ne hD h3 h2 (by simp)) h9
  have n13 : pe1 ∉ [mo] := by
    intro h9; simp only [List.mem_cons, List.not_mem_nil, or_false] at h9
    · exact (In.ne hD h4 h2 (by simp)) h9
  have n14 : ta ∉ [mo] := by
    intro h9; simp only [List.mem_cons, List.not_mem_nil, or_false] at h9
    · exact (In.ne hD h5 h2 (by simp)) h9
  have n15 : ka ∉ [mo] := by
    intro h9; simp only [List.mem_cons, List.not_mem_nil, or_false] at h9
    · exact (In.ne hD h6 h2 (by simp)) h9
  have h3 := hp11k _ _ n12 h3
  have h4 := hp11k _ _ n13 h4
  have h5 := hp11k _ _ n14 h5
  have h6 := hp11k _ _ n15 h6
  have h16 : (mo, (.inr (8, [.int (if ProP (nI p) then (1 : Int32) else 0), .ref pl1, .ref ka, .ref ta]) : va_E)) ∈ M9 := hp11a
  refine j_if_ne F0 30 dX8_ofProgram_5 (by decide) (fun h9 => absurd (if0.mpr (pro_ok hp)) h9) (fun _ => ?_)
  have h17 : (mo, (.inr (8, [.int 0, .ref pl1, .ref ka, .ref ta]) : va_E)) ∈ M9 := by have h9 := h16; rw [if_neg (pro_ok hp)] at h9; exact h9
  refine j_aload_n F0 dX8_ofProgram_8 rfl ?_
  refine j_iload_n F0 dX8_ofProgram_9 rfl ?_
  refine j_iconst F0 0 dX8_ofProgram_10 (by decide) ?_
  refine j_iconst F0 3 dX8_ofProgram_11 (by decide) ?_
  refine m_cSi S (n1 := 3) (rest := [.ref mo]) (r_X8_isIn X.l G X.A M9 y 0 3) ⟨_, _, _, _, rfl, (gBS kB_X8_isIn (by decide +kernel)), rfl, rfl, (by decide +kernel), ⟨(Nat.le_of_ble_eq_true rfl), (Nat.le_of_ble_eq_true rfl)⟩⟩ rfl (Nat.le_of_ble_eq_true rfl) (Nat.le_of_ble_eq_true rfl) (Nat.le_of_ble_eq_true rfl) rfl dX8_ofProgram_12 (fun v18 M19 hD20 hp21 => ?_)
  obtain ⟨hp21a, hp21b⟩ := hp21
  subst hp21a
  subst hp21b
  refine j_if_ne F0 22 dX8_ofProgram_15 (by decide) (fun h9 => absurd (if0.mpr hb) h9) (fun _ => ?_)
  refine j_iconst F0 1 dX8_ofProgram_18 (by decide) ?_
  refine j_goto F0 23 dX8_ofProgram_19 (by decide) ?_
  refine j_iconst F0 2 dX8_ofProgram_23 (by decide) ?_
  refine m_cVi S (n1 := 2) (rest := []) (r_X8_refuse X.l G X.A M9 (c := True) 2 (by decide) h17) ⟨_, _, _, _, rfl, (gBV kB_X8_refuse (by decide +kernel)), rfl, rfl, (by decide +kernel), ⟨(Nat.le_of_ble_eq_true rfl), (Nat.le_of_ble_eq_true rfl)⟩⟩ h17 rfl rfl (Nat.le_of_ble_eq_true rfl) (Nat.le_of_ble_eq_true rfl) (Nat.le_of_ble_eq_true rfl) rfl dX8_ofProgram_24 (fun v22 M23 hD24 hp25 => ?_)
  obtain ⟨hp25v, hp25a, hp25k⟩ := hp25
  have hp25v : (1 : Int32) = v22 := hp25v
  subst hp25v
  have n26 : pl1 ∉ [mo] := by
    intro h9; simp only [List.mem_cons, List.not_mem_nil, or_false] at h9
    · exact (In.ne hD10 h3 h17 (by simp)) h9
  have n27 : pe1 ∉ [mo] := by
    intro h9; simp only [List.mem_cons, List.not_mem_nil, or_false] at h9
    · exact (In.ne hD10 h4 h17 (by simp)) h9
  have n28 : ta ∉ [mo] := by
    intro h9; simp only [List.mem_cons, List.not_mem_nil, or_false] at h9
    · exact (In.ne hD10 h5 h17 (by simp)) h9
  have n29 : ka ∉ [mo] := by
    intro h9; simp only [List.mem_cons, List.not_mem_nil, or_false] at h9
    · exact (In.ne hD10 h6 h17 (by simp)) h9
  have h3 := hp25k _ _ n26 h3
  have h4 := hp25k _ _ n27 h4
  have h5 := hp25k _ _ n28 h5
  have h6 := hp25k _ _ n29 h6
  have h30 : (mo, (.inr (8, [.int 2, .ref pl1, .ref ka, .ref ta]) : va_E)) ∈ M23 := hp25a
  refine j_if_eq F0 34 dX8_ofProgram_27 (by decide) (fun h9 => absurd h9 (by decide)) (fun _ => ?_)
  refine j_iconst F0 0 dX8_ofProgram_30 (by decide) ?_
  refine j_goto F0 40 dX8_ofProgram_31 (by decide) ?_
  have hKp : Kp M [mo, ka] M23 := by
    intro b x hb hx
    have n31 : b ∉ [mo] := by
      intro h9; simp only [List.mem_cons, List.not_mem_nil, or_false] at h9
      · exact (fun c => hb (by rw [c]; simp)) h9
    have hx := hp11k b x n31 hx
    have n32 : b ∉ [mo] := by
      intro h9; simp only [List.mem_cons, List.not_mem_nil, or_false] at h9
      · exact (fun c => hb (by rw [c]; simp)) h9
    have hx := hp25k b x n32 hx
    exact hx
  have hKL : KL G M M23 := fun o n f ho => hKp _ _ (by
    intro h9; simp only [List.mem_cons, List.not_mem_nil, or_false] at h9
    rcases h9 with h9 | h9
    · exact In.ne hD ho o1_0 (by simp) h9
    · exact In.ne hD ho o1_6 (by simp) h9
    ) ho
  exact m_ireturn S hRT rfl hQ (Nat.le_of_ble_eq_true rfl) (Nat.le_of_ble_eq_true rfl) dX8_ofProgram_40 rfl ⟨_, _, _, h30, hKL, rfl⟩

set_option maxRecDepth 100000 in
set_option maxHeartbeats 4000000 in
theorem r_X8_ofProgram (l : Launch) (G : RG) (A : Nat → Prop) (M : Wl) {mo ka ta : Nat} {tv : Int32} (p : Nat) (hp : p < 10) (w : Nat) (hw : w < 4) (hM : Mo G mo ka ta tv M) : Kr l G A yX8_ofProgram wbX8_ofProgram { frames := 8, cells := 7, slots := 26, locals := 177 } M [.ref mo, .int (nI p), .int (nI w)] (Gi G A (fun v N => ∃ pl k9 t9 : Nat, (mo, (.inr (8, [.int 0, .ref pl, .ref k9, .ref t9]) : va_E)) ∈ N ∧ KL G M N ∧ (ofN w : Int32) = v)) 7 26 := by
  refine Kr.of (cc := cX8_ofProgram) (maxL := 3) (ret := (some .int)) (by decide) rfl (Nat.le_of_ble_eq_true rfl) ?_
  intro X hXl S hRT hIN hXA hQ hD
  subst hXl
  subst hXA
  show J (X.at 0 0) 3 (PL G.Z X.A M) 0 [some (.ref mo), some (.int (nI p)), some (.int (nI w))] []
  have F0 := S.1.at 0 0 (Nat.le_of_ble_eq_true rfl) (Nat.le_of_ble_eq_true rfl)
  have hOR := S.2.1.or
  obtain ⟨pl1, pe1, f1, kn1, tf1, o1_0, o1_1, o1_2, o1_3, o1_4, o1_5, o1_6, o1_7⟩ := id hM
  have h2 : (mo, (.inr (8, [.int tv, .ref pl1, .ref ka, .ref ta]) : va_E)) ∈ M := o1_0
  have h3 : (pl1, (.inr (10, [.int 10, .ref pe1, .int 10]) : va_E)) ∈ M := o1_1
  have h4 : (pe1, (.inl (G.cO, 10, .inr (.inr (.inr (.inr f1)))) : va_E)) ∈ M := o1_2
  have h5 : (ta, (.inl (G.Z.cI, 8, .inl tf1) : va_E)) ∈ M := o1_4
  have h6 : (ka, (.inl (G.cR, 10, .inr (.inr (.inr (.inr kn1)))) : va_E)) ∈ M := o1_6
  have hDo7 := hD
  refine j_aload_n F0 dX8_ofProgram_0 rfl ?_
  refine j_iload_n F0 dX8_ofProgram_1 rfl ?_
  refine m_cVi S (n1 := 1) (rest := []) (r_X8_isNoProgram X.l G X.A M (nI p) h2) ⟨_, _, _, _, rfl, (gBV kB_X8_isNoProgram (by decide +kernel)), rfl, rfl, (by decide +kernel), ⟨(Nat.le_of_ble_eq_true rfl), (Nat.le_of_ble_eq_true rfl)⟩⟩ h2 rfl rfl (Nat.le_of_ble_eq_true rfl) (Nat.le_of_ble_eq_true rfl) (Nat.le_of_ble_eq_true rfl) rfl dX8_ofProgram_2 (fun v8 M9 hD10 hp11 => ?_)
  obtain ⟨hp11v, hp11a, hp11k⟩ := hp11
  subst hp11v
  have n12 : pl1 ∉ [mo] := by
    intro h9; simp only [List.mem_cons, List.not_mem_nil, or_false] at h9
    · exact (In.ne hD h3 h2 (by simp)) h9
  have n13 : pe1 ∉ [mo] := by
    intro h9; simp only [List.mem_cons, List.not_mem_nil, or_false] at h9
    · exact (In.ne hD h4 h2 (by simp)) h9
  have n14 : ta ∉ [mo] := by
    intro h9; simp only [List.mem_cons, List.not_mem_nil, or_false] at h9
    · exact (In.ne hD h5 h2 (by simp)) h9
  have n15 : ka ∉ [mo] := by
    intro h9; simp only [List.mem_cons, List.not_mem_nil, or_false] at h9
    · exact (In.ne hD h6 h2 (by simp)) h9
  have h3 := hp11k _ _ n12 h3
  have h4 := hp11k _ _ n13 h4
  have h5 := hp11k _ _ n14 h5
  have h6 := hp11k _ _ n15 h6
  have h16 : (mo, (.inr (8, [.int (if ProP (nI p) then (1 : Int32) else 0), .ref pl1, .ref ka, .ref ta]) : va_E)) ∈ M9 := hp11a
  refine j_if_ne F0 30 dX8_ofProgram_5 (by decide) (fun h9 => absurd (if0.mpr (pro_ok hp)) h9) (fun _ => ?_)
  have h17 : (mo, (.inr (8, [.int 0, .ref pl1, .ref ka, .ref ta]) : va_E)) ∈ M9 := by have h9 := h16; rw [if_neg (pro_ok hp)] at h9; exact h9
  refine j_aload_n F0 dX8_ofProgram_8 rfl ?_
  refine j_iload_n F0 dX8_ofProgram_9 rfl ?_
  refine j_iconst F0 0 dX8_ofProgram_10 (by decide) ?_
  refine j_iconst F0 3 dX8_ofProgram_11 (by decide) ?_
  refine m_cSi S (n1 := 3) (rest := [.ref mo]) (r_X8_isIn X.l G X.A M9 (nI w) 0 3) ⟨_, _, _, _, rfl, (gBS kB_X8_isIn (by decide +kernel)), rfl, rfl, (by decide +kernel), ⟨(Nat.le_of_ble_eq_true rfl), (Nat.le_of_ble_eq_true rfl)⟩⟩ rfl (Nat.le_of_ble_eq_true rfl) (Nat.le_of_ble_eq_true rfl) (Nat.le_of_ble_eq_true rfl) rfl dX8_ofProgram_12 (fun v18 M19 hD20 hp21 => ?_)
  obtain ⟨hp21a, hp21b⟩ := hp21
  subst hp21a
  subst hp21b
  refine j_if_ne F0 22 dX8_ofProgram_15 (by decide) (fun _ => ?_) (fun h9 => absurd h9 (if1.mpr ⟨Int32.not_lt.mp (nI_pos (by omega)), by rw [show (3 : Int32) = nI 3 from rfl, nI_leI (by omega) (by omega)]; omega⟩))
  refine j_iconst F0 0 dX8_ofProgram_22 (by decide) ?_
  refine j_iconst F0 2 dX8_ofProgram_23 (by decide) ?_
  refine m_cVi S (n1 := 2) (rest := []) (r_X8_refuse X.l G X.A M9 (c := False) 2 (by decide) h17) ⟨_, _, _, _, rfl, (gBV kB_X8_refuse (by decide +kernel)), rfl, rfl, (by decide +kernel), ⟨(Nat.le_of_ble_eq_true rfl), (Nat.le_of_ble_eq_true rfl)⟩⟩ h17 rfl rfl (Nat.le_of_ble_eq_true rfl) (Nat.le_of_ble_eq_true rfl) (Nat.le_of_ble_eq_true rfl) rfl dX8_ofProgram_24 (fun v22 M23 hD24 hp25 => ?_)
  obtain ⟨hp25v, hp25a, hp25k⟩ := hp25
  have hp25v : (0 : Int32) = v22 := hp25v
  subst hp25v
  have n26 : pl1 ∉ [mo] := by
    intro h9; simp only [List.mem_cons, List.not_mem_nil, or_false] at h9
    · exact (In.ne hD10 h3 h17 (by simp)) h9
  have n27 : pe1 ∉ [mo] := by
    intro h9; simp only [List.mem_cons, List.not_mem_nil, or_false] at h9
    · exact (In.ne hD10 h4 h17 (by simp)) h9
  have n28 : ta ∉ [mo] := by
    intro h9; simp only [List.mem_cons, List.not_mem_nil, or_false] at h9
    · exact (In.ne hD10 h5 h17 (by simp)) h9
  have n29 : ka ∉ [mo] := by
    intro h9; simp only [List.mem_cons, List.not_mem_nil, or_false] at h9
    · exact (In.ne hD10 h6 h17 (by simp)) h9
  have h3 := hp25k _ _ n26 h3
  have h4 := hp25k _ _ n27 h4
  have h5 := hp25k _ _ n28 h5
  have h6 := hp25k _ _ n29 h6
  have h30 : (mo, (.inr (8, [.int 0, .ref pl1, .ref ka, .ref ta]) : va_E)) ∈ M23 := hp25a
  refine j_if_eq F0 34 dX8_ofProgram_27 (by decide) (fun _ => ?_) (fun h9 => absurd (by decide) h9)
  refine j_aload_n F0 dX8_ofProgram_34 rfl ?_
  refine j_iload_n F0 dX8_ofProgram_35 rfl ?_
  refine j_iload_n F0 dX8_ofProgram_36 rfl ?_
  have hKm32 : Kp M [mo] M23 := by
    intro b x hb hx
    have n33 : b ∉ [mo] := by
      intro h9; simp only [List.mem_cons, List.not_mem_nil, or_false] at h9
      · exact (fun c => hb (by rw [c]; simp)) h9
    have hx := hp11k b x n33 hx
    have n34 : b ∉ [mo] := by
      intro h9; simp only [List.mem_cons, List.not_mem_nil, or_false] at h9
      · exact (fun c => hb (by rw [c]; simp)) h9
    have hx := hp25k b x n34 hx
    exact hx
  have hMo31 := Mo.thr hOR hDo7 o1_0 o1_1 o1_2 o1_3 o1_4 o1_5 o1_6 o1_7 hKm32 h30
  refine m_cVi S (n1 := 2) (rest := []) (r_X8_of X.l G X.A M23 p hp w hw hMo31) ⟨_, _, _, _, rfl, (gBV kB_X8_of (by decide +kernel)), rfl, rfl, (by decide +kernel), ⟨(Nat.le_of_ble_eq_true rfl), (Nat.le_of_ble_eq_true rfl)⟩⟩ h30 rfl rfl (Nat.le_of_ble_eq_true rfl) (Nat.le_of_ble_eq_true rfl) (Nat.le_of_ble_eq_true rfl) rfl dX8_ofProgram_37 (fun v35 M36 hD37 hp38 => ?_)
  obtain ⟨hp38m, hp38k, hp38v⟩ := hp38
  subst hp38v
  obtain ⟨pl39, pe39, f39, kn39, tf39, o39_0, o39_1, o39_2, o39_3, o39_4, o39_5, o39_6, o39_7⟩ := id hp38m
  have h40 : (mo, (.inr (8, [.int 0, .ref pl39, .ref ka, .ref ta]) : va_E)) ∈ M36 := o39_0
  have h41 : (pl39, (.inr (10, [.int 10, .ref pe39, .int 10]) : va_E)) ∈ M36 := o39_1
  have h42 : (pe39, (.inl (G.cO, 10, .inr (.inr (.inr (.inr f39)))) : va_E)) ∈ M36 := o39_2
  have h43 : (ta, (.inl (G.Z.cI, 8, .inl tf39) : va_E)) ∈ M36 := o39_4
  have h44 : (ka, (.inl (G.cR, 10, .inr (.inr (.inr (.inr kn39)))) : va_E)) ∈ M36 := o39_6
  have hDo45 := hD37
  have F46 := S.1.at 7 26 (Nat.le_of_ble_eq_true rfl) (Nat.le_of_ble_eq_true rfl)
  have hKp : Kp M [mo, ka] M36 := by
    intro b x hb hx
    have n47 : b ∉ [mo] := by
      intro h9; simp only [List.mem_cons, List.not_mem_nil, or_false] at h9
      · exact (fun c => hb (by rw [c]; simp)) h9
    have hx := hp11k b x n47 hx
    have n48 : b ∉ [mo] := by
      intro h9; simp only [List.mem_cons, List.not_mem_nil, or_false] at h9
      · exact (fun c => hb (by rw [c]; simp)) h9
    have hx := hp25k b x n48 hx
    have n49 : b ∉ [mo, ka] := by
      intro h9; simp only [List.mem_cons, List.not_mem_nil, or_false] at h9
      rcases h9 with h9 | h9
      · exact (fun c => hb (by rw [c]; simp)) h9
      · exact (fun c => hb (by rw [c]; simp)) h9
    have hx := hp38k b x n49 hx
    exact hx
  have hKL : KL G M M36 := fun o n f ho => hKp _ _ (by
    intro h9; simp only [List.mem_cons, List.not_mem_nil, or_false] at h9
    rcases h9 with h9 | h9
    · exact In.ne hD ho o1_0 (by simp) h9
    · exact In.ne hD ho o1_6 (by simp) h9
    ) ho
  exact m_ireturn S hRT rfl hQ (Nat.le_of_ble_eq_true rfl) (Nat.le_of_ble_eq_true rfl) dX8_ofProgram_40 rfl ⟨_, _, _, h40, hKL, rfl⟩

set_option maxRecDepth 100000 in
set_option maxHeartbeats 4000000 in
theorem r_X8_number_b (l : Launch) (G : RG) (A : Nat → Prop) (M : Wl) {mo ka ta : Nat} {tv : Int32} (x : Int32) (hb : ProP x) (y : Int32) (hM : Mo G mo ka ta tv M) : Kr l G A yX8_number wbX8_number { frames := 3, cells := 0, slots := 0, locals := 65 } M [.ref mo, .int x, .int y] (Gi G A (fun v N => ∃ pl k9 t9 : Nat, (mo, (.inr (8, [.int 1, .ref pl, .ref k9, .ref t9]) : va_E)) ∈ N ∧ KL G M N ∧ (0 : Int32) = v)) 0 0 := by
  refine Kr.of (cc := cX8_number) (maxL := 3) (ret := (some .int)) (by decide) rfl (Nat.le_of_ble_eq_true rfl) ?_
  intro X hXl S hRT hIN hXA hQ hD
  subst hXl
  subst hXA
  show J (X.at 0 0) 3 (PL G.Z X.A M) 0 [some (.ref mo), some (.int x), some (.int y)] []
  have F0 := S.1.at 0 0 (Nat.le_of_ble_eq_true rfl) (Nat.le_of_ble_eq_true rfl)
  have hOR := S.2.1.or
  obtain ⟨pl1, pe1, f1, kn1, tf1, o1_0, o1_1, o1_2, o1_3, o1_4, o1_5, o1_6, o1_7⟩ := id hM
  have h2 : (mo, (.inr (8, [.int tv, .ref pl1, .ref ka, .ref ta]) : va_E)) ∈ M := o1_0
  have h3 : (pl1, (.inr (10, [.int 10, .ref pe1, .int 10]) : va_E)) ∈ M := o1_1
  have h4 : (pe1, (.inl (G.cO, 10, .inr (.inr (.inr (.inr f1)))) : va_E)) ∈ M := o1_2
  have h5 : (ta, (.inl (G.Z.cI, 8, .inl tf1) : va_E)) ∈ M := o1_4
  have h6 : (ka, (.inl (G.cR, 10, .inr (.inr (.inr (.inr kn1)))) : va_E)) ∈ M := o1_6
  have hDo7 := hD
  refine j_aload_n F0 dX8_number_0 rfl ?_
  refine j_iload_n F0 dX8_number_1 rfl ?_
  refine m_cVi S (n1 := 1) (rest := []) (r_X8_isNoProgram X.l G X.A M x h2) ⟨_, _, _, _, rfl, (gBV kB_X8_isNoProgram (by decide +kernel)), rfl, rfl, (by decide +kernel), ⟨(Nat.le_of_ble_eq_true rfl), (Nat.le_of_ble_eq_true rfl)⟩⟩ h2 rfl rfl (Nat.le_of_ble_eq_true rfl) (Nat.le_of_ble_eq_true rfl) (Nat.le_of_ble_eq_true rfl) rfl dX8_number_2 (fun v8 M9 hD10 hp11 => ?_)
  obtain ⟨hp11v, hp11a, hp11k⟩ := hp11
  subst hp11v
  have n12 : pl1 ∉ [mo] := by
    intro h9; simp only [List.mem_cons, List.not_mem_nil, or_false] at h9
    · exact (In.ne hD h3 h2 (by simp)) h9
  have n13 : pe1 ∉ [mo] := by
    intro h9; simp only [List.mem_cons, List.not_mem_nil, or_false] at h9
    · exact (In.ne hD h4 h2 (by simp)) h9
  have n14 : ta ∉ [mo] := by
    intro h9; simp only [List.mem_cons, List.not_mem_nil, or_false] at h9
    · exact (In.ne hD h5 h2 (by simp)) h9
  have n15 : ka ∉ [mo] := by
    intro h9; simp only [List.mem_cons, List.not_mem_nil, or_false] at h9
    · exact (In.ne hD h6 h2 (by simp)) h9
  have h3 := hp11k _ _ n12 h3
  have h4 := hp11k _ _ n13 h4
  have h5 := hp11k _ _ n14 h5
  have h6 := hp11k _ _ n15 h6
  have h16 : (mo, (.inr (8, [.int (if ProP x then (1 : Int32) else 0), .ref pl1, .ref ka, .ref ta]) : va_E)) ∈ M9 := hp11a
  refine j_if_ne F0 37 dX8_number_5 (by decide) (fun _ => ?_) (fun h9 => absurd h9 (if1.mpr hb))
  have h17 : (mo, (.inr (8, [.int 1, .ref pl1, .ref ka, .ref ta]) : va_E)) ∈ M9 := by have h9 := h16; rw [if_pos hb] at h9; exact h9
  refine j_iconst F0 0 dX8_number_37 (by decide) ?_
  refine j_goto F0 48 dX8_number_38 (by decide) ?_
  have hKp : Kp M [mo, ka] M9 := by
    intro b x hb hx
    have n18 : b ∉ [mo] := by
      intro h9; simp only [List.mem_cons, List.not_mem_nil, or_false] at h9
      · exact (fun c => hb (by rw [c]; simp)) h9
    have hx := hp11k b x n18 hx
    exact hx
  have hKL : KL G M M9 := fun o n f ho => hKp _ _ (by
    intro h9; simp only [List.mem_cons, List.not_mem_nil, or_false] at h9
    rcases h9 with h9 | h9
    · exact In.ne hD ho o1_0 (by simp) h9
    · exact In.ne hD ho o1_6 (by simp) h9
    ) ho
  exact m_ireturn S hRT rfl hQ (Nat.le_of_ble_eq_true rfl) (Nat.le_of_ble_eq_true rfl) dX8_number_48 rfl ⟨_, _, _, h17, hKL, rfl⟩

set_option maxRecDepth 100000 in
set_option maxHeartbeats 4000000 in
theorem r_X8_number (l : Launch) (G : RG) (A : Nat → Prop) (M : Wl) {mo ka ta : Nat} {tv : Int32} (p : Nat) (hp : p < 10) (y : Int32) (hM : Mo G mo ka ta tv M) : Kr l G A yX8_number wbX8_number { frames := 8, cells := 6, slots := 22, locals := 174 } M [.ref mo, .int (nI p), .int y] (Gi G A (fun v N => ∃ pl k9 t9 : Nat, (mo, (.inr (8, [.int 1, .ref pl, .ref k9, .ref t9]) : va_E)) ∈ N ∧ KL G M N ∧ (0 : Int32) = v)) 6 22 := by
  refine Kr.of (cc := cX8_number) (maxL := 3) (ret := (some .int)) (by decide) rfl (Nat.le_of_ble_eq_true rfl) ?_
  intro X hXl S hRT hIN hXA hQ hD
  subst hXl
  subst hXA
  show J (X.at 0 0) 3 (PL G.Z X.A M) 0 [some (.ref mo), some (.int (nI p)), some (.int y)] []
  have F0 := S.1.at 0 0 (Nat.le_of_ble_eq_true rfl) (Nat.le_of_ble_eq_true rfl)
  have hOR := S.2.1.or
  obtain ⟨pl1, pe1, f1, kn1, tf1, o1_0, o1_1, o1_2, o1_3, o1_4, o1_5, o1_6, o1_7⟩ := id hM
  have h2 : (mo, (.inr (8, [.int tv, .ref pl1, .ref ka, .ref ta]) : va_E)) ∈ M := o1_0
  have h3 : (pl1, (.inr (10, [.int 10, .ref pe1, .int 10]) : va_E)) ∈ M := o1_1
  have h4 : (pe1, (.inl (G.cO, 10, .inr (.inr (.inr (.inr f1)))) : va_E)) ∈ M := o1_2
  have h5 : (ta, (.inl (G.Z.cI, 8, .inl tf1) : va_E)) ∈ M := o1_4
  have h6 : (ka, (.inl (G.cR, 10, .inr (.inr (.inr (.inr kn1)))) : va_E)) ∈ M := o1_6
  have hDo7 := hD
  refine j_aload_n F0 dX8_number_0 rfl ?_
  refine j_iload_n F0 dX8_number_1 rfl ?_
  refine m_cVi S (n1 := 1) (rest := []) (r_X8_isNoProgram X.l G X.A M (nI p) h2) ⟨_, _, _, _, rfl, (gBV kB_X8_isNoProgram (by decide +kernel)), rfl, rfl, (by decide +kernel), ⟨(Nat.le_of_ble_eq_true rfl), (Nat.le_of_ble_eq_true rfl)⟩⟩ h2 rfl rfl (Nat.le_of_ble_eq_true rfl) (Nat.le_of_ble_eq_true rfl) (Nat.le_of_ble_eq_true rfl) rfl dX8_number_2 (fun v8 M9 hD10 hp11 => ?_)
  obtain ⟨hp11v, hp11a, hp11k⟩ := hp11
  subst hp11v
  have n12 : pl1 ∉ [mo] := by
    intro h9; simp only [List.mem_cons, List.not_mem_nil, or_false] at h9
    · exact (In.ne hD h3 h2 (by simp)) h9
  have n13 : pe1 ∉ [mo] := by
    intro h9; simp only [List.mem_cons, List.not_mem_nil, or_false] at h9
    · exact (In.ne hD h4 h2 (by simp)) h9
  have n14 : ta ∉ [mo] := by
    intro h9; simp only [List.mem_cons, List.not_mem_nil, or_false] at h9
    · exact (In.ne hD h5 h2 (by simp)) h9
  have n15 : ka ∉ [mo] := by
    intro h9; simp only [List.mem_cons, List.not_mem_nil, or_false] at h9
    · exact (In.ne hD h6 h2 (by simp)) h9
  have h3 := hp11k _ _ n12 h3
  have h4 := hp11k _ _ n13 h4
  have h5 := hp11k _ _ n14 h5
  have h6 := hp11k _ _ n15 h6
  have h16 : (mo, (.inr (8, [.int (if ProP (nI p) then (1 : Int32) else 0), .ref pl1, .ref ka, .ref ta]) : va_E)) ∈ M9 := hp11a
  refine j_if_ne F0 37 dX8_number_5 (by decide) (fun h9 => absurd (if0.mpr (pro_ok hp)) h9) (fun _ => ?_)
  have h17 : (mo, (.inr (8, [.int 0, .ref pl1, .ref ka, .ref ta]) : va_E)) ∈ M9 := by have h9 := h16; rw [if_neg (pro_ok hp)] at h9; exact h9
  refine j_aload_n F0 dX8_number_8 rfl ?_
  refine j_iload_n F0 dX8_number_9 rfl ?_
  refine j_iconst F0 0 dX8_number_10 (by decide) ?_
  refine j_aload_n F0 dX8_number_11 rfl ?_
  refine j_iload_n F0 dX8_number_12 rfl ?_
  have hKm19 : Kp M [mo] M9 := by
    intro b x hb hx
    have n20 : b ∉ [mo] := by
      intro h9; simp only [List.mem_cons, List.not_mem_nil, or_false] at h9
      · exact (fun c => hb (by rw [c]; simp)) h9
    have hx := hp11k b x n20 hx
    exact hx
  have hMo18 := Mo.thr hOR hDo7 o1_0 o1_1 o1_2 o1_3 o1_4 o1_5 o1_6 o1_7 hKm19 h17
  refine m_cVr S (n1 := 1) (rest := [.int 0, .int y, .ref mo]) (r_X8_row X.l G X.A M9 p hp hMo18) ⟨_, _, _, _, rfl, (gBV kB_X8_row (by decide +kernel)), rfl, rfl, (by decide +kernel), ⟨(Nat.le_of_ble_eq_true rfl), (Nat.le_of_ble_eq_true rfl)⟩⟩ h17 rfl rfl (Nat.le_of_ble_eq_true rfl) (Nat.le_of_ble_eq_true rfl) (Nat.le_of_ble_eq_true rfl) rfl dX8_number_13 (fun v21 M22 hD23 hp24 => ?_)
  obtain ⟨hp24m, hp24k, hp24a⟩ := hp24
  obtain ⟨pl25, pe25, f25, kn25, tf25, o25_0, o25_1, o25_2, o25_3, o25_4, o25_5, o25_6, o25_7⟩ := id hp24m
  have h26 : (mo, (.inr (8, [.int 0, .ref pl25, .ref ka, .ref ta]) : va_E)) ∈ M22 := o25_0
  have h27 : (pl25, (.inr (10, [.int 10, .ref pe25, .int 10]) : va_E)) ∈ M22 := o25_1
  have h28 : (pe25, (.inl (G.cO, 10, .inr (.inr (.inr (.inr f25)))) : va_E)) ∈ M22 := o25_2
  have h29 : (ta, (.inl (G.Z.cI, 8, .inl tf25) : va_E)) ∈ M22 := o25_4
  have h30 : (ka, (.inl (G.cR, 10, .inr (.inr (.inr (.inr kn25)))) : va_E)) ∈ M22 := o25_6
  have hDo31 := hD23
  have h32 := hp24a
  have F33 := S.1.at 6 22 (Nat.le_of_ble_eq_true rfl) (Nat.le_of_ble_eq_true rfl)
  refine m_alen S (t0 := 0) (v := 0) h32 rfl (by first | decide | rfl) dX8_number_16 ?_
  refine j_iconst F33 1 dX8_number_17 (by decide) ?_
  refine j_isub F33 (-1) dX8_number_18 (by decide) ?_
  refine m_cSi S (n1 := 3) (rest := [.ref mo]) (r_X8_isIn X.l G X.A M22 y 0 (-1)) ⟨_, _, _, _, rfl, (gBS kB_X8_isIn (by decide +kernel)), rfl, rfl, (by decide +kernel), ⟨(Nat.le_of_ble_eq_true rfl), (Nat.le_of_ble_eq_true rfl)⟩⟩ rfl (Nat.le_of_ble_eq_true rfl) (Nat.le_of_ble_eq_true rfl) (Nat.le_of_ble_eq_true rfl) rfl dX8_number_19 (fun v34 M35 hD36 hp37 => ?_)
  obtain ⟨hp37a, hp37b⟩ := hp37
  subst hp37a
  subst hp37b
  refine j_if_ne F33 29 dX8_number_22 (by decide) (fun h9 => absurd (if0.mpr (fun h9 => no_in h9.1 h9.2)) h9) (fun _ => ?_)
  refine j_iconst F33 1 dX8_number_25 (by decide) ?_
  refine j_goto F33 30 dX8_number_26 (by decide) ?_
  refine j_iconst F33 1 dX8_number_30 (by decide) ?_
  refine m_cVi S (n1 := 2) (rest := []) (r_X8_refuse X.l G X.A M22 (c := True) 1 (by decide) h26) ⟨_, _, _, _, rfl, (gBV kB_X8_refuse (by decide +kernel)), rfl, rfl, (by decide +kernel), ⟨(Nat.le_of_ble_eq_true rfl), (Nat.le_of_ble_eq_true rfl)⟩⟩ h26 rfl rfl (Nat.le_of_ble_eq_true rfl) (Nat.le_of_ble_eq_true rfl) (Nat.le_of_ble_eq_true rfl) rfl dX8_number_31 (fun v38 M39 hD40 hp41 => ?_)
  obtain ⟨hp41v, hp41a, hp41k⟩ := hp41
  have hp41v : (1 : Int32) = v38 := hp41v
  subst hp41v
  have n42 : pl25 ∉ [mo] := by
    intro h9; simp only [List.mem_cons, List.not_mem_nil, or_false] at h9
    · exact (In.ne hD23 h27 h26 (by simp)) h9
  have n43 : pe25 ∉ [mo] := by
    intro h9; simp only [List.mem_cons, List.not_mem_nil, or_false] at h9
    · exact (In.ne hD23 h28 h26 (by simp)) h9
  have n44 : ta ∉ [mo] := by
    intro h9; simp only [List.mem_cons, List.not_mem_nil, or_false] at h9
    · exact (In.ne hD23 h29 h26 (by simp)) h9
  have n45 : ka ∉ [mo] := by
    intro h9; simp only [List.mem_cons, List.not_mem_nil, or_false] at h9
    · exact (In.ne hD23 h30 h26 (by simp)) h9
  have n46 : v21 ∉ [mo] := by
    intro h9; simp only [List.mem_cons, List.not_mem_nil, or_false] at h9
    · exact (In.ne hD23 h32 h26 (by simp)) h9
  have h27 := hp41k _ _ n42 h27
  have h28 := hp41k _ _ n43 h28
  have h29 := hp41k _ _ n44 h29
  have h30 := hp41k _ _ n45 h30
  have h32 := hp41k _ _ n46 h32
  have h47 : (mo, (.inr (8, [.int 1, .ref pl25, .ref ka, .ref ta]) : va_E)) ∈ M39 := hp41a
  refine j_if_eq F33 41 dX8_number_34 (by decide) (fun h9 => absurd h9 (by decide)) (fun _ => ?_)
  refine j_iconst F33 0 dX8_number_37 (by decide) ?_
  refine j_goto F33 48 dX8_number_38 (by decide) ?_
  have hKp : Kp M [mo, ka] M39 := by
    intro b x hb hx
    have n48 : b ∉ [mo] := by
      intro h9; simp only [List.mem_cons, List.not_mem_nil, or_false] at h9
      · exact (fun c => hb (by rw [c]; simp)) h9
    have hx := hp11k b x n48 hx
    have n49 : b ∉ [mo, ka] := by
      intro h9; simp only [List.mem_cons, List.not_mem_nil, or_false] at h9
      rcases h9 with h9 | h9
      · exact (fun c => hb (by rw [c]; simp)) h9
      · exact (fun c => hb (by rw [c]; simp)) h9
    have hx := hp24k b x n49 hx
    have n50 : b ∉ [mo] := by
      intro h9; simp only [List.mem_cons, List.not_mem_nil, or_false] at h9
      · exact (fun c => hb (by rw [c]; simp)) h9
    have hx := hp41k b x n50 hx
    exact hx
  have hKL : KL G M M39 := fun o n f ho => hKp _ _ (by
    intro h9; simp only [List.mem_cons, List.not_mem_nil, or_false] at h9
    rcases h9 with h9 | h9
    · exact In.ne hD ho o1_0 (by simp) h9
    · exact In.ne hD ho o1_6 (by simp) h9
    ) ho
  exact m_ireturn S hRT rfl hQ (Nat.le_of_ble_eq_true rfl) (Nat.le_of_ble_eq_true rfl) dX8_number_48 rfl ⟨_, _, _, h47, hKL, rfl⟩

set_option maxRecDepth 100000 in
set_option maxHeartbeats 4000000 in
theorem r_X8_period_b (l : Launch) (G : RG) (A : Nat → Prop) (M : Wl) {mo ka ta : Nat} {tv : Int32} (x : Int32) (hb : ProP x) (hM : Mo G mo ka ta tv M) : Kr l G A yX8_period wbX8_period { frames := 3, cells := 0, slots := 0, locals := 65 } M [.ref mo, .int x] (Gi G A (fun v N => ∃ pl k9 t9 : Nat, (mo, (.inr (8, [.int 1, .ref pl, .ref k9, .ref t9]) : va_E)) ∈ N ∧ KL G M N ∧ (0 : Int32) = v)) 0 0 := by
  refine Kr.of (cc := cX8_period) (maxL := 2) (ret := (some .int)) (by decide) rfl (Nat.le_of_ble_eq_true rfl) ?_
  intro X hXl S hRT hIN hXA hQ hD
  subst hXl
  subst hXA
  show J (X.at 0 0) 2 (PL G.Z X.A M) 0 [some (.ref mo), some (.int x)] []
  have F0 := S.1.at 0 0 (Nat.le_of_ble_eq_true rfl) (Nat.le_of_ble_eq_true rfl)
  have hOR := S.2.1.or
  obtain ⟨pl1, pe1, f1, kn1, tf1, o1_0, o1_1, o1_2, o1_3, o1_4, o1_5, o1_6, o1_7⟩ := id hM
  have h2 : (mo, (.inr (8, [.int tv, .ref pl1, .ref ka, .ref ta]) : va_E)) ∈ M := o1_0
  have h3 : (pl1, (.inr (10, [.int 10, .ref pe1, .int 10]) : va_E)) ∈ M := o1_1
  have h4 : (pe1, (.inl (G.cO, 10, .inr (.inr (.inr (.inr f1)))) : va_E)) ∈ M := o1_2
  have h5 : (ta, (.inl (G.Z.cI, 8, .inl tf1) : va_E)) ∈ M := o1_4
  have h6 : (ka, (.inl (G.cR, 10, .inr (.inr (.inr (.inr kn1)))) : va_E)) ∈ M := o1_6
  have hDo7 := hD
  refine j_aload_n F0 dX8_period_0 rfl ?_
  refine j_iload_n F0 dX8_period_1 rfl ?_
  refine m_cVi S (n1 := 1) (rest := []) (r_X8_isNoProgram X.l G X.A M x h2) ⟨_, _, _, _, rfl, (gBV kB_X8_isNoProgram (by decide +kernel)), rfl, rfl, (by decide +kernel), ⟨(Nat.le_of_ble_eq_true rfl), (Nat.le_of_ble_eq_true rfl)⟩⟩ h2 rfl rfl (Nat.le_of_ble_eq_true rfl) (Nat.le_of_ble_eq_true rfl) (Nat.le_of_ble_eq_true rfl) rfl dX8_period_2 (fun v8 M9 hD10 hp11 => ?_)
  obtain ⟨hp11v, hp11a, hp11k⟩ := hp11
  subst hp11v
  have n12 : pl1 ∉ [mo] := by
    intro h9; simp only [List.mem_cons, List.not_mem_nil, or_false] at h9
    · exact (In.ne hD h3 h2 (by simp)) h9
  have n13 : pe1 ∉ [mo] := by
    intro h9; simp only [List.mem_cons, List.not_mem_nil, or_false] at h9
    · exact (In.ne hD h4 h2 (by simp)) h9
  have n14 : ta ∉ [mo] := by
    intro h9; simp only [List.mem_cons, List.not_mem_nil, or_false] at h9
    · exact (In.ne hD h5 h2 (by simp)) h9
  have n15 : ka ∉ [mo] := by
    intro h9; simp only [List.mem_cons, List.not_mem_nil, or_false] at h9
    · exact (In.ne hD h6 h2 (by simp)) h9
  have h3 := hp11k _ _ n12 h3
  have h4 := hp11k _ _ n13 h4
  have h5 := hp11k _ _ n14 h5
  have h6 := hp11k _ _ n15 h6
  have h16 : (mo, (.inr (8, [.int (if ProP x then (1 : Int32) else 0), .ref pl1, .ref ka, .ref ta]) : va_E)) ∈ M9 := hp11a
  refine j_if_eq F0 12 dX8_period_5 (by decide) (fun h9 => absurd h9 (fun h9 => if1.mpr hb h9)) (fun _ => ?_)
  have h17 : (mo, (.inr (8, [.int 1, .ref pl1, .ref ka, .ref ta]) : va_E)) ∈ M9 := by have h9 := h16; rw [if_pos hb] at h9; exact h9
  refine j_iconst F0 0 dX8_period_8 (by decide) ?_
  refine j_goto F0 21 dX8_period_9 (by decide) ?_
  have hKp : Kp M [mo, ka] M9 := by
    intro b x hb hx
    have n18 : b ∉ [mo] := by
      intro h9; simp only [List.mem_cons, List.not_mem_nil, or_false] at h9
      · exact (fun c => hb (by rw [c]; simp)) h9
    have hx := hp11k b x n18 hx
    exact hx
  have hKL : KL G M M9 := fun o n f ho => hKp _ _ (by
    intro h9; simp only [List.mem_cons, List.not_mem_nil, or_false] at h9
    rcases h9 with h9 | h9
    · exact In.ne hD ho o1_0 (by simp) h9
    · exact In.ne hD ho o1_6 (by simp) h9
    ) ho
  exact m_ireturn S hRT rfl hQ (Nat.le_of_ble_eq_true rfl) (Nat.le_of_ble_eq_true rfl) dX8_period_21 rfl ⟨_, _, _, h17, hKL, rfl⟩

set_option maxRecDepth 100000 in
set_option maxHeartbeats 4000000 in
theorem r_X8_period (l : Launch) (G : RG) (A : Nat → Prop) (M : Wl) {mo ka ta : Nat} {tv : Int32} (p : Nat) (hp : p < 10) (hM : Mo G mo ka ta tv M) : Kr l G A yX8_period wbX8_period { frames := 8, cells := 6, slots := 22, locals := 174 } M [.ref mo, .int (nI p)] (Gi G A (fun v N => ∃ pl k9 t9 : Nat, (mo, (.inr (8, [.int 0, .ref pl, .ref k9, .ref t9]) : va_E)) ∈ N ∧ KL G M N ∧ (0 : Int32) = v)) 6 22 := by
  refine Kr.of (cc := cX8_period) (maxL := 2) (ret := (some .int)) (by decide) rfl (Nat.le_of_ble_eq_true rfl) ?_
  intro X hXl S hRT hIN hXA hQ hD
  subst hXl
  subst hXA
  show J (X.at 0 0) 2 (PL G.Z X.A M) 0 [some (.ref mo), some (.int (nI p))] []
  have F0 := S.1.at 0 0 (Nat.le_of_ble_eq_true rfl) (Nat.le_of_ble_eq_true rfl)
  have hOR := S.2.1.or
  obtain ⟨pl1, pe1, f1, kn1, tf1, o1_0, o1_1, o1_2, o1_3, o1_4, o1_5, o1_6, o1_7⟩ := id hM
  have h2 : (mo, (.inr (8, [.int tv, .ref pl1, .ref ka, .ref ta]) : va_E)) ∈ M := o1_0
  have h3 : (pl1, (.inr (10, [.int 10, .ref pe1, .int 10]) : va_E)) ∈ M := o1_1
  have h4 : (pe1, (.inl (G.cO, 10, .inr (.inr (.inr (.inr f1)))) : va_E)) ∈ M := o1_2
  have h5 : (ta, (.inl (G.Z.cI, 8, .inl tf1) : va_E)) ∈ M := o1_4
  have h6 : (ka, (.inl (G.cR, 10, .inr (.inr (.inr (.inr kn1)))) : va_E)) ∈ M := o1_6
  have hDo7 := hD
  refine j_aload_n F0 dX8_period_0 rfl ?_
  refine j_iload_n F0 dX8_period_1 rfl ?_
  refine m_cVi S (n1 := 1) (rest := []) (r_X8_isNoProgram X.l G X.A M (nI p) h2) ⟨_, _, _, _, rfl, (gBV kB_X8_isNoProgram (by decide +kernel)), rfl, rfl, (by decide +kernel), ⟨(Nat.le_of_ble_eq_true rfl), (Nat.le_of_ble_eq_true rfl)⟩⟩ h2 rfl rfl (Nat.le_of_ble_eq_true rfl) (Nat.le_of_ble_eq_true rfl) (Nat.le_of_ble_eq_true rfl) rfl dX8_period_2 (fun v8 M9 hD10 hp11 => ?_)
  obtain ⟨hp11v, hp11a, hp11k⟩ := hp11
  subst hp11v
  have n12 : pl1 ∉ [mo] := by
    intro h9; simp only [List.mem_cons, List.not_mem_nil, or_false] at h9
    · exact (In.ne hD h3 h2 (by simp)) h9
  have n13 : pe1 ∉ [mo] := by
    intro h9; simp only [List.mem_cons, List.not_mem_nil, or_false] at h9
    · exact (In.ne hD h4 h2 (by simp)) h9
  have n14 : ta ∉ [mo] := by
    intro h9; simp only [List.mem_cons, List.not_mem_nil, or_false] at h9
    · exact (In.ne hD h5 h2 (by simp)) h9
  have n15 : ka ∉ [mo] := by
    intro h9; simp only [List.mem_cons, List.not_mem_nil, or_false] at h9
    · exact (In.ne hD h6 h2 (by simp)) h9
  have h3 := hp11k _ _ n12 h3
  have h4 := hp11k _ _ n13 h4
  have h5 := hp11k _ _ n14 h5
  have h6 := hp11k _ _ n15 h6
  have h16 : (mo, (.inr (8, [.int (if ProP (nI p) then (1 : Int32) else 0), .ref pl1, .ref ka, .ref ta]) : va_E)) ∈ M9 := hp11a
  refine j_if_eq F0 12 dX8_period_5 (by decide) (fun _ => ?_) (fun h9 => absurd (if0.mpr (pro_ok hp)) h9)
  have h17 : (mo, (.inr (8, [.int 0, .ref pl1, .ref ka, .ref ta]) : va_E)) ∈ M9 := by have h9 := h16; rw [if_neg (pro_ok hp)] at h9; exact h9
  refine j_aload_n F0 dX8_period_12 rfl ?_
  refine j_aload_n F0 dX8_period_13 rfl ?_
  refine j_iload_n F0 dX8_period_14 rfl ?_
  have hKm19 : Kp M [mo] M9 := by
    intro b x hb hx
    have n20 : b ∉ [mo] := by
      intro h9; simp only [List.mem_cons, List.not_mem_nil, or_false] at h9
      · exact (fun c => hb (by rw [c]; simp)) h9
    have hx := hp11k b x n20 hx
    exact hx
  have hMo18 := Mo.thr hOR hDo7 o1_0 o1_1 o1_2 o1_3 o1_4 o1_5 o1_6 o1_7 hKm19 h17
  refine m_cVr S (n1 := 1) (rest := [.ref mo]) (r_X8_row X.l G X.A M9 p hp hMo18) ⟨_, _, _, _, rfl, (gBV kB_X8_row (by decide +kernel)), rfl, rfl, (by decide +kernel), ⟨(Nat.le_of_ble_eq_true rfl), (Nat.le_of_ble_eq_true rfl)⟩⟩ h17 rfl rfl (Nat.le_of_ble_eq_true rfl) (Nat.le_of_ble_eq_true rfl) (Nat.le_of_ble_eq_true rfl) rfl dX8_period_15 (fun v21 M22 hD23 hp24 => ?_)
  obtain ⟨hp24m, hp24k, hp24a⟩ := hp24
  obtain ⟨pl25, pe25, f25, kn25, tf25, o25_0, o25_1, o25_2, o25_3, o25_4, o25_5, o25_6, o25_7⟩ := id hp24m
  have h26 : (mo, (.inr (8, [.int 0, .ref pl25, .ref ka, .ref ta]) : va_E)) ∈ M22 := o25_0
  have h27 : (pl25, (.inr (10, [.int 10, .ref pe25, .int 10]) : va_E)) ∈ M22 := o25_1
  have h28 : (pe25, (.inl (G.cO, 10, .inr (.inr (.inr (.inr f25)))) : va_E)) ∈ M22 := o25_2
  have h29 : (ta, (.inl (G.Z.cI, 8, .inl tf25) : va_E)) ∈ M22 := o25_4
  have h30 : (ka, (.inl (G.cR, 10, .inr (.inr (.inr (.inr kn25)))) : va_E)) ∈ M22 := o25_6
  have hDo31 := hD23
  have h32 := hp24a
  have F33 := S.1.at 6 22 (Nat.le_of_ble_eq_true rfl) (Nat.le_of_ble_eq_true rfl)
  refine m_cVi S (n1 := 1) (rest := []) (r_X8_periodOf X.l G X.A M22 (mo := mo) (pl := mo) (ka := mo) (ta := mo) (tv := 0) h32) ⟨_, _, _, _, rfl, (gBV kB_X8_periodOf (by decide +kernel)), rfl, rfl, (by decide +kernel), ⟨(Nat.le_of_ble_eq_true rfl), (Nat.le_of_ble_eq_true rfl)⟩⟩ h26 rfl rfl (Nat.le_of_ble_eq_true rfl) (Nat.le_of_ble_eq_true rfl) (Nat.le_of_ble_eq_true rfl) rfl dX8_period_18 (fun v34 M35 hD36 hp37 => ?_)
  obtain ⟨hp37a, hp37b⟩ := hp37
  subst hp37a
  subst hp37b
  have hKp : Kp M [mo, ka] M22 := by
    intro b x hb hx
    have n38 : b ∉ [mo] := by
      intro h9; simp only [List.mem_cons, List.not_mem_nil, or_false] at h9
      · exact (fun c => hb (by rw [c]; simp)) h9
    have hx := hp11k b x n38 hx
    have n39 : b ∉ [mo, ka] := by
      intro h9; simp only [List.mem_cons, List.not_mem_nil, or_false] at h9
      rcases h9 with h9 | h9
      · exact (fun c => hb (by rw [c]; simp)) h9
      · exact (fun c => hb (by rw [c]; simp)) h9
    have hx := hp24k b x n39 hx
    exact hx
  have hKL : KL G M M22 := fun o n f ho => hKp _ _ (by
    intro h9; simp only [List.mem_cons, List.not_mem_nil, or_false] at h9
    rcases h9 with h9 | h9
    · exact In.ne hD ho o1_0 (by simp) h9
    · exact In.ne hD ho o1_6 (by simp) h9
    ) ho
  exact m_ireturn S hRT rfl hQ (Nat.le_of_ble_eq_true rfl) (Nat.le_of_ble_eq_true rfl) dX8_period_21 rfl ⟨_, _, _, h26, hKL, rfl⟩

set_option maxRecDepth 100000 in
set_option maxHeartbeats 4000000 in
theorem r_X8_tie_b (l : Launch) (G : RG) (A : Nat → Prop) (M : Wl) {mo ka ta : Nat} {tv : Int32} (x : Int32) (hb : EigP x) (y : Int32) (hM : Mo G mo ka ta tv M) : Kr l G A yX8_tie wsX8_tie { frames := 2, cells := 0, slots := 0, locals := 44 } M [.ref mo, .int x, .int y] (Gi G A (fun v N => ∃ pl k9 t9 : Nat, (mo, (.inr (8, [.int 1, .ref pl, .ref k9, .ref t9]) : va_E)) ∈ N ∧ KL G M N ∧ (0 : Int32) = v)) 0 0 := by
  refine Kr.of (cc := cX8_tie) (maxL := 4) (ret := (some .int)) (by decide) rfl (Nat.le_of_ble_eq_true rfl) ?_
  intro X hXl S hRT hIN hXA hQ hD
  subst hXl
  subst hXA
  show J (X.at 0 0) 4 (PL G.Z X.A M) 0 [some (.ref mo), some (.int x), some (.int y), none] []
  have F0 := S.1.at 0 0 (Nat.le_of_ble_eq_true rfl) (Nat.le_of_ble_eq_true rfl)
  have hOR := S.2.1.or
  obtain ⟨pl1, pe1, f1, kn1, tf1, o1_0, o1_1, o1_2, o1_3, o1_4, o1_5, o1_6, o1_7⟩ := id hM
  have h2 : (mo, (.inr (8, [.int tv, .ref pl1, .ref ka, .ref ta]) : va_E)) ∈ M := o1_0
  have h3 : (pl1, (.inr (10, [.int 10, .ref pe1, .int 10]) : va_E)) ∈ M := o1_1
  have h4 : (pe1, (.inl (G.cO, 10, .inr (.inr (.inr (.inr f1)))) : va_E)) ∈ M := o1_2
  have h5 : (ta, (.inl (G.Z.cI, 8, .inl tf1) : va_E)) ∈ M := o1_4
  have h6 : (ka, (.inl (G.cR, 10, .inr (.inr (.inr (.inr kn1)))) : va_E)) ∈ M := o1_6
  have hDo7 := hD
  refine j_aload_n F0 dX8_tie_0 rfl ?_
  refine j_iload_n F0 dX8_tie_1 rfl ?_
  refine m_cSi S (n1 := 1) (rest := [.ref mo]) (r_X8_isNoEight X.l G X.A M x) ⟨_, _, _, _, rfl, gX8_tie_X8_isNoEight, rfl, rfl, (by decide +kernel), ⟨(Nat.le_of_ble_eq_true rfl), (Nat.le_of_ble_eq_true rfl)⟩⟩ rfl (Nat.le_of_ble_eq_true rfl) (Nat.le_of_ble_eq_true rfl) (Nat.le_of_ble_eq_true rfl) rfl dX8_tie_2 (fun v8 M9 hD10 hp11 => ?_)
  obtain ⟨hp11a, hp11b⟩ := hp11
  subst hp11a
  subst hp11b
  refine j_iconst F0 1 dX8_tie_5 (by decide) ?_
  refine m_cVi S (n1 := 2) (rest := []) (r_X8_start X.l G X.A M (c := EigP x) 1 (by decide) h2) ⟨_, _, _, _, rfl, gX8_tie_X8_start, rfl, rfl, (by decide +kernel), ⟨(Nat.le_of_ble_eq_true rfl), (Nat.le_of_ble_eq_true rfl)⟩⟩ h2 rfl rfl (Nat.le_of_ble_eq_true rfl) (Nat.le_of_ble_eq_true rfl) (Nat.le_of_ble_eq_true rfl) rfl dX8_tie_6 (fun v12 M13 hD14 hp15 => ?_)
  obtain ⟨hp15v, hp15a, hp15k⟩ := hp15
  have hp15v : (if EigP x then (1 : Int32) else 0) = v12 := hp15v
  subst hp15v
  have n16 : pl1 ∉ [mo] := by
    intro h9; simp only [List.mem_cons, List.not_mem_nil, or_false] at h9
    · exact (In.ne hD h3 h2 (by simp)) h9
  have n17 : pe1 ∉ [mo] := by
    intro h9; simp only [List.mem_cons, List.not_mem_nil, or_false] at h9
    · exact (In.ne hD h4 h2 (by simp)) h9
  have n18 : ta ∉ [mo] := by
    intro h9; simp only [List.mem_cons, List.not_mem_nil, or_false] at h9
    · exact (In.ne hD h5 h2 (by simp)) h9
  have n19 : ka ∉ [mo] := by
    intro h9; simp only [List.mem_cons, List.not_mem_nil, or_false] at h9
    · exact (In.ne hD h6 h2 (by simp)) h9
  have h3 := hp15k _ _ n16 h3
  have h4 := hp15k _ _ n17 h4
  have h5 := hp15k _ _ n18 h5
  have h6 := hp15k _ _ n19 h6
  have h20 : (mo, (.inr (8, [.int (if EigP x then 1 else 0), .ref pl1, .ref ka, .ref ta]) : va_E)) ∈ M13 := hp15a
  refine j_if_ne F0 36 dX8_tie_9 (by decide) (fun _ => ?_) (fun h9 => absurd h9 (if1.mpr hb))
  have h21 : (mo, (.inr (8, [.int 1, .ref pl1, .ref ka, .ref ta]) : va_E)) ∈ M13 := by have h9 := h20; rw [if_pos hb] at h9; exact h9
  refine j_iconst F0 0 dX8_tie_36 (by decide) ?_
  have hKp : Kp M [mo, ka] M13 := by
    intro b x hb hx
    have n22 : b ∉ [mo] := by
      intro h9; simp only [List.mem_cons, List.not_mem_nil, or_false] at h9
      · exact (fun c => hb (by rw [c]; simp)) h9
    have hx := hp15k b x n22 hx
    exact hx
  have hKL : KL G M M13 := fun o n f ho => hKp _ _ (by
    intro h9; simp only [List.mem_cons, List.not_mem_nil, or_false] at h9
    rcases h9 with h9 | h9
    · exact In.ne hD ho o1_0 (by simp) h9
    · exact In.ne hD ho o1_6 (by simp) h9
    ) ho
  exact m_ireturn S hRT rfl hQ (Nat.le_of_ble_eq_true rfl) (Nat.le_of_ble_eq_true rfl) dX8_tie_37 rfl ⟨_, _, _, h21, hKL, rfl⟩

set_option maxRecDepth 100000 in
set_option maxHeartbeats 4000000 in
theorem r_X8_tied_b (l : Launch) (G : RG) (A : Nat → Prop) (M : Wl) {mo ka ta : Nat} {tv : Int32} (x : Int32) (hb : EigP x) (hM : Mo G mo ka ta tv M) : Kr l G A yX8_tied wsX8_tied { frames := 2, cells := 0, slots := 0, locals := 44 } M [.ref mo, .int x] (Gi G A (fun v N => ∃ pl k9 t9 : Nat, (mo, (.inr (8, [.int 1, .ref pl, .ref k9, .ref t9]) : va_E)) ∈ N ∧ KL G M N ∧ (0 : Int32) = v)) 0 0 := by
  refine Kr.of (cc := cX8_tied) (maxL := 2) (ret := (some .int)) (by decide) rfl (Nat.le_of_ble_eq_true rfl) ?_
  intro X hXl S hRT hIN hXA hQ hD
  subst hXl
  subst hXA
  show J (X.at 0 0) 2 (PL G.Z X.A M) 0 [some (.ref mo), some (.int x)] []
  have F0 := S.1.at 0 0 (Nat.le_of_ble_eq_true rfl) (Nat.le_of_ble_eq_true rfl)
  have hOR := S.2.1.or
  obtain ⟨pl1, pe1, f1, kn1, tf1, o1_0, o1_1, o1_2, o1_3, o1_4, o1_5, o1_6, o1_7⟩ := id hM
  have h2 : (mo, (.inr (8, [.int tv, .ref pl1, .ref ka, .ref ta]) : va_E)) ∈ M := o1_0
  have h3 : (pl1, (.inr (10, [.int 10, .ref pe1, .int 10]) : va_E)) ∈ M := o1_1
  have h4 : (pe1, (.inl (G.cO, 10, .inr (.inr (.inr (.inr f1)))) : va_E)) ∈ M := o1_2
  have h5 : (ta, (.inl (G.Z.cI, 8, .inl tf1) : va_E)) ∈ M := o1_4
  have h6 : (ka, (.inl (G.cR, 10, .inr (.inr (.inr (.inr kn1)))) : va_E)) ∈ M := o1_6
  have hDo7 := hD
  refine j_aload_n F0 dX8_tied_0 rfl ?_
  refine j_iload_n F0 dX8_tied_1 rfl ?_
  refine m_cSi S (n1 := 1) (rest := [.ref mo]) (r_X8_isNoEight X.l G X.A M x) ⟨_, _, _, _, rfl, gX8_tied_X8_isNoEight, rfl, rfl, (by decide +kernel), ⟨(Nat.le_of_ble_eq_true rfl), (Nat.le_of_ble_eq_true rfl)⟩⟩ rfl (Nat.le_of_ble_eq_true rfl) (Nat.le_of_ble_eq_true rfl) (Nat.le_of_ble_eq_true rfl) rfl dX8_tied_2 (fun v8 M9 hD10 hp11 => ?_)
  obtain ⟨hp11a, hp11b⟩ := hp11
  subst hp11a
  subst hp11b
  refine j_iconst F0 1 dX8_tied_5 (by decide) ?_
  refine m_cVi S (n1 := 2) (rest := []) (r_X8_start X.l G X.A M (c := EigP x) 1 (by decide) h2) ⟨_, _, _, _, rfl, gX8_tied_X8_start, rfl, rfl, (by decide +kernel), ⟨(Nat.le_of_ble_eq_true rfl), (Nat.le_of_ble_eq_true rfl)⟩⟩ h2 rfl rfl (Nat.le_of_ble_eq_true rfl) (Nat.le_of_ble_eq_true rfl) (Nat.le_of_ble_eq_true rfl) rfl dX8_tied_6 (fun v12 M13 hD14 hp15 => ?_)
  obtain ⟨hp15v, hp15a, hp15k⟩ := hp15
  have hp15v : (if EigP x then (1 : Int32) else 0) = v12 := hp15v
  subst hp15v
  have n16 : pl1 ∉ [mo] := by
    intro h9; simp only [List.mem_cons, List.not_mem_nil, or_false] at h9
    · exact (In.ne hD h3 h2 (by simp)) h9
  have n17 : pe1 ∉ [mo] := by
    intro h9; simp only [List.mem_cons, List.not_mem_nil, or_false] at h9
    · exact (In.ne hD h4 h2 (by simp)) h9
  have n18 : ta ∉ [mo] := by
    intro h9; simp only [List.mem_cons, List.not_mem_nil, or_false] at h9
    · exact (In.ne hD h5 h2 (by simp)) h9
  have n19 : ka ∉ [mo] := by
    intro h9; simp only [List.mem_cons, List.not_mem_nil, or_false] at h9
    · exact (In.ne hD h6 h2 (by simp)) h9
  have h3 := hp15k _ _ n16 h3
  have h4 := hp15k _ _ n17 h4
  have h5 := hp15k _ _ n18 h5
  have h6 := hp15k _ _ n19 h6
  have h20 : (mo, (.inr (8, [.int (if EigP x then 1 else 0), .ref pl1, .ref ka, .ref ta]) : va_E)) ∈ M13 := hp15a
  refine j_if_eq F0 16 dX8_tied_9 (by decide) (fun h9 => absurd h9 (fun h9 => if1.mpr hb h9)) (fun _ => ?_)
  have h21 : (mo, (.inr (8, [.int 1, .ref pl1, .ref ka, .ref ta]) : va_E)) ∈ M13 := by have h9 := h20; rw [if_pos hb] at h9; exact h9
  refine j_iconst F0 0 dX8_tied_12 (by decide) ?_
  refine j_goto F0 22 dX8_tied_13 (by decide) ?_
  have hKp : Kp M [mo, ka] M13 := by
    intro b x hb hx
    have n22 : b ∉ [mo] := by
      intro h9; simp only [List.mem_cons, List.not_mem_nil, or_false] at h9
      · exact (fun c => hb (by rw [c]; simp)) h9
    have hx := hp15k b x n22 hx
    exact hx
  have hKL : KL G M M13 := fun o n f ho => hKp _ _ (by
    intro h9; simp only [List.mem_cons, List.not_mem_nil, or_false] at h9
    rcases h9 with h9 | h9
    · exact In.ne hD ho o1_0 (by simp) h9
    · exact In.ne hD ho o1_6 (by simp) h9
    ) ho
  exact m_ireturn S hRT rfl hQ (Nat.le_of_ble_eq_true rfl) (Nat.le_of_ble_eq_true rfl) dX8_tied_22 rfl ⟨_, _, _, h21, hKL, rfl⟩

set_option maxRecDepth 100000 in
set_option maxHeartbeats 4000000 in
theorem r_X8_tied (l : Launch) (G : RG) (A : Nat → Prop) (M : Wl) {mo ka ta : Nat} {tv : Int32} (t : Nat) (ht : t < 8) (hM : Mo G mo ka ta tv M) : Kr l G A yX8_tied wsX8_tied { frames := 2, cells := 0, slots := 0, locals := 44 } M [.ref mo, .int (nI t)] (Gi G A (fun v N => ∃ pl k9 t9 : Nat, (mo, (.inr (8, [.int 0, .ref pl, .ref k9, .ref t9]) : va_E)) ∈ N ∧ KL G M N ∧ (tie0 t : Int32) = v)) 0 0 := by
  refine Kr.of (cc := cX8_tied) (maxL := 2) (ret := (some .int)) (by decide) rfl (Nat.le_of_ble_eq_true rfl) ?_
  intro X hXl S hRT hIN hXA hQ hD
  subst hXl
  subst hXA
  show J (X.at 0 0) 2 (PL G.Z X.A M) 0 [some (.ref mo), some (.int (nI t))] []
  have F0 := S.1.at 0 0 (Nat.le_of_ble_eq_true rfl) (Nat.le_of_ble_eq_true rfl)
  have hOR := S.2.1.or
  obtain ⟨pl1, pe1, f1, kn1, tf1, o1_0, o1_1, o1_2, o1_3, o1_4, o1_5, o1_6, o1_7⟩ := id hM
  have h2 : (mo, (.inr (8, [.int tv, .ref pl1, .ref ka, .ref ta]) : va_E)) ∈ M := o1_0
  have h3 : (pl1, (.inr (10, [.int 10, .ref pe1, .int 10]) : va_E)) ∈ M := o1_1
  have h4 : (pe1, (.inl (G.cO, 10, .inr (.inr (.inr (.inr f1)))) : va_E)) ∈ M := o1_2
  have h5 : (ta, (.inl (G.Z.cI, 8, .inl tf1) : va_E)) ∈ M := o1_4
  have h6 : (ka, (.inl (G.cR, 10, .inr (.inr (.inr (.inr kn1)))) : va_E)) ∈ M := o1_6
  have hDo7 := hD
  refine j_aload_n F0 dX8_tied_0 rfl ?_
  refine j_iload_n F0 dX8_tied_1 rfl ?_
  refine m_cSi S (n1 := 1) (rest := [.ref mo]) (r_X8_isNoEight X.l G X.A M (nI t)) ⟨_, _, _, _, rfl, gX8_tied_X8_isNoEight, rfl, rfl, (by decide +kernel), ⟨(Nat.le_of_ble_eq_true rfl), (Nat.le_of_ble_eq_true rfl)⟩⟩ rfl (Nat.le_of_ble_eq_true rfl) (Nat.le_of_ble_eq_true rfl) (Nat.le_of_ble_eq_true rfl) rfl dX8_tied_2 (fun v8 M9 hD10 hp11 => ?_)
  obtain ⟨hp11a, hp11b⟩ := hp11
  subst hp11a
  subst hp11b
  refine j_iconst F0 1 dX8_tied_5 (by decide) ?_
  refine m_cVi S (n1 := 2) (rest := []) (r_X8_start X.l G X.A M (c := EigP (nI t)) 1 (by decide) h2) ⟨_, _, _, _, rfl, gX8_tied_X8_start, rfl, rfl, (by decide +kernel), ⟨(Nat.le_of_ble_eq_true rfl), (Nat.le_of_ble_eq_true rfl)⟩⟩ h2 rfl rfl (Nat.le_of_ble_eq_true rfl) (Nat.le_of_ble_eq_true rfl) (Nat.le_of_ble_eq_true rfl) rfl dX8_tied_6 (fun v12 M13 hD14 hp15 => ?_)
  obtain ⟨hp15v, hp15a, hp15k⟩ := hp15
  have hp15v : (if EigP (nI t) then (1 : Int32) else 0) = v12 := hp15v
  subst hp15v
  have n16 : pl1 ∉ [mo] := by
    intro h9; simp only [List.mem_cons, List.not_mem_nil, or_false] at h9
    · exact (In.ne hD h3 h2 (by simp)) h9
  have n17 : pe1 ∉ [mo] := by
    intro h9; simp only [List.mem_cons, List.not_mem_nil, or_false] at h9
    · exact (In.ne hD h4 h2 (by simp)) h9
  have n18 : ta ∉ [mo] := by
    intro h9; simp only [List.mem_cons, List.not_mem_nil, or_false] at h9
    · exact (In.ne hD h5 h2 (by simp)) h9
  have n19 : ka ∉ [mo] := by
    intro h9; simp only [List.mem_cons, List.not_mem_nil, or_false] at h9
    · exact (In.ne hD h6 h2 (by simp)) h9
  have h3 := hp15k _ _ n16 h3
  have h4 := hp15k _ _ n17 h4
  have h5 := hp15k _ _ n18 h5
  have h6 := hp15k _ _ n19 h6
  have h20 : (mo, (.inr (8, [.int (if EigP (nI t) then 1 else 0), .ref pl1, .ref ka, .ref ta]) : va_E)) ∈ M13 := hp15a
  refine j_if_eq F0 16 dX8_tied_9 (by decide) (fun _ => ?_) (fun h9 => absurd (if0.mpr (eig_ok ht)) h9)
  have h21 : (mo, (.inr (8, [.int 0, .ref pl1, .ref ka, .ref ta]) : va_E)) ∈ M13 := by have h9 := h20; rw [if_neg (eig_ok ht)] at h9; exact h9
  refine j_aload_n F0 dX8_tied_16 rfl ?_
  refine m_get S (C := RX8) (T := TX8) (N := 4) (by decide +kernel) h21 rfl (v := .ref ta) 3 (by decide) (by decide +kernel) (fun _ h9 => h9) rfl dX8_tied_17 ?_
  refine j_iload_n F0 dX8_tied_20 rfl ?_
  refine m_iaload S (v := tie0 t) h5 (vp_in_nI ht (by decide)) (by rw [nI_clamp (by omega)]; exact o1_5 t ht) dX8_tied_21 ?_
  have hKp : Kp M [mo, ka] M13 := by
    intro b x hb hx
    have n22 : b ∉ [mo] := by
      intro h9; simp only [List.mem_cons, List.not_mem_nil, or_false] at h9
      · exact (fun c => hb (by rw [c]; simp)) h9
    have hx := hp15k b x n22 hx
    exact hx
  have hKL : KL G M M13 := fun o n f ho => hKp _ _ (by
    intro h9; simp only [List.mem_cons, List.not_mem_nil, or_false] at h9
    rcases h9 with h9 | h9
    · exact In.ne hD ho o1_0 (by simp) h9
    · exact In.ne hD ho o1_6 (by simp) h9
    ) ho
  exact m_ireturn S hRT rfl hQ (Nat.le_of_ble_eq_true rfl) (Nat.le_of_ble_eq_true rfl) dX8_tied_22 rfl ⟨_, _, _, h21, hKL, rfl⟩

set_option maxRecDepth 100000 in
set_option maxHeartbeats 4000000 in
theorem r_X8_cloth___b (l : Launch) (G : RG) (A : Nat → Prop) (M : Wl) {mo ka ta : Nat} {tv : Int32} (x : Int32) (hb : ¬ (0 ≤ x ∧ x ≤ 9)) (hM : Mo G mo ka ta tv M) : Kr l G A yX8_cloth__ wbX8_cloth__ { frames := 2, cells := 0, slots := 0, locals := 44 } M [.ref mo, .int x] (Gi G A (fun v N => ∃ pl k9 t9 : Nat, (mo, (.inr (8, [.int 1, .ref pl, .ref k9, .ref t9]) : va_E)) ∈ N ∧ KL G M N ∧ (0 : Int32) = v)) 0 0 := by
  refine Kr.of (cc := cX8_cloth__) (maxL := 2) (ret := (some .int)) (by decide) rfl (Nat.le_of_ble_eq_true rfl) ?_
  intro X hXl S hRT hIN hXA hQ hD
  subst hXl
  subst hXA
  show J (X.at 0 0) 2 (PL G.Z X.A M) 0 [some (.ref mo), some (.int x)] []
  have F0 := S.1.at 0 0 (Nat.le_of_ble_eq_true rfl) (Nat.le_of_ble_eq_true rfl)
  have hOR := S.2.1.or
  obtain ⟨pl1, pe1, f1, kn1, tf1, o1_0, o1_1, o1_2, o1_3, o1_4, o1_5, o1_6, o1_7⟩ := id hM
  have h2 : (mo, (.inr (8, [.int tv, .ref pl1, .ref ka, .ref ta]) : va_E)) ∈ M := o1_0
  have h3 : (pl1, (.inr (10, [.int 10, .ref pe1, .int 10]) : va_E)) ∈ M := o1_1
  have h4 : (pe1, (.inl (G.cO, 10, .inr (.inr (.inr (.inr f1)))) : va_E)) ∈ M := o1_2
  have h5 : (ta, (.inl (G.Z.cI, 8, .inl tf1) : va_E)) ∈ M := o1_4
  have h6 : (ka, (.inl (G.cR, 10, .inr (.inr (.inr (.inr kn1)))) : va_E)) ∈ M := o1_6
  have hDo7 := hD
  refine j_aload_n F0 dX8_cloth___0 rfl ?_
  refine j_iload_n F0 dX8_cloth___1 rfl ?_
  refine j_iconst F0 0 dX8_cloth___2 (by decide) ?_
  refine j_bipush F0 9 dX8_cloth___3 (by decide) ?_
  refine m_cSi S (n1 := 3) (rest := [.ref mo]) (r_X8_isIn X.l G X.A M x 0 9) ⟨_, _, _, _, rfl, (gBS kB_X8_isIn (by decide +kernel)), rfl, rfl, (by decide +kernel), ⟨(Nat.le_of_ble_eq_true rfl), (Nat.le_of_ble_eq_true rfl)⟩⟩ rfl (Nat.le_of_ble_eq_true rfl) (Nat.le_of_ble_eq_true rfl) (Nat.le_of_ble_eq_true rfl) rfl dX8_cloth___5 (fun v8 M9 hD10 hp11 => ?_)
  obtain ⟨hp11a, hp11b⟩ := hp11
  subst hp11a
  subst hp11b
  refine j_if_ne F0 15 dX8_cloth___8 (by decide) (fun h9 => absurd (if0.mpr hb) h9) (fun _ => ?_)
  refine j_iconst F0 1 dX8_cloth___11 (by decide) ?_
  refine j_goto F0 16 dX8_cloth___12 (by decide) ?_
  refine j_iconst F0 1 dX8_cloth___16 (by decide) ?_
  refine m_cVi S (n1 := 2) (rest := []) (r_X8_start X.l G X.A M (c := True) 1 (by decide) h2) ⟨_, _, _, _, rfl, (gBV kB_X8_start (by decide +kernel)), rfl, rfl, (by decide +kernel), ⟨(Nat.le_of_ble_eq_true rfl), (Nat.le_of_ble_eq_true rfl)⟩⟩ h2 rfl rfl (Nat.le_of_ble_eq_true rfl) (Nat.le_of_ble_eq_true rfl) (Nat.le_of_ble_eq_true rfl) rfl dX8_cloth___17 (fun v12 M13 hD14 hp15 => ?_)
  obtain ⟨hp15v, hp15a, hp15k⟩ := hp15
  have hp15v : (1 : Int32) = v12 := hp15v
  subst hp15v
  have n16 : pl1 ∉ [mo] := by
    intro h9; simp only [List.mem_cons, List.not_mem_nil, or_false] at h9
    · exact (In.ne hD h3 h2 (by simp)) h9
  have n17 : pe1 ∉ [mo] := by
    intro h9; simp only [List.mem_cons, List.not_mem_nil, or_false] at h9
    · exact (In.ne hD h4 h2 (by simp)) h9
  have n18 : ta ∉ [mo] := by
    intro h9; simp only [List.mem_cons, List.not_mem_nil, or_false] at h9
    · exact (In.ne hD h5 h2 (by simp)) h9
  have n19 : ka ∉ [mo] := by
    intro h9; simp only [List.mem_cons, List.not_mem_nil, or_false] at h9
    · exact (In.ne hD h6 h2 (by simp)) h9
  have h3 := hp15k _ _ n16 h3
  have h4 := hp15k _ _ n17 h4
  have h5 := hp15k _ _ n18 h5
  have h6 := hp15k _ _ n19 h6
  have h20 : (mo, (.inr (8, [.int 1, .ref pl1, .ref ka, .ref ta]) : va_E)) ∈ M13 := hp15a
  refine j_if_eq F0 27 dX8_cloth___20 (by decide) (fun h9 => absurd h9 (by decide)) (fun _ => ?_)
  refine j_iconst F0 0 dX8_cloth___23 (by decide) ?_
  refine j_goto F0 32 dX8_cloth___24 (by decide) ?_
  have hKp : Kp M [mo, ka] M13 := by
    intro b x hb hx
    have n21 : b ∉ [mo] := by
      intro h9; simp only [List.mem_cons, List.not_mem_nil, or_false] at h9
      · exact (fun c => hb (by rw [c]; simp)) h9
    have hx := hp15k b x n21 hx
    exact hx
  have hKL : KL G M M13 := fun o n f ho => hKp _ _ (by
    intro h9; simp only [List.mem_cons, List.not_mem_nil, or_false] at h9
    rcases h9 with h9 | h9
    · exact In.ne hD ho o1_0 (by simp) h9
    · exact In.ne hD ho o1_6 (by simp) h9
    ) ho
  exact m_ireturn S hRT rfl hQ (Nat.le_of_ble_eq_true rfl) (Nat.le_of_ble_eq_true rfl) dX8_cloth___32 rfl ⟨_, _, _, h20, hKL, rfl⟩

set_option maxRecDepth 100000 in
set_option maxHeartbeats 4000000 in
theorem r_X8_cloth__ (l : Launch) (G : RG) (A : Nat → Prop) (M : Wl) {mo ka ta : Nat} {tv : Int32} (k : Nat) (hk : k < 10) (hM : Mo G mo ka ta tv M) : Kr l G A yX8_cloth__ wbX8_cloth__ { frames := 11, cells := 20, slots := 69, locals := 237 } M [.ref mo, .int (nI k)] (Gi G A (fun v N => ∃ pl k9 t9 : Nat, (mo, (.inr (8, [.int 0, .ref pl, .ref k9, .ref t9]) : va_E)) ∈ N ∧ KL G M N ∧ (0 : Int32) = v)) 20 69 := by
  refine Kr.of (cc := cX8_cloth__) (maxL := 2) (ret := (some .int)) (by decide) rfl (Nat.le_of_ble_eq_true rfl) ?_
  intro X hXl S hRT hIN hXA hQ hD
  subst hXl
  subst hXA
  show J (X.at 0 0) 2 (PL G.Z X.A M) 0 [some (.ref mo), some (.int (nI k))] []
  have F0 := S.1.at 0 0 (Nat.le_of_ble_eq_true rfl) (Nat.le_of_ble_eq_true rfl)
  have hOR := S.2.1.or
  obtain ⟨pl1, pe1, f1, kn1, tf1, o1_0, o1_1, o1_2, o1_3, o1_4, o1_5, o1_6, o1_7⟩ := id hM
  have h2 : (mo, (.inr (8, [.int tv, .ref pl1, .ref ka, .ref ta]) : va_E)) ∈ M := o1_0
  have h3 : (pl1, (.inr (10, [.int 10, .ref pe1, .int 10]) : va_E)) ∈ M := o1_1
  have h4 : (pe1, (.inl (G.cO, 10, .inr (.inr (.inr (.inr f1)))) : va_E)) ∈ M := o1_2
  have h5 : (ta, (.inl (G.Z.cI, 8, .inl tf1) : va_E)) ∈ M := o1_4
  have h6 : (ka, (.inl (G.cR, 10, .inr (.inr (.inr (.inr kn1)))) : va_E)) ∈ M := o1_6
  have hDo7 := hD
  refine j_aload_n F0 dX8_cloth___0 rfl ?_
  refine j_iload_n F0 dX8_cloth___1 rfl ?_
  refine j_iconst F0 0 dX8_cloth___2 (by decide) ?_
  refine j_bipush F0 9 dX8_cloth___3 (by decide) ?_
  refine m_cSi S (n1 := 3) (rest := [.ref mo]) (r_X8_isIn X.l G X.A M (nI k) 0 9) ⟨_, _, _, _, rfl, (gBS kB_X8_isIn (by decide +kernel)), rfl, rfl, (by decide +kernel), ⟨(Nat.le_of_ble_eq_true rfl), (Nat.le_of_ble_eq_true rfl)⟩⟩ rfl (Nat.le_of_ble_eq_true rfl) (Nat.le_of_ble_eq_true rfl) (Nat.le_of_ble_eq_true rfl) rfl dX8_cloth___5 (fun v8 M9 hD10 hp11 => ?_)
  obtain ⟨hp11a, hp11b⟩ := hp11
  subst hp11a
  subst hp11b
  refine j_if_ne F0 15 dX8_cloth___8 (by decide) (fun _ => ?_) (fun h9 => absurd h9 (if1.mpr ⟨Int32.not_lt.mp (nI_pos (by omega)), by rw [show (9 : Int32) = nI 9 from rfl, nI_leI (by omega) (by omega)]; omega⟩))
  refine j_iconst F0 0 dX8_cloth___15 (by decide) ?_
  refine j_iconst F0 1 dX8_cloth___16 (by decide) ?_
  refine m_cVi S (n1 := 2) (rest := []) (r_X8_start X.l G X.A M (c := False) 1 (by decide) h2) ⟨_, _, _, _, rfl, (gBV kB_X8_start (by decide +kernel)), rfl, rfl, (by decide +kernel), ⟨(Nat.le_of_ble_eq_true rfl), (Nat.le_of_ble_eq_true rfl)⟩⟩ h2 rfl rfl (Nat.le_of_ble_eq_true rfl) (Nat.le_of_ble_eq_true rfl) (Nat.le_of_ble_eq_true rfl) rfl dX8_cloth___17 (fun v12 M13 hD14 hp15 => ?_)
  obtain ⟨hp15v, hp15a, hp15k⟩ := hp15
  have hp15v : (0 : Int32) = v12 := hp15v
  subst hp15v
  have n16 : pl1 ∉ [mo] := by
    intro h9; simp only [List.mem_cons, List.not_mem_nil, or_false] at h9
    · exact (In.ne hD h3 h2 (by simp)) h9
  have n17 : pe1 ∉ [mo] := by
    intro h9; simp only [List.mem_cons, List.not_mem_nil, or_false] at h9
    · exact (In.ne hD h4 h2 (by simp)) h9
  have n18 : ta ∉ [mo] := by
    intro h9; simp only [List.mem_cons, List.not_mem_nil, or_false] at h9
    · exact (In.ne hD h5 h2 (by simp)) h9
  have n19 : ka ∉ [mo] := by
    intro h9; simp only [List.mem_cons, List.not_mem_nil, or_false] at h9
    · exact (In.ne hD h6 h2 (by simp)) h9
  have h3 := hp15k _ _ n16 h3
  have h4 := hp15k _ _ n17 h4
  have h5 := hp15k _ _ n18 h5
  have h6 := hp15k _ _ n19 h6
  have h20 : (mo, (.inr (8, [.int 0, .ref pl1, .ref ka, .ref ta]) : va_E)) ∈ M13 := hp15a
  refine j_if_eq F0 27 dX8_cloth___20 (by decide) (fun _ => ?_) (fun h9 => absurd (by decide) h9)
  refine j_aload_n F0 dX8_cloth___27 rfl ?_
  refine j_iload_n F0 dX8_cloth___28 rfl ?_
  have hKm22 : Kp M [mo] M13 := by
    intro b x hb hx
    have n23 : b ∉ [mo] := by
      intro h9; simp only [List.mem_cons, List.not_mem_nil, or_false] at h9
      · exact (fun c => hb (by rw [c]; simp)) h9
    have hx := hp15k b x n23 hx
    exact hx
  have hMo21 := Mo.thr hOR hDo7 o1_0 o1_1 o1_2 o1_3 o1_4 o1_5 o1_6 o1_7 hKm22 h20
  refine m_cVi S (n1 := 1) (rest := []) (r_X8_clothOf X.l G X.A M13 k hk hMo21) ⟨_, _, _, _, rfl, (gBV kB_X8_clothOf (by decide +kernel)), rfl, rfl, (by decide +kernel), ⟨(Nat.le_of_ble_eq_true rfl), (Nat.le_of_ble_eq_true rfl)⟩⟩ h20 rfl rfl (Nat.le_of_ble_eq_true rfl) (Nat.le_of_ble_eq_true rfl) (Nat.le_of_ble_eq_true rfl) rfl dX8_cloth___29 (fun v24 M25 hD26 hp27 => ?_)
  obtain ⟨hp27m, hp27k, hp27v⟩ := hp27
  subst hp27v
  obtain ⟨pl28, pe28, f28, kn28, tf28, o28_0, o28_1, o28_2, o28_3, o28_4, o28_5, o28_6, o28_7⟩ := id hp27m
  have h29 : (mo, (.inr (8, [.int 0, .ref pl28, .ref ka, .ref ta]) : va_E)) ∈ M25 := o28_0
  have h30 : (pl28, (.inr (10, [.int 10, .ref pe28, .int 10]) : va_E)) ∈ M25 := o28_1
  have h31 : (pe28, (.inl (G.cO, 10, .inr (.inr (.inr (.inr f28)))) : va_E)) ∈ M25 := o28_2
  have h32 : (ta, (.inl (G.Z.cI, 8, .inl tf28) : va_E)) ∈ M25 := o28_4
  have h33 : (ka, (.inl (G.cR, 10, .inr (.inr (.inr (.inr kn28)))) : va_E)) ∈ M25 := o28_6
  have hDo34 := hD26
  have F35 := S.1.at 20 69 (Nat.le_of_ble_eq_true rfl) (Nat.le_of_ble_eq_true rfl)
  have hKp : Kp M [mo, ka] M25 := by
    intro b x hb hx
    have n36 : b ∉ [mo] := by
      intro h9; simp only [List.mem_cons, List.not_mem_nil, or_false] at h9
      · exact (fun c => hb (by rw [c]; simp)) h9
    have hx := hp15k b x n36 hx
    have n37 : b ∉ [mo, ka] := by
      intro h9; simp only [List.mem_cons, List.not_mem_nil, or_false] at h9
      rcases h9 with h9 | h9
      · exact (fun c => hb (by rw [c]; simp)) h9
      · exact (fun c => hb (by rw [c]; simp)) h9
    have hx := hp27k b x n37 hx
    exact hx
  have hKL : KL G M M25 := fun o n f ho => hKp _ _ (by
    intro h9; simp only [List.mem_cons, List.not_mem_nil, or_false] at h9
    rcases h9 with h9 | h9
    · exact In.ne hD ho o1_0 (by simp) h9
    · exact In.ne hD ho o1_6 (by simp) h9
    ) ho
  exact m_ireturn S hRT rfl hQ (Nat.le_of_ble_eq_true rfl) (Nat.le_of_ble_eq_true rfl) dX8_cloth___32 rfl ⟨_, _, _, h29, hKL, rfl⟩

set_option maxRecDepth 100000 in
set_option maxHeartbeats 4000000 in
theorem r_X8_field (l : Launch) (G : RG) (A : Nat → Prop) (M : Wl) {mo ka ta : Nat} {tv : Int32} (x y z : Int32) (hM : Mo G mo ka ta tv M) : Kr l G A yX8_field wbX8_field { frames := 10, cells := 14, slots := 47, locals := 215 } M [.ref mo, .int x, .int y, .int z] (Gi G A (fun v N => ∃ pl k9 t9 : Nat, (mo, (.inr (8, [.int 1, .ref pl, .ref k9, .ref t9]) : va_E)) ∈ N ∧ KL G M N ∧ (0 : Int32) = v)) 14 47 := by
  refine Kr.of (cc := cX8_field) (maxL := 5) (ret := (some .int)) (by decide) rfl (Nat.le_of_ble_eq_true rfl) ?_
  intro X hXl S hRT hIN hXA hQ hD
  subst hXl
  subst hXA
  show J (X.at 0 0) 5 (PL G.Z X.A M) 0 [some (.ref mo), some (.int x), some (.int y), some (.int z), none] []
  have F0 := S.1.at 0 0 (Nat.le_of_ble_eq_true rfl) (Nat.le_of_ble_eq_true rfl)
  have hOR := S.2.1.or
  obtain ⟨pl1, pe1, f1, kn1, tf1, o1_0, o1_1, o1_2, o1_3, o1_4, o1_5, o1_6, o1_7⟩ := id hM
  have h2 : (mo, (.inr (8, [.int tv, .ref pl1, .ref ka, .ref ta]) : va_E)) ∈ M := o1_0
  have h3 : (pl1, (.inr (10, [.int 10, .ref pe1, .int 10]) : va_E)) ∈ M := o1_1
  have h4 : (pe1, (.inl (G.cO, 10, .inr (.inr (.inr (.inr f1)))) : va_E)) ∈ M := o1_2
  have h5 : (ta, (.inl (G.Z.cI, 8, .inl tf1) : va_E)) ∈ M := o1_4
  have h6 : (ka, (.inl (G.cR, 10, .inr (.inr (.inr (.inr kn1)))) : va_E)) ∈ M := o1_6
  have hDo7 := hD
  refine j_aload_n F0 dX8_field_0 rfl ?_
  have hKm9 : Kp M [] M := by
    intro b x hb hx
    exact hx
  have hMo8 := Mo.mono hM hKm9
  refine m_cVr S (n1 := 0) (rest := []) (r_X8_cloth_ X.l G X.A M hMo8) ⟨_, _, _, _, rfl, (gBV kB_X8_cloth_ (by decide +kernel)), rfl, rfl, (by decide +kernel), ⟨(Nat.le_of_ble_eq_true rfl), (Nat.le_of_ble_eq_true rfl)⟩⟩ h2 rfl rfl (Nat.le_of_ble_eq_true rfl) (Nat.le_of_ble_eq_true rfl) (Nat.le_of_ble_eq_true rfl) rfl dX8_field_1 (fun v10 M11 hD12 hp13 => ?_)
  obtain ⟨hp13m, hp13k, z14, hp13a⟩ := hp13
  obtain ⟨pl15, pe15, f15, kn15, tf15, o15_0, o15_1, o15_2, o15_3, o15_4, o15_5, o15_6, o15_7⟩ := id hp13m
  have h16 : (mo, (.inr (8, [.int tv, .ref pl15, .ref ka, .ref ta]) : va_E)) ∈ M11 := o15_0
  have h17 : (pl15, (.inr (10, [.int 10, .ref pe15, .int 10]) : va_E)) ∈ M11 := o15_1
  have h18 : (pe15, (.inl (G.cO, 10, .inr (.inr (.inr (.inr f15)))) : va_E)) ∈ M11 := o15_2
  have h19 : (ta, (.inl (G.Z.cI, 8, .inl tf15) : va_E)) ∈ M11 := o15_4
  have h20 : (ka, (.inl (G.cR, 10, .inr (.inr (.inr (.inr kn15)))) : va_E)) ∈ M11 := o15_6
  have hDo21 := hD12
  have h22 := hp13a
  have F23 := S.1.at 14 47 (Nat.le_of_ble_eq_true rfl) (Nat.le_of_ble_eq_true rfl)
  refine j_astore F23 [some (.ref mo), some (.int x), some (.int y), some (.int z), some (.ref v10)] dX8_field_4 (by decide) rfl rfl ?_
  refine j_aload_n F23 dX8_field_6 rfl ?_
  refine j_iload_n F23 dX8_field_7 rfl ?_
  refine j_iconst F23 0 dX8_field_8 (by decide) ?_
  refine j_aload F23 dX8_field_9 rfl ?_
  refine m_get S (C := RX5) (T := TX5) (N := 3) (by decide +kernel) h22 rfl (v := .int 0) 0 (by decide) (by decide +kernel) (fun _ h9 => h9) rfl dX8_field_11 ?_
  refine j_iconst F23 1 dX8_field_14 (by decide) ?_
  refine j_isub F23 (-1) dX8_field_15 (by decide) ?_
  refine m_cSi S (n1 := 3) (rest := [.ref mo]) (r_X8_isIn X.l G X.A M11 x 0 (-1)) ⟨_, _, _, _, rfl, (gBS kB_X8_isIn (by decide +kernel)), rfl, rfl, (by decide +kernel), ⟨(Nat.le_of_ble_eq_true rfl), (Nat.le_of_ble_eq_true rfl)⟩⟩ rfl (Nat.le_of_ble_eq_true rfl) (Nat.le_of_ble_eq_true rfl) (Nat.le_of_ble_eq_true rfl) rfl dX8_field_16 (fun v24 M25 hD26 hp27 => ?_)
  obtain ⟨hp27a, hp27b⟩ := hp27
  subst hp27a
  subst hp27b
  refine j_if_eq F23 37 dX8_field_19 (by decide) (fun _ => ?_) (fun h9 => absurd (if0.mpr (fun h9 => no_in h9.1 h9.2)) h9)
  refine j_iconst F23 1 dX8_field_37 (by decide) ?_
  refine j_goto F23 42 dX8_field_38 (by decide) ?_
  refine j_iconst F23 1 dX8_field_42 (by decide) ?_
  refine m_cVi S (n1 := 2) (rest := []) (r_X8_start X.l G X.A M11 (c := True) 1 (by decide) h16) ⟨_, _, _, _, rfl, (gBV kB_X8_start (by decide +kernel)), rfl, rfl, (by decide +kernel), ⟨(Nat.le_of_ble_eq_true rfl), (Nat.le_of_ble_eq_true rfl)⟩⟩ h16 rfl rfl (Nat.le_of_ble_eq_true rfl) (Nat.le_of_ble_eq_true rfl) (Nat.le_of_ble_eq_true rfl) rfl dX8_field_43 (fun v28 M29 hD30 hp31 => ?_)
  obtain ⟨hp31v, hp31a, hp31k⟩ := hp31
  have hp31v : (1 : Int32) = v28 := hp31v
  subst hp31v
  have n32 : pl15 ∉ [mo] := by
    intro h9; simp only [List.mem_cons, List.not_mem_nil, or_false] at h9
    · exact (In.ne hD12 h17 h16 (by simp)) h9
  have n33 : pe15 ∉ [mo] := by
    intro h9; simp only [List.mem_cons, List.not_mem_nil, or_false] at h9
    · exact (In.ne hD12 h18 h16 (by simp)) h9
  have n34 : ta ∉ [mo] := by
    intro h9; simp only [List.mem_cons, List.not_mem_nil, or_false] at h9
    · exact (In.ne hD12 h19 h16 (by simp)) h9
  have n35 : ka ∉ [mo] := by
    intro h9; simp only [List.mem_cons, List.not_mem_nil, or_false] at h9
    · exact (In.ne hD12 h20 h16 (by simp)) h9
  have n36 : v10 ∉ [mo] := by
    intro h9; simp only [List.mem_cons, List.not_mem_nil, or_false] at h9
    · exact (In.ne hD12 h22 h16 (by simp)) h9
  have h17 := hp31k _ _ n32 h17
  have h18 := hp31k _ _ n33 h18
  have h19 := hp31k _ _ n34 h19
  have h20 := hp31k _ _ n35 h20
  have h22 := hp31k _ _ n36 h22
  have h37 : (mo, (.inr (8, [.int 1, .ref pl15, .ref ka, .ref ta]) : va_E)) ∈ M29 := hp31a
  refine j_if_ne F23 71 dX8_field_46 (by decide) (fun _ => ?_) (fun h9 => absurd h9 (by decide))
  refine j_iconst F23 0 dX8_field_71 (by decide) ?_
  have hKp : Kp M [mo, ka] M29 := by
    intro b x hb hx
    have n38 : b ∉ [mo, ka] := by
      intro h9; simp only [List.mem_cons, List.not_mem_nil, or_false] at h9
      rcases h9 with h9 | h9
      · exact (fun c => hb (by rw [c]; simp)) h9
      · exact (fun c => hb (by rw [c]; simp)) h9
    have hx := hp13k b x n38 hx
    have n39 : b ∉ [mo] := by
      intro h9; simp only [List.mem_cons, List.not_mem_nil, or_false] at h9
      · exact (fun c => hb (by rw [c]; simp)) h9
    have hx := hp31k b x n39 hx
    exact hx
  have hKL : KL G M M29 := fun o n f ho => hKp _ _ (by
    intro h9; simp only [List.mem_cons, List.not_mem_nil, or_false] at h9
    rcases h9 with h9 | h9
    · exact In.ne hD ho o1_0 (by simp) h9
    · exact In.ne hD ho o1_6 (by simp) h9
    ) ho
  exact m_ireturn S hRT rfl hQ (Nat.le_of_ble_eq_true rfl) (Nat.le_of_ble_eq_true rfl) dX8_field_72 rfl ⟨_, _, _, h37, hKL, rfl⟩

set_option maxRecDepth 100000 in
set_option maxHeartbeats 4000000 in
theorem r_X8_isNoLength (l : Launch) (G : RG) (A : Nat → Prop) (M : Wl) (p : Int32) : Kr l G A yX8_isNoLength wsX8_isNoLength { frames := 1, cells := 0, slots := 0, locals := 22 } M [.int p] (Gi G A (fun v N => (if ¬ (1 ≤ p ∧ p ≤ 32) then (1 : Int32) else 0) = v ∧ M = N)) 0 0 := by
  refine Kr.of (cc := cX8_isNoLength) (maxL := 1) (ret := (some .boolean)) (by decide) rfl (Nat.le_of_ble_eq_true rfl) ?_
  intro X hXl S hRT hIN hXA hQ hD
  subst hXl
  subst hXA
  show J (X.at 0 0) 1 (PL G.Z X.A M) 0 [some (.int p)] []
  have F0 := S.1.at 0 0 (Nat.le_of_ble_eq_true rfl) (Nat.le_of_ble_eq_true rfl)
  have hOR := S.2.1.or
  refine j_iload_n F0 dX8_isNoLength_0 rfl ?_
  refine j_iconst F0 1 dX8_isNoLength_1 (by decide) ?_
  refine j_bipush F0 32 dX8_isNoLength_2 (by decide) ?_
  refine m_cSi S (n1 := 3) (rest := []) (r_X8_isIn X.l G X.A M p 1 32) ⟨_, _, _, _, rfl, gX8_isNoLength_X8_isIn, rfl, rfl, (by decide +kernel), ⟨(Nat.le_of_ble_eq_true rfl), (Nat.le_of_ble_eq_true rfl)⟩⟩ rfl (Nat.le_of_ble_eq_true rfl) (Nat.le_of_ble_eq_true rfl) (Nat.le_of_ble_eq_true rfl) rfl dX8_isNoLength_4 (fun v1 M2 hD3 hp4 => ?_)
  obtain ⟨hp4a, hp4b⟩ := hp4
  subst hp4a
  subst hp4b
  refine j_if_ne F0 14 dX8_isNoLength_7 (by decide) (fun h => ?_) (fun h => ?_)
  · skip
    refine j_iconst F0 0 dX8_isNoLength_14 (by decide) ?_
    exact m_ireturn S hRT rfl hQ (Nat.le_of_ble_eq_true rfl) (Nat.le_of_ble_eq_true rfl) dX8_isNoLength_15 rfl ⟨if_neg (fun h9 => h9 (if1.mp h)), rfl⟩
  · skip
    refine j_iconst F0 1 dX8_isNoLength_10 (by decide) ?_
    refine j_goto F0 15 dX8_isNoLength_11 (by decide) ?_
    exact m_ireturn S hRT rfl hQ (Nat.le_of_ble_eq_true rfl) (Nat.le_of_ble_eq_true rfl) dX8_isNoLength_15 rfl ⟨if_pos (if0.mp h), rfl⟩

set_option maxRecDepth 100000 in
set_option maxHeartbeats 4000000 in
theorem r_X8_floats_b (l : Launch) (G : RG) (A : Nat → Prop) (M : Wl) {mo ka ta : Nat} {tv : Int32} (x : Int32) (hb : ¬ (1 ≤ x ∧ x ≤ 32)) (hM : Mo G mo ka ta tv M) : Kr l G A yX8_floats wbX8_floats { frames := 2, cells := 0, slots := 0, locals := 44 } M [.ref mo, .int x] (Gi G A (fun v N => ∃ pl k9 t9 : Nat, (mo, (.inr (8, [.int 1, .ref pl, .ref k9, .ref t9]) : va_E)) ∈ N ∧ KL G M N ∧ (0 : Int32) = v)) 0 0 := by
  refine Kr.of (cc := cX8_floats) (maxL := 2) (ret := (some .int)) (by decide) rfl (Nat.le_of_ble_eq_true rfl) ?_
  intro X hXl S hRT hIN hXA hQ hD
  subst hXl
  subst hXA
  show J (X.at 0 0) 2 (PL G.Z X.A M) 0 [some (.ref mo), some (.int x)] []
  have F0 := S.1.at 0 0 (Nat.le_of_ble_eq_true rfl) (Nat.le_of_ble_eq_true rfl)
  have hOR := S.2.1.or
  obtain ⟨pl1, pe1, f1, kn1, tf1, o1_0, o1_1, o1_2, o1_3, o1_4, o1_5, o1_6, o1_7⟩ := id hM
  have h2 : (mo, (.inr (8, [.int tv, .ref pl1, .ref ka, .ref ta]) : va_E)) ∈ M := o1_0
  have h3 : (pl1, (.inr (10, [.int 10, .ref pe1, .int 10]) : va_E)) ∈ M := o1_1
  have h4 : (pe1, (.inl (G.cO, 10, .inr (.inr (.inr (.inr f1)))) : va_E)) ∈ M := o1_2
  have h5 : (ta, (.inl (G.Z.cI, 8, .inl tf1) : va_E)) ∈ M := o1_4
  have h6 : (ka, (.inl (G.cR, 10, .inr (.inr (.inr (.inr kn1)))) : va_E)) ∈ M := o1_6
  have hDo7 := hD
  refine j_aload_n F0 dX8_floats_0 rfl ?_
  refine j_iload_n F0 dX8_floats_1 rfl ?_
  refine m_cSi S (n1 := 1) (rest := [.ref mo]) (r_X8_isNoLength X.l G X.A M x) ⟨_, _, _, _, rfl, (gBS kB_X8_isNoLength (by decide +kernel)), rfl, rfl, (by decide +kernel), ⟨(Nat.le_of_ble_eq_true rfl), (Nat.le_of_ble_eq_true rfl)⟩⟩ rfl (Nat.le_of_ble_eq_true rfl) (Nat.le_of_ble_eq_true rfl) (Nat.le_of_ble_eq_true rfl) rfl dX8_floats_2 (fun v8 M9 hD10 hp11 => ?_)
  obtain ⟨hp11a, hp11b⟩ := hp11
  subst hp11a
  subst hp11b
  refine j_iconst F0 1 dX8_floats_5 (by decide) ?_
  refine m_cVi S (n1 := 2) (rest := []) (r_X8_start X.l G X.A M (c := ¬ (1 ≤ x ∧ x ≤ 32)) 1 (by decide) h2) ⟨_, _, _, _, rfl, (gBV kB_X8_start (by decide +kernel)), rfl, rfl, (by decide +kernel), ⟨(Nat.le_of_ble_eq_true rfl), (Nat.le_of_ble_eq_true rfl)⟩⟩ h2 rfl rfl (Nat.le_of_ble_eq_true rfl) (Nat.le_of_ble_eq_true rfl) (Nat.le_of_ble_eq_true rfl) rfl dX8_floats_6 (fun v12 M13 hD14 hp15 => ?_)
  obtain ⟨hp15v, hp15a, hp15k⟩ := hp15
  have hp15v : (if ¬ (1 ≤ x ∧ x ≤ 32) then (1 : Int32) else 0) = v12 := hp15v
  subst hp15v
  have n16 : pl1 ∉ [mo] := by
    intro h9; simp only [List.mem_cons, List.not_mem_nil, or_false] at h9
    · exact (In.ne hD h3 h2 (by simp)) h9
  have n17 : pe1 ∉ [mo] := by
    intro h9; simp only [List.mem_cons, List.not_mem_nil, or_false] at h9
    · exact (In.ne hD h4 h2 (by simp)) h9
  have n18 : ta ∉ [mo] := by
    intro h9; simp only [List.mem_cons, List.not_mem_nil, or_false] at h9
    · exact (In.ne hD h5 h2 (by simp)) h9
  have n19 : ka ∉ [mo] := by
    intro h9; simp only [List.mem_cons, List.not_mem_nil, or_false] at h9
    · exact (In.ne hD h6 h2 (by simp)) h9
  have h3 := hp15k _ _ n16 h3
  have h4 := hp15k _ _ n17 h4
  have h5 := hp15k _ _ n18 h5
  have h6 := hp15k _ _ n19 h6
  have h20 : (mo, (.inr (8, [.int (if ¬ (1 ≤ x ∧ x ≤ 32) then 1 else 0), .ref pl1, .ref ka, .ref ta]) : va_E)) ∈ M13 := hp15a
  refine j_if_eq F0 16 dX8_floats_9 (by decide) (fun h9 => absurd h9 (fun h9 => if1.mpr hb h9)) (fun _ => ?_)
  have h21 : (mo, (.inr (8, [.int 1, .ref pl1, .ref ka, .ref ta]) : va_E)) ∈ M13 := by have h9 := h20; rw [if_pos hb] at h9; exact h9
  refine j_iconst F0 0 dX8_floats_12 (by decide) ?_
  refine j_goto F0 21 dX8_floats_13 (by decide) ?_
  have hKp : Kp M [mo, ka] M13 := by
    intro b x hb hx
    have n22 : b ∉ [mo] := by
      intro h9; simp only [List.mem_cons, List.not_mem_nil, or_false] at h9
      · exact (fun c => hb (by rw [c]; simp)) h9
    have hx := hp15k b x n22 hx
    exact hx
  have hKL : KL G M M13 := fun o n f ho => hKp _ _ (by
    intro h9; simp only [List.mem_cons, List.not_mem_nil, or_false] at h9
    rcases h9 with h9 | h9
    · exact In.ne hD ho o1_0 (by simp) h9
    · exact In.ne hD ho o1_6 (by simp) h9
    ) ho
  exact m_ireturn S hRT rfl hQ (Nat.le_of_ble_eq_true rfl) (Nat.le_of_ble_eq_true rfl) dX8_floats_21 rfl ⟨_, _, _, h21, hKL, rfl⟩

set_option maxRecDepth 100000 in
set_option maxHeartbeats 4000000 in
theorem r_X8_floats (l : Launch) (G : RG) (A : Nat → Prop) (M : Wl) {mo ka ta : Nat} {tv : Int32} (x : Int32) (hg : 1 ≤ x ∧ x ≤ 32) (hM : Mo G mo ka ta tv M) : Kr l G A yX8_floats wbX8_floats { frames := 11, cells := 28, slots := 94, locals := 236 } M [.ref mo, .int x] (Gi G A (fun v N => ∃ pl k9 t9 : Nat, (mo, (.inr (8, [.int 0, .ref pl, .ref k9, .ref t9]) : va_E)) ∈ N ∧ KL G M N ∧ (0 : Int32) = v)) 28 94 := by
  refine Kr.of (cc := cX8_floats) (maxL := 2) (ret := (some .int)) (by decide) rfl (Nat.le_of_ble_eq_true rfl) ?_
  intro X hXl S hRT hIN hXA hQ hD
  subst hXl
  subst hXA
  show J (X.at 0 0) 2 (PL G.Z X.A M) 0 [some (.ref mo), some (.int x)] []
  have F0 := S.1.at 0 0 (Nat.le_of_ble_eq_true rfl) (Nat.le_of_ble_eq_true rfl)
  have hOR := S.2.1.or
  obtain ⟨pl1, pe1, f1, kn1, tf1, o1_0, o1_1, o1_2, o1_3, o1_4, o1_5, o1_6, o1_7⟩ := id hM
  have h2 : (mo, (.inr (8, [.int tv, .ref pl1, .ref ka, .ref ta]) : va_E)) ∈ M := o1_0
  have h3 : (pl1, (.inr (10, [.int 10, .ref pe1, .int 10]) : va_E)) ∈ M := o1_1
  have h4 : (pe1, (.inl (G.cO, 10, .inr (.inr (.inr (.inr f1)))) : va_E)) ∈ M := o1_2
  have h5 : (ta, (.inl (G.Z.cI, 8, .inl tf1) : va_E)) ∈ M := o1_4
  have h6 : (ka, (.inl (G.cR, 10, .inr (.inr (.inr (.inr kn1)))) : va_E)) ∈ M := o1_6
  have hDo7 := hD
  refine j_aload_n F0 dX8_floats_0 rfl ?_
  refine j_iload_n F0 dX8_floats_1 rfl ?_
  refine m_cSi S (n1 := 1) (rest := [.ref mo]) (r_X8_isNoLength X.l G X.A M x) ⟨_, _, _, _, rfl, (gBS kB_X8_isNoLength (by decide +kernel)), rfl, rfl, (by decide +kernel), ⟨(Nat.le_of_ble_eq_true rfl), (Nat.le_of_ble_eq_true rfl)⟩⟩ rfl (Nat.le_of_ble_eq_true rfl) (Nat.le_of_ble_eq_true rfl) (Nat.le_of_ble_eq_true rfl) rfl dX8_floats_2 (fun v8 M9 hD10 hp11 => ?_)
  obtain ⟨hp11a, hp11b⟩ := hp11
  subst hp11a
  subst hp11b
  refine j_iconst F0 1 dX8_floats_5 (by decide) ?_
  refine m_cVi S (n1 := 2) (rest := []) (r_X8_start X.l G X.A M (c := ¬ (1 ≤ x ∧ x ≤ 32)) 1 (by decide) h2) ⟨_, _, _, _, rfl, (gBV kB_X8_start (by decide +kernel)), rfl, rfl, (by decide +kernel), ⟨(Nat.le_of_ble_eq_true rfl), (Nat.le_of_ble_eq_true rfl)⟩⟩ h2 rfl rfl (Nat.le_of_ble_eq_true rfl) (Nat.le_of_ble_eq_true rfl) (Nat.le_of_ble_eq_true rfl) rfl dX8_floats_6 (fun v12 M13 hD14 hp15 => ?_)
  obtain ⟨hp15v, hp15a, hp15k⟩ := hp15
  have hp15v : (if ¬ (1 ≤ x ∧ x ≤ 32) then (1 : Int32) else 0) = v12 := hp15v
  subst hp15v
  have n16 : pl1 ∉ [mo] := by
    intro h9; simp only [List.mem_cons, List.not_mem_nil, or_false] at h9
    · exact (In.ne hD h3 h2 (by simp)) h9
  have n17 : pe1 ∉ [mo] := by
    intro h9; simp only [List.mem_cons, List.not_mem_nil, or_false] at h9
    · exact (In.ne hD h4 h2 (by simp)) h9
  have n18 : ta ∉ [mo] := by
    intro h9; simp only [List.mem_cons, List.not_mem_nil, or_false] at h9
    · exact (In.ne hD h5 h2 (by simp)) h9
  have n19 : ka ∉ [mo] := by
    intro h9; simp only [List.mem_cons, List.not_mem_nil, or_false] at h9
    · exact (In.ne hD h6 h2 (by simp)) h9
  have h3 := hp15k _ _ n16 h3
  have h4 := hp15k _ _ n17 h4
  have h5 := hp15k _ _ n18 h5
  have h6 := hp15k _ _ n19 h6
  have h20 : (mo, (.inr (8, [.int (if ¬ (1 ≤ x ∧ x ≤ 32) then 1 else 0), .ref pl1, .ref ka, .ref ta]) : va_E)) ∈ M13 := hp15a
  refine j_if_eq F0 16 dX8_floats_9 (by decide) (fun _ => ?_) (fun h9 => absurd (if0.mpr (fun h9 => h9 hg)) h9)
  have h21 : (mo, (.inr (8, [.int 0, .ref pl1, .ref ka, .ref ta]) : va_E)) ∈ M13 := by have h9 := h20; rw [if_neg (fun h9 => h9 hg)] at h9; exact h9
  refine j_aload_n F0 dX8_floats_16 rfl ?_
  refine j_iload_n F0 dX8_floats_17 rfl ?_
  have hKm23 : Kp M [mo] M13 := by
    intro b x hb hx
    have n24 : b ∉ [mo] := by
      intro h9; simp only [List.mem_cons, List.not_mem_nil, or_false] at h9
      · exact (fun c => hb (by rw [c]; simp)) h9
    have hx := hp15k b x n24 hx
    exact hx
  have hMo22 := Mo.thr hOR hDo7 o1_0 o1_1 o1_2 o1_3 o1_4 o1_5 o1_6 o1_7 hKm23 h21
  refine m_cVi S (n1 := 1) (rest := []) (r_X8_floatsOf X.l G X.A M13 x hMo22) ⟨_, _, _, _, rfl, (gBV kB_X8_floatsOf (by decide +kernel)), rfl, rfl, (by decide +kernel), ⟨(Nat.le_of_ble_eq_true rfl), (Nat.le_of_ble_eq_true rfl)⟩⟩ h21 rfl rfl (Nat.le_of_ble_eq_true rfl) (Nat.le_of_ble_eq_true rfl) (Nat.le_of_ble_eq_true rfl) rfl dX8_floats_18 (fun v25 M26 hD27 hp28 => ?_)
  obtain ⟨hp28m, hp28k, hp28v⟩ := hp28
  subst hp28v
  obtain ⟨pl29, pe29, f29, kn29, tf29, o29_0, o29_1, o29_2, o29_3, o29_4, o29_5, o29_6, o29_7⟩ := id hp28m
  have h30 : (mo, (.inr (8, [.int 0, .ref pl29, .ref ka, .ref ta]) : va_E)) ∈ M26 := o29_0
  have h31 : (pl29, (.inr (10, [.int 10, .ref pe29, .int 10]) : va_E)) ∈ M26 := o29_1
  have h32 : (pe29, (.inl (G.cO, 10, .inr (.inr (.inr (.inr f29)))) : va_E)) ∈ M26 := o29_2
  have h33 : (ta, (.inl (G.Z.cI, 8, .inl tf29) : va_E)) ∈ M26 := o29_4
  have h34 : (ka, (.inl (G.cR, 10, .inr (.inr (.inr (.inr kn29)))) : va_E)) ∈ M26 := o29_6
  have hDo35 := hD27
  have F36 := S.1.at 28 94 (Nat.le_of_ble_eq_true rfl) (Nat.le_of_ble_eq_true rfl)
  have hKp : Kp M [mo, ka] M26 := by
    intro b x hb hx
    have n37 : b ∉ [mo] := by
      intro h9; simp only [List.mem_cons, List.not_mem_nil, or_false] at h9
      · exact (fun c => hb (by rw [c]; simp)) h9
    have hx := hp15k b x n37 hx
    have n38 : b ∉ [mo, ka] := by
      intro h9; simp only [List.mem_cons, List.not_mem_nil, or_false] at h9
      rcases h9 with h9 | h9
      · exact (fun c => hb (by rw [c]; simp)) h9
      · exact (fun c => hb (by rw [c]; simp)) h9
    have hx := hp28k b x n38 hx
    exact hx
  have hKL : KL G M M26 := fun o n f ho => hKp _ _ (by
    intro h9; simp only [List.mem_cons, List.not_mem_nil, or_false] at h9
    rcases h9 with h9 | h9
    · exact In.ne hD ho o1_0 (by simp) h9
    · exact In.ne hD ho o1_6 (by simp) h9
    ) ho
  exact m_ireturn S hRT rfl hQ (Nat.le_of_ble_eq_true rfl) (Nat.le_of_ble_eq_true rfl) dX8_floats_21 rfl ⟨_, _, _, h30, hKL, rfl⟩

set_option maxRecDepth 100000 in
set_option maxHeartbeats 4000000 in
theorem r_X8_where_b (l : Launch) (G : RG) (A : Nat → Prop) (M : Wl) {mo ka ta : Nat} {tv : Int32} (x : Int32) (hb : ¬ (1 ≤ x ∧ x ≤ 32)) (y : Int32) (hM : Mo G mo ka ta tv M) : Kr l G A yX8_where wbX8_where { frames := 2, cells := 0, slots := 0, locals := 44 } M [.ref mo, .int x, .int y] (Gi G A (fun v N => ∃ pl k9 t9 : Nat, (mo, (.inr (8, [.int 1, .ref pl, .ref k9, .ref t9]) : va_E)) ∈ N ∧ KL G M N ∧ (0 : Int32) = v)) 0 0 := by
  refine Kr.of (cc := cX8_where) (maxL := 3) (ret := (some .int)) (by decide) rfl (Nat.le_of_ble_eq_true rfl) ?_
  intro X hXl S hRT hIN hXA hQ hD
  subst hXl
  subst hXA
  show J (X.at 0 0) 3 (PL G.Z X.A M) 0 [some (.ref mo), some (.int x), some (.int y)] []
  have F0 := S.1.at 0 0 (Nat.le_of_ble_eq_true rfl) (Nat.le_of_ble_eq_true rfl)
  have hOR := S.2.1.or
  obtain ⟨pl1, pe1, f1, kn1, tf1, o1_0, o1_1, o1_2, o1_3, o1_4, o1_5, o1_6, o1_7⟩ := id hM
  have h2 : (mo, (.inr (8, [.int tv, .ref pl1, .ref ka, .ref ta]) : va_E)) ∈ M := o1_0
  have h3 : (pl1, (.inr (10, [.int 10, .ref pe1, .int 10]) : va_E)) ∈ M := o1_1
  have h4 : (pe1, (.inl (G.cO, 10, .inr (.inr (.inr (.inr f1)))) : va_E)) ∈ M := o1_2
  have h5 : (ta, (.inl (G.Z.cI, 8, .inl tf1) : va_E)) ∈ M := o1_4
  have h6 : (ka, (.inl (G.cR, 10, .inr (.inr (.inr (.inr kn1)))) : va_E)) ∈ M := o1_6
  have hDo7 := hD
  refine j_aload_n F0 dX8_where_0 rfl ?_
  refine j_iload_n F0 dX8_where_1 rfl ?_
  refine m_cSi S (n1 := 1) (rest := [.ref mo]) (r_X8_isNoLength X.l G X.A M x) ⟨_, _, _, _, rfl, (gBS kB_X8_isNoLength (by decide +kernel)), rfl, rfl, (by decide +kernel), ⟨(Nat.le_of_ble_eq_true rfl), (Nat.le_of_ble_eq_true rfl)⟩⟩ rfl (Nat.le_of_ble_eq_true rfl) (Nat.le_of_ble_eq_true rfl) (Nat.le_of_ble_eq_true rfl) rfl dX8_where_2 (fun v8 M9 hD10 hp11 => ?_)
  obtain ⟨hp11a, hp11b⟩ := hp11
  subst hp11a
  subst hp11b
  refine j_iconst F0 1 dX8_where_5 (by decide) ?_
  refine m_cVi S (n1 := 2) (rest := []) (r_X8_start X.l G X.A M (c := ¬ (1 ≤ x ∧ x ≤ 32)) 1 (by decide) h2) ⟨_, _, _, _, rfl, (gBV kB_X8_start (by decide +kernel)), rfl, rfl, (by decide +kernel), ⟨(Nat.le_of_ble_eq_true rfl), (Nat.le_of_ble_eq_true rfl)⟩⟩ h2 rfl rfl (Nat.le_of_ble_eq_true rfl) (Nat.le_of_ble_eq_true rfl) (Nat.le_of_ble_eq_true rfl) rfl dX8_where_6 (fun v12 M13 hD14 hp15 => ?_)
  obtain ⟨hp15v, hp15a, hp15k⟩ := hp15
  have hp15v : (if ¬ (1 ≤ x ∧ x ≤ 32) then (1 : Int32) else 0) = v12 := hp15v
  subst hp15v
  have n16 : pl1 ∉ [mo] := by
    intro h9; simp only [List.mem_cons, List.not_mem_nil, or_false] at h9
    · exact (In.ne hD h3 h2 (by simp)) h9
  have n17 : pe1 ∉ [mo] := by
    intro h9; simp only [List.mem_cons, List.not_mem_nil, or_false] at h9
    · exact (In.ne hD h4 h2 (by simp)) h9
  have n18 : ta ∉ [mo] := by
    intro h9; simp only [List.mem_cons, List.not_mem_nil, or_false] at h9
    · exact (In.ne hD h5 h2 (by simp)) h9
  have n19 : ka ∉ [mo] := by
    intro h9; simp only [List.mem_cons, List.not_mem_nil, or_false] at h9
    · exact (In.ne hD h6 h2 (by simp)) h9
  have h3 := hp15k _ _ n16 h3
  have h4 := hp15k _ _ n17 h4
  have h5 := hp15k _ _ n18 h5
  have h6 := hp15k _ _ n19 h6
  have h20 : (mo, (.inr (8, [.int (if ¬ (1 ≤ x ∧ x ≤ 32) then 1 else 0), .ref pl1, .ref ka, .ref ta]) : va_E)) ∈ M13 := hp15a
  refine j_if_eq F0 16 dX8_where_9 (by decide) (fun h9 => absurd h9 (fun h9 => if1.mpr hb h9)) (fun _ => ?_)
  have h21 : (mo, (.inr (8, [.int 1, .ref pl1, .ref ka, .ref ta]) : va_E)) ∈ M13 := by have h9 := h20; rw [if_pos hb] at h9; exact h9
  refine j_iconst F0 0 dX8_where_12 (by decide) ?_
  refine j_goto F0 25 dX8_where_13 (by decide) ?_
  have hKp : Kp M [mo, ka] M13 := by
    intro b x hb hx
    have n22 : b ∉ [mo] := by
      intro h9; simp only [List.mem_cons, List.not_mem_nil, or_false] at h9
      · exact (fun c => hb (by rw [c]; simp)) h9
    have hx := hp15k b x n22 hx
    exact hx
  have hKL : KL G M M13 := fun o n f ho => hKp _ _ (by
    intro h9; simp only [List.mem_cons, List.not_mem_nil, or_false] at h9
    rcases h9 with h9 | h9
    · exact In.ne hD ho o1_0 (by simp) h9
    · exact In.ne hD ho o1_6 (by simp) h9
    ) ho
  exact m_ireturn S hRT rfl hQ (Nat.le_of_ble_eq_true rfl) (Nat.le_of_ble_eq_true rfl) dX8_where_25 rfl ⟨_, _, _, h21, hKL, rfl⟩

set_option maxRecDepth 100000 in
set_option maxHeartbeats 4000000 in
theorem r_X8_where (l : Launch) (G : RG) (A : Nat → Prop) (M : Wl) {mo ka ta : Nat} {tv : Int32} (x : Int32) (hg : 1 ≤ x ∧ x ≤ 32) (y : Int32) (hM : Mo G mo ka ta tv M) : Kr l G A yX8_where wbX8_where { frames := 10, cells := 14, slots := 47, locals := 215 } M [.ref mo, .int x, .int y] (Gi G A (fun v N => ∃ pl k9 t9 : Nat, (mo, (.inr (8, [.int 0, .ref pl, .ref k9, .ref t9]) : va_E)) ∈ N ∧ KL G M N ∧ ((-1) : Int32) = v)) 14 47 := by
  refine Kr.of (cc := cX8_where) (maxL := 3) (ret := (some .int)) (by decide) rfl (Nat.le_of_ble_eq_true rfl) ?_
  intro X hXl S hRT hIN hXA hQ hD
  subst hXl
  subst hXA
  show J (X.at 0 0) 3 (PL G.Z X.A M) 0 [some (.ref mo), some (.int x), some (.int y)] []
  have F0 := S.1.at 0 0 (Nat.le_of_ble_eq_true rfl) (Nat.le_of_ble_eq_true rfl)
  have hOR := S.2.1.or
  obtain ⟨pl1, pe1, f1, kn1, tf1, o1_0, o1_1, o1_2, o1_3, o1_4, o1_5, o1_6, o1_7⟩ := id hM
  have h2 : (mo, (.inr (8, [.int tv, .ref pl1, .ref ka, .ref ta]) : va_E)) ∈ M := o1_0
  have h3 : (pl1, (.inr (10, [.int 10, .ref pe1, .int 10]) : va_E)) ∈ M := o1_1
  have h4 : (pe1, (.inl (G.cO, 10, .inr (.inr (.inr (.inr f1)))) : va_E)) ∈ M := o1_2
  have h5 : (ta, (.inl (G.Z.cI, 8, .inl tf1) : va_E)) ∈ M := o1_4
  have h6 : (ka, (.inl (G.cR, 10, .inr (.inr (.inr (.inr kn1)))) : va_E)) ∈ M := o1_6
  have hDo7 := hD
  refine j_aload_n F0 dX8_where_0 rfl ?_
  refine j_iload_n F0 dX8_where_1 rfl ?_
  refine m_cSi S (n1 := 1) (rest := [.ref mo]) (r_X8_isNoLength X.l G X.A M x) ⟨_, _, _, _, rfl, (gBS kB_X8_isNoLength (by decide +kernel)), rfl, rfl, (by decide +kernel), ⟨(Nat.le_of_ble_eq_true rfl), (Nat.le_of_ble_eq_true rfl)⟩⟩ rfl (Nat.le_of_ble_eq_true rfl) (Nat.le_of_ble_eq_true rfl) (Nat.le_of_ble_eq_true rfl) rfl dX8_where_2 (fun v8 M9 hD10 hp11 => ?_)
  obtain ⟨hp11a, hp11b⟩ := hp11
  subst hp11a
  subst hp11b
  refine j_iconst F0 1 dX8_where_5 (by decide) ?_
  refine m_cVi S (n1 := 2) (rest := []) (r_X8_start X.l G X.A M (c := ¬ (1 ≤ x ∧ x ≤ 32)) 1 (by decide) h2) ⟨_, _, _, _, rfl, (gBV kB_X8_start (by decide +kernel)), rfl, rfl, (by decide +kernel), ⟨(Nat.le_of_ble_eq_true rfl), (Nat.le_of_ble_eq_true rfl)⟩⟩ h2 rfl rfl (Nat.le_of_ble_eq_true rfl) (Nat.le_of_ble_eq_true rfl) (Nat.le_of_ble_eq_true rfl) rfl dX8_where_6 (fun v12 M13 hD14 hp15 => ?_)
  obtain ⟨hp15v, hp15a, hp15k⟩ := hp15
  have hp15v : (if ¬ (1 ≤ x ∧ x ≤ 32) then (1 : Int32) else 0) = v12 := hp15v
  subst hp15v
  have n16 : pl1 ∉ [mo] := by
    intro h9; simp only [List.mem_cons, List.not_mem_nil, or_false] at h9
    · exact (In.ne hD h3 h2 (by simp)) h9
  have n17 : pe1 ∉ [mo] := by
    intro h9; simp only [List.mem_cons, List.not_mem_nil, or_false] at h9
    · exact (In.ne hD h4 h2 (by simp)) h9
  have n18 : ta ∉ [mo] := by
    intro h9; simp only [List.mem_cons, List.not_mem_nil, or_false] at h9
    · exact (In.ne hD h5 h2 (by simp)) h9
  have n19 : ka ∉ [mo] := by
    intro h9; simp only [List.mem_cons, List.not_mem_nil, or_false] at h9
    · exact (In.ne hD h6 h2 (by simp)) h9
  have h3 := hp15k _ _ n16 h3
  have h4 := hp15k _ _ n17 h4
  have h5 := hp15k _ _ n18 h5
  have h6 := hp15k _ _ n19 h6
  have h20 : (mo, (.inr (8, [.int (if ¬ (1 ≤ x ∧ x ≤ 32) then 1 else 0), .ref pl1, .ref ka, .ref ta]) : va_E)) ∈ M13 := hp15a
  refine j_if_eq F0 16 dX8_where_9 (by decide) (fun _ => ?_) (fun h9 => absurd (if0.mpr (fun h9 => h9 hg)) h9)
  have h21 : (mo, (.inr (8, [.int 0, .ref pl1, .ref ka, .ref ta]) : va_E)) ∈ M13 := by have h9 := h20; rw [if_neg (fun h9 => h9 hg)] at h9; exact h9
  refine j_aload_n F0 dX8_where_16 rfl ?_
  have hKm23 : Kp M [mo] M13 := by
    intro b x hb hx
    have n24 : b ∉ [mo] := by
      intro h9; simp only [List.mem_cons, List.not_mem_nil, or_false] at h9
      · exact (fun c => hb (by rw [c]; simp)) h9
    have hx := hp15k b x n24 hx
    exact hx
  have hMo22 := Mo.thr hOR hDo7 o1_0 o1_1 o1_2 o1_3 o1_4 o1_5 o1_6 o1_7 hKm23 h21
  refine m_cVr S (n1 := 0) (rest := []) (r_X8_cloth_ X.l G X.A M13 hMo22) ⟨_, _, _, _, rfl, (gBV kB_X8_cloth_ (by decide +kernel)), rfl, rfl, (by decide +kernel), ⟨(Nat.le_of_ble_eq_true rfl), (Nat.le_of_ble_eq_true rfl)⟩⟩ h21 rfl rfl (Nat.le_of_ble_eq_true rfl) (Nat.le_of_ble_eq_true rfl) (Nat.le_of_ble_eq_true rfl) rfl dX8_where_17 (fun v25 M26 hD27 hp28 => ?_)
  obtain ⟨hp28m, hp28k, z29, hp28a⟩ := hp28
  obtain ⟨pl30, pe30, f30, kn30, tf30, o30_0, o30_1, o30_2, o30_3, o30_4, o30_5, o30_6, o30_7⟩ := id hp28m
  have h31 : (mo, (.inr (8, [.int 0, .ref pl30, .ref ka, .ref ta]) : va_E)) ∈ M26 := o30_0
  have h32 : (pl30, (.inr (10, [.int 10, .ref pe30, .int 10]) : va_E)) ∈ M26 := o30_1
  have h33 : (pe30, (.inl (G.cO, 10, .inr (.inr (.inr (.inr f30)))) : va_E)) ∈ M26 := o30_2
  have h34 : (ta, (.inl (G.Z.cI, 8, .inl tf30) : va_E)) ∈ M26 := o30_4
  have h35 : (ka, (.inl (G.cR, 10, .inr (.inr (.inr (.inr kn30)))) : va_E)) ∈ M26 := o30_6
  have hDo36 := hD27
  have h37 := hp28a
  have F38 := S.1.at 14 47 (Nat.le_of_ble_eq_true rfl) (Nat.le_of_ble_eq_true rfl)
  refine j_iload_n F38 dX8_where_20 rfl ?_
  refine j_iload_n F38 dX8_where_21 rfl ?_
  refine m_cVi S (n1 := 2) (rest := []) (r_X5_where X.l G X.A M26 x y h37) ⟨_, _, _, _, rfl, (gBV kB_X5_where (by decide +kernel)), rfl, rfl, (by decide +kernel), ⟨(Nat.le_of_ble_eq_true rfl), (Nat.le_of_ble_eq_true rfl)⟩⟩ h37 rfl rfl (Nat.le_of_ble_eq_true rfl) (Nat.le_of_ble_eq_true rfl) (Nat.le_of_ble_eq_true rfl) rfl dX8_where_22 (fun v39 M40 hD41 hp42 => ?_)
  obtain ⟨hp42a, hp42b⟩ := hp42
  subst hp42a
  subst hp42b
  have hKp : Kp M [mo, ka] M26 := by
    intro b x hb hx
    have n43 : b ∉ [mo] := by
      intro h9; simp only [List.mem_cons, List.not_mem_nil, or_false] at h9
      · exact (fun c => hb (by rw [c]; simp)) h9
    have hx := hp15k b x n43 hx
    have n44 : b ∉ [mo, ka] := by
      intro h9; simp only [List.mem_cons, List.not_mem_nil, or_false] at h9
      rcases h9 with h9 | h9
      · exact (fun c => hb (by rw [c]; simp)) h9
      · exact (fun c => hb (by rw [c]; simp)) h9
    have hx := hp28k b x n44 hx
    exact hx
  have hKL : KL G M M26 := fun o n f ho => hKp _ _ (by
    intro h9; simp only [List.mem_cons, List.not_mem_nil, or_false] at h9
    rcases h9 with h9 | h9
    · exact In.ne hD ho o1_0 (by simp) h9
    · exact In.ne hD ho o1_6 (by simp) h9
    ) ho
  exact m_ireturn S hRT rfl hQ (Nat.le_of_ble_eq_true rfl) (Nat.le_of_ble_eq_true rfl) dX8_where_25 rfl ⟨_, _, _, h31, hKL, rfl⟩

set_option maxRecDepth 100000 in
set_option maxHeartbeats 4000000 in
theorem r_X8_ups (l : Launch) (G : RG) (A : Nat → Prop) (M : Wl) {mo ka ta : Nat} {tv : Int32} (x y : Int32) (hM : Mo G mo ka ta tv M) : Kr l G A yX8_ups wbX8_ups { frames := 10, cells := 14, slots := 47, locals := 215 } M [.ref mo, .int x, .int y] (Gi G A (fun v N => ∃ pl k9 t9 : Nat, (mo, (.inr (8, [.int 1, .ref pl, .ref k9, .ref t9]) : va_E)) ∈ N ∧ KL G M N ∧ (0 : Int32) = v)) 14 47 := by
  refine Kr.of (cc := cX8_ups) (maxL := 4) (ret := (some .int)) (by decide) rfl (Nat.le_of_ble_eq_true rfl) ?_
  intro X hXl S hRT hIN hXA hQ hD
  subst hXl
  subst hXA
  show J (X.at 0 0) 4 (PL G.Z X.A M) 0 [some (.ref mo), some (.int x), some (.int y), none] []
  have F0 := S.1.at 0 0 (Nat.le_of_ble_eq_true rfl) (Nat.le_of_ble_eq_true rfl)
  have hOR := S.2.1.or
  obtain ⟨pl1, pe1, f1, kn1, tf1, o1_0, o1_1, o1_2, o1_3, o1_4, o1_5, o1_6, o1_7⟩ := id hM
  have h2 : (mo, (.inr (8, [.int tv, .ref pl1, .ref ka, .ref ta]) : va_E)) ∈ M := o1_0
  have h3 : (pl1, (.inr (10, [.int 10, .ref pe1, .int 10]) : va_E)) ∈ M := o1_1
  have h4 : (pe1, (.inl (G.cO, 10, .inr (.inr (.inr (.inr f1)))) : va_E)) ∈ M := o1_2
  have h5 : (ta, (.inl (G.Z.cI, 8, .inl tf1) : va_E)) ∈ M := o1_4
  have h6 : (ka, (.inl (G.cR, 10, .inr (.inr (.inr (.inr kn1)))) : va_E)) ∈ M := o1_6
  have hDo7 := hD
  refine j_aload_n F0 dX8_ups_0 rfl ?_
  have hKm9 : Kp M [] M := by
    intro b x hb hx
    exact hx
  have hMo8 := Mo.mono hM hKm9
  refine m_cVr S (n1 := 0) (rest := []) (r_X8_cloth_ X.l G X.A M hMo8) ⟨_, _, _, _, rfl, (gBV kB_X8_cloth_ (by decide +kernel)), rfl, rfl, (by decide +kernel), ⟨(Nat.le_of_ble_eq_true rfl), (Nat.le_of_ble_eq_true rfl)⟩⟩ h2 rfl rfl (Nat.le_of_ble_eq_true rfl) (Nat.le_of_ble_eq_true rfl) (Nat.le_of_ble_eq_true rfl) rfl dX8_ups_1 (fun v10 M11 hD12 hp13 => ?_)
  obtain ⟨hp13m, hp13k, z14, hp13a⟩ := hp13
  obtain ⟨pl15, pe15, f15, kn15, tf15, o15_0, o15_1, o15_2, o15_3, o15_4, o15_5, o15_6, o15_7⟩ := id hp13m
  have h16 : (mo, (.inr (8, [.int tv, .ref pl15, .ref ka, .ref ta]) : va_E)) ∈ M11 := o15_0
  have h17 : (pl15, (.inr (10, [.int 10, .ref pe15, .int 10]) : va_E)) ∈ M11 := o15_1
  have h18 : (pe15, (.inl (G.cO, 10, .inr (.inr (.inr (.inr f15)))) : va_E)) ∈ M11 := o15_2
  have h19 : (ta, (.inl (G.Z.cI, 8, .inl tf15) : va_E)) ∈ M11 := o15_4
  have h20 : (ka, (.inl (G.cR, 10, .inr (.inr (.inr (.inr kn15)))) : va_E)) ∈ M11 := o15_6
  have hDo21 := hD12
  have h22 := hp13a
  have F23 := S.1.at 14 47 (Nat.le_of_ble_eq_true rfl) (Nat.le_of_ble_eq_true rfl)
  refine j_astore_n F23 [some (.ref mo), some (.int x), some (.int y), some (.ref v10)] dX8_ups_4 (by decide) rfl rfl ?_
  refine j_aload_n F23 dX8_ups_5 rfl ?_
  refine j_iload_n F23 dX8_ups_6 rfl ?_
  refine j_iconst F23 0 dX8_ups_7 (by decide) ?_
  refine j_iload_n F23 dX8_ups_8 rfl ?_
  have hlast : True := trivial
  refine j_if_eq F23 19 dX8_ups_9 (by decide) (fun h => ?_) (fun h => ?_)
  · skip
    refine j_aload_n F23 dX8_ups_19 rfl ?_
    refine m_get S (C := RX5) (T := TX5) (N := 3) (by decide +kernel) h22 rfl (v := .int 0) 1 (by decide) (by decide +kernel) (fun _ h9 => h9) rfl dX8_ups_20 ?_
    refine j_iconst F23 1 dX8_ups_23 (by decide) ?_
    refine j_isub F23 (-1) dX8_ups_24 (by decide) ?_
    refine m_cSi S (n1 := 3) (rest := [.ref mo]) (r_X8_isIn X.l G X.A M11 x 0 (-1)) ⟨_, _, _, _, rfl, (gBS kB_X8_isIn (by decide +kernel)), rfl, rfl, (by decide +kernel), ⟨(Nat.le_of_ble_eq_true rfl), (Nat.le_of_ble_eq_true rfl)⟩⟩ rfl (Nat.le_of_ble_eq_true rfl) (Nat.le_of_ble_eq_true rfl) (Nat.le_of_ble_eq_true rfl) rfl dX8_ups_25 (fun v24 M25 hD26 hp27 => ?_)
    obtain ⟨hp27a, hp27b⟩ := hp27
    subst hp27a
    subst hp27b
    refine j_if_ne F23 35 dX8_ups_28 (by decide) (fun h9 => absurd (if0.mpr (fun h9 => no_in h9.1 h9.2)) h9) (fun _ => ?_)
    refine j_iconst F23 1 dX8_ups_31 (by decide) ?_
    refine j_goto F23 36 dX8_ups_32 (by decide) ?_
    refine j_iconst F23 1 dX8_ups_36 (by decide) ?_
    refine m_cVi S (n1 := 2) (rest := []) (r_X8_start X.l G X.A M11 (c := True) 1 (by decide) h16) ⟨_, _, _, _, rfl, (gBV kB_X8_start (by decide +kernel)), rfl, rfl, (by decide +kernel), ⟨(Nat.le_of_ble_eq_true rfl), (Nat.le_of_ble_eq_true rfl)⟩⟩ h16 rfl rfl (Nat.le_of_ble_eq_true rfl) (Nat.le_of_ble_eq_true rfl) (Nat.le_of_ble_eq_true rfl) rfl dX8_ups_37 (fun v28 M29 hD30 hp31 => ?_)
    obtain ⟨hp31v, hp31a, hp31k⟩ := hp31
    have hp31v : (1 : Int32) = v28 := hp31v
    subst hp31v
    have n32 : pl15 ∉ [mo] := by
      intro h9; simp only [List.mem_cons, List.not_mem_nil, or_false] at h9
      · exact (In.ne hD12 h17 h16 (by simp)) h9
    have n33 : pe15 ∉ [mo] := by
      intro h9; simp only [List.mem_cons, List.not_mem_nil, or_false] at h9
      · exact (In.ne hD12 h18 h16 (by simp)) h9
    have n34 : ta ∉ [mo] := by
      intro h9; simp only [List.mem_cons, List.not_mem_nil, or_false] at h9
      · exact (In.ne hD12 h19 h16 (by simp)) h9
    have n35 : ka ∉ [mo] := by
      intro h9; simp only [List.mem_cons, List.not_mem_nil, or_false] at h9
      · exact (In.ne hD12 h20 h16 (by simp)) h9
    have n36 : v10 ∉ [mo] := by
      intro h9; simp only [List.mem_cons, List.not_mem_nil, or_false] at h9
      · exact (In.ne hD12 h22 h16 (by simp)) h9
    have h17 := hp31k _ _ n32 h17
    have h18 := hp31k _ _ n33 h18
    have h19 := hp31k _ _ n34 h19
    have h20 := hp31k _ _ n35 h20
    have h22 := hp31k _ _ n36 h22
    have h37 : (mo, (.inr (8, [.int 1, .ref pl15, .ref ka, .ref ta]) : va_E)) ∈ M29 := hp31a
    refine j_if_eq F23 47 dX8_ups_40 (by decide) (fun h9 => absurd h9 (by decide)) (fun _ => ?_)
    refine j_iconst F23 0 dX8_ups_43 (by decide) ?_
    refine j_goto F23 53 dX8_ups_44 (by decide) ?_
    have hKp : Kp M [mo, ka] M29 := by
      intro b x hb hx
      have n38 : b ∉ [mo, ka] := by
        intro h9; simp only [List.mem_cons, List.not_mem_nil, or_false] at h9
        rcases h9 with h9 | h9
        · exact (fun c => hb (by rw [c]; simp)) h9
        · exact (fun c => hb (by rw [c]; simp)) h9
      have hx := hp13k b x n38 hx
      have n39 : b ∉ [mo] := by
        intro h9; simp only [List.mem_cons, List.not_mem_nil, or_false] at h9
        · exact (fun c => hb (by rw [c]; simp)) h9
      have hx := hp31k b x n39 hx
      exact hx
    have hKL : KL G M M29 := fun o n f ho => hKp _ _ (by
      intro h9; simp only [List.mem_cons, List.not_mem_nil, or_false] at h9
      rcases h9 with h9 | h9
      · exact In.ne hD ho o1_0 (by simp) h9
      · exact In.ne hD ho o1_6 (by simp) h9
      ) ho
    exact m_ireturn S hRT rfl hQ (Nat.le_of_ble_eq_true rfl) (Nat.le_of_ble_eq_true rfl) dX8_ups_53 rfl ⟨_, _, _, h37, hKL, rfl⟩
  · skip
    refine j_aload_n F23 dX8_ups_12 rfl ?_
    refine m_get S (C := RX5) (T := TX5) (N := 3) (by decide +kernel) h22 rfl (v := .int 0) 0 (by decide) (by decide +kernel) (fun _ h9 => h9) rfl dX8_ups_13 ?_
    refine j_goto F23 23 dX8_ups_16 (by decide) ?_
    refine j_iconst F23 1 dX8_ups_23 (by decide) ?_
    refine j_isub F23 (-1) dX8_ups_24 (by decide) ?_
    refine m_cSi S (n1 := 3) (rest := [.ref mo]) (r_X8_isIn X.l G X.A M11 x 0 (-1)) ⟨_, _, _, _, rfl, (gBS kB_X8_isIn (by decide +kernel)), rfl, rfl, (by decide +kernel), ⟨(Nat.le_of_ble_eq_true rfl), (Nat.le_of_ble_eq_true rfl)⟩⟩ rfl (Nat.le_of_ble_eq_true rfl) (Nat.le_of_ble_eq_true rfl) (Nat.le_of_ble_eq_true rfl) rfl dX8_ups_25 (fun v40 M41 hD42 hp43 => ?_)
    obtain ⟨hp43a, hp43b⟩ := hp43
    subst hp43a
    subst hp43b
    refine j_if_ne F23 35 dX8_ups_28 (by decide) (fun h9 => absurd (if0.mpr (fun h9 => no_in h9.1 h9.2)) h9) (fun _ => ?_)
    refine j_iconst F23 1 dX8_ups_31 (by decide) ?_
    refine j_goto F23 36 dX8_ups_32 (by decide) ?_
    refine j_iconst F23 1 dX8_ups_36 (by decide) ?_
    refine m_cVi S (n1 := 2) (rest := []) (r_X8_start X.l G X.A M11 (c := True) 1 (by decide) h16) ⟨_, _, _, _, rfl, (gBV kB_X8_start (by decide +kernel)), rfl, rfl, (by decide +kernel), ⟨(Nat.le_of_ble_eq_true rfl), (Nat.le_of_ble_eq_true rfl)⟩⟩ h16 rfl rfl (Nat.le_of_ble_eq_true rfl) (Nat.le_of_ble_eq_true rfl) (Nat.le_of_ble_eq_true rfl) rfl dX8_ups_37 (fun v44 M45 hD46 hp47 => ?_)
    obtain ⟨hp47v, hp47a, hp47k⟩ := hp47
    have hp47v : (1 : Int32) = v44 := hp47v
    subst hp47v
    have n48 : pl15 ∉ [mo] := by
      intro h9; simp only [List.mem_cons, List.not_mem_nil, or_false] at h9
      · exact (In.ne hD12 h17 h16 (by simp)) h9
    have n49 : pe15 ∉ [mo] := by
      intro h9; simp only [List.mem_cons, List.not_mem_nil, or_false] at h9
      · exact (In.ne hD12 h18 h16 (by simp)) h9
    have n50 : ta ∉ [mo] := by
      intro h9; simp only [List.mem_cons, List.not_mem_nil, or_false] at h9
      · exact (In.ne hD12 h19 h16 (by simp)) h9
    have n51 : ka ∉ [mo] := by
      intro h9; simp only [List.mem_cons, List.not_mem_nil, or_false] at h9
      · exact (In.ne hD12 h20 h16 (by simp)) h9
    have n52 : v10 ∉ [mo] := by
      intro h9; simp only [List.mem_cons, List.not_mem_nil, or_false] at h9
      · exact (In.ne hD12 h22 h16 (by simp)) h9
    have h17 := hp47k _ _ n48 h17
    have h18 := hp47k _ _ n49 h18
    have h19 := hp47k _ _ n50 h19
    have h20 := hp47k _ _ n51 h20
    have h22 := hp47k _ _ n52 h22
    have h53 : (mo, (.inr (8, [.int 1, .ref pl15, .ref ka, .ref ta]) : va_E)) ∈ M45 := hp47a
    refine j_if_eq F23 47 dX8_ups_40 (by decide) (fun h9 => absurd h9 (by decide)) (fun _ => ?_)
    refine j_iconst F23 0 dX8_ups_43 (by decide) ?_
    refine j_goto F23 53 dX8_ups_44 (by decide) ?_
    have hKp : Kp M [mo, ka] M45 := by
      intro b x hb hx
      have n54 : b ∉ [mo, ka] := by
        intro h9; simp only [List.mem_cons, List.not_mem_nil, or_false] at h9
        rcases h9 with h9 | h9
        · exact (fun c => hb (by rw [c]; simp)) h9
        · exact (fun c => hb (by rw [c]; simp)) h9
      have hx := hp13k b x n54 hx
      have n55 : b ∉ [mo] := by
        intro h9; simp only [List.mem_cons, List.not_mem_nil, or_false] at h9
        · exact (fun c => hb (by rw [c]; simp)) h9
      have hx := hp47k b x n55 hx
      exact hx
    have hKL : KL G M M45 := fun o n f ho => hKp _ _ (by
      intro h9; simp only [List.mem_cons, List.not_mem_nil, or_false] at h9
      rcases h9 with h9 | h9
      · exact In.ne hD ho o1_0 (by simp) h9
      · exact In.ne hD ho o1_6 (by simp) h9
      ) ho
    exact m_ireturn S hRT rfl hQ (Nat.le_of_ble_eq_true rfl) (Nat.le_of_ble_eq_true rfl) dX8_ups_53 rfl ⟨_, _, _, h53, hKL, rfl⟩

set_option maxRecDepth 100000 in
set_option maxHeartbeats 4000000 in
theorem r_X8_seen_b (l : Launch) (G : RG) (A : Nat → Prop) (M : Wl) {mo ka ta : Nat} {tv : Int32} (x : Int32) (hb : EigP x) (hM : Mo G mo ka ta tv M) : Kr l G A yX8_seen wbX8_seen { frames := 2, cells := 0, slots := 0, locals := 44 } M [.ref mo, .int x] (Gi G A (fun v N => ∃ pl k9 t9 : Nat, (mo, (.inr (8, [.int 1, .ref pl, .ref k9, .ref t9]) : va_E)) ∈ N ∧ KL G M N ∧ (0 : Int32) = v)) 0 0 := by
  refine Kr.of (cc := cX8_seen) (maxL := 2) (ret := (some .int)) (by decide) rfl (Nat.le_of_ble_eq_true rfl) ?_
  intro X hXl S hRT hIN hXA hQ hD
  subst hXl
  subst hXA
  show J (X.at 0 0) 2 (PL G.Z X.A M) 0 [some (.ref mo), some (.int x)] []
  have F0 := S.1.at 0 0 (Nat.le_of_ble_eq_true rfl) (Nat.le_of_ble_eq_true rfl)
  have hOR := S.2.1.or
  obtain ⟨pl1, pe1, f1, kn1, tf1, o1_0, o1_1, o1_2, o1_3, o1_4, o1_5, o1_6, o1_7⟩ := id hM
  have h2 : (mo, (.inr (8, [.int tv, .ref pl1, .ref ka, .ref ta]) : va_E)) ∈ M := o1_0
  have h3 : (pl1, (.inr (10, [.int 10, .ref pe1, .int 10]) : va_E)) ∈ M := o1_1
  have h4 : (pe1, (.inl (G.cO, 10, .inr (.inr (.inr (.inr f1)))) : va_E)) ∈ M := o1_2
  have h5 : (ta, (.inl (G.Z.cI, 8, .inl tf1) : va_E)) ∈ M := o1_4
  have h6 : (ka, (.inl (G.cR, 10, .inr (.inr (.inr (.inr kn1)))) : va_E)) ∈ M := o1_6
  have hDo7 := hD
  refine j_aload_n F0 dX8_seen_0 rfl ?_
  refine j_iload_n F0 dX8_seen_1 rfl ?_
  refine m_cSi S (n1 := 1) (rest := [.ref mo]) (r_X8_isNoEight X.l G X.A M x) ⟨_, _, _, _, rfl, (gBS kB_X8_isNoEight (by decide +kernel)), rfl, rfl, (by decide +kernel), ⟨(Nat.le_of_ble_eq_true rfl), (Nat.le_of_ble_eq_true rfl)⟩⟩ rfl (Nat.le_of_ble_eq_true rfl) (Nat.le_of_ble_eq_true rfl) (Nat.le_of_ble_eq_true rfl) rfl dX8_seen_2 (fun v8 M9 hD10 hp11 => ?_)
  obtain ⟨hp11a, hp11b⟩ := hp11
  subst hp11a
  subst hp11b
  refine j_iconst F0 1 dX8_seen_5 (by decide) ?_
  refine m_cVi S (n1 := 2) (rest := []) (r_X8_start X.l G X.A M (c := EigP x) 1 (by decide) h2) ⟨_, _, _, _, rfl, (gBV kB_X8_start (by decide +kernel)), rfl, rfl, (by decide +kernel), ⟨(Nat.le_of_ble_eq_true rfl), (Nat.le_of_ble_eq_true rfl)⟩⟩ h2 rfl rfl (Nat.le_of_ble_eq_true rfl) (Nat.le_of_ble_eq_true rfl) (Nat.le_of_ble_eq_true rfl) rfl dX8_seen_6 (fun v12 M13 hD14 hp15 => ?_)
  obtain ⟨hp15v, hp15a, hp15k⟩ := hp15
  have hp15v : (if EigP x then (1 : Int32) else 0) = v12 := hp15v
  subst hp15v
  have n16 : pl1 ∉ [mo] := by
    intro h9; simp only [List.mem_cons, List.not_mem_nil, or_false] at h9
    · exact (In.ne hD h3 h2 (by simp)) h9
  have n17 : pe1 ∉ [mo] := by
    intro h9; simp only [List.mem_cons, List.not_mem_nil, or_false] at h9
    · exact (In.ne hD h4 h2 (by simp)) h9
  have n18 : ta ∉ [mo] := by
    intro h9; simp only [List.mem_cons, List.not_mem_nil, or_false] at h9
    · exact (In.ne hD h5 h2 (by simp)) h9
  have n19 : ka ∉ [mo] := by
    intro h9; simp only [List.mem_cons, List.not_mem_nil, or_false] at h9
    · exact (In.ne hD h6 h2 (by simp)) h9
  have h3 := hp15k _ _ n16 h3
  have h4 := hp15k _ _ n17 h4
  have h5 := hp15k _ _ n18 h5
  have h6 := hp15k _ _ n19 h6
  have h20 : (mo, (.inr (8, [.int (if EigP x then 1 else 0), .ref pl1, .ref ka, .ref ta]) : va_E)) ∈ M13 := hp15a
  refine j_if_eq F0 16 dX8_seen_9 (by decide) (fun h9 => absurd h9 (fun h9 => if1.mpr hb h9)) (fun _ => ?_)
  have h21 : (mo, (.inr (8, [.int 1, .ref pl1, .ref ka, .ref ta]) : va_E)) ∈ M13 := by have h9 := h20; rw [if_pos hb] at h9; exact h9
  refine j_iconst F0 0 dX8_seen_12 (by decide) ?_
  refine j_goto F0 21 dX8_seen_13 (by decide) ?_
  have hKp : Kp M [mo, ka] M13 := by
    intro b x hb hx
    have n22 : b ∉ [mo] := by
      intro h9; simp only [List.mem_cons, List.not_mem_nil, or_false] at h9
      · exact (fun c => hb (by rw [c]; simp)) h9
    have hx := hp15k b x n22 hx
    exact hx
  have hKL : KL G M M13 := fun o n f ho => hKp _ _ (by
    intro h9; simp only [List.mem_cons, List.not_mem_nil, or_false] at h9
    rcases h9 with h9 | h9
    · exact In.ne hD ho o1_0 (by simp) h9
    · exact In.ne hD ho o1_6 (by simp) h9
    ) ho
  exact m_ireturn S hRT rfl hQ (Nat.le_of_ble_eq_true rfl) (Nat.le_of_ble_eq_true rfl) dX8_seen_21 rfl ⟨_, _, _, h21, hKL, rfl⟩

set_option maxRecDepth 100000 in
set_option maxHeartbeats 4000000 in
theorem r_X8_seen (l : Launch) (G : RG) (A : Nat → Prop) (M : Wl) {mo ka ta : Nat} {tv : Int32} (x : Int32) (hg : ¬ EigP x) (hM : Mo G mo ka ta tv M) : Kr l G A yX8_seen wbX8_seen { frames := 11, cells := 14, slots := 47, locals := 240 } M [.ref mo, .int x] (Gi G A (fun v N => ∃ pl k9 t9 : Nat, (mo, (.inr (8, [.int 0, .ref pl, .ref k9, .ref t9]) : va_E)) ∈ N ∧ KL G M N ∧ (0 : Int32) = v)) 14 47 := by
  refine Kr.of (cc := cX8_seen) (maxL := 2) (ret := (some .int)) (by decide) rfl (Nat.le_of_ble_eq_true rfl) ?_
  intro X hXl S hRT hIN hXA hQ hD
  subst hXl
  subst hXA
  show J (X.at 0 0) 2 (PL G.Z X.A M) 0 [some (.ref mo), some (.int x)] []
  have F0 := S.1.at 0 0 (Nat.le_of_ble_eq_true rfl) (Nat.le_of_ble_eq_true rfl)
  have hOR := S.2.1.or
  obtain ⟨pl1, pe1, f1, kn1, tf1, o1_0, o1_1, o1_2, o1_3, o1_4, o1_5, o1_6, o1_7⟩ := id hM
  have h2 : (mo, (.inr (8, [.int tv, .ref pl1, .ref ka, .ref ta]) : va_E)) ∈ M := o1_0
  have h3 : (pl1, (.inr (10, [.int 10, .ref pe1, .int 10]) : va_E)) ∈ M := o1_1
  have h4 : (pe1, (.inl (G.cO, 10, .inr (.inr (.inr (.inr f1)))) : va_E)) ∈ M := o1_2
  have h5 : (ta, (.inl (G.Z.cI, 8, .inl tf1) : va_E)) ∈ M := o1_4
  have h6 : (ka, (.inl (G.cR, 10, .inr (.inr (.inr (.inr kn1)))) : va_E)) ∈ M := o1_6
  have hDo7 := hD
  refine j_aload_n F0 dX8_seen_0 rfl ?_
  refine j_iload_n F0 dX8_seen_1 rfl ?_
  refine m_cSi S (n1 := 1) (rest := [.ref mo]) (r_X8_isNoEight X.l G X.A M x) ⟨_, _, _, _, rfl, (gBS kB_X8_isNoEight (by decide +kernel)), rfl, rfl, (by decide +kernel), ⟨(Nat.le_of_ble_eq_true rfl), (Nat.le_of_ble_eq_true rfl)⟩⟩ rfl (Nat.le_of_ble_eq_true rfl) (Nat.le_of_ble_eq_true rfl) (Nat.le_of_ble_eq_true rfl) rfl dX8_seen_2 (fun v8 M9 hD10 hp11 => ?_)
  obtain ⟨hp11a, hp11b⟩ := hp11
  subst hp11a
  subst hp11b
  refine j_iconst F0 1 dX8_seen_5 (by decide) ?_
  refine m_cVi S (n1 := 2) (rest := []) (r_X8_start X.l G X.A M (c := EigP x) 1 (by decide) h2) ⟨_, _, _, _, rfl, (gBV kB_X8_start (by decide +kernel)), rfl, rfl, (by decide +kernel), ⟨(Nat.le_of_ble_eq_true rfl), (Nat.le_of_ble_eq_true rfl)⟩⟩ h2 rfl rfl (Nat.le_of_ble_eq_true rfl) (Nat.le_of_ble_eq_true rfl) (Nat.le_of_ble_eq_true rfl) rfl dX8_seen_6 (fun v12 M13 hD14 hp15 => ?_)
  obtain ⟨hp15v, hp15a, hp15k⟩ := hp15
  have hp15v : (if EigP x then (1 : Int32) else 0) = v12 := hp15v
  subst hp15v
  have n16 : pl1 ∉ [mo] := by
    intro h9; simp only [List.mem_cons, List.not_mem_nil, or_false] at h9
    · exact (In.ne hD h3 h2 (by simp)) h9
  have n17 : pe1 ∉ [mo] := by
    intro h9; simp only [List.mem_cons, List.not_mem_nil, or_false] at h9
    · exact (In.ne hD h4 h2 (by simp)) h9
  have n18 : ta ∉ [mo] := by
    intro h9; simp only [List.mem_cons, List.not_mem_nil, or_false] at h9
    · exact (In.ne hD h5 h2 (by simp)) h9
  have n19 : ka ∉ [mo] := by
    intro h9; simp only [List.mem_cons, List.not_mem_nil, or_false] at h9
    · exact (In.ne hD h6 h2 (by simp)) h9
  have h3 := hp15k _ _ n16 h3
  have h4 := hp15k _ _ n17 h4
  have h5 := hp15k _ _ n18 h5
  have h6 := hp15k _ _ n19 h6
  have h20 : (mo, (.inr (8, [.int (if EigP x then 1 else 0), .ref pl1, .ref ka, .ref ta]) : va_E)) ∈ M13 := hp15a
  refine j_if_eq F0 16 dX8_seen_9 (by decide) (fun _ => ?_) (fun h9 => absurd (if0.mpr hg) h9)
  have h21 : (mo, (.inr (8, [.int 0, .ref pl1, .ref ka, .ref ta]) : va_E)) ∈ M13 := by have h9 := h20; rw [if_neg hg] at h9; exact h9
  refine j_aload_n F0 dX8_seen_16 rfl ?_
  refine j_iload_n F0 dX8_seen_17 rfl ?_
  have hKm23 : Kp M [mo] M13 := by
    intro b x hb hx
    have n24 : b ∉ [mo] := by
      intro h9; simp only [List.mem_cons, List.not_mem_nil, or_false] at h9
      · exact (fun c => hb (by rw [c]; simp)) h9
    have hx := hp15k b x n24 hx
    exact hx
  have hMo22 := Mo.thr hOR hDo7 o1_0 o1_1 o1_2 o1_3 o1_4 o1_5 o1_6 o1_7 hKm23 h21
  refine m_cVi S (n1 := 1) (rest := []) (r_X8_seenOf X.l G X.A M13 x hMo22) ⟨_, _, _, _, rfl, (gBV kB_X8_seenOf (by decide +kernel)), rfl, rfl, (by decide +kernel), ⟨(Nat.le_of_ble_eq_true rfl), (Nat.le_of_ble_eq_true rfl)⟩⟩ h21 rfl rfl (Nat.le_of_ble_eq_true rfl) (Nat.le_of_ble_eq_true rfl) (Nat.le_of_ble_eq_true rfl) rfl dX8_seen_18 (fun v25 M26 hD27 hp28 => ?_)
  obtain ⟨hp28m, hp28k, hp28v⟩ := hp28
  subst hp28v
  obtain ⟨pl29, pe29, f29, kn29, tf29, o29_0, o29_1, o29_2, o29_3, o29_4, o29_5, o29_6, o29_7⟩ := id hp28m
  have h30 : (mo, (.inr (8, [.int 0, .ref pl29, .ref ka, .ref ta]) : va_E)) ∈ M26 := o29_0
  have h31 : (pl29, (.inr (10, [.int 10, .ref pe29, .int 10]) : va_E)) ∈ M26 := o29_1
  have h32 : (pe29, (.inl (G.cO, 10, .inr (.inr (.inr (.inr f29)))) : va_E)) ∈ M26 := o29_2
  have h33 : (ta, (.inl (G.Z.cI, 8, .inl tf29) : va_E)) ∈ M26 := o29_4
  have h34 : (ka, (.inl (G.cR, 10, .inr (.inr (.inr (.inr kn29)))) : va_E)) ∈ M26 := o29_6
  have hDo35 := hD27
  have F36 := S.1.at 14 47 (Nat.le_of_ble_eq_true rfl) (Nat.le_of_ble_eq_true rfl)
  have hKp : Kp M [mo, ka] M26 := by
    intro b x hb hx
    have n37 : b ∉ [mo] := by
      intro h9; simp only [List.mem_cons, List.not_mem_nil, or_false] at h9
      · exact (fun c => hb (by rw [c]; simp)) h9
    have hx := hp15k b x n37 hx
    have n38 : b ∉ [mo, ka] := by
      intro h9; simp only [List.mem_cons, List.not_mem_nil, or_false] at h9
      rcases h9 with h9 | h9
      · exact (fun c => hb (by rw [c]; simp)) h9
      · exact (fun c => hb (by rw [c]; simp)) h9
    have hx := hp28k b x n38 hx
    exact hx
  have hKL : KL G M M26 := fun o n f ho => hKp _ _ (by
    intro h9; simp only [List.mem_cons, List.not_mem_nil, or_false] at h9
    rcases h9 with h9 | h9
    · exact In.ne hD ho o1_0 (by simp) h9
    · exact In.ne hD ho o1_6 (by simp) h9
    ) ho
  exact m_ireturn S hRT rfl hQ (Nat.le_of_ble_eq_true rfl) (Nat.le_of_ble_eq_true rfl) dX8_seen_21 rfl ⟨_, _, _, h30, hKL, rfl⟩

set_option maxRecDepth 100000 in
set_option maxHeartbeats 4000000 in
theorem r_X8_repeat (l : Launch) (G : RG) (A : Nat → Prop) (M : Wl) {mo ka ta : Nat} {tv : Int32} (x : Int32) (hM : Mo G mo ka ta tv M) : Kr l G A yX8_repeat wbX8_repeat { frames := 10, cells := 14, slots := 47, locals := 215 } M [.ref mo, .int x] (Gi G A (fun v N => ∃ pl k9 t9 : Nat, (mo, (.inr (8, [.int 0, .ref pl, .ref k9, .ref t9]) : va_E)) ∈ N ∧ KL G M N ∧ (0 : Int32) = v)) 14 47 := by
  refine Kr.of (cc := cX8_repeat) (maxL := 2) (ret := (some .int)) (by decide) rfl (Nat.le_of_ble_eq_true rfl) ?_
  intro X hXl S hRT hIN hXA hQ hD
  subst hXl
  subst hXA
  show J (X.at 0 0) 2 (PL G.Z X.A M) 0 [some (.ref mo), some (.int x)] []
  have F0 := S.1.at 0 0 (Nat.le_of_ble_eq_true rfl) (Nat.le_of_ble_eq_true rfl)
  have hOR := S.2.1.or
  obtain ⟨pl1, pe1, f1, kn1, tf1, o1_0, o1_1, o1_2, o1_3, o1_4, o1_5, o1_6, o1_7⟩ := id hM
  have h2 : (mo, (.inr (8, [.int tv, .ref pl1, .ref ka, .ref ta]) : va_E)) ∈ M := o1_0
  have h3 : (pl1, (.inr (10, [.int 10, .ref pe1, .int 10]) : va_E)) ∈ M := o1_1
  have h4 : (pe1, (.inl (G.cO, 10, .inr (.inr (.inr (.inr f1)))) : va_E)) ∈ M := o1_2
  have h5 : (ta, (.inl (G.Z.cI, 8, .inl tf1) : va_E)) ∈ M := o1_4
  have h6 : (ka, (.inl (G.cR, 10, .inr (.inr (.inr (.inr kn1)))) : va_E)) ∈ M := o1_6
  have hDo7 := hD
  refine j_aload_n F0 dX8_repeat_0 rfl ?_
  refine j_iconst F0 0 dX8_repeat_1 (by decide) ?_
  refine m_put S (C := RX8) (T := TX8) (N := 4) (v := .int 0) (ty := .int) tyX8 tyX8_ok nmX8 (by decide +kernel) h2 rfl 0 (by decide) (by decide +kernel) (fun _ h9 => h9) rfl (by decide +kernel) rfl rfl (Nat.le_of_ble_eq_true rfl) dX8_repeat_2 (fun M9 hD10 hU8 => ?_)
  have hU8 : Up M mo (.inr (8, [.int 0, .ref pl1, .ref ka, .ref ta])) M9 := hU8
  have n11 : pl1 ≠ mo := (In.ne hD h3 h2 (by simp))
  have n12 : pe1 ≠ mo := (In.ne hD h4 h2 (by simp))
  have n13 : ta ≠ mo := (In.ne hD h5 h2 (by simp))
  have n14 : ka ≠ mo := (In.ne hD h6 h2 (by simp))
  have h3 := hU8.2 _ _ n11 h3
  have h4 := hU8.2 _ _ n12 h4
  have h5 := hU8.2 _ _ n13 h5
  have h6 := hU8.2 _ _ n14 h6
  have h2 := hU8.1
  refine j_aload_n F0 dX8_repeat_5 rfl ?_
  have hKm16 : Kp M [mo] M9 := by
    intro b x hb hx
    have hx := hU8.2 _ _ (fun c => hb (by rw [c]; simp)) hx
    exact hx
  have hMo15 := Mo.thr hOR hDo7 o1_0 o1_1 o1_2 o1_3 o1_4 o1_5 o1_6 o1_7 hKm16 h2
  refine m_cVr S (n1 := 0) (rest := []) (r_X8_cloth_ X.l G X.A M9 hMo15) ⟨_, _, _, _, rfl, (gBV kB_X8_cloth_ (by decide +kernel)), rfl, rfl, (by decide +kernel), ⟨(Nat.le_of_ble_eq_true rfl), (Nat.le_of_ble_eq_true rfl)⟩⟩ h2 rfl rfl (Nat.le_of_ble_eq_true rfl) (Nat.le_of_ble_eq_true rfl) (Nat.le_of_ble_eq_true rfl) rfl dX8_repeat_6 (fun v17 M18 hD19 hp20 => ?_)
  obtain ⟨hp20m, hp20k, z21, hp20a⟩ := hp20
  obtain ⟨pl22, pe22, f22, kn22, tf22, o22_0, o22_1, o22_2, o22_3, o22_4, o22_5, o22_6, o22_7⟩ := id hp20m
  have h23 : (mo, (.inr (8, [.int 0, .ref pl22, .ref ka, .ref ta]) : va_E)) ∈ M18 := o22_0
  have h24 : (pl22, (.inr (10, [.int 10, .ref pe22, .int 10]) : va_E)) ∈ M18 := o22_1
  have h25 : (pe22, (.inl (G.cO, 10, .inr (.inr (.inr (.inr f22)))) : va_E)) ∈ M18 := o22_2
  have h26 : (ta, (.inl (G.Z.cI, 8, .inl tf22) : va_E)) ∈ M18 := o22_4
  have h27 : (ka, (.inl (G.cR, 10, .inr (.inr (.inr (.inr kn22)))) : va_E)) ∈ M18 := o22_6
  have hDo28 := hD19
  have h29 := hp20a
  have F30 := S.1.at 14 47 (Nat.le_of_ble_eq_true rfl) (Nat.le_of_ble_eq_true rfl)
  refine j_iload_n F30 dX8_repeat_9 rfl ?_
  refine m_cVi S (n1 := 1) (rest := []) (r_X5_repeat X.l G X.A M18 x h29) ⟨_, _, _, _, rfl, (gBV kB_X5_repeat (by decide +kernel)), rfl, rfl, (by decide +kernel), ⟨(Nat.le_of_ble_eq_true rfl), (Nat.le_of_ble_eq_true rfl)⟩⟩ h29 rfl rfl (Nat.le_of_ble_eq_true rfl) (Nat.le_of_ble_eq_true rfl) (Nat.le_of_ble_eq_true rfl) rfl dX8_repeat_10 (fun v31 M32 hD33 hp34 => ?_)
  obtain ⟨hp34a, hp34b⟩ := hp34
  subst hp34a
  subst hp34b
  have hKp : Kp M [mo, ka] M18 := by
    intro b x hb hx
    have hx := hU8.2 _ _ (fun c => hb (by rw [c]; simp)) hx
    have n35 : b ∉ [mo, ka] := by
      intro h9; simp only [List.mem_cons, List.not_mem_nil, or_false] at h9
      rcases h9 with h9 | h9
      · exact (fun c => hb (by rw [c]; simp)) h9
      · exact (fun c => hb (by rw [c]; simp)) h9
    have hx := hp20k b x n35 hx
    exact hx
  have hKL : KL G M M18 := fun o n f ho => hKp _ _ (by
    intro h9; simp only [List.mem_cons, List.not_mem_nil, or_false] at h9
    rcases h9 with h9 | h9
    · exact In.ne hD ho o1_0 (by simp) h9
    · exact In.ne hD ho o1_6 (by simp) h9
    ) ho
  exact m_ireturn S hRT rfl hQ (Nat.le_of_ble_eq_true rfl) (Nat.le_of_ble_eq_true rfl) dX8_repeat_13 rfl ⟨_, _, _, h23, hKL, rfl⟩

set_option maxRecDepth 100000 in
set_option maxHeartbeats 4000000 in
theorem r_X8_hangs (l : Launch) (G : RG) (A : Nat → Prop) (M : Wl) {mo ka ta : Nat} {tv : Int32} (hM : Mo G mo ka ta tv M) : Kr l G A yX8_hangs wbX8_hangs { frames := 10, cells := 14, slots := 47, locals := 215 } M [.ref mo] (Gi G A (fun v N => ∃ pl k9 t9 : Nat, (mo, (.inr (8, [.int 0, .ref pl, .ref k9, .ref t9]) : va_E)) ∈ N ∧ KL G M N ∧ (0 : Int32) = v)) 14 47 := by
  refine Kr.of (cc := cX8_hangs) (maxL := 1) (ret := (some .boolean)) (by decide) rfl (Nat.le_of_ble_eq_true rfl) ?_
  intro X hXl S hRT hIN hXA hQ hD
  subst hXl
  subst hXA
  show J (X.at 0 0) 1 (PL G.Z X.A M) 0 [some (.ref mo)] []
  have F0 := S.1.at 0 0 (Nat.le_of_ble_eq_true rfl) (Nat.le_of_ble_eq_true rfl)
  have hOR := S.2.1.or
  obtain ⟨pl1, pe1, f1, kn1, tf1, o1_0, o1_1, o1_2, o1_3, o1_4, o1_5, o1_6, o1_7⟩ := id hM
  have h2 : (mo, (.inr (8, [.int tv, .ref pl1, .ref ka, .ref ta]) : va_E)) ∈ M := o1_0
  have h3 : (pl1, (.inr (10, [.int 10, .ref pe1, .int 10]) : va_E)) ∈ M := o1_1
  have h4 : (pe1, (.inl (G.cO, 10, .inr (.inr (.inr (.inr f1)))) : va_E)) ∈ M := o1_2
  have h5 : (ta, (.inl (G.Z.cI, 8, .inl tf1) : va_E)) ∈ M := o1_4
  have h6 : (ka, (.inl (G.cR, 10, .inr (.inr (.inr (.inr kn1)))) : va_E)) ∈ M := o1_6
  have hDo7 := hD
  refine j_aload_n F0 dX8_hangs_0 rfl ?_
  refine j_iconst F0 0 dX8_hangs_1 (by decide) ?_
  refine m_put S (C := RX8) (T := TX8) (N := 4) (v := .int 0) (ty := .int) tyX8 tyX8_ok nmX8 (by decide +kernel) h2 rfl 0 (by decide) (by decide +kernel) (fun _ h9 => h9) rfl (by decide +kernel) rfl rfl (Nat.le_of_ble_eq_true rfl) dX8_hangs_2 (fun M9 hD10 hU8 => ?_)
  have hU8 : Up M mo (.inr (8, [.int 0, .ref pl1, .ref ka, .ref ta])) M9 := hU8
  have n11 : pl1 ≠ mo := (In.ne hD h3 h2 (by simp))
  have n12 : pe1 ≠ mo := (In.ne hD h4 h2 (by simp))
  have n13 : ta ≠ mo := (In.ne hD h5 h2 (by simp))
  have n14 : ka ≠ mo := (In.ne hD h6 h2 (by simp))
  have h3 := hU8.2 _ _ n11 h3
  have h4 := hU8.2 _ _ n12 h4
  have h5 := hU8.2 _ _ n13 h5
  have h6 := hU8.2 _ _ n14 h6
  have h2 := hU8.1
  refine j_aload_n F0 dX8_hangs_5 rfl ?_
  have hKm16 : Kp M [mo] M9 := by
    intro b x hb hx
    have hx := hU8.2 _ _ (fun c => hb (by rw [c]; simp)) hx
    exact hx
  have hMo15 := Mo.thr hOR hDo7 o1_0 o1_1 o1_2 o1_3 o1_4 o1_5 o1_6 o1_7 hKm16 h2
  refine m_cVr S (n1 := 0) (rest := []) (r_X8_cloth_ X.l G X.A M9 hMo15) ⟨_, _, _, _, rfl, (gBV kB_X8_cloth_ (by decide +kernel)), rfl, rfl, (by decide +kernel), ⟨(Nat.le_of_ble_eq_true rfl), (Nat.le_of_ble_eq_true rfl)⟩⟩ h2 rfl rfl (Nat.le_of_ble_eq_true rfl) (Nat.le_of_ble_eq_true rfl) (Nat.le_of_ble_eq_true rfl) rfl dX8_hangs_6 (fun v17 M18 hD19 hp20 => ?_)
  obtain ⟨hp20m, hp20k, z21, hp20a⟩ := hp20
  obtain ⟨pl22, pe22, f22, kn22, tf22, o22_0, o22_1, o22_2, o22_3, o22_4, o22_5, o22_6, o22_7⟩ := id hp20m
  have h23 : (mo, (.inr (8, [.int 0, .ref pl22, .ref ka, .ref ta]) : va_E)) ∈ M18 := o22_0
  have h24 : (pl22, (.inr (10, [.int 10, .ref pe22, .int 10]) : va_E)) ∈ M18 := o22_1
  have h25 : (pe22, (.inl (G.cO, 10, .inr (.inr (.inr (.inr f22)))) : va_E)) ∈ M18 := o22_2
  have h26 : (ta, (.inl (G.Z.cI, 8, .inl tf22) : va_E)) ∈ M18 := o22_4
  have h27 : (ka, (.inl (G.cR, 10, .inr (.inr (.inr (.inr kn22)))) : va_E)) ∈ M18 := o22_6
  have hDo28 := hD19
  have h29 := hp20a
  have F30 := S.1.at 14 47 (Nat.le_of_ble_eq_true rfl) (Nat.le_of_ble_eq_true rfl)
  refine m_cVi S (n1 := 0) (rest := []) (r_X5_hangs X.l G X.A M18 h29) ⟨_, _, _, _, rfl, (gBV kB_X5_hangs (by decide +kernel)), rfl, rfl, (by decide +kernel), ⟨(Nat.le_of_ble_eq_true rfl), (Nat.le_of_ble_eq_true rfl)⟩⟩ h29 rfl rfl (Nat.le_of_ble_eq_true rfl) (Nat.le_of_ble_eq_true rfl) (Nat.le_of_ble_eq_true rfl) rfl dX8_hangs_9 (fun v31 M32 hD33 hp34 => ?_)
  obtain ⟨hp34a, hp34b⟩ := hp34
  subst hp34a
  subst hp34b
  have hKp : Kp M [mo, ka] M18 := by
    intro b x hb hx
    have hx := hU8.2 _ _ (fun c => hb (by rw [c]; simp)) hx
    have n35 : b ∉ [mo, ka] := by
      intro h9; simp only [List.mem_cons, List.not_mem_nil, or_false] at h9
      rcases h9 with h9 | h9
      · exact (fun c => hb (by rw [c]; simp)) h9
      · exact (fun c => hb (by rw [c]; simp)) h9
    have hx := hp20k b x n35 hx
    exact hx
  have hKL : KL G M M18 := fun o n f ho => hKp _ _ (by
    intro h9; simp only [List.mem_cons, List.not_mem_nil, or_false] at h9
    rcases h9 with h9 | h9
    · exact In.ne hD ho o1_0 (by simp) h9
    · exact In.ne hD ho o1_6 (by simp) h9
    ) ho
  exact m_ireturn S hRT rfl hQ (Nat.le_of_ble_eq_true rfl) (Nat.le_of_ble_eq_true rfl) dX8_hangs_12 rfl ⟨_, _, _, h23, hKL, rfl⟩

set_option maxRecDepth 100000 in
set_option maxHeartbeats 4000000 in
theorem r_X8_reach (l : Launch) (G : RG) (A : Nat → Prop) (M : Wl) {mo ka ta : Nat} {tv : Int32} (x : Int32) (hM : Mo G mo ka ta tv M) : Kr l G A yX8_reach wbX8_reach { frames := 10, cells := 14, slots := 47, locals := 215 } M [.ref mo, .int x] (Gi G A (fun v N => ∃ pl k9 t9 : Nat, (mo, (.inr (8, [.int 0, .ref pl, .ref k9, .ref t9]) : va_E)) ∈ N ∧ KL G M N ∧ (0 : Int32) = v)) 14 47 := by
  refine Kr.of (cc := cX8_reach) (maxL := 2) (ret := (some .int)) (by decide) rfl (Nat.le_of_ble_eq_true rfl) ?_
  intro X hXl S hRT hIN hXA hQ hD
  subst hXl
  subst hXA
  show J (X.at 0 0) 2 (PL G.Z X.A M) 0 [some (.ref mo), some (.int x)] []
  have F0 := S.1.at 0 0 (Nat.le_of_ble_eq_true rfl) (Nat.le_of_ble_eq_true rfl)
  have hOR := S.2.1.or
  obtain ⟨pl1, pe1, f1, kn1, tf1, o1_0, o1_1, o1_2, o1_3, o1_4, o1_5, o1_6, o1_7⟩ := id hM
  have h2 : (mo, (.inr (8, [.int tv, .ref pl1, .ref ka, .ref ta]) : va_E)) ∈ M := o1_0
  have h3 : (pl1, (.inr (10, [.int 10, .ref pe1, .int 10]) : va_E)) ∈ M := o1_1
  have h4 : (pe1, (.inl (G.cO, 10, .inr (.inr (.inr (.inr f1)))) : va_E)) ∈ M := o1_2
  have h5 : (ta, (.inl (G.Z.cI, 8, .inl tf1) : va_E)) ∈ M := o1_4
  have h6 : (ka, (.inl (G.cR, 10, .inr (.inr (.inr (.inr kn1)))) : va_E)) ∈ M := o1_6
  have hDo7 := hD
  refine j_aload_n F0 dX8_reach_0 rfl ?_
  refine j_iconst F0 0 dX8_reach_1 (by decide) ?_
  refine m_put S (C := RX8) (T := TX8) (N := 4) (v := .int 0) (ty := .int) tyX8 tyX8_ok nmX8 (by decide +kernel) h2 rfl 0 (by decide) (by decide +kernel) (fun _ h9 => h9) rfl (by decide +kernel) rfl rfl (Nat.le_of_ble_eq_true rfl) dX8_reach_2 (fun M9 hD10 hU8 => ?_)
  have hU8 : Up M mo (.inr (8, [.int 0, .ref pl1, .ref ka, .ref ta])) M9 := hU8
  have n11 : pl1 ≠ mo := (In.ne hD h3 h2 (by simp))
  have n12 : pe1 ≠ mo := (In.ne hD h4 h2 (by simp))
  have n13 : ta ≠ mo := (In.ne hD h5 h2 (by simp))
  have n14 : ka ≠ mo := (In.ne hD h6 h2 (by simp))
  have h3 := hU8.2 _ _ n11 h3
  have h4 := hU8.2 _ _ n12 h4
  have h5 := hU8.2 _ _ n13 h5
  have h6 := hU8.2 _ _ n14 h6
  have h2 := hU8.1
  refine j_aload_n F0 dX8_reach_5 rfl ?_
  have hKm16 : Kp M [mo] M9 := by
    intro b x hb hx
    have hx := hU8.2 _ _ (fun c => hb (by rw [c]; simp)) hx
    exact hx
  have hMo15 := Mo.thr hOR hDo7 o1_0 o1_1 o1_2 o1_3 o1_4 o1_5 o1_6 o1_7 hKm16 h2
  refine m_cVr S (n1 := 0) (rest := []) (r_X8_cloth_ X.l G X.A M9 hMo15) ⟨_, _, _, _, rfl, (gBV kB_X8_cloth_ (by decide +kernel)), rfl, rfl, (by decide +kernel), ⟨(Nat.le_of_ble_eq_true rfl), (Nat.le_of_ble_eq_true rfl)⟩⟩ h2 rfl rfl (Nat.le_of_ble_eq_true rfl) (Nat.le_of_ble_eq_true rfl) (Nat.le_of_ble_eq_true rfl) rfl dX8_reach_6 (fun v17 M18 hD19 hp20 => ?_)
  obtain ⟨hp20m, hp20k, z21, hp20a⟩ := hp20
  obtain ⟨pl22, pe22, f22, kn22, tf22, o22_0, o22_1, o22_2, o22_3, o22_4, o22_5, o22_6, o22_7⟩ := id hp20m
  have h23 : (mo, (.inr (8, [.int 0, .ref pl22, .ref ka, .ref ta]) : va_E)) ∈ M18 := o22_0
  have h24 : (pl22, (.inr (10, [.int 10, .ref pe22, .int 10]) : va_E)) ∈ M18 := o22_1
  have h25 : (pe22, (.inl (G.cO, 10, .inr (.inr (.inr (.inr f22)))) : va_E)) ∈ M18 := o22_2
  have h26 : (ta, (.inl (G.Z.cI, 8, .inl tf22) : va_E)) ∈ M18 := o22_4
  have h27 : (ka, (.inl (G.cR, 10, .inr (.inr (.inr (.inr kn22)))) : va_E)) ∈ M18 := o22_6
  have hDo28 := hD19
  have h29 := hp20a
  have F30 := S.1.at 14 47 (Nat.le_of_ble_eq_true rfl) (Nat.le_of_ble_eq_true rfl)
  refine j_iload_n F30 dX8_reach_9 rfl ?_
  refine m_cVi S (n1 := 1) (rest := []) (r_X5_reached X.l G X.A M18 x h29) ⟨_, _, _, _, rfl, (gBV kB_X5_reached (by decide +kernel)), rfl, rfl, (by decide +kernel), ⟨(Nat.le_of_ble_eq_true rfl), (Nat.le_of_ble_eq_true rfl)⟩⟩ h29 rfl rfl (Nat.le_of_ble_eq_true rfl) (Nat.le_of_ble_eq_true rfl) (Nat.le_of_ble_eq_true rfl) rfl dX8_reach_10 (fun v31 M32 hD33 hp34 => ?_)
  obtain ⟨hp34a, hp34b⟩ := hp34
  subst hp34a
  subst hp34b
  have hKp : Kp M [mo, ka] M18 := by
    intro b x hb hx
    have hx := hU8.2 _ _ (fun c => hb (by rw [c]; simp)) hx
    have n35 : b ∉ [mo, ka] := by
      intro h9; simp only [List.mem_cons, List.not_mem_nil, or_false] at h9
      rcases h9 with h9 | h9
      · exact (fun c => hb (by rw [c]; simp)) h9
      · exact (fun c => hb (by rw [c]; simp)) h9
    have hx := hp20k b x n35 hx
    exact hx
  have hKL : KL G M M18 := fun o n f ho => hKp _ _ (by
    intro h9; simp only [List.mem_cons, List.not_mem_nil, or_false] at h9
    rcases h9 with h9 | h9
    · exact In.ne hD ho o1_0 (by simp) h9
    · exact In.ne hD ho o1_6 (by simp) h9
    ) ho
  exact m_ireturn S hRT rfl hQ (Nat.le_of_ble_eq_true rfl) (Nat.le_of_ble_eq_true rfl) dX8_reach_13 rfl ⟨_, _, _, h23, hKL, rfl⟩

set_option maxRecDepth 100000 in
set_option maxHeartbeats 4000000 in
theorem r_X8_meanFloat (l : Launch) (G : RG) (A : Nat → Prop) (M : Wl) {mo ka ta : Nat} {tv : Int32} (hM : Mo G mo ka ta tv M) : Kr l G A yX8_meanFloat wbX8_meanFloat { frames := 11, cells := 28, slots := 94, locals := 236 } M [.ref mo] (Gd G A (fun v N => ∃ pl k9 t9 : Nat, (mo, (.inr (8, [.int 0, .ref pl, .ref k9, .ref t9]) : va_E)) ∈ N ∧ KL G M N ∧ (FP.dconst0 : UInt64) = v)) 28 94 := by
  refine Kr.of (cc := cX8_meanFloat) (maxL := 2) (ret := (some .double)) (by decide) rfl (Nat.le_of_ble_eq_true rfl) ?_
  intro X hXl S hRT hIN hXA hQ hD
  subst hXl
  subst hXA
  show J (X.at 0 0) 2 (PL G.Z X.A M) 0 [some (.ref mo), none] []
  have F0 := S.1.at 0 0 (Nat.le_of_ble_eq_true rfl) (Nat.le_of_ble_eq_true rfl)
  have hOR := S.2.1.or
  obtain ⟨pl1, pe1, f1, kn1, tf1, o1_0, o1_1, o1_2, o1_3, o1_4, o1_5, o1_6, o1_7⟩ := id hM
  have h2 : (mo, (.inr (8, [.int tv, .ref pl1, .ref ka, .ref ta]) : va_E)) ∈ M := o1_0
  have h3 : (pl1, (.inr (10, [.int 10, .ref pe1, .int 10]) : va_E)) ∈ M := o1_1
  have h4 : (pe1, (.inl (G.cO, 10, .inr (.inr (.inr (.inr f1)))) : va_E)) ∈ M := o1_2
  have h5 : (ta, (.inl (G.Z.cI, 8, .inl tf1) : va_E)) ∈ M := o1_4
  have h6 : (ka, (.inl (G.cR, 10, .inr (.inr (.inr (.inr kn1)))) : va_E)) ∈ M := o1_6
  have hDo7 := hD
  refine j_aload_n F0 dX8_meanFloat_0 rfl ?_
  refine j_iconst F0 0 dX8_meanFloat_1 (by decide) ?_
  refine m_put S (C := RX8) (T := TX8) (N := 4) (v := .int 0) (ty := .int) tyX8 tyX8_ok nmX8 (by decide +kernel) h2 rfl 0 (by decide) (by decide +kernel) (fun _ h9 => h9) rfl (by decide +kernel) rfl rfl (Nat.le_of_ble_eq_true rfl) dX8_meanFloat_2 (fun M9 hD10 hU8 => ?_)
  have hU8 : Up M mo (.inr (8, [.int 0, .ref pl1, .ref ka, .ref ta])) M9 := hU8
  have n11 : pl1 ≠ mo := (In.ne hD h3 h2 (by simp))
  have n12 : pe1 ≠ mo := (In.ne hD h4 h2 (by simp))
  have n13 : ta ≠ mo := (In.ne hD h5 h2 (by simp))
  have n14 : ka ≠ mo := (In.ne hD h6 h2 (by simp))
  have h3 := hU8.2 _ _ n11 h3
  have h4 := hU8.2 _ _ n12 h4
  have h5 := hU8.2 _ _ n13 h5
  have h6 := hU8.2 _ _ n14 h6
  have h2 := hU8.1
  refine j_aload_n F0 dX8_meanFloat_5 rfl ?_
  refine j_iconst F0 1 dX8_meanFloat_6 (by decide) ?_
  have hKm16 : Kp M [mo] M9 := by
    intro b x hb hx
    have hx := hU8.2 _ _ (fun c => hb (by rw [c]; simp)) hx
    exact hx
  have hMo15 := Mo.thr hOR hDo7 o1_0 o1_1 o1_2 o1_3 o1_4 o1_5 o1_6 o1_7 hKm16 h2
  refine m_cVi S (n1 := 1) (rest := []) (r_X8_floatsOf X.l G X.A M9 1 hMo15) ⟨_, _, _, _, rfl, (gBV kB_X8_floatsOf (by decide +kernel)), rfl, rfl, (by decide +kernel), ⟨(Nat.le_of_ble_eq_true rfl), (Nat.le_of_ble_eq_true rfl)⟩⟩ h2 rfl rfl (Nat.le_of_ble_eq_true rfl) (Nat.le_of_ble_eq_true rfl) (Nat.le_of_ble_eq_true rfl) rfl dX8_meanFloat_7 (fun v17 M18 hD19 hp20 => ?_)
  obtain ⟨hp20m, hp20k, hp20v⟩ := hp20
  subst hp20v
  obtain ⟨pl21, pe21, f21, kn21, tf21, o21_0, o21_1, o21_2, o21_3, o21_4, o21_5, o21_6, o21_7⟩ := id hp20m
  have h22 : (mo, (.inr (8, [.int 0, .ref pl21, .ref ka, .ref ta]) : va_E)) ∈ M18 := o21_0
  have h23 : (pl21, (.inr (10, [.int 10, .ref pe21, .int 10]) : va_E)) ∈ M18 := o21_1
  have h24 : (pe21, (.inl (G.cO, 10, .inr (.inr (.inr (.inr f21)))) : va_E)) ∈ M18 := o21_2
  have h25 : (ta, (.inl (G.Z.cI, 8, .inl tf21) : va_E)) ∈ M18 := o21_4
  have h26 : (ka, (.inl (G.cR, 10, .inr (.inr (.inr (.inr kn21)))) : va_E)) ∈ M18 := o21_6
  have hDo27 := hD19
  have F28 := S.1.at 28 94 (Nat.le_of_ble_eq_true rfl) (Nat.le_of_ble_eq_true rfl)
  refine j_istore_n F28 [some (.ref mo), some (.int 0)] dX8_meanFloat_10 (by decide) rfl rfl ?_
  refine j_iload_n F28 dX8_meanFloat_11 rfl ?_
  refine j_if_ne F28 19 dX8_meanFloat_12 (by decide) (fun h9 => absurd (by decide) h9) (fun _ => ?_)
  refine j_dconst0 F28 dX8_meanFloat_15 ?_
  refine j_goto F28 30 dX8_meanFloat_16 (by decide) ?_
  have hKp : Kp M [mo, ka] M18 := by
    intro b x hb hx
    have hx := hU8.2 _ _ (fun c => hb (by rw [c]; simp)) hx
    have n29 : b ∉ [mo, ka] := by
      intro h9; simp only [List.mem_cons, List.not_mem_nil, or_false] at h9
      rcases h9 with h9 | h9
      · exact (fun c => hb (by rw [c]; simp)) h9
      · exact (fun c => hb (by rw [c]; simp)) h9
    have hx := hp20k b x n29 hx
    exact hx
  have hKL : KL G M M18 := fun o n f ho => hKp _ _ (by
    intro h9; simp only [List.mem_cons, List.not_mem_nil, or_false] at h9
    rcases h9 with h9 | h9
    · exact In.ne hD ho o1_0 (by simp) h9
    · exact In.ne hD ho o1_6 (by simp) h9
    ) ho
  exact m_dreturn S hRT rfl hQ (Nat.le_of_ble_eq_true rfl) (Nat.le_of_ble_eq_true rfl) dX8_meanFloat_30 ⟨_, _, _, h22, hKL, rfl⟩

set_option maxRecDepth 100000 in
set_option maxHeartbeats 4000000 in
theorem r_X8_swap_b (l : Launch) (G : RG) (A : Nat → Prop) (M : Wl) {mo ka ta : Nat} {tv : Int32} (x : Int32) (hb : EigP x) (y : Int32) (hM : Mo G mo ka ta tv M) : Kr l G A yX8_swap wsX8_swap { frames := 2, cells := 0, slots := 0, locals := 44 } M [.ref mo, .int x, .int y] (Gi G A (fun v N => ∃ pl k9 t9 : Nat, (mo, (.inr (8, [.int 1, .ref pl, .ref k9, .ref t9]) : va_E)) ∈ N ∧ KL G M N ∧ (0 : Int32) = v)) 0 0 := by
  refine Kr.of (cc := cX8_swap) (maxL := 6) (ret := (some .int)) (by decide) rfl (Nat.le_of_ble_eq_true rfl) ?_
  intro X hXl S hRT hIN hXA hQ hD
  subst hXl
  subst hXA
  show J (X.at 0 0) 6 (PL G.Z X.A M) 0 [some (.ref mo), some (.int x), some (.int y), none, none, none] []
  have F0 := S.1.at 0 0 (Nat.le_of_ble_eq_true rfl) (Nat.le_of_ble_eq_true rfl)
  have hOR := S.2.1.or
  obtain ⟨pl1, pe1, f1, kn1, tf1, o1_0, o1_1, o1_2, o1_3, o1_4, o1_5, o1_6, o1_7⟩ := id hM
  have h2 : (mo, (.inr (8, [.int tv, .ref pl1, .ref ka, .ref ta]) : va_E)) ∈ M := o1_0
  have h3 : (pl1, (.inr (10, [.int 10, .ref pe1, .int 10]) : va_E)) ∈ M := o1_1
  have h4 : (pe1, (.inl (G.cO, 10, .inr (.inr (.inr (.inr f1)))) : va_E)) ∈ M := o1_2
  have h5 : (ta, (.inl (G.Z.cI, 8, .inl tf1) : va_E)) ∈ M := o1_4
  have h6 : (ka, (.inl (G.cR, 10, .inr (.inr (.inr (.inr kn1)))) : va_E)) ∈ M := o1_6
  have hDo7 := hD
  refine j_aload_n F0 dX8_swap_0 rfl ?_
  refine j_iload_n F0 dX8_swap_1 rfl ?_
  refine m_cSi S (n1 := 1) (rest := [.ref mo]) (r_X8_isNoEight X.l G X.A M x) ⟨_, _, _, _, rfl, gX8_swap_X8_isNoEight, rfl, rfl, (by decide +kernel), ⟨(Nat.le_of_ble_eq_true rfl), (Nat.le_of_ble_eq_true rfl)⟩⟩ rfl (Nat.le_of_ble_eq_true rfl) (Nat.le_of_ble_eq_true rfl) (Nat.le_of_ble_eq_true rfl) rfl dX8_swap_2 (fun v8 M9 hD10 hp11 => ?_)
  obtain ⟨hp11a, hp11b⟩ := hp11
  subst hp11a
  subst hp11b
  refine j_if_ne F0 15 dX8_swap_5 (by decide) (fun _ => ?_) (fun h9 => absurd h9 (if1.mpr hb))
  refine j_iconst F0 1 dX8_swap_15 (by decide) ?_
  refine j_goto F0 20 dX8_swap_16 (by decide) ?_
  refine j_iconst F0 1 dX8_swap_20 (by decide) ?_
  refine m_cVi S (n1 := 2) (rest := []) (r_X8_start X.l G X.A M (c := True) 1 (by decide) h2) ⟨_, _, _, _, rfl, gX8_swap_X8_start, rfl, rfl, (by decide +kernel), ⟨(Nat.le_of_ble_eq_true rfl), (Nat.le_of_ble_eq_true rfl)⟩⟩ h2 rfl rfl (Nat.le_of_ble_eq_true rfl) (Nat.le_of_ble_eq_true rfl) (Nat.le_of_ble_eq_true rfl) rfl dX8_swap_21 (fun v12 M13 hD14 hp15 => ?_)
  obtain ⟨hp15v, hp15a, hp15k⟩ := hp15
  have hp15v : (1 : Int32) = v12 := hp15v
  subst hp15v
  have n16 : pl1 ∉ [mo] := by
    intro h9; simp only [List.mem_cons, List.not_mem_nil, or_false] at h9
    · exact (In.ne hD h3 h2 (by simp)) h9
  have n17 : pe1 ∉ [mo] := by
    intro h9; simp only [List.mem_cons, List.not_mem_nil, or_false] at h9
    · exact (In.ne hD h4 h2 (by simp)) h9
  have n18 : ta ∉ [mo] := by
    intro h9; simp only [List.mem_cons, List.not_mem_nil, or_false] at h9
    · exact (In.ne hD h5 h2 (by simp)) h9
  have n19 : ka ∉ [mo] := by
    intro h9; simp only [List.mem_cons, List.not_mem_nil, or_false] at h9
    · exact (In.ne hD h6 h2 (by simp)) h9
  have h3 := hp15k _ _ n16 h3
  have h4 := hp15k _ _ n17 h4
  have h5 := hp15k _ _ n18 h5
  have h6 := hp15k _ _ n19 h6
  have h20 : (mo, (.inr (8, [.int 1, .ref pl1, .ref ka, .ref ta]) : va_E)) ∈ M13 := hp15a
  refine j_if_eq F0 29 dX8_swap_24 (by decide) (fun h9 => absurd h9 (by decide)) (fun _ => ?_)
  refine j_iconst F0 0 dX8_swap_27 (by decide) ?_
  have hKp : Kp M [mo, ka] M13 := by
    intro b x hb hx
    have n21 : b ∉ [mo] := by
      intro h9; simp only [List.mem_cons, List.not_mem_nil, or_false] at h9
      · exact (fun c => hb (by rw [c]; simp)) h9
    have hx := hp15k b x n21 hx
    exact hx
  have hKL : KL G M M13 := fun o n f ho => hKp _ _ (by
    intro h9; simp only [List.mem_cons, List.not_mem_nil, or_false] at h9
    rcases h9 with h9 | h9
    · exact In.ne hD ho o1_0 (by simp) h9
    · exact In.ne hD ho o1_6 (by simp) h9
    ) ho
  exact m_ireturn S hRT rfl hQ (Nat.le_of_ble_eq_true rfl) (Nat.le_of_ble_eq_true rfl) dX8_swap_28 rfl ⟨_, _, _, h20, hKL, rfl⟩

set_option maxRecDepth 100000 in
set_option maxHeartbeats 4000000 in
theorem r_X8_swap_c (l : Launch) (G : RG) (A : Nat → Prop) (M : Wl) {mo ka ta : Nat} {tv : Int32} (x y : Int32) (hg : ¬ EigP x) (hb : EigP y) (hM : Mo G mo ka ta tv M) : Kr l G A yX8_swap wsX8_swap { frames := 2, cells := 0, slots := 0, locals := 44 } M [.ref mo, .int x, .int y] (Gi G A (fun v N => ∃ pl k9 t9 : Nat, (mo, (.inr (8, [.int 1, .ref pl, .ref k9, .ref t9]) : va_E)) ∈ N ∧ KL G M N ∧ (0 : Int32) = v)) 0 0 := by
  refine Kr.of (cc := cX8_swap) (maxL := 6) (ret := (some .int)) (by decide) rfl (Nat.le_of_ble_eq_true rfl) ?_
  intro X hXl S hRT hIN hXA hQ hD
  subst hXl
  subst hXA
  show J (X.at 0 0) 6 (PL G.Z X.A M) 0 [some (.ref mo), some (.int x), some (.int y), none, none, none] []
  have F0 := S.1.at 0 0 (Nat.le_of_ble_eq_true rfl) (Nat.le_of_ble_eq_true rfl)
  have hOR := S.2.1.or
  obtain ⟨pl1, pe1, f1, kn1, tf1, o1_0, o1_1, o1_2, o1_3, o1_4, o1_5, o1_6, o1_7⟩ := id hM
  have h2 : (mo, (.inr (8, [.int tv, .ref pl1, .ref ka, .ref ta]) : va_E)) ∈ M := o1_0
  have h3 : (pl1, (.inr (10, [.int 10, .ref pe1, .int 10]) : va_E)) ∈ M := o1_1
  have h4 : (pe1, (.inl (G.cO, 10, .inr (.inr (.inr (.inr f1)))) : va_E)) ∈ M := o1_2
  have h5 : (ta, (.inl (G.Z.cI, 8, .inl tf1) : va_E)) ∈ M := o1_4
  have h6 : (ka, (.inl (G.cR, 10, .inr (.inr (.inr (.inr kn1)))) : va_E)) ∈ M := o1_6
  have hDo7 := hD
  refine j_aload_n F0 dX8_swap_0 rfl ?_
  refine j_iload_n F0 dX8_swap_1 rfl ?_
  refine m_cSi S (n1 := 1) (rest := [.ref mo]) (r_X8_isNoEight X.l G X.A M x) ⟨_, _, _, _, rfl, gX8_swap_X8_isNoEight, rfl, rfl, (by decide +kernel), ⟨(Nat.le_of_ble_eq_true rfl), (Nat.le_of_ble_eq_true rfl)⟩⟩ rfl (Nat.le_of_ble_eq_true rfl) (Nat.le_of_ble_eq_true rfl) (Nat.le_of_ble_eq_true rfl) rfl dX8_swap_2 (fun v8 M9 hD10 hp11 => ?_)
  obtain ⟨hp11a, hp11b⟩ := hp11
  subst hp11a
  subst hp11b
  refine j_if_ne F0 15 dX8_swap_5 (by decide) (fun h9 => absurd (if0.mpr hg) h9) (fun _ => ?_)
  refine j_iload_n F0 dX8_swap_8 rfl ?_
  refine m_cSi S (n1 := 1) (rest := [.ref mo]) (r_X8_isNoEight X.l G X.A M y) ⟨_, _, _, _, rfl, gX8_swap_X8_isNoEight, rfl, rfl, (by decide +kernel), ⟨(Nat.le_of_ble_eq_true rfl), (Nat.le_of_ble_eq_true rfl)⟩⟩ rfl (Nat.le_of_ble_eq_true rfl) (Nat.le_of_ble_eq_true rfl) (Nat.le_of_ble_eq_true rfl) rfl dX8_swap_9 (fun v12 M13 hD14 hp15 => ?_)
  obtain ⟨hp15a, hp15b⟩ := hp15
  subst hp15a
  subst hp15b
  refine j_if_eq F0 19 dX8_swap_12 (by decide) (fun h9 => absurd h9 (fun h9 => if1.mpr hb h9)) (fun _ => ?_)
  refine j_iconst F0 1 dX8_swap_15 (by decide) ?_
  refine j_goto F0 20 dX8_swap_16 (by decide) ?_
  refine j_iconst F0 1 dX8_swap_20 (by decide) ?_
  refine m_cVi S (n1 := 2) (rest := []) (r_X8_start X.l G X.A M (c := True) 1 (by decide) h2) ⟨_, _, _, _, rfl, gX8_swap_X8_start, rfl, rfl, (by decide +kernel), ⟨(Nat.le_of_ble_eq_true rfl), (Nat.le_of_ble_eq_true rfl)⟩⟩ h2 rfl rfl (Nat.le_of_ble_eq_true rfl) (Nat.le_of_ble_eq_true rfl) (Nat.le_of_ble_eq_true rfl) rfl dX8_swap_21 (fun v16 M17 hD18 hp19 => ?_)
  obtain ⟨hp19v, hp19a, hp19k⟩ := hp19
  have hp19v : (1 : Int32) = v16 := hp19v
  subst hp19v
  have n20 : pl1 ∉ [mo] := by
    intro h9; simp only [List.mem_cons, List.not_mem_nil, or_false] at h9
    · exact (In.ne hD h3 h2 (by simp)) h9
  have n21 : pe1 ∉ [mo] := by
    intro h9; simp only [List.mem_cons, List.not_mem_nil, or_false] at h9
    · exact (In.ne hD h4 h2 (by simp)) h9
  have n22 : ta ∉ [mo] := by
    intro h9; simp only [List.mem_cons, List.not_mem_nil, or_false] at h9
    · exact (In.ne hD h5 h2 (by simp)) h9
  have n23 : ka ∉ [mo] := by
    intro h9; simp only [List.mem_cons, List.not_mem_nil, or_false] at h9
    · exact (In.ne hD h6 h2 (by simp)) h9
  have h3 := hp19k _ _ n20 h3
  have h4 := hp19k _ _ n21 h4
  have h5 := hp19k _ _ n22 h5
  have h6 := hp19k _ _ n23 h6
  have h24 : (mo, (.inr (8, [.int 1, .ref pl1, .ref ka, .ref ta]) : va_E)) ∈ M17 := hp19a
  refine j_if_eq F0 29 dX8_swap_24 (by decide) (fun h9 => absurd h9 (by decide)) (fun _ => ?_)
  refine j_iconst F0 0 dX8_swap_27 (by decide) ?_
  have hKp : Kp M [mo, ka] M17 := by
    intro b x hb hx
    have n25 : b ∉ [mo] := by
      intro h9; simp only [List.mem_cons, List.not_mem_nil, or_false] at h9
      · exact (fun c => hb (by rw [c]; simp)) h9
    have hx := hp19k b x n25 hx
    exact hx
  have hKL : KL G M M17 := fun o n f ho => hKp _ _ (by
    intro h9; simp only [List.mem_cons, List.not_mem_nil, or_false] at h9
    rcases h9 with h9 | h9
    · exact In.ne hD ho o1_0 (by simp) h9
    · exact In.ne hD ho o1_6 (by simp) h9
    ) ho
  exact m_ireturn S hRT rfl hQ (Nat.le_of_ble_eq_true rfl) (Nat.le_of_ble_eq_true rfl) dX8_swap_28 rfl ⟨_, _, _, h24, hKL, rfl⟩

set_option maxRecDepth 100000 in
set_option maxHeartbeats 4000000 in
theorem r_X8_floatWith_b (l : Launch) (G : RG) (A : Nat → Prop) (M : Wl) {mo ka ta : Nat} {tv : Int32} (x : Int32) (hb : EigP x) (y : Int32) (hM : Mo G mo ka ta tv M) : Kr l G A yX8_floatWith wbX8_floatWith { frames := 2, cells := 0, slots := 0, locals := 44 } M [.ref mo, .int x, .int y] (Gi G A (fun v N => ∃ pl k9 t9 : Nat, (mo, (.inr (8, [.int 1, .ref pl, .ref k9, .ref t9]) : va_E)) ∈ N ∧ KL G M N ∧ (0 : Int32) = v)) 0 0 := by
  refine Kr.of (cc := cX8_floatWith) (maxL := 3) (ret := (some .int)) (by decide) rfl (Nat.le_of_ble_eq_true rfl) ?_
  intro X hXl S hRT hIN hXA hQ hD
  subst hXl
  subst hXA
  show J (X.at 0 0) 3 (PL G.Z X.A M) 0 [some (.ref mo), some (.int x), some (.int y)] []
  have F0 := S.1.at 0 0 (Nat.le_of_ble_eq_true rfl) (Nat.le_of_ble_eq_true rfl)
  have hOR := S.2.1.or
  obtain ⟨pl1, pe1, f1, kn1, tf1, o1_0, o1_1, o1_2, o1_3, o1_4, o1_5, o1_6, o1_7⟩ := id hM
  have h2 : (mo, (.inr (8, [.int tv, .ref pl1, .ref ka, .ref ta]) : va_E)) ∈ M := o1_0
  have h3 : (pl1, (.inr (10, [.int 10, .ref pe1, .int 10]) : va_E)) ∈ M := o1_1
  have h4 : (pe1, (.inl (G.cO, 10, .inr (.inr (.inr (.inr f1)))) : va_E)) ∈ M := o1_2
  have h5 : (ta, (.inl (G.Z.cI, 8, .inl tf1) : va_E)) ∈ M := o1_4
  have h6 : (ka, (.inl (G.cR, 10, .inr (.inr (.inr (.inr kn1)))) : va_E)) ∈ M := o1_6
  have hDo7 := hD
  refine j_aload_n F0 dX8_floatWith_0 rfl ?_
  refine j_iload_n F0 dX8_floatWith_1 rfl ?_
  refine m_cSi S (n1 := 1) (rest := [.ref mo]) (r_X8_isNoEight X.l G X.A M x) ⟨_, _, _, _, rfl, (gBS kB_X8_isNoEight (by decide +kernel)), rfl, rfl, (by decide +kernel), ⟨(Nat.le_of_ble_eq_true rfl), (Nat.le_of_ble_eq_true rfl)⟩⟩ rfl (Nat.le_of_ble_eq_true rfl) (Nat.le_of_ble_eq_true rfl) (Nat.le_of_ble_eq_true rfl) rfl dX8_floatWith_2 (fun v8 M9 hD10 hp11 => ?_)
  obtain ⟨hp11a, hp11b⟩ := hp11
  subst hp11a
  subst hp11b
  refine j_if_ne F0 15 dX8_floatWith_5 (by decide) (fun _ => ?_) (fun h9 => absurd h9 (if1.mpr hb))
  refine j_iconst F0 1 dX8_floatWith_15 (by decide) ?_
  refine j_goto F0 20 dX8_floatWith_16 (by decide) ?_
  refine j_iconst F0 1 dX8_floatWith_20 (by decide) ?_
  refine m_cVi S (n1 := 2) (rest := []) (r_X8_start X.l G X.A M (c := True) 1 (by decide) h2) ⟨_, _, _, _, rfl, (gBV kB_X8_start (by decide +kernel)), rfl, rfl, (by decide +kernel), ⟨(Nat.le_of_ble_eq_true rfl), (Nat.le_of_ble_eq_true rfl)⟩⟩ h2 rfl rfl (Nat.le_of_ble_eq_true rfl) (Nat.le_of_ble_eq_true rfl) (Nat.le_of_ble_eq_true rfl) rfl dX8_floatWith_21 (fun v12 M13 hD14 hp15 => ?_)
  obtain ⟨hp15v, hp15a, hp15k⟩ := hp15
  have hp15v : (1 : Int32) = v12 := hp15v
  subst hp15v
  have n16 : pl1 ∉ [mo] := by
    intro h9; simp only [List.mem_cons, List.not_mem_nil, or_false] at h9
    · exact (In.ne hD h3 h2 (by simp)) h9
  have n17 : pe1 ∉ [mo] := by
    intro h9; simp only [List.mem_cons, List.not_mem_nil, or_false] at h9
    · exact (In.ne hD h4 h2 (by simp)) h9
  have n18 : ta ∉ [mo] := by
    intro h9; simp only [List.mem_cons, List.not_mem_nil, or_false] at h9
    · exact (In.ne hD h5 h2 (by simp)) h9
  have n19 : ka ∉ [mo] := by
    intro h9; simp only [List.mem_cons, List.not_mem_nil, or_false] at h9
    · exact (In.ne hD h6 h2 (by simp)) h9
  have h3 := hp15k _ _ n16 h3
  have h4 := hp15k _ _ n17 h4
  have h5 := hp15k _ _ n18 h5
  have h6 := hp15k _ _ n19 h6
  have h20 : (mo, (.inr (8, [.int 1, .ref pl1, .ref ka, .ref ta]) : va_E)) ∈ M13 := hp15a
  refine j_if_eq F0 31 dX8_floatWith_24 (by decide) (fun h9 => absurd h9 (by decide)) (fun _ => ?_)
  refine j_iconst F0 0 dX8_floatWith_27 (by decide) ?_
  refine j_goto F0 40 dX8_floatWith_28 (by decide) ?_
  have hKp : Kp M [mo, ka] M13 := by
    intro b x hb hx
    have n21 : b ∉ [mo] := by
      intro h9; simp only [List.mem_cons, List.not_mem_nil, or_false] at h9
      · exact (fun c => hb (by rw [c]; simp)) h9
    have hx := hp15k b x n21 hx
    exact hx
  have hKL : KL G M M13 := fun o n f ho => hKp _ _ (by
    intro h9; simp only [List.mem_cons, List.not_mem_nil, or_false] at h9
    rcases h9 with h9 | h9
    · exact In.ne hD ho o1_0 (by simp) h9
    · exact In.ne hD ho o1_6 (by simp) h9
    ) ho
  exact m_ireturn S hRT rfl hQ (Nat.le_of_ble_eq_true rfl) (Nat.le_of_ble_eq_true rfl) dX8_floatWith_40 rfl ⟨_, _, _, h20, hKL, rfl⟩

set_option maxRecDepth 100000 in
set_option maxHeartbeats 4000000 in
theorem r_X8_floatWith_c (l : Launch) (G : RG) (A : Nat → Prop) (M : Wl) {mo ka ta : Nat} {tv : Int32} (x y : Int32) (hg : ¬ EigP x) (hb : EigP y) (hM : Mo G mo ka ta tv M) : Kr l G A yX8_floatWith wbX8_floatWith { frames := 2, cells := 0, slots := 0, locals := 44 } M [.ref mo, .int x, .int y] (Gi G A (fun v N => ∃ pl k9 t9 : Nat, (mo, (.inr (8, [.int 1, .ref pl, .ref k9, .ref t9]) : va_E)) ∈ N ∧ KL G M N ∧ (0 : Int32) = v)) 0 0 := by
  refine Kr.of (cc := cX8_floatWith) (maxL := 3) (ret := (some .int)) (by decide) rfl (Nat.le_of_ble_eq_true rfl) ?_
  intro X hXl S hRT hIN hXA hQ hD
  subst hXl
  subst hXA
  show J (X.at 0 0) 3 (PL G.Z X.A M) 0 [some (.ref mo), some (.int x), some (.int y)] []
  have F0 := S.1.at 0 0 (Nat.le_of_ble_eq_true rfl) (Nat.le_of_ble_eq_true rfl)
  have hOR := S.2.1.or
  obtain ⟨pl1, pe1, f1, kn1, tf1, o1_0, o1_1, o1_2, o1_3, o1_4, o1_5, o1_6, o1_7⟩ := id hM
  have h2 : (mo, (.inr (8, [.int tv, .ref pl1, .ref ka, .ref ta]) : va_E)) ∈ M := o1_0
  have h3 : (pl1, (.inr (10, [.int 10, .ref pe1, .int 10]) : va_E)) ∈ M := o1_1
  have h4 : (pe1, (.inl (G.cO, 10, .inr (.inr (.inr (.inr f1)))) : va_E)) ∈ M := o1_2
  have h5 : (ta, (.inl (G.Z.cI, 8, .inl tf1) : va_E)) ∈ M := o1_4
  have h6 : (ka, (.inl (G.cR, 10, .inr (.inr (.inr (.inr kn1)))) : va_E)) ∈ M := o1_6
  have hDo7 := hD
  refine j_aload_n F0 dX8_floatWith_0 rfl ?_
  refine j_iload_n F0 dX8_floatWith_1 rfl ?_
  refine m_cSi S (n1 := 1) (rest := [.ref mo]) (r_X8_isNoEight X.l G X.A M x) ⟨_, _, _, _, rfl, (gBS kB_X8_isNoEight (by decide +kernel)), rfl, rfl, (by decide +kernel), ⟨(Nat.le_of_ble_eq_true rfl), (Nat.le_of_ble_eq_true rfl)⟩⟩ rfl (Nat.le_of_ble_eq_true rfl) (Nat.le_of_ble_eq_true rfl) (Nat.le_of_ble_eq_true rfl) rfl dX8_floatWith_2 (fun v8 M9 hD10 hp11 => ?_)
  obtain ⟨hp11a, hp11b⟩ := hp11
  subst hp11a
  subst hp11b
  refine j_if_ne F0 15 dX8_floatWith_5 (by decide) (fun h9 => absurd (if0.mpr hg) h9) (fun _ => ?_)
  refine j_iload_n F0 dX8_floatWith_8 rfl ?_
  refine m_cSi S (n1 := 1) (rest := [.ref mo]) (r_X8_isNoEight X.l G X.A M y) ⟨_, _, _, _, rfl, (gBS kB_X8_isNoEight (by decide +kernel)), rfl, rfl, (by decide +kernel), ⟨(Nat.le_of_ble_eq_true rfl), (Nat.le_of_ble_eq_true rfl)⟩⟩ rfl (Nat.le_of_ble_eq_true rfl) (Nat.le_of_ble_eq_true rfl) (Nat.le_of_ble_eq_true rfl) rfl dX8_floatWith_9 (fun v12 M13 hD14 hp15 => ?_)
  obtain ⟨hp15a, hp15b⟩ := hp15
  subst hp15a
  subst hp15b
  refine j_if_eq F0 19 dX8_floatWith_12 (by decide) (fun h9 => absurd h9 (fun h9 => if1.mpr hb h9)) (fun _ => ?_)
  refine j_iconst F0 1 dX8_floatWith_15 (by decide) ?_
  refine j_goto F0 20 dX8_floatWith_16 (by decide) ?_
  refine j_iconst F0 1 dX8_floatWith_20 (by decide) ?_
  refine m_cVi S (n1 := 2) (rest := []) (r_X8_start X.l G X.A M (c := True) 1 (by decide) h2) ⟨_, _, _, _, rfl, (gBV kB_X8_start (by decide +kernel)), rfl, rfl, (by decide +kernel), ⟨(Nat.le_of_ble_eq_true rfl), (Nat.le_of_ble_eq_true rfl)⟩⟩ h2 rfl rfl (Nat.le_of_ble_eq_true rfl) (Nat.le_of_ble_eq_true rfl) (Nat.le_of_ble_eq_true rfl) rfl dX8_floatWith_21 (fun v16 M17 hD18 hp19 => ?_)
  obtain ⟨hp19v, hp19a, hp19k⟩ := hp19
  have hp19v : (1 : Int32) = v16 := hp19v
  subst hp19v
  have n20 : pl1 ∉ [mo] := by
    intro h9; simp only [List.mem_cons, List.not_mem_nil, or_false] at h9
    · exact (In.ne hD h3 h2 (by simp)) h9
  have n21 : pe1 ∉ [mo] := by
    intro h9; simp only [List.mem_cons, List.not_mem_nil, or_false] at h9
    · exact (In.ne hD h4 h2 (by simp)) h9
  have n22 : ta ∉ [mo] := by
    intro h9; simp only [List.mem_cons, List.not_mem_nil, or_false] at h9
    · exact (In.ne hD h5 h2 (by simp)) h9
  have n23 : ka ∉ [mo] := by
    intro h9; simp only [List.mem_cons, List.not_mem_nil, or_false] at h9
    · exact (In.ne hD h6 h2 (by simp)) h9
  have h3 := hp19k _ _ n20 h3
  have h4 := hp19k _ _ n21 h4
  have h5 := hp19k _ _ n22 h5
  have h6 := hp19k _ _ n23 h6
  have h24 : (mo, (.inr (8, [.int 1, .ref pl1, .ref ka, .ref ta]) : va_E)) ∈ M17 := hp19a
  refine j_if_eq F0 31 dX8_floatWith_24 (by decide) (fun h9 => absurd h9 (by decide)) (fun _ => ?_)
  refine j_iconst F0 0 dX8_floatWith_27 (by decide) ?_
  refine j_goto F0 40 dX8_floatWith_28 (by decide) ?_
  have hKp : Kp M [mo, ka] M17 := by
    intro b x hb hx
    have n25 : b ∉ [mo] := by
      intro h9; simp only [List.mem_cons, List.not_mem_nil, or_false] at h9
      · exact (fun c => hb (by rw [c]; simp)) h9
    have hx := hp19k b x n25 hx
    exact hx
  have hKL : KL G M M17 := fun o n f ho => hKp _ _ (by
    intro h9; simp only [List.mem_cons, List.not_mem_nil, or_false] at h9
    rcases h9 with h9 | h9
    · exact In.ne hD ho o1_0 (by simp) h9
    · exact In.ne hD ho o1_6 (by simp) h9
    ) ho
  exact m_ireturn S hRT rfl hQ (Nat.le_of_ble_eq_true rfl) (Nat.le_of_ble_eq_true rfl) dX8_floatWith_40 rfl ⟨_, _, _, h24, hKL, rfl⟩

set_option maxRecDepth 100000 in
set_option maxHeartbeats 4000000 in
theorem r_X8_hangsWith_b (l : Launch) (G : RG) (A : Nat → Prop) (M : Wl) {mo ka ta : Nat} {tv : Int32} (x : Int32) (hb : EigP x) (y : Int32) (hM : Mo G mo ka ta tv M) : Kr l G A yX8_hangsWith wbX8_hangsWith { frames := 2, cells := 0, slots := 0, locals := 44 } M [.ref mo, .int x, .int y] (Gi G A (fun v N => ∃ pl k9 t9 : Nat, (mo, (.inr (8, [.int 1, .ref pl, .ref k9, .ref t9]) : va_E)) ∈ N ∧ KL G M N ∧ (0 : Int32) = v)) 0 0 := by
  refine Kr.of (cc := cX8_hangsWith) (maxL := 3) (ret := (some .boolean)) (by decide) rfl (Nat.le_of_ble_eq_true rfl) ?_
  intro X hXl S hRT hIN hXA hQ hD
  subst hXl
  subst hXA
  show J (X.at 0 0) 3 (PL G.Z X.A M) 0 [some (.ref mo), some (.int x), some (.int y)] []
  have F0 := S.1.at 0 0 (Nat.le_of_ble_eq_true rfl) (Nat.le_of_ble_eq_true rfl)
  have hOR := S.2.1.or
  obtain ⟨pl1, pe1, f1, kn1, tf1, o1_0, o1_1, o1_2, o1_3, o1_4, o1_5, o1_6, o1_7⟩ := id hM
  have h2 : (mo, (.inr (8, [.int tv, .ref pl1, .ref ka, .ref ta]) : va_E)) ∈ M := o1_0
  have h3 : (pl1, (.inr (10, [.int 10, .ref pe1, .int 10]) : va_E)) ∈ M := o1_1
  have h4 : (pe1, (.inl (G.cO, 10, .inr (.inr (.inr (.inr f1)))) : va_E)) ∈ M := o1_2
  have h5 : (ta, (.inl (G.Z.cI, 8, .inl tf1) : va_E)) ∈ M := o1_4
  have h6 : (ka, (.inl (G.cR, 10, .inr (.inr (.inr (.inr kn1)))) : va_E)) ∈ M := o1_6
  have hDo7 := hD
  refine j_aload_n F0 dX8_hangsWith_0 rfl ?_
  refine j_iload_n F0 dX8_hangsWith_1 rfl ?_
  refine m_cSi S (n1 := 1) (rest := [.ref mo]) (r_X8_isNoEight X.l G X.A M x) ⟨_, _, _, _, rfl, (gBS kB_X8_isNoEight (by decide +kernel)), rfl, rfl, (by decide +kernel), ⟨(Nat.le_of_ble_eq_true rfl), (Nat.le_of_ble_eq_true rfl)⟩⟩ rfl (Nat.le_of_ble_eq_true rfl) (Nat.le_of_ble_eq_true rfl) (Nat.le_of_ble_eq_true rfl) rfl dX8_hangsWith_2 (fun v8 M9 hD10 hp11 => ?_)
  obtain ⟨hp11a, hp11b⟩ := hp11
  subst hp11a
  subst hp11b
  refine j_if_ne F0 15 dX8_hangsWith_5 (by decide) (fun _ => ?_) (fun h9 => absurd h9 (if1.mpr hb))
  refine j_iconst F0 1 dX8_hangsWith_15 (by decide) ?_
  refine j_goto F0 20 dX8_hangsWith_16 (by decide) ?_
  refine j_iconst F0 1 dX8_hangsWith_20 (by decide) ?_
  refine m_cVi S (n1 := 2) (rest := []) (r_X8_start X.l G X.A M (c := True) 1 (by decide) h2) ⟨_, _, _, _, rfl, (gBV kB_X8_start (by decide +kernel)), rfl, rfl, (by decide +kernel), ⟨(Nat.le_of_ble_eq_true rfl), (Nat.le_of_ble_eq_true rfl)⟩⟩ h2 rfl rfl (Nat.le_of_ble_eq_true rfl) (Nat.le_of_ble_eq_true rfl) (Nat.le_of_ble_eq_true rfl) rfl dX8_hangsWith_21 (fun v12 M13 hD14 hp15 => ?_)
  obtain ⟨hp15v, hp15a, hp15k⟩ := hp15
  have hp15v : (1 : Int32) = v12 := hp15v
  subst hp15v
  have n16 : pl1 ∉ [mo] := by
    intro h9; simp only [List.mem_cons, List.not_mem_nil, or_false] at h9
    · exact (In.ne hD h3 h2 (by simp)) h9
  have n17 : pe1 ∉ [mo] := by
    intro h9; simp only [List.mem_cons, List.not_mem_nil, or_false] at h9
    · exact (In.ne hD h4 h2 (by simp)) h9
  have n18 : ta ∉ [mo] := by
    intro h9; simp only [List.mem_cons, List.not_mem_nil, or_false] at h9
    · exact (In.ne hD h5 h2 (by simp)) h9
  have n19 : ka ∉ [mo] := by
    intro h9; simp only [List.mem_cons, List.not_mem_nil, or_false] at h9
    · exact (In.ne hD h6 h2 (by simp)) h9
  have h3 := hp15k _ _ n16 h3
  have h4 := hp15k _ _ n17 h4
  have h5 := hp15k _ _ n18 h5
  have h6 := hp15k _ _ n19 h6
  have h20 : (mo, (.inr (8, [.int 1, .ref pl1, .ref ka, .ref ta]) : va_E)) ∈ M13 := hp15a
  refine j_if_ne F0 43 dX8_hangsWith_24 (by decide) (fun _ => ?_) (fun h9 => absurd h9 (by decide))
  refine j_iconst F0 0 dX8_hangsWith_43 (by decide) ?_
  have hKp : Kp M [mo, ka] M13 := by
    intro b x hb hx
    have n21 : b ∉ [mo] := by
      intro h9; simp only [List.mem_cons, List.not_mem_nil, or_false] at h9
      · exact (fun c => hb (by rw [c]; simp)) h9
    have hx := hp15k b x n21 hx
    exact hx
  have hKL : KL G M M13 := fun o n f ho => hKp _ _ (by
    intro h9; simp only [List.mem_cons, List.not_mem_nil, or_false] at h9
    rcases h9 with h9 | h9
    · exact In.ne hD ho o1_0 (by simp) h9
    · exact In.ne hD ho o1_6 (by simp) h9
    ) ho
  exact m_ireturn S hRT rfl hQ (Nat.le_of_ble_eq_true rfl) (Nat.le_of_ble_eq_true rfl) dX8_hangsWith_44 rfl ⟨_, _, _, h20, hKL, rfl⟩

set_option maxRecDepth 100000 in
set_option maxHeartbeats 4000000 in
theorem r_X8_hangsWith_c (l : Launch) (G : RG) (A : Nat → Prop) (M : Wl) {mo ka ta : Nat} {tv : Int32} (x y : Int32) (hg : ¬ EigP x) (hb : EigP y) (hM : Mo G mo ka ta tv M) : Kr l G A yX8_hangsWith wbX8_hangsWith { frames := 2, cells := 0, slots := 0, locals := 44 } M [.ref mo, .int x, .int y] (Gi G A (fun v N => ∃ pl k9 t9 : Nat, (mo, (.inr (8, [.int 1, .ref pl, .ref k9, .ref t9]) : va_E)) ∈ N ∧ KL G M N ∧ (0 : Int32) = v)) 0 0 := by
  refine Kr.of (cc := cX8_hangsWith) (maxL := 3) (ret := (some .boolean)) (by decide) rfl (Nat.le_of_ble_eq_true rfl) ?_
  intro X hXl S hRT hIN hXA hQ hD
  subst hXl
  subst hXA
  show J (X.at 0 0) 3 (PL G.Z X.A M) 0 [some (.ref mo), some (.int x), some (.int y)] []
  have F0 := S.1.at 0 0 (Nat.le_of_ble_eq_true rfl) (Nat.le_of_ble_eq_true rfl)
  have hOR := S.2.1.or
  obtain ⟨pl1, pe1, f1, kn1, tf1, o1_0, o1_1, o1_2, o1_3, o1_4, o1_5, o1_6, o1_7⟩ := id hM
  have h2 : (mo, (.inr (8, [.int tv, .ref pl1, .ref ka, .ref ta]) : va_E)) ∈ M := o1_0
  have h3 : (pl1, (.inr (10, [.int 10, .ref pe1, .int 10]) : va_E)) ∈ M := o1_1
  have h4 : (pe1, (.inl (G.cO, 10, .inr (.inr (.inr (.inr f1)))) : va_E)) ∈ M := o1_2
  have h5 : (ta, (.inl (G.Z.cI, 8, .inl tf1) : va_E)) ∈ M := o1_4
  have h6 : (ka, (.inl (G.cR, 10, .inr (.inr (.inr (.inr kn1)))) : va_E)) ∈ M := o1_6
  have hDo7 := hD
  refine j_aload_n F0 dX8_hangsWith_0 rfl ?_
  refine j_iload_n F0 dX8_hangsWith_1 rfl ?_
  refine m_cSi S (n1 := 1) (rest := [.ref mo]) (r_X8_isNoEight X.l G X.A M x) ⟨_, _, _, _, rfl, (gBS kB_X8_isNoEight (by decide +kernel)), rfl, rfl, (by decide +kernel), ⟨(Nat.le_of_ble_eq_true rfl), (Nat.le_of_ble_eq_true rfl)⟩⟩ rfl (Nat.le_of_ble_eq_true rfl) (Nat.le_of_ble_eq_true rfl) (Nat.le_of_ble_eq_true rfl) rfl dX8_hangsWith_2 (fun v8 M9 hD10 hp11 => ?_)
  obtain ⟨hp11a, hp11b⟩ := hp11
  subst hp11a
  subst hp11b
  refine j_if_ne F0 15 dX8_hangsWith_5 (by decide) (fun h9 => absurd (if0.mpr hg) h9) (fun _ => ?_)
  refine j_iload_n F0 dX8_hangsWith_8 rfl ?_
  refine m_cSi S (n1 := 1) (rest := [.ref mo]) (r_X8_isNoEight X.l G X.A M y) ⟨_, _, _, _, rfl, (gBS kB_X8_isNoEight (by decide +kernel)), rfl, rfl, (by decide +kernel), ⟨(Nat.le_of_ble_eq_true rfl), (Nat.le_of_ble_eq_true rfl)⟩⟩ rfl (Nat.le_of_ble_eq_true rfl) (Nat.le_of_ble_eq_true rfl) (Nat.le_of_ble_eq_true rfl) rfl dX8_hangsWith_9 (fun v12 M13 hD14 hp15 => ?_)
  obtain ⟨hp15a, hp15b⟩ := hp15
  subst hp15a
  subst hp15b
  refine j_if_eq F0 19 dX8_hangsWith_12 (by decide) (fun h9 => absurd h9 (fun h9 => if1.mpr hb h9)) (fun _ => ?_)
  refine j_iconst F0 1 dX8_hangsWith_15 (by decide) ?_
  refine j_goto F0 20 dX8_hangsWith_16 (by decide) ?_
  refine j_iconst F0 1 dX8_hangsWith_20 (by decide) ?_
  refine m_cVi S (n1 := 2) (rest := []) (r_X8_start X.l G X.A M (c := True) 1 (by decide) h2) ⟨_, _, _, _, rfl, (gBV kB_X8_start (by decide +kernel)), rfl, rfl, (by decide +kernel), ⟨(Nat.le_of_ble_eq_true rfl), (Nat.le_of_ble_eq_true rfl)⟩⟩ h2 rfl rfl (Nat.le_of_ble_eq_true rfl) (Nat.le_of_ble_eq_true rfl) (Nat.le_of_ble_eq_true rfl) rfl dX8_hangsWith_21 (fun v16 M17 hD18 hp19 => ?_)
  obtain ⟨hp19v, hp19a, hp19k⟩ := hp19
  have hp19v : (1 : Int32) = v16 := hp19v
  subst hp19v
  have n20 : pl1 ∉ [mo] := by
    intro h9; simp only [List.mem_cons, List.not_mem_nil, or_false] at h9
    · exact (In.ne hD h3 h2 (by simp)) h9
  have n21 : pe1 ∉ [mo] := by
    intro h9; simp only [List.mem_cons, List.not_mem_nil, or_false] at h9
    · exact (In.ne hD h4 h2 (by simp)) h9
  have n22 : ta ∉ [mo] := by
    intro h9; simp only [List.mem_cons, List.not_mem_nil, or_false] at h9
    · exact (In.ne hD h5 h2 (by simp)) h9
  have n23 : ka ∉ [mo] := by
    intro h9; simp only [List.mem_cons, List.not_mem_nil, or_false] at h9
    · exact (In.ne hD h6 h2 (by simp)) h9
  have h3 := hp19k _ _ n20 h3
  have h4 := hp19k _ _ n21 h4
  have h5 := hp19k _ _ n22 h5
  have h6 := hp19k _ _ n23 h6
  have h24 : (mo, (.inr (8, [.int 1, .ref pl1, .ref ka, .ref ta]) : va_E)) ∈ M17 := hp19a
  refine j_if_ne F0 43 dX8_hangsWith_24 (by decide) (fun _ => ?_) (fun h9 => absurd h9 (by decide))
  refine j_iconst F0 0 dX8_hangsWith_43 (by decide) ?_
  have hKp : Kp M [mo, ka] M17 := by
    intro b x hb hx
    have n25 : b ∉ [mo] := by
      intro h9; simp only [List.mem_cons, List.not_mem_nil, or_false] at h9
      · exact (fun c => hb (by rw [c]; simp)) h9
    have hx := hp19k b x n25 hx
    exact hx
  have hKL : KL G M M17 := fun o n f ho => hKp _ _ (by
    intro h9; simp only [List.mem_cons, List.not_mem_nil, or_false] at h9
    rcases h9 with h9 | h9
    · exact In.ne hD ho o1_0 (by simp) h9
    · exact In.ne hD ho o1_6 (by simp) h9
    ) ho
  exact m_ireturn S hRT rfl hQ (Nat.le_of_ble_eq_true rfl) (Nat.le_of_ble_eq_true rfl) dX8_hangsWith_44 rfl ⟨_, _, _, h24, hKL, rfl⟩

set_option maxRecDepth 100000 in
set_option maxHeartbeats 4000000 in
theorem r_X8_changedBy_b (l : Launch) (G : RG) (A : Nat → Prop) (M : Wl) {mo ka ta : Nat} {tv : Int32} (x : Int32) (hb : EigP x) (y : Int32) (hM : Mo G mo ka ta tv M) : Kr l G A yX8_changedBy wbX8_changedBy { frames := 2, cells := 0, slots := 0, locals := 44 } M [.ref mo, .int x, .int y] (Gi G A (fun v N => ∃ pl k9 t9 : Nat, (mo, (.inr (8, [.int 1, .ref pl, .ref k9, .ref t9]) : va_E)) ∈ N ∧ KL G M N ∧ (0 : Int32) = v)) 0 0 := by
  refine Kr.of (cc := cX8_changedBy) (maxL := 8) (ret := (some .int)) (by decide) rfl (Nat.le_of_ble_eq_true rfl) ?_
  intro X hXl S hRT hIN hXA hQ hD
  subst hXl
  subst hXA
  show J (X.at 0 0) 8 (PL G.Z X.A M) 0 [some (.ref mo), some (.int x), some (.int y), none, none, none, none, none] []
  have F0 := S.1.at 0 0 (Nat.le_of_ble_eq_true rfl) (Nat.le_of_ble_eq_true rfl)
  have hOR := S.2.1.or
  obtain ⟨pl1, pe1, f1, kn1, tf1, o1_0, o1_1, o1_2, o1_3, o1_4, o1_5, o1_6, o1_7⟩ := id hM
  have h2 : (mo, (.inr (8, [.int tv, .ref pl1, .ref ka, .ref ta]) : va_E)) ∈ M := o1_0
  have h3 : (pl1, (.inr (10, [.int 10, .ref pe1, .int 10]) : va_E)) ∈ M := o1_1
  have h4 : (pe1, (.inl (G.cO, 10, .inr (.inr (.inr (.inr f1)))) : va_E)) ∈ M := o1_2
  have h5 : (ta, (.inl (G.Z.cI, 8, .inl tf1) : va_E)) ∈ M := o1_4
  have h6 : (ka, (.inl (G.cR, 10, .inr (.inr (.inr (.inr kn1)))) : va_E)) ∈ M := o1_6
  have hDo7 := hD
  refine j_aload_n F0 dX8_changedBy_0 rfl ?_
  refine j_iload_n F0 dX8_changedBy_1 rfl ?_
  refine m_cSi S (n1 := 1) (rest := [.ref mo]) (r_X8_isNoEight X.l G X.A M x) ⟨_, _, _, _, rfl, (gBS kB_X8_isNoEight (by decide +kernel)), rfl, rfl, (by decide +kernel), ⟨(Nat.le_of_ble_eq_true rfl), (Nat.le_of_ble_eq_true rfl)⟩⟩ rfl (Nat.le_of_ble_eq_true rfl) (Nat.le_of_ble_eq_true rfl) (Nat.le_of_ble_eq_true rfl) rfl dX8_changedBy_2 (fun v8 M9 hD10 hp11 => ?_)
  obtain ⟨hp11a, hp11b⟩ := hp11
  subst hp11a
  subst hp11b
  refine j_if_ne F0 15 dX8_changedBy_5 (by decide) (fun _ => ?_) (fun h9 => absurd h9 (if1.mpr hb))
  refine j_iconst F0 1 dX8_changedBy_15 (by decide) ?_
  refine j_goto F0 20 dX8_changedBy_16 (by decide) ?_
  refine j_iconst F0 1 dX8_changedBy_20 (by decide) ?_
  refine m_cVi S (n1 := 2) (rest := []) (r_X8_start X.l G X.A M (c := True) 1 (by decide) h2) ⟨_, _, _, _, rfl, (gBV kB_X8_start (by decide +kernel)), rfl, rfl, (by decide +kernel), ⟨(Nat.le_of_ble_eq_true rfl), (Nat.le_of_ble_eq_true rfl)⟩⟩ h2 rfl rfl (Nat.le_of_ble_eq_true rfl) (Nat.le_of_ble_eq_true rfl) (Nat.le_of_ble_eq_true rfl) rfl dX8_changedBy_21 (fun v12 M13 hD14 hp15 => ?_)
  obtain ⟨hp15v, hp15a, hp15k⟩ := hp15
  have hp15v : (1 : Int32) = v12 := hp15v
  subst hp15v
  have n16 : pl1 ∉ [mo] := by
    intro h9; simp only [List.mem_cons, List.not_mem_nil, or_false] at h9
    · exact (In.ne hD h3 h2 (by simp)) h9
  have n17 : pe1 ∉ [mo] := by
    intro h9; simp only [List.mem_cons, List.not_mem_nil, or_false] at h9
    · exact (In.ne hD h4 h2 (by simp)) h9
  have n18 : ta ∉ [mo] := by
    intro h9; simp only [List.mem_cons, List.not_mem_nil, or_false] at h9
    · exact (In.ne hD h5 h2 (by simp)) h9
  have n19 : ka ∉ [mo] := by
    intro h9; simp only [List.mem_cons, List.not_mem_nil, or_false] at h9
    · exact (In.ne hD h6 h2 (by simp)) h9
  have h3 := hp15k _ _ n16 h3
  have h4 := hp15k _ _ n17 h4
  have h5 := hp15k _ _ n18 h5
  have h6 := hp15k _ _ n19 h6
  have h20 : (mo, (.inr (8, [.int 1, .ref pl1, .ref ka, .ref ta]) : va_E)) ∈ M13 := hp15a
  refine j_if_eq F0 29 dX8_changedBy_24 (by decide) (fun h9 => absurd h9 (by decide)) (fun _ => ?_)
  refine j_iconst F0 0 dX8_changedBy_27 (by decide) ?_
  have hKp : Kp M [mo, ka] M13 := by
    intro b x hb hx
    have n21 : b ∉ [mo] := by
      intro h9; simp only [List.mem_cons, List.not_mem_nil, or_false] at h9
      · exact (fun c => hb (by rw [c]; simp)) h9
    have hx := hp15k b x n21 hx
    exact hx
  have hKL : KL G M M13 := fun o n f ho => hKp _ _ (by
    intro h9; simp only [List.mem_cons, List.not_mem_nil, or_false] at h9
    rcases h9 with h9 | h9
    · exact In.ne hD ho o1_0 (by simp) h9
    · exact In.ne hD ho o1_6 (by simp) h9
    ) ho
  exact m_ireturn S hRT rfl hQ (Nat.le_of_ble_eq_true rfl) (Nat.le_of_ble_eq_true rfl) dX8_changedBy_28 rfl ⟨_, _, _, h20, hKL, rfl⟩

set_option maxRecDepth 100000 in
set_option maxHeartbeats 4000000 in
theorem r_X8_changedBy_c (l : Launch) (G : RG) (A : Nat → Prop) (M : Wl) {mo ka ta : Nat} {tv : Int32} (x y : Int32) (hg : ¬ EigP x) (hb : EigP y) (hM : Mo G mo ka ta tv M) : Kr l G A yX8_changedBy wbX8_changedBy { frames := 2, cells := 0, slots := 0, locals := 44 } M [.ref mo, .int x, .int y] (Gi G A (fun v N => ∃ pl k9 t9 : Nat, (mo, (.inr (8, [.int 1, .ref pl, .ref k9, .ref t9]) : va_E)) ∈ N ∧ KL G M N ∧ (0 : Int32) = v)) 0 0 := by
  refine Kr.of (cc := cX8_changedBy) (maxL := 8) (ret := (some .int)) (by decide) rfl (Nat.le_of_ble_eq_true rfl) ?_
  intro X hXl S hRT hIN hXA hQ hD
  subst hXl
  subst hXA
  show J (X.at 0 0) 8 (PL G.Z X.A M) 0 [some (.ref mo), some (.int x), some (.int y), none, none, none, none, none] []
  have F0 := S.1.at 0 0 (Nat.le_of_ble_eq_true rfl) (Nat.le_of_ble_eq_true rfl)
  have hOR := S.2.1.or
  obtain ⟨pl1, pe1, f1, kn1, tf1, o1_0, o1_1, o1_2, o1_3, o1_4, o1_5, o1_6, o1_7⟩ := id hM
  have h2 : (mo, (.inr (8, [.int tv, .ref pl1, .ref ka, .ref ta]) : va_E)) ∈ M := o1_0
  have h3 : (pl1, (.inr (10, [.int 10, .ref pe1, .int 10]) : va_E)) ∈ M := o1_1
  have h4 : (pe1, (.inl (G.cO, 10, .inr (.inr (.inr (.inr f1)))) : va_E)) ∈ M := o1_2
  have h5 : (ta, (.inl (G.Z.cI, 8, .inl tf1) : va_E)) ∈ M := o1_4
  have h6 : (ka, (.inl (G.cR, 10, .inr (.inr (.inr (.inr kn1)))) : va_E)) ∈ M := o1_6
  have hDo7 := hD
  refine j_aload_n F0 dX8_changedBy_0 rfl ?_
  refine j_iload_n F0 dX8_changedBy_1 rfl ?_
  refine m_cSi S (n1 := 1) (rest := [.ref mo]) (r_X8_isNoEight X.l G X.A M x) ⟨_, _, _, _, rfl, (gBS kB_X8_isNoEight (by decide +kernel)), rfl, rfl, (by decide +kernel), ⟨(Nat.le_of_ble_eq_true rfl), (Nat.le_of_ble_eq_true rfl)⟩⟩ rfl (Nat.le_of_ble_eq_true rfl) (Nat.le_of_ble_eq_true rfl) (Nat.le_of_ble_eq_true rfl) rfl dX8_changedBy_2 (fun v8 M9 hD10 hp11 => ?_)
  obtain ⟨hp11a, hp11b⟩ := hp11
  subst hp11a
  subst hp11b
  refine j_if_ne F0 15 dX8_changedBy_5 (by decide) (fun h9 => absurd (if0.mpr hg) h9) (fun _ => ?_)
  refine j_iload_n F0 dX8_changedBy_8 rfl ?_
  refine m_cSi S (n1 := 1) (rest := [.ref mo]) (r_X8_isNoEight X.l G X.A M y) ⟨_, _, _, _, rfl, (gBS kB_X8_isNoEight (by decide +kernel)), rfl, rfl, (by decide +kernel), ⟨(Nat.le_of_ble_eq_true rfl), (Nat.le_of_ble_eq_true rfl)⟩⟩ rfl (Nat.le_of_ble_eq_true rfl) (Nat.le_of_ble_eq_true rfl) (Nat.le_of_ble_eq_true rfl) rfl dX8_changedBy_9 (fun v12 M13 hD14 hp15 => ?_)
  obtain ⟨hp15a, hp15b⟩ := hp15
  subst hp15a
  subst hp15b
  refine j_if_eq F0 19 dX8_changedBy_12 (by decide) (fun h9 => absurd h9 (fun h9 => if1.mpr hb h9)) (fun _ => ?_)
  refine j_iconst F0 1 dX8_changedBy_15 (by decide) ?_
  refine j_goto F0 20 dX8_changedBy_16 (by decide) ?_
  refine j_iconst F0 1 dX8_changedBy_20 (by decide) ?_
  refine m_cVi S (n1 := 2) (rest := []) (r_X8_start X.l G X.A M (c := True) 1 (by decide) h2) ⟨_, _, _, _, rfl, (gBV kB_X8_start (by decide +kernel)), rfl, rfl, (by decide +kernel), ⟨(Nat.le_of_ble_eq_true rfl), (Nat.le_of_ble_eq_true rfl)⟩⟩ h2 rfl rfl (Nat.le_of_ble_eq_true rfl) (Nat.le_of_ble_eq_true rfl) (Nat.le_of_ble_eq_true rfl) rfl dX8_changedBy_21 (fun v16 M17 hD18 hp19 => ?_)
  obtain ⟨hp19v, hp19a, hp19k⟩ := hp19
  have hp19v : (1 : Int32) = v16 := hp19v
  subst hp19v
  have n20 : pl1 ∉ [mo] := by
    intro h9; simp only [List.mem_cons, List.not_mem_nil, or_false] at h9
    · exact (In.ne hD h3 h2 (by simp)) h9
  have n21 : pe1 ∉ [mo] := by
    intro h9; simp only [List.mem_cons, List.not_mem_nil, or_false] at h9
    · exact (In.ne hD h4 h2 (by simp)) h9
  have n22 : ta ∉ [mo] := by
    intro h9; simp only [List.mem_cons, List.not_mem_nil, or_false] at h9
    · exact (In.ne hD h5 h2 (by simp)) h9
  have n23 : ka ∉ [mo] := by
    intro h9; simp only [List.mem_cons, List.not_mem_nil, or_false] at h9
    · exact (In.ne hD h6 h2 (by simp)) h9
  have h3 := hp19k _ _ n20 h3
  have h4 := hp19k _ _ n21 h4
  have h5 := hp19k _ _ n22 h5
  have h6 := hp19k _ _ n23 h6
  have h24 : (mo, (.inr (8, [.int 1, .ref pl1, .ref ka, .ref ta]) : va_E)) ∈ M17 := hp19a
  refine j_if_eq F0 29 dX8_changedBy_24 (by decide) (fun h9 => absurd h9 (by decide)) (fun _ => ?_)
  refine j_iconst F0 0 dX8_changedBy_27 (by decide) ?_
  have hKp : Kp M [mo, ka] M17 := by
    intro b x hb hx
    have n25 : b ∉ [mo] := by
      intro h9; simp only [List.mem_cons, List.not_mem_nil, or_false] at h9
      · exact (fun c => hb (by rw [c]; simp)) h9
    have hx := hp19k b x n25 hx
    exact hx
  have hKL : KL G M M17 := fun o n f ho => hKp _ _ (by
    intro h9; simp only [List.mem_cons, List.not_mem_nil, or_false] at h9
    rcases h9 with h9 | h9
    · exact In.ne hD ho o1_0 (by simp) h9
    · exact In.ne hD ho o1_6 (by simp) h9
    ) ho
  exact m_ireturn S hRT rfl hQ (Nat.le_of_ble_eq_true rfl) (Nat.le_of_ble_eq_true rfl) dX8_changedBy_28 rfl ⟨_, _, _, h24, hKL, rfl⟩
