set_option maxRecDepth 100000 in
set_option maxHeartbeats 4000000 in
theorem r_X8_thrown (l : Launch) (G : RG) (A : Nat → Prop) (M : Wl) {mo pl ka ta : Nat} {tv : Int32} (h0 : (mo, .inr (8, [.int tv, .ref pl, .ref ka, .ref ta])) ∈ M) : Kr l G A yX8_thrown wsX8_thrown { frames := 0, cells := 0, slots := 0, locals := 0 } M [.ref mo] (Gi G A (fun v N => tv = v ∧ M = N)) 0 0 := by
  refine Kr.of (cc := cX8_thrown) (maxL := 1) (ret := (some .int)) (by decide) rfl (Nat.le_of_ble_eq_true rfl) ?_
  intro X hXl S hRT hIN hXA hQ hD
  subst hXl
  subst hXA
  show J (X.at 0 0) 1 (PL G.Z X.A M) 0 [some (.ref mo)] []
  have F0 := S.1.at 0 0 (Nat.le_of_ble_eq_true rfl) (Nat.le_of_ble_eq_true rfl)
  have hOR := S.2.1.or
  refine j_aload_n F0 dX8_thrown_0 rfl ?_
  refine m_get S (C := RX8) (T := TX8) (N := 4) (by decide +kernel) h0 rfl (v := .int tv) 0 (by decide) (by decide +kernel) (fun _ h9 => h9) rfl dX8_thrown_1 ?_
  exact m_ireturn S hRT rfl hQ (Nat.le_of_ble_eq_true rfl) (Nat.le_of_ble_eq_true rfl) dX8_thrown_4 rfl ⟨rfl, rfl⟩

set_option maxRecDepth 100000 in
set_option maxHeartbeats 4000000 in
theorem r_X8_isIn (l : Launch) (G : RG) (A : Nat → Prop) (M : Wl) (x a b : Int32) : Kr l G A yX8_isIn wsX8_isIn { frames := 0, cells := 0, slots := 0, locals := 0 } M [.int x, .int a, .int b] (Gi G A (fun v N => (if a ≤ x ∧ x ≤ b then (1 : Int32) else 0) = v ∧ M = N)) 0 0 := by
  refine Kr.of (cc := cX8_isIn) (maxL := 3) (ret := (some .boolean)) (by decide) rfl (Nat.le_of_ble_eq_true rfl) ?_
  intro X hXl S hRT hIN hXA hQ hD
  subst hXl
  subst hXA
  show J (X.at 0 0) 3 (PL G.Z X.A M) 0 [some (.int x), some (.int a), some (.int b)] []
  have F0 := S.1.at 0 0 (Nat.le_of_ble_eq_true rfl) (Nat.le_of_ble_eq_true rfl)
  have hOR := S.2.1.or
  refine j_iload_n F0 dX8_isIn_0 rfl ?_
  refine j_iload_n F0 dX8_isIn_1 rfl ?_
  refine j_icmp_lt F0 14 dX8_isIn_2 (by decide) (fun h => ?_) (fun h => ?_)
  · skip
    refine j_iconst F0 0 dX8_isIn_14 (by decide) ?_
    exact m_ireturn S hRT rfl hQ (Nat.le_of_ble_eq_true rfl) (Nat.le_of_ble_eq_true rfl) dX8_isIn_15 rfl ⟨if_neg (fun h9 => absurd h9.1 (Int32.not_le.mpr h)), rfl⟩
  · skip
    refine j_iload_n F0 dX8_isIn_5 rfl ?_
    refine j_iload_n F0 dX8_isIn_6 rfl ?_
    refine j_icmp_gt F0 14 dX8_isIn_7 (by decide) (fun h2 => ?_) (fun h2 => ?_)
    · skip
      refine j_iconst F0 0 dX8_isIn_14 (by decide) ?_
      exact m_ireturn S hRT rfl hQ (Nat.le_of_ble_eq_true rfl) (Nat.le_of_ble_eq_true rfl) dX8_isIn_15 rfl ⟨if_neg (fun h9 => absurd h9.2 (Int32.not_le.mpr h2)), rfl⟩
    · skip
      refine j_iconst F0 1 dX8_isIn_10 (by decide) ?_
      refine j_goto F0 15 dX8_isIn_11 (by decide) ?_
      exact m_ireturn S hRT rfl hQ (Nat.le_of_ble_eq_true rfl) (Nat.le_of_ble_eq_true rfl) dX8_isIn_15 rfl ⟨if_pos ⟨Int32.not_lt.mp h, Int32.not_lt.mp h2⟩, rfl⟩

set_option maxRecDepth 100000 in
set_option maxHeartbeats 4000000 in
theorem r_X8_refuse (l : Launch) (G : RG) (A : Nat → Prop) (M : Wl) {mo pl ka ta : Nat} {c : Prop} [Decidable c] (x : Int32) (hx : 0 < x) (h0 : (mo, .inr (8, [.int 0, .ref pl, .ref ka, .ref ta])) ∈ M) : Kr l G A yX8_refuse wsX8_refuse { frames := 0, cells := 0, slots := 0, locals := 0 } M [.ref mo, .int (if c then (1 : Int32) else 0), .int x] (Gi G A (fun v N => (if c then (1 : Int32) else 0) = v ∧ (mo, (.inr (8, [.int (if c then x else 0), .ref pl, .ref ka, .ref ta]) : va_E)) ∈ N ∧ Kp M [mo] N)) 0 0 := by
  refine Kr.of (cc := cX8_refuse) (maxL := 3) (ret := (some .boolean)) (by decide) rfl (Nat.le_of_ble_eq_true rfl) ?_
  intro X hXl S hRT hIN hXA hQ hD
  subst hXl
  subst hXA
  show J (X.at 0 0) 3 (PL G.Z X.A M) 0 [some (.ref mo), some (.int (if c then (1 : Int32) else 0)), some (.int x)] []
  have F0 := S.1.at 0 0 (Nat.le_of_ble_eq_true rfl) (Nat.le_of_ble_eq_true rfl)
  have hOR := S.2.1.or
  by_cases hc : c
  · skip
    rw [if_pos hc]
    simp only [if_pos hc] at hQ
    show J (X.at 0 0) 3 (PL G.Z X.A M) 0 [some (.ref mo), some (.int 1), some (.int x)] []
    refine j_iload_n F0 dX8_refuse_0 rfl ?_
    refine j_if_eq F0 16 dX8_refuse_1 (by decide) (fun h9 => absurd h9 (by decide)) (fun _ => ?_)
    refine j_aload_n F0 dX8_refuse_4 rfl ?_
    refine m_get S (C := RX8) (T := TX8) (N := 4) (by decide +kernel) h0 rfl (v := .int 0) 0 (by decide) (by decide +kernel) (fun _ h9 => h9) rfl dX8_refuse_5 ?_
    refine j_if_ne F0 16 dX8_refuse_8 (by decide) (fun h9 => absurd (by decide) h9) (fun _ => ?_)
    refine j_aload_n F0 dX8_refuse_11 rfl ?_
    refine j_iload_n F0 dX8_refuse_12 rfl ?_
    refine m_put S (C := RX8) (T := TX8) (N := 4) (v := .int x) (ty := .int) tyX8 tyX8_ok nmX8 (by decide +kernel) h0 rfl 0 (by decide) (by decide +kernel) (fun _ h9 => h9) rfl (by decide +kernel) rfl rfl (Nat.le_of_ble_eq_true rfl) dX8_refuse_13 (fun M2 hD3 hU1 => ?_)
    have hU1 : Up M mo (.inr (8, [.int x, .ref pl, .ref ka, .ref ta])) M2 := hU1
    have h0 := hU1.1
    refine j_aload_n F0 dX8_refuse_16 rfl ?_
    refine m_get S (C := RX8) (T := TX8) (N := 4) (by decide +kernel) h0 rfl (v := .int x) 0 (by decide) (by decide +kernel) (fun _ h9 => h9) rfl dX8_refuse_17 ?_
    refine j_if_le F0 27 dX8_refuse_20 (by decide) (fun h9 => absurd h9 (fun h8 => absurd h8 (Int32.not_le.mpr hx))) (fun _ => ?_)
    refine j_iconst F0 1 dX8_refuse_23 (by decide) ?_
    refine j_goto F0 28 dX8_refuse_24 (by decide) ?_
    have hKp : Kp M [mo] M2 := by
      intro b x hb hx
      have hx := hU1.2 _ _ (fun c => hb (by rw [c]; simp)) hx
      exact hx
    exact m_ireturn S hRT rfl hQ (Nat.le_of_ble_eq_true rfl) (Nat.le_of_ble_eq_true rfl) dX8_refuse_28 rfl ⟨rfl, h0, hKp⟩
  · skip
    rw [if_neg hc]
    simp only [if_neg hc] at hQ
    show J (X.at 0 0) 3 (PL G.Z X.A M) 0 [some (.ref mo), some (.int 0), some (.int x)] []
    refine j_iload_n F0 dX8_refuse_0 rfl ?_
    refine j_if_eq F0 16 dX8_refuse_1 (by decide) (fun _ => ?_) (fun h9 => absurd (by decide) h9)
    refine j_aload_n F0 dX8_refuse_16 rfl ?_
    refine m_get S (C := RX8) (T := TX8) (N := 4) (by decide +kernel) h0 rfl (v := .int 0) 0 (by decide) (by decide +kernel) (fun _ h9 => h9) rfl dX8_refuse_17 ?_
    refine j_if_le F0 27 dX8_refuse_20 (by decide) (fun _ => ?_) (fun h9 => absurd (by decide) h9)
    refine j_iconst F0 0 dX8_refuse_27 (by decide) ?_
    exact m_ireturn S hRT rfl hQ (Nat.le_of_ble_eq_true rfl) (Nat.le_of_ble_eq_true rfl) dX8_refuse_28 rfl ⟨rfl, h0, Kp.refl⟩

set_option maxRecDepth 100000 in
set_option maxHeartbeats 4000000 in
theorem r_X8_start (l : Launch) (G : RG) (A : Nat → Prop) (M : Wl) {mo pl ka ta : Nat} {tv : Int32} {c : Prop} [Decidable c] (x : Int32) (hx : 0 < x) (h0 : (mo, .inr (8, [.int tv, .ref pl, .ref ka, .ref ta])) ∈ M) : Kr l G A yX8_start wsX8_start { frames := 1, cells := 0, slots := 0, locals := 22 } M [.ref mo, .int (if c then (1 : Int32) else 0), .int x] (Gi G A (fun v N => (if c then (1 : Int32) else 0) = v ∧ (mo, (.inr (8, [.int (if c then x else 0), .ref pl, .ref ka, .ref ta]) : va_E)) ∈ N ∧ Kp M [mo] N)) 0 0 := by
  refine Kr.of (cc := cX8_start) (maxL := 3) (ret := (some .boolean)) (by decide) rfl (Nat.le_of_ble_eq_true rfl) ?_
  intro X hXl S hRT hIN hXA hQ hD
  subst hXl
  subst hXA
  show J (X.at 0 0) 3 (PL G.Z X.A M) 0 [some (.ref mo), some (.int (if c then (1 : Int32) else 0)), some (.int x)] []
  have F0 := S.1.at 0 0 (Nat.le_of_ble_eq_true rfl) (Nat.le_of_ble_eq_true rfl)
  have hOR := S.2.1.or
  refine j_aload_n F0 dX8_start_0 rfl ?_
  refine j_iconst F0 0 dX8_start_1 (by decide) ?_
  refine m_put S (C := RX8) (T := TX8) (N := 4) (v := .int 0) (ty := .int) tyX8 tyX8_ok nmX8 (by decide +kernel) h0 rfl 0 (by decide) (by decide +kernel) (fun _ h9 => h9) rfl (by decide +kernel) rfl rfl (Nat.le_of_ble_eq_true rfl) dX8_start_2 (fun M2 hD3 hU1 => ?_)
  have hU1 : Up M mo (.inr (8, [.int 0, .ref pl, .ref ka, .ref ta])) M2 := hU1
  have h0 := hU1.1
  refine j_aload_n F0 dX8_start_5 rfl ?_
  refine j_iload_n F0 dX8_start_6 rfl ?_
  refine j_iload_n F0 dX8_start_7 rfl ?_
  refine m_cVi S (n1 := 2) (rest := []) (r_X8_refuse X.l G X.A M2 (c := c) x hx h0) ⟨_, _, _, _, rfl, gX8_start_X8_refuse, rfl, rfl, (by decide +kernel), ⟨(Nat.le_of_ble_eq_true rfl), (Nat.le_of_ble_eq_true rfl)⟩⟩ h0 rfl rfl (Nat.le_of_ble_eq_true rfl) (Nat.le_of_ble_eq_true rfl) (Nat.le_of_ble_eq_true rfl) rfl dX8_start_8 (fun v4 M5 hD6 hp7 => ?_)
  obtain ⟨hp7v, hp7a, hp7k⟩ := hp7
  subst hp7v
  have h8 : (mo, (.inr (8, [.int (if c then x else 0), .ref pl, .ref ka, .ref ta]) : va_E)) ∈ M5 := hp7a
  have hKp : Kp M [mo] M5 := by
    intro b x hb hx
    have hx := hU1.2 _ _ (fun c => hb (by rw [c]; simp)) hx
    have n9 : b ∉ [mo] := by
      intro h9; simp only [List.mem_cons, List.not_mem_nil, or_false] at h9
      · exact (fun c => hb (by rw [c]; simp)) h9
    have hx := hp7k b x n9 hx
    exact hx
  exact m_ireturn S hRT rfl hQ (Nat.le_of_ble_eq_true rfl) (Nat.le_of_ble_eq_true rfl) dX8_start_11 (by split <;> rfl) ⟨rfl, h8, hKp⟩

abbrev TokP (t : Int32) : Prop := (0 ≤ t ∧ t ≤ 7) ∨ t = 10 ∨ t = 11 ∨ (22 ≤ t ∧ t ≤ 33) ∨ 44 ≤ t ∧ t ≤ 49
abbrev ProP (p : Int32) : Prop := ¬ (0 ≤ p ∧ p ≤ 9)
abbrev EigP (p : Int32) : Prop := ¬ (0 ≤ p ∧ p ≤ 7)
theorem if1 {c : Prop} [Decidable c] : ¬ (if c then (1 : Int32) else 0) = 0 ↔ c := by
  by_cases h : c
  · rw [if_pos h]; exact ⟨fun _ => h, fun _ => by decide⟩
  · rw [if_neg h]; exact ⟨fun h9 => absurd rfl h9, fun h9 => absurd h9 h⟩
theorem if0 {c : Prop} [Decidable c] : (if c then (1 : Int32) else 0) = 0 ↔ ¬ c := by
  by_cases h : c
  · rw [if_pos h]; exact ⟨fun h9 => absurd h9 (by decide), fun h9 => absurd h h9⟩
  · rw [if_neg h]; exact ⟨fun _ => h, fun _ => rfl⟩

set_option maxRecDepth 100000 in
set_option maxHeartbeats 4000000 in
theorem r_X8_isToken (l : Launch) (G : RG) (A : Nat → Prop) (M : Wl) (t : Int32) : Kr l G A yX8_isToken wsX8_isToken { frames := 1, cells := 0, slots := 0, locals := 22 } M [.int t] (Gi G A (fun v N => (if TokP t then (1 : Int32) else 0) = v ∧ M = N)) 0 0 := by
  refine Kr.of (cc := cX8_isToken) (maxL := 1) (ret := (some .boolean)) (by decide) rfl (Nat.le_of_ble_eq_true rfl) ?_
  intro X hXl S hRT hIN hXA hQ hD
  subst hXl
  subst hXA
  show J (X.at 0 0) 1 (PL G.Z X.A M) 0 [some (.int t)] []
  have F0 := S.1.at 0 0 (Nat.le_of_ble_eq_true rfl) (Nat.le_of_ble_eq_true rfl)
  have hOR := S.2.1.or
  refine j_iload_n F0 dX8_isToken_0 rfl ?_
  refine j_iconst F0 0 dX8_isToken_1 (by decide) ?_
  refine j_bipush F0 7 dX8_isToken_2 (by decide) ?_
  refine m_cSi S (n1 := 3) (rest := []) (r_X8_isIn X.l G X.A M t 0 7) ⟨_, _, _, _, rfl, gX8_isToken_X8_isIn, rfl, rfl, (by decide +kernel), ⟨(Nat.le_of_ble_eq_true rfl), (Nat.le_of_ble_eq_true rfl)⟩⟩ rfl (Nat.le_of_ble_eq_true rfl) (Nat.le_of_ble_eq_true rfl) (Nat.le_of_ble_eq_true rfl) rfl dX8_isToken_4 (fun v1 M2 hD3 hp4 => ?_)
  obtain ⟨hp4a, hp4b⟩ := hp4
  subst hp4a
  subst hp4b
  refine j_if_ne F0 44 dX8_isToken_7 (by decide) (fun h => ?_) (fun h => ?_)
  · skip
    refine j_iconst F0 1 dX8_isToken_44 (by decide) ?_
    refine j_goto F0 49 dX8_isToken_45 (by decide) ?_
    exact m_ireturn S hRT rfl hQ (Nat.le_of_ble_eq_true rfl) (Nat.le_of_ble_eq_true rfl) dX8_isToken_49 rfl ⟨if_pos (Or.inl (if1.mp h)), rfl⟩
  · skip
    refine j_iload_n F0 dX8_isToken_10 rfl ?_
    refine j_bipush F0 10 dX8_isToken_11 (by decide) ?_
    refine j_icmp_eq F0 44 dX8_isToken_13 (by decide) (fun h2 => ?_) (fun h2 => ?_)
    · skip
      refine j_iconst F0 1 dX8_isToken_44 (by decide) ?_
      refine j_goto F0 49 dX8_isToken_45 (by decide) ?_
      exact m_ireturn S hRT rfl hQ (Nat.le_of_ble_eq_true rfl) (Nat.le_of_ble_eq_true rfl) dX8_isToken_49 rfl ⟨if_pos (Or.inr (Or.inl h2)), rfl⟩
    · skip
      refine j_iload_n F0 dX8_isToken_16 rfl ?_
      refine j_bipush F0 11 dX8_isToken_17 (by decide) ?_
      refine j_icmp_eq F0 44 dX8_isToken_19 (by decide) (fun h3 => ?_) (fun h3 => ?_)
      · skip
        refine j_iconst F0 1 dX8_isToken_44 (by decide) ?_
        refine j_goto F0 49 dX8_isToken_45 (by decide) ?_
        exact m_ireturn S hRT rfl hQ (Nat.le_of_ble_eq_true rfl) (Nat.le_of_ble_eq_true rfl) dX8_isToken_49 rfl ⟨if_pos (Or.inr (Or.inr (Or.inl h3))), rfl⟩
      · skip
        refine j_iload_n F0 dX8_isToken_22 rfl ?_
        refine j_bipush F0 22 dX8_isToken_23 (by decide) ?_
        refine j_bipush F0 33 dX8_isToken_25 (by decide) ?_
        refine m_cSi S (n1 := 3) (rest := []) (r_X8_isIn X.l G X.A M t 22 33) ⟨_, _, _, _, rfl, gX8_isToken_X8_isIn, rfl, rfl, (by decide +kernel), ⟨(Nat.le_of_ble_eq_true rfl), (Nat.le_of_ble_eq_true rfl)⟩⟩ rfl (Nat.le_of_ble_eq_true rfl) (Nat.le_of_ble_eq_true rfl) (Nat.le_of_ble_eq_true rfl) rfl dX8_isToken_27 (fun v5 M6 hD7 hp8 => ?_)
        obtain ⟨hp8a, hp8b⟩ := hp8
        subst hp8a
        subst hp8b
        refine j_if_ne F0 44 dX8_isToken_30 (by decide) (fun h4 => ?_) (fun h4 => ?_)
        · skip
          refine j_iconst F0 1 dX8_isToken_44 (by decide) ?_
          refine j_goto F0 49 dX8_isToken_45 (by decide) ?_
          exact m_ireturn S hRT rfl hQ (Nat.le_of_ble_eq_true rfl) (Nat.le_of_ble_eq_true rfl) dX8_isToken_49 rfl ⟨if_pos (Or.inr (Or.inr (Or.inr (Or.inl (if1.mp h4))))), rfl⟩
        · skip
          refine j_iload_n F0 dX8_isToken_33 rfl ?_
          refine j_bipush F0 44 dX8_isToken_34 (by decide) ?_
          refine j_bipush F0 49 dX8_isToken_36 (by decide) ?_
          refine m_cSi S (n1 := 3) (rest := []) (r_X8_isIn X.l G X.A M t 44 49) ⟨_, _, _, _, rfl, gX8_isToken_X8_isIn, rfl, rfl, (by decide +kernel), ⟨(Nat.le_of_ble_eq_true rfl), (Nat.le_of_ble_eq_true rfl)⟩⟩ rfl (Nat.le_of_ble_eq_true rfl) (Nat.le_of_ble_eq_true rfl) (Nat.le_of_ble_eq_true rfl) rfl dX8_isToken_38 (fun v9 M10 hD11 hp12 => ?_)
          obtain ⟨hp12a, hp12b⟩ := hp12
          subst hp12a
          subst hp12b
          refine j_if_eq F0 48 dX8_isToken_41 (by decide) (fun h5 => ?_) (fun h5 => ?_)
          · skip
            refine j_iconst F0 0 dX8_isToken_48 (by decide) ?_
            exact m_ireturn S hRT rfl hQ (Nat.le_of_ble_eq_true rfl) (Nat.le_of_ble_eq_true rfl) dX8_isToken_49 rfl ⟨if_neg (fun h9 => by rcases h9 with h9 | h9 | h9 | h9 | h9; exact if0.mp h h9; exact h2 h9; exact h3 h9; exact if0.mp h4 h9; exact if0.mp h5 h9), rfl⟩
          · skip
            refine j_iconst F0 1 dX8_isToken_44 (by decide) ?_
            refine j_goto F0 49 dX8_isToken_45 (by decide) ?_
            exact m_ireturn S hRT rfl hQ (Nat.le_of_ble_eq_true rfl) (Nat.le_of_ble_eq_true rfl) dX8_isToken_49 rfl ⟨if_pos (Or.inr (Or.inr (Or.inr (Or.inr (if1.mp h5))))), rfl⟩

set_option maxRecDepth 100000 in
set_option maxHeartbeats 4000000 in
theorem r_X8_isNoEight (l : Launch) (G : RG) (A : Nat → Prop) (M : Wl) (p : Int32) : Kr l G A yX8_isNoEight wsX8_isNoEight { frames := 1, cells := 0, slots := 0, locals := 22 } M [.int p] (Gi G A (fun v N => (if EigP p then (1 : Int32) else 0) = v ∧ M = N)) 0 0 := by
  refine Kr.of (cc := cX8_isNoEight) (maxL := 1) (ret := (some .boolean)) (by decide) rfl (Nat.le_of_ble_eq_true rfl) ?_
  intro X hXl S hRT hIN hXA hQ hD
  subst hXl
  subst hXA
  show J (X.at 0 0) 1 (PL G.Z X.A M) 0 [some (.int p)] []
  have F0 := S.1.at 0 0 (Nat.le_of_ble_eq_true rfl) (Nat.le_of_ble_eq_true rfl)
  have hOR := S.2.1.or
  refine j_iload_n F0 dX8_isNoEight_0 rfl ?_
  refine j_iconst F0 0 dX8_isNoEight_1 (by decide) ?_
  refine j_bipush F0 7 dX8_isNoEight_2 (by decide) ?_
  refine m_cSi S (n1 := 3) (rest := []) (r_X8_isIn X.l G X.A M p 0 7) ⟨_, _, _, _, rfl, gX8_isNoEight_X8_isIn, rfl, rfl, (by decide +kernel), ⟨(Nat.le_of_ble_eq_true rfl), (Nat.le_of_ble_eq_true rfl)⟩⟩ rfl (Nat.le_of_ble_eq_true rfl) (Nat.le_of_ble_eq_true rfl) (Nat.le_of_ble_eq_true rfl) rfl dX8_isNoEight_4 (fun v1 M2 hD3 hp4 => ?_)
  obtain ⟨hp4a, hp4b⟩ := hp4
  subst hp4a
  subst hp4b
  refine j_if_ne F0 14 dX8_isNoEight_7 (by decide) (fun h => ?_) (fun h => ?_)
  · skip
    refine j_iconst F0 0 dX8_isNoEight_14 (by decide) ?_
    exact m_ireturn S hRT rfl hQ (Nat.le_of_ble_eq_true rfl) (Nat.le_of_ble_eq_true rfl) dX8_isNoEight_15 rfl ⟨if_neg (fun h9 => h9 (if1.mp h)), rfl⟩
  · skip
    refine j_iconst F0 1 dX8_isNoEight_10 (by decide) ?_
    refine j_goto F0 15 dX8_isNoEight_11 (by decide) ?_
    exact m_ireturn S hRT rfl hQ (Nat.le_of_ble_eq_true rfl) (Nat.le_of_ble_eq_true rfl) dX8_isNoEight_15 rfl ⟨if_pos (if0.mp h), rfl⟩

set_option maxRecDepth 100000 in
set_option maxHeartbeats 4000000 in
theorem r_X8_isNoProgram (l : Launch) (G : RG) (A : Nat → Prop) (M : Wl) {mo pl ka ta : Nat} {tv : Int32} (p : Int32) (h0 : (mo, .inr (8, [.int tv, .ref pl, .ref ka, .ref ta])) ∈ M) : Kr l G A yX8_isNoProgram wsX8_isNoProgram { frames := 2, cells := 0, slots := 0, locals := 44 } M [.ref mo, .int p] (Gi G A (fun v N => (if ProP p then (1 : Int32) else 0) = v ∧ (mo, (.inr (8, [.int (if ProP p then (1 : Int32) else 0), .ref pl, .ref ka, .ref ta]) : va_E)) ∈ N ∧ Kp M [mo] N)) 0 0 := by
  refine Kr.of (cc := cX8_isNoProgram) (maxL := 2) (ret := (some .boolean)) (by decide) rfl (Nat.le_of_ble_eq_true rfl) ?_
  intro X hXl S hRT hIN hXA hQ hD
  subst hXl
  subst hXA
  show J (X.at 0 0) 2 (PL G.Z X.A M) 0 [some (.ref mo), some (.int p)] []
  have F0 := S.1.at 0 0 (Nat.le_of_ble_eq_true rfl) (Nat.le_of_ble_eq_true rfl)
  have hOR := S.2.1.or
  refine j_aload_n F0 dX8_isNoProgram_0 rfl ?_
  refine j_iload_n F0 dX8_isNoProgram_1 rfl ?_
  refine j_iconst F0 0 dX8_isNoProgram_2 (by decide) ?_
  refine j_bipush F0 9 dX8_isNoProgram_3 (by decide) ?_
  refine m_cSi S (n1 := 3) (rest := [.ref mo]) (r_X8_isIn X.l G X.A M p 0 9) ⟨_, _, _, _, rfl, gX8_isNoProgram_X8_isIn, rfl, rfl, (by decide +kernel), ⟨(Nat.le_of_ble_eq_true rfl), (Nat.le_of_ble_eq_true rfl)⟩⟩ rfl (Nat.le_of_ble_eq_true rfl) (Nat.le_of_ble_eq_true rfl) (Nat.le_of_ble_eq_true rfl) rfl dX8_isNoProgram_5 (fun v1 M2 hD3 hp4 => ?_)
  obtain ⟨hp4a, hp4b⟩ := hp4
  subst hp4a
  subst hp4b
  refine j_if_ne F0 15 dX8_isNoProgram_8 (by decide) (fun h => ?_) (fun h => ?_)
  · skip
    have hc : ¬ ProP p := (fun h9 => h9 (if1.mp h))
    simp only [if_neg hc] at hQ
    refine j_iconst F0 0 dX8_isNoProgram_15 (by decide) ?_
    refine j_iconst F0 1 dX8_isNoProgram_16 (by decide) ?_
    refine m_cVi S (n1 := 2) (rest := []) (r_X8_start X.l G X.A M (c := False) 1 (by decide) h0) ⟨_, _, _, _, rfl, gX8_isNoProgram_X8_start, rfl, rfl, (by decide +kernel), ⟨(Nat.le_of_ble_eq_true rfl), (Nat.le_of_ble_eq_true rfl)⟩⟩ h0 rfl rfl (Nat.le_of_ble_eq_true rfl) (Nat.le_of_ble_eq_true rfl) (Nat.le_of_ble_eq_true rfl) rfl dX8_isNoProgram_17 (fun v5 M6 hD7 hp8 => ?_)
    obtain ⟨hp8v, hp8a, hp8k⟩ := hp8
    have hp8v : (0 : Int32) = v5 := hp8v
    subst hp8v
    have h9 : (mo, (.inr (8, [.int 0, .ref pl, .ref ka, .ref ta]) : va_E)) ∈ M6 := hp8a
    have hKp : Kp M [mo] M6 := by
      intro b x hb hx
      have n10 : b ∉ [mo] := by
        intro h9; simp only [List.mem_cons, List.not_mem_nil, or_false] at h9
        · exact (fun c => hb (by rw [c]; simp)) h9
      have hx := hp8k b x n10 hx
      exact hx
    exact m_ireturn S hRT rfl hQ (Nat.le_of_ble_eq_true rfl) (Nat.le_of_ble_eq_true rfl) dX8_isNoProgram_20 rfl ⟨rfl, h9, hKp⟩
  · skip
    have hc : ProP p := (if0.mp h)
    simp only [if_pos hc] at hQ
    refine j_iconst F0 1 dX8_isNoProgram_11 (by decide) ?_
    refine j_goto F0 16 dX8_isNoProgram_12 (by decide) ?_
    refine j_iconst F0 1 dX8_isNoProgram_16 (by decide) ?_
    refine m_cVi S (n1 := 2) (rest := []) (r_X8_start X.l G X.A M (c := True) 1 (by decide) h0) ⟨_, _, _, _, rfl, gX8_isNoProgram_X8_start, rfl, rfl, (by decide +kernel), ⟨(Nat.le_of_ble_eq_true rfl), (Nat.le_of_ble_eq_true rfl)⟩⟩ h0 rfl rfl (Nat.le_of_ble_eq_true rfl) (Nat.le_of_ble_eq_true rfl) (Nat.le_of_ble_eq_true rfl) rfl dX8_isNoProgram_17 (fun v11 M12 hD13 hp14 => ?_)
    obtain ⟨hp14v, hp14a, hp14k⟩ := hp14
    have hp14v : (1 : Int32) = v11 := hp14v
    subst hp14v
    have h15 : (mo, (.inr (8, [.int 1, .ref pl, .ref ka, .ref ta]) : va_E)) ∈ M12 := hp14a
    have hKp : Kp M [mo] M12 := by
      intro b x hb hx
      have n16 : b ∉ [mo] := by
        intro h9; simp only [List.mem_cons, List.not_mem_nil, or_false] at h9
        · exact (fun c => hb (by rw [c]; simp)) h9
      have hx := hp14k b x n16 hx
      exact hx
    exact m_ireturn S hRT rfl hQ (Nat.le_of_ble_eq_true rfl) (Nat.le_of_ble_eq_true rfl) dX8_isNoProgram_20 rfl ⟨rfl, h15, hKp⟩

set_option maxRecDepth 100000 in
set_option maxHeartbeats 4000000 in
theorem r_X8_forget (l : Launch) (G : RG) (A : Nat → Prop) (M : Wl) {mo pl ka ta : Nat} {tv : Int32} {kn : Nat → Option Nat} (h0 : (mo, .inr (8, [.int tv, .ref pl, .ref ka, .ref ta])) ∈ M) (h1 : (ka, .inl (G.cR, 10, .inr (.inr (.inr (.inr kn))))) ∈ M) : Kr l G A yX8_forget wsX8_forget { frames := 0, cells := 0, slots := 0, locals := 0 } M [.ref mo] (Gv G A (fun N => ∃ f : Nat → Option Nat, (ka, (.inl (G.cR, 10, .inr (.inr (.inr (.inr f)))) : va_E)) ∈ N ∧ (∀ p, p < 10 → f p = none) ∧ Kp M [ka] N)) 0 0 := by
  refine Kr.of (cc := cX8_forget) (maxL := 2) (ret := none) (by decide) rfl (Nat.le_of_ble_eq_true rfl) ?_
  intro X hXl S hRT hIN hXA hQ hD
  subst hXl
  subst hXA
  show J (X.at 0 0) 2 (PL G.Z X.A M) 0 [some (.ref mo), none] []
  have F0 := S.1.at 0 0 (Nat.le_of_ble_eq_true rfl) (Nat.le_of_ble_eq_true rfl)
  have hOR := S.2.1.or
  refine j_iconst F0 0 dX8_forget_0 (by decide) ?_
  refine j_istore_n F0 [some (.ref mo), some (.int 0)] dX8_forget_1 (by decide) rfl rfl ?_
  refine j_iload_n F0 dX8_forget_2 rfl ?_
  refine j_bipush F0 10 dX8_forget_3 (by decide) ?_
  refine j_icmp_ge F0 21 dX8_forget_5 (by decide) (fun h9 => absurd h9 (by decide)) (fun _ => ?_)
  refine j_aload_n F0 dX8_forget_8 rfl ?_
  refine m_get S (C := RX8) (T := TX8) (N := 4) (by decide +kernel) h0 rfl (v := .ref ka) 2 (by decide) (by decide +kernel) (fun _ h9 => h9) rfl dX8_forget_9 ?_
  refine j_iload_n F0 dX8_forget_12 rfl ?_
  refine m_aconst F0 dX8_forget_13 ?_
  refine m_aastoreN S (k0 := 0) (t0 := 2) h1 rfl (by unfold vp_in; decide) (by decide) dX8_forget_14 (fun M2 hD3 hU1 => ?_)
  have n4 : mo ≠ ka := (In.ne hD h0 h1 (by simp))
  have h0 := hU1.2 _ _ n4 h0
  have h1 := hU1.1
  refine j_iinc F0 1 [some (.ref mo), some (.int 1)] dX8_forget_15 rfl (by decide) (by decide) rfl rfl ?_
  refine j_goto F0 2 dX8_forget_18 (by decide) ?_
  refine j_iload_n F0 dX8_forget_2 rfl ?_
  refine j_bipush F0 10 dX8_forget_3 (by decide) ?_
  refine j_icmp_ge F0 21 dX8_forget_5 (by decide) (fun h9 => absurd h9 (by decide)) (fun _ => ?_)
  refine j_aload_n F0 dX8_forget_8 rfl ?_
  refine m_get S (C := RX8) (T := TX8) (N := 4) (by decide +kernel) h0 rfl (v := .ref ka) 2 (by decide) (by decide +kernel) (fun _ h9 => h9) rfl dX8_forget_9 ?_
  refine j_iload_n F0 dX8_forget_12 rfl ?_
  refine m_aconst F0 dX8_forget_13 ?_
  refine m_aastoreN S (k0 := 1) (t0 := 2) h1 rfl (by unfold vp_in; decide) (by decide) dX8_forget_14 (fun M6 hD7 hU5 => ?_)
  have n8 : mo ≠ ka := n4
  have h0 := hU5.2 _ _ n8 h0
  have h1 := hU5.1
  refine j_iinc F0 2 [some (.ref mo), some (.int 2)] dX8_forget_15 rfl (by decide) (by decide) rfl rfl ?_
  refine j_goto F0 2 dX8_forget_18 (by decide) ?_
  refine j_iload_n F0 dX8_forget_2 rfl ?_
  refine j_bipush F0 10 dX8_forget_3 (by decide) ?_
  refine j_icmp_ge F0 21 dX8_forget_5 (by decide) (fun h9 => absurd h9 (by decide)) (fun _ => ?_)
  refine j_aload_n F0 dX8_forget_8 rfl ?_
  refine m_get S (C := RX8) (T := TX8) (N := 4) (by decide +kernel) h0 rfl (v := .ref ka) 2 (by decide) (by decide +kernel) (fun _ h9 => h9) rfl dX8_forget_9 ?_
  refine j_iload_n F0 dX8_forget_12 rfl ?_
  refine m_aconst F0 dX8_forget_13 ?_
  refine m_aastoreN S (k0 := 2) (t0 := 2) h1 rfl (by unfold vp_in; decide) (by decide) dX8_forget_14 (fun M10 hD11 hU9 => ?_)
  have n12 : mo ≠ ka := n8
  have h0 := hU9.2 _ _ n12 h0
  have h1 := hU9.1
  refine j_iinc F0 3 [some (.ref mo), some (.int 3)] dX8_forget_15 rfl (by decide) (by decide) rfl rfl ?_
  refine j_goto F0 2 dX8_forget_18 (by decide) ?_
  refine j_iload_n F0 dX8_forget_2 rfl ?_
  refine j_bipush F0 10 dX8_forget_3 (by decide) ?_
  refine j_icmp_ge F0 21 dX8_forget_5 (by decide) (fun h9 => absurd h9 (by decide)) (fun _ => ?_)
  refine j_aload_n F0 dX8_forget_8 rfl ?_
  refine m_get S (C := RX8) (T := TX8) (N := 4) (by decide +kernel) h0 rfl (v := .ref ka) 2 (by decide) (by decide +kernel) (fun _ h9 => h9) rfl dX8_forget_9 ?_
  refine j_iload_n F0 dX8_forget_12 rfl ?_
  refine m_aconst F0 dX8_forget_13 ?_
  refine m_aastoreN S (k0 := 3) (t0 := 2) h1 rfl (by unfold vp_in; decide) (by decide) dX8_forget_14 (fun M14 hD15 hU13 => ?_)
  have n16 : mo ≠ ka := n12
  have h0 := hU13.2 _ _ n16 h0
  have h1 := hU13.1
  refine j_iinc F0 4 [some (.ref mo), some (.int 4)] dX8_forget_15 rfl (by decide) (by decide) rfl rfl ?_
  refine j_goto F0 2 dX8_forget_18 (by decide) ?_
  refine j_iload_n F0 dX8_forget_2 rfl ?_
  refine j_bipush F0 10 dX8_forget_3 (by decide) ?_
  refine j_icmp_ge F0 21 dX8_forget_5 (by decide) (fun h9 => absurd h9 (by decide)) (fun _ => ?_)
  refine j_aload_n F0 dX8_forget_8 rfl ?_
  refine m_get S (C := RX8) (T := TX8) (N := 4) (by decide +kernel) h0 rfl (v := .ref ka) 2 (by decide) (by decide +kernel) (fun _ h9 => h9) rfl dX8_forget_9 ?_
  refine j_iload_n F0 dX8_forget_12 rfl ?_
  refine m_aconst F0 dX8_forget_13 ?_
  refine m_aastoreN S (k0 := 4) (t0 := 2) h1 rfl (by unfold vp_in; decide) (by decide) dX8_forget_14 (fun M18 hD19 hU17 => ?_)
  have n20 : mo ≠ ka := n16
  have h0 := hU17.2 _ _ n20 h0
  have h1 := hU17.1
  refine j_iinc F0 5 [some (.ref mo), some (.int 5)] dX8_forget_15 rfl (by decide) (by decide) rfl rfl ?_
  refine j_goto F0 2 dX8_forget_18 (by decide) ?_
  refine j_iload_n F0 dX8_forget_2 rfl ?_
  refine j_bipush F0 10 dX8_forget_3 (by decide) ?_
  refine j_icmp_ge F0 21 dX8_forget_5 (by decide) (fun h9 => absurd h9 (by decide)) (fun _ => ?_)
  refine j_aload_n F0 dX8_forget_8 rfl ?_
  refine m_get S (C := RX8) (T := TX8) (N := 4) (by decide +kernel) h0 rfl (v := .ref ka) 2 (by decide) (by decide +kernel) (fun _ h9 => h9) rfl dX8_forget_9 ?_
  refine j_iload_n F0 dX8_forget_12 rfl ?_
  refine m_aconst F0 dX8_forget_13 ?_
  refine m_aastoreN S (k0 := 5) (t0 := 2) h1 rfl (by unfold vp_in; decide) (by decide) dX8_forget_14 (fun M22 hD23 hU21 => ?_)
  have n24 : mo ≠ ka := n20
  have h0 := hU21.2 _ _ n24 h0
  have h1 := hU21.1
  refine j_iinc F0 6 [some (.ref mo), some (.int 6)] dX8_forget_15 rfl (by decide) (by decide) rfl rfl ?_
  refine j_goto F0 2 dX8_forget_18 (by decide) ?_
  refine j_iload_n F0 dX8_forget_2 rfl ?_
  refine j_bipush F0 10 dX8_forget_3 (by decide) ?_
  refine j_icmp_ge F0 21 dX8_forget_5 (by decide) (fun h9 => absurd h9 (by decide)) (fun _ => ?_)
  refine j_aload_n F0 dX8_forget_8 rfl ?_
  refine m_get S (C := RX8) (T := TX8) (N := 4) (by decide +kernel) h0 rfl (v := .ref ka) 2 (by decide) (by decide +kernel) (fun _ h9 => h9) rfl dX8_forget_9 ?_
  refine j_iload_n F0 dX8_forget_12 rfl ?_
  refine m_aconst F0 dX8_forget_13 ?_
  refine m_aastoreN S (k0 := 6) (t0 := 2) h1 rfl (by unfold vp_in; decide) (by decide) dX8_forget_14 (fun M26 hD27 hU25 => ?_)
  have n28 : mo ≠ ka := n24
  have h0 := hU25.2 _ _ n28 h0
  have h1 := hU25.1
  refine j_iinc F0 7 [some (.ref mo), some (.int 7)] dX8_forget_15 rfl (by decide) (by decide) rfl rfl ?_
  refine j_goto F0 2 dX8_forget_18 (by decide) ?_
  refine j_iload_n F0 dX8_forget_2 rfl ?_
  refine j_bipush F0 10 dX8_forget_3 (by decide) ?_
  refine j_icmp_ge F0 21 dX8_forget_5 (by decide) (fun h9 => absurd h9 (by decide)) (fun _ => ?_)
  refine j_aload_n F0 dX8_forget_8 rfl ?_
  refine m_get S (C := RX8) (T := TX8) (N := 4) (by decide +kernel) h0 rfl (v := .ref ka) 2 (by decide) (by decide +kernel) (fun _ h9 => h9) rfl dX8_forget_9 ?_
  refine j_iload_n F0 dX8_forget_12 rfl ?_
  refine m_aconst F0 dX8_forget_13 ?_
  refine m_aastoreN S (k0 := 7) (t0 := 2) h1 rfl (by unfold vp_in; decide) (by decide) dX8_forget_14 (fun M30 hD31 hU29 => ?_)
  have n32 : mo ≠ ka := n28
  have h0 := hU29.2 _ _ n32 h0
  have h1 := hU29.1
  refine j_iinc F0 8 [some (.ref mo), some (.int 8)] dX8_forget_15 rfl (by decide) (by decide) rfl rfl ?_
  refine j_goto F0 2 dX8_forget_18 (by decide) ?_
  refine j_iload_n F0 dX8_forget_2 rfl ?_
  refine j_bipush F0 10 dX8_forget_3 (by decide) ?_
  refine j_icmp_ge F0 21 dX8_forget_5 (by decide) (fun h9 => absurd h9 (by decide)) (fun _ => ?_)
  refine j_aload_n F0 dX8_forget_8 rfl ?_
  refine m_get S (C := RX8) (T := TX8) (N := 4) (by decide +kernel) h0 rfl (v := .ref ka) 2 (by decide) (by decide +kernel) (fun _ h9 => h9) rfl dX8_forget_9 ?_
  refine j_iload_n F0 dX8_forget_12 rfl ?_
  refine m_aconst F0 dX8_forget_13 ?_
  refine m_aastoreN S (k0 := 8) (t0 := 2) h1 rfl (by unfold vp_in; decide) (by decide) dX8_forget_14 (fun M34 hD35 hU33 => ?_)
  have n36 : mo ≠ ka := n32
  have h0 := hU33.2 _ _ n36 h0
  have h1 := hU33.1
  refine j_iinc F0 9 [some (.ref mo), some (.int 9)] dX8_forget_15 rfl (by decide) (by decide) rfl rfl ?_
  refine j_goto F0 2 dX8_forget_18 (by decide) ?_
  refine j_iload_n F0 dX8_forget_2 rfl ?_
  refine j_bipush F0 10 dX8_forget_3 (by decide) ?_
  refine j_icmp_ge F0 21 dX8_forget_5 (by decide) (fun h9 => absurd h9 (by decide)) (fun _ => ?_)
  refine j_aload_n F0 dX8_forget_8 rfl ?_
  refine m_get S (C := RX8) (T := TX8) (N := 4) (by decide +kernel) h0 rfl (v := .ref ka) 2 (by decide) (by decide +kernel) (fun _ h9 => h9) rfl dX8_forget_9 ?_
  refine j_iload_n F0 dX8_forget_12 rfl ?_
  refine m_aconst F0 dX8_forget_13 ?_
  refine m_aastoreN S (k0 := 9) (t0 := 2) h1 rfl (by unfold vp_in; decide) (by decide) dX8_forget_14 (fun M38 hD39 hU37 => ?_)
  have n40 : mo ≠ ka := n36
  have h0 := hU37.2 _ _ n40 h0
  have h1 := hU37.1
  refine j_iinc F0 10 [some (.ref mo), some (.int 10)] dX8_forget_15 rfl (by decide) (by decide) rfl rfl ?_
  refine j_goto F0 2 dX8_forget_18 (by decide) ?_
  refine j_iload_n F0 dX8_forget_2 rfl ?_
  refine j_bipush F0 10 dX8_forget_3 (by decide) ?_
  refine j_icmp_ge F0 21 dX8_forget_5 (by decide) (fun _ => ?_) (fun h9 => absurd (by decide) h9)
  have hKp : Kp M [ka] M38 := by
    intro b x hb hx
    have hx := hU1.2 _ _ (fun c => hb (by rw [c]; simp)) hx
    have hx := hU5.2 _ _ (fun c => hb (by rw [c]; simp)) hx
    have hx := hU9.2 _ _ (fun c => hb (by rw [c]; simp)) hx
    have hx := hU13.2 _ _ (fun c => hb (by rw [c]; simp)) hx
    have hx := hU17.2 _ _ (fun c => hb (by rw [c]; simp)) hx
    have hx := hU21.2 _ _ (fun c => hb (by rw [c]; simp)) hx
    have hx := hU25.2 _ _ (fun c => hb (by rw [c]; simp)) hx
    have hx := hU29.2 _ _ (fun c => hb (by rw [c]; simp)) hx
    have hx := hU33.2 _ _ (fun c => hb (by rw [c]; simp)) hx
    have hx := hU37.2 _ _ (fun c => hb (by rw [c]; simp)) hx
    exact hx
  exact m_return S hRT rfl hQ (Nat.le_of_ble_eq_true rfl) (Nat.le_of_ble_eq_true rfl) dX8_forget_21 ⟨_, h1, (fun p hp => by rcases (show p = 0 ∨ p = 1 ∨ p = 2 ∨ p = 3 ∨ p = 4 ∨ p = 5 ∨ p = 6 ∨ p = 7 ∨ p = 8 ∨ p = 9 by omega) with rfl | rfl | rfl | rfl | rfl | rfl | rfl | rfl | rfl | rfl <;> rfl), hKp⟩

theorem Rd.kpU {A : Nat → Prop} {G : RG} {mo ka q : Nat} {p : Int32} {M N : Wl} {kn : Nat → Option Nat} {e : va_E} (hOR : G.cO ≠ G.cR) (hD : va_D A M) (h6 : (ka, eR G 10 kn) ∈ M) (h : Rd G mo p q M) (hU : Up M ka e N) : Rd G mo p q N := by
  obtain ⟨q1, q2, q3, q4, a0, a1, a2, a3, a4⟩ := h
  exact ⟨q1, q2, q3, q4, hU.2 _ _ (In.ne hD a0 h6 (by simp)) a0, hU.2 _ _ (In.ne hD a1 h6 (by simp)) a1, hU.2 _ _ (In.ne hD a2 h6 (nOR hOR)) a2, hU.2 _ _ (In.ne hD a3 h6 (by simp)) a3, hU.2 _ _ (In.ne hD a4 h6 (by simp)) a4⟩
theorem any7 {X : Cx} {G : RG} {cc : ByteArray} {nL : Nat} {Ts : List Cond} {own : String} {R : Room} {M : Wl} {q : Nat} {fs : List Value} (S : Gx X G cc nL Ts own R) (h : (q, .inr (7, fs)) ∈ M) : ∀ H locs, PL G.Z X.A M H → va_S X.A X.s.heap H locs → va_Any RX7 X.s H q := fun H locs hw hS =>
  va_rAny S.1.K (PL.g h H hw) (q0 := 0) (r := (RX7, TX7, 5)) rfl rfl (fun comp c0 e1 e2 => by
    have e3 : comp = c0 := Option.some.inj (e1.symm.trans e2)
    subst e3
    exact va_asg _ _)

set_option maxRecDepth 100000 in
set_option maxHeartbeats 4000000 in
theorem r_X8_reading (l : Launch) (G : RG) (A : Nat → Prop) (M : Wl) {mo ka ta : Nat} {tv : Int32} (p : Nat) (hp : p < 10) (hM : Mo G mo ka ta tv M) : Kr l G A yX8_reading wbX8_reading { frames := 6, cells := 5, slots := 22, locals := 132 } M [.ref mo, .int (nI p)] (Gr G A (fun v N => Mo G mo ka ta tv N ∧ Kp M [mo, ka] N ∧ Rd G mo (nI p) v N)) 5 22 := by
  refine Kr.of (cc := cX8_reading) (maxL := 2) (ret := (some (.object "TreadleLoomModel$Reading"))) (by decide) rfl (Nat.le_of_ble_eq_true rfl) ?_
  intro X hXl S hRT hIN hXA hQ hD
  subst hXl
  subst hXA
  show J (X.at 0 0) 2 (PL G.Z X.A M) 0 [some (.ref mo), some (.int (nI p))] []
  have F0 := S.1.at 0 0 (Nat.le_of_ble_eq_true rfl) (Nat.le_of_ble_eq_true rfl)
  have hOR := S.2.1.or
  obtain ⟨pl1, pe1, f1, kn1, tf1, o1_0, o1_1, o1_2, o1_3, o1_4, o1_5, o1_6, o1_7⟩ := id hM
  have h2 : (mo, (.inr (8, [.int tv, .ref pl1, .ref ka, .ref ta]) : va_E)) ∈ M := o1_0
  have h3 : (pl1, (.inr (10, [.int 10, .ref pe1, .int 10]) : va_E)) ∈ M := o1_1
  have h4 : (pe1, (.inl (G.cO, 10, .inr (.inr (.inr (.inr f1)))) : va_E)) ∈ M := o1_2
  have h5 : (ta, (.inl (G.Z.cI, 8, .inl tf1) : va_E)) ∈ M := o1_4
  have h6 : (ka, (.inl (G.cR, 10, .inr (.inr (.inr (.inr kn1)))) : va_E)) ∈ M := o1_6
  have hDo7 := hD
  obtain ⟨t9, ht9, ht8⟩ := o1_3 p hp
  have h8 : (t9, (.inr (10, [.int 0, .ref G.e0, .int 0]) : va_E)) ∈ M := ht8
  refine j_aload_n F0 dX8_reading_0 rfl ?_
  refine m_get S (C := RX8) (T := TX8) (N := 4) (by decide +kernel) h2 rfl (v := .ref ka) 2 (by decide) (by decide +kernel) (fun _ h9 => h9) rfl dX8_reading_1 ?_
  refine j_iload_n F0 dX8_reading_4 rfl ?_
  cases hkp : kn1 p with
  | none =>
    refine m_aaload S (t0 := 2) (v := .null) h6 rfl (vp_in_nI hp (by decide)) (by rw [nI_clamp (by omega), hkp]; rfl) dX8_reading_5 ?_
    refine m_ifnonnullN S dX8_reading_6 ?_
    refine j_aload_n F0 dX8_reading_9 rfl ?_
    refine m_get S (C := RX8) (T := TX8) (N := 4) (by decide +kernel) h2 rfl (v := .ref ka) 2 (by decide) (by decide +kernel) (fun _ h9 => h9) rfl dX8_reading_10 ?_
    refine j_iload_n F0 dX8_reading_13 rfl ?_
    refine m_new S (C := RX7) (T := TX7) (N := 5) (ci := 7) (fs := [.int 0, .null, .int 0, .int 0, .null]) (by decide +kernel) tyX7 tyX7_ok (by decide +kernel) (by decide +kernel) (by decide +kernel) rfl (fun j hj => by rcases (show j = 0 ∨ j = 1 ∨ j = 2 ∨ j = 3 ∨ j = 4 by omega) with rfl | rfl | rfl | rfl | rfl <;> rfl) (Nat.le_of_ble_eq_true rfl) (Nat.le_of_ble_eq_true rfl) dX8_reading_14 (fun q9 M11 hD12 hN10 => ?_)
    have n13 := (hN10.2 _ _ h2).2
    have h2 := (hN10.2 _ _ h2).1
    have n14 := (hN10.2 _ _ h3).2
    have h3 := (hN10.2 _ _ h3).1
    have n15 := (hN10.2 _ _ h4).2
    have h4 := (hN10.2 _ _ h4).1
    have n16 := (hN10.2 _ _ h5).2
    have h5 := (hN10.2 _ _ h5).1
    have n17 := (hN10.2 _ _ h6).2
    have h6 := (hN10.2 _ _ h6).1
    have n18 := (hN10.2 _ _ h8).2
    have h8 := (hN10.2 _ _ h8).1
    have h19 := hN10.1
    have F20 := S.1.at 1 5 (Nat.le_of_ble_eq_true rfl) (Nat.le_of_ble_eq_true rfl)
    refine j_dup F20 dX8_reading_17 rfl ?_
    refine j_aload_n F20 dX8_reading_18 rfl ?_
    refine j_iload_n F20 dX8_reading_19 rfl ?_
    refine j_aload_n F20 dX8_reading_20 rfl ?_
    refine m_get S (C := RX8) (T := TX8) (N := 4) (by decide +kernel) h2 rfl (v := .ref pl1) 1 (by decide) (by decide +kernel) (fun _ h9 => h9) rfl dX8_reading_21 ?_
    refine j_iload_n F20 dX8_reading_24 rfl ?_
    refine m_cVr S (n1 := 1) (rest := [.int (nI p), .ref mo, .ref q9, .ref q9, .int (nI p), .ref ka]) (r_Jx4a65c_get_915e3 X.l G X.A M11 (nI p) t9 (nI_pos (by omega)) (by rw [show (10 : Int32) = nI 10 from rfl, nI_ltI (by omega) (by omega)]; exact hp) (vp_in_nI hp (by decide)) (by rw [nI_clamp (by omega)]; exact ht9) h3 h4) ⟨_, _, _, _, rfl, (gBV kB_Jx4a65c_get_915e3 (by decide +kernel)), rfl, rfl, (by decide +kernel), ⟨(Nat.le_of_ble_eq_true rfl), (Nat.le_of_ble_eq_true rfl)⟩⟩ h3 rfl rfl (Nat.le_of_ble_eq_true rfl) (Nat.le_of_ble_eq_true rfl) (Nat.le_of_ble_eq_true rfl) rfl dX8_reading_25 (fun v21 M22 hD23 hp24 => ?_)
    obtain ⟨hp24a, hp24b⟩ := hp24
    subst hp24a
    subst hp24b
    refine m_cast S (C := "java/util/ArrayList") h8 rfl (by decide +kernel) dX8_reading_28 ?_
    refine m_cIv S (n1 := 3) (rest := [.ref q9, .int (nI p), .ref ka]) (r_X7_init X.l G X.A M11 h19 h8) ⟨_, _, _, rfl, (gB kB_X7_init), rfl, rfl, (by decide +kernel), (by decide +kernel), (by decide +kernel), rfl, (by decide +kernel), ⟨(Nat.le_of_ble_eq_true rfl), (Nat.le_of_ble_eq_true rfl)⟩⟩ rfl (Nat.le_of_ble_eq_true rfl) (Nat.le_of_ble_eq_true rfl) (Nat.le_of_ble_eq_true rfl) rfl dX8_reading_31 (fun M26 hD27 hp28 => ?_)
    obtain ⟨hp28r, hp28k⟩ := hp28
    have n29 : mo ∉ [q9] := by
      intro h9; simp only [List.mem_cons, List.not_mem_nil, or_false] at h9
      · exact n13 h9
    have n30 : pl1 ∉ [q9] := by
      intro h9; simp only [List.mem_cons, List.not_mem_nil, or_false] at h9
      · exact n14 h9
    have n31 : pe1 ∉ [q9] := by
      intro h9; simp only [List.mem_cons, List.not_mem_nil, or_false] at h9
      · exact n15 h9
    have n32 : ta ∉ [q9] := by
      intro h9; simp only [List.mem_cons, List.not_mem_nil, or_false] at h9
      · exact n16 h9
    have n33 : ka ∉ [q9] := by
      intro h9; simp only [List.mem_cons, List.not_mem_nil, or_false] at h9
      · exact n17 h9
    have n34 : t9 ∉ [q9] := by
      intro h9; simp only [List.mem_cons, List.not_mem_nil, or_false] at h9
      · exact n18 h9
    have h2 := hp28k _ _ n29 h2
    have h3 := hp28k _ _ n30 h3
    have h4 := hp28k _ _ n31 h4
    have h5 := hp28k _ _ n32 h5
    have h6 := hp28k _ _ n33 h6
    have h8 := hp28k _ _ n34 h8
    obtain ⟨z351, z352, z353, z354, z35a, z35b⟩ := id hp28r
    have h36 : (q9, (.inr (7, [.int (nI p), .ref z351, .int 0, .int (-1), .ref mo]) : va_E)) ∈ M26 := z35a
    have hk9 := h6
    have F37 := S.1.at 5 22 (Nat.le_of_ble_eq_true rfl) (Nat.le_of_ble_eq_true rfl)
    refine m_aastore S (k0 := p) (t0 := 2) h6 rfl (any7 S h36) (vp_in_nI hp (by decide)) (nI_clamp (by omega)) dX8_reading_34 (fun M39 hD40 hU38 => ?_)
    have n41 : mo ≠ ka := (In.ne hD27 h2 h6 (by simp))
    have n42 : pl1 ≠ ka := (In.ne hD27 h3 h6 (by simp))
    have n43 : pe1 ≠ ka := (In.ne hD27 h4 h6 (fun h9 => hOR (by injection h9 with h9; exact (Prod.mk.inj h9).1)))
    have n44 : ta ≠ ka := (In.ne hD27 h5 h6 (by simp))
    have n45 : t9 ≠ ka := (In.ne hD27 h8 h6 (by simp))
    have n46 : q9 ≠ ka := (Ne.symm n17)
    have h2 := hU38.2 _ _ n41 h2
    have h3 := hU38.2 _ _ n42 h3
    have h4 := hU38.2 _ _ n43 h4
    have h5 := hU38.2 _ _ n44 h5
    have h8 := hU38.2 _ _ n45 h8
    have h36 := hU38.2 _ _ n46 h36
    have h6 := hU38.1
    refine j_aload_n F37 dX8_reading_35 rfl ?_
    refine m_get S (C := RX8) (T := TX8) (N := 4) (by decide +kernel) h2 rfl (v := .ref ka) 2 (by decide) (by decide +kernel) (fun _ h9 => h9) rfl dX8_reading_36 ?_
    refine j_iload_n F37 dX8_reading_39 rfl ?_
    refine m_aaload S (t0 := 2) (v := .ref q9) h6 rfl (vp_in_nI hp (by decide)) (by rw [nI_clamp (by omega)]; simp [va_up, va_rf]) dX8_reading_40 ?_
    have hKp : Kp M [mo, ka] M39 := by
      intro b x hb hx
      have n47 := (hN10.2 _ _ hx).2
      have hx := (hN10.2 _ _ hx).1
      have n48 : b ∉ [q9] := by
        intro h9; simp only [List.mem_cons, List.not_mem_nil, or_false] at h9
        · exact n47 h9
      have hx := hp28k b x n48 hx
      have hx := hU38.2 _ _ (fun c => hb (by rw [c]; simp)) hx
      exact hx
    have hRd : ∀ p1 q1, p1 < 10 → va_up kn1 p (some q9) p1 = some q1 → Rd G mo (nI p1) q1 M39 := by
      intro p1 q1 hp1 hq1
      by_cases e : p1 = p
      · subst e
        have e2 : q9 = q1 := by simpa [va_up] using hq1
        subst e2
        exact Rd.kpU hOR hD27 hk9 hp28r hU38
      · exact Rd.keep hOR hD o1_0 o1_6 (o1_7 p1 q1 hp1 (by simpa [va_up, e] using hq1)) hKp
    exact m_areturn S hRT (by first | exact Or.inl ⟨_, rfl⟩ | exact Or.inr ⟨_, rfl⟩) rfl hQ (Nat.le_of_ble_eq_true rfl) (Nat.le_of_ble_eq_true rfl) dX8_reading_41 ⟨Mo.keep hOR hD o1_0 o1_1 o1_2 o1_3 o1_4 o1_5 o1_6 hKp h2 h6 hRd, hKp, hRd p q9 hp (by simp [va_up])⟩
  | some q0 =>
    refine m_aaload S (t0 := 2) (v := .ref q0) h6 rfl (vp_in_nI hp (by decide)) (by rw [nI_clamp (by omega), hkp]; rfl) dX8_reading_5 ?_
    refine m_ifnonnull S 35 dX8_reading_6 (by decide) ?_
    refine j_aload_n F0 dX8_reading_35 rfl ?_
    refine m_get S (C := RX8) (T := TX8) (N := 4) (by decide +kernel) h2 rfl (v := .ref ka) 2 (by decide) (by decide +kernel) (fun _ h9 => h9) rfl dX8_reading_36 ?_
    refine j_iload_n F0 dX8_reading_39 rfl ?_
    refine m_aaload S (t0 := 2) (v := .ref q0) h6 rfl (vp_in_nI hp (by decide)) (by rw [nI_clamp (by omega), hkp]; rfl) dX8_reading_40 ?_
    exact m_areturn S hRT (by first | exact Or.inl ⟨_, rfl⟩ | exact Or.inr ⟨_, rfl⟩) rfl hQ (Nat.le_of_ble_eq_true rfl) (Nat.le_of_ble_eq_true rfl) dX8_reading_41 ⟨hM, Kp.refl, o1_7 p q0 hp hkp⟩
