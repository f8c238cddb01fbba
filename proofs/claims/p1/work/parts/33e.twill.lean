def twN (n u k : Nat) : Int32 := if twO n u k = tie0 k then 0 else 1
def twSum (n u : Nat) : Nat → Int32
  | 0 => 0
  | k + 1 => twSum n u k + twN n u k

set_option maxRecDepth 100000 in
set_option maxHeartbeats 4000000 in
theorem r_X8_twill (l : Launch) (G : RG) (A : Nat → Prop) (M : Wl) {mo ka ta : Nat} {tv : Int32} (n u : Nat) (h2 : 2 ≤ n) (h8 : n ≤ 8) (hu1 : 1 ≤ u) (hu : u ≤ n) (hM : Mo G mo ka ta tv M) : Kr l G A yX8_twill wsX8_twill { frames := 2, cells := 0, slots := 0, locals := 44 } M [.ref mo, .int (nI n), .int (nI u)] (Gi G A (fun v N => ∃ pl k9 t9 : Nat, (mo, (.inr (8, [.int 0, .ref pl, .ref k9, .ref t9]) : va_E)) ∈ N ∧ KL G M N ∧ (twSum n u 8 : Int32) = v)) 0 0 := by
  refine Kr.of (cc := cX8_twill) (maxL := 7) (ret := (some .int)) (by decide) rfl (Nat.le_of_ble_eq_true rfl) ?_
  intro X hXl S hRT hIN hXA hQ hD
  subst hXl
  subst hXA
  show J (X.at 0 0) 7 (PL G.Z X.A M) 0 [some (.ref mo), some (.int (nI n)), some (.int (nI u)), none, none, none, none] []
  have F0 := S.1.at 0 0 (Nat.le_of_ble_eq_true rfl) (Nat.le_of_ble_eq_true rfl)
  have hOR := S.2.1.or
  obtain ⟨pl1, pe1, f1, kn1, tf1, o1_0, o1_1, o1_2, o1_3, o1_4, o1_5, o1_6, o1_7⟩ := id hM
  have h2 : (mo, (.inr (8, [.int tv, .ref pl1, .ref ka, .ref ta]) : va_E)) ∈ M := o1_0
  have h3 : (pl1, (.inr (10, [.int 10, .ref pe1, .int 10]) : va_E)) ∈ M := o1_1
  have h4 : (pe1, (.inl (G.cO, 10, .inr (.inr (.inr (.inr f1)))) : va_E)) ∈ M := o1_2
  have h5 : (ta, (.inl (G.Z.cI, 8, .inl tf1) : va_E)) ∈ M := o1_4
  have h6 : (ka, (.inl (G.cR, 10, .inr (.inr (.inr (.inr kn1)))) : va_E)) ∈ M := o1_6
  have hDo7 := hD
  refine j_aload_n F0 dX8_twill_0 rfl ?_
  refine j_iload_n F0 dX8_twill_1 rfl ?_
  refine j_iconst F0 2 dX8_twill_2 (by decide) ?_
  refine j_bipush F0 8 dX8_twill_3 (by decide) ?_
  refine m_cSi S (n1 := 3) (rest := [.ref mo]) (r_X8_isIn X.l G X.A M (nI n) 2 8) ⟨_, _, _, _, rfl, gX8_twill_X8_isIn, rfl, rfl, (by decide +kernel), ⟨(Nat.le_of_ble_eq_true rfl), (Nat.le_of_ble_eq_true rfl)⟩⟩ rfl (Nat.le_of_ble_eq_true rfl) (Nat.le_of_ble_eq_true rfl) (Nat.le_of_ble_eq_true rfl) rfl dX8_twill_5 (fun v8 M9 hD10 hp11 => ?_)
  obtain ⟨hp11a, hp11b⟩ := hp11
  subst hp11a
  subst hp11b
  refine j_if_eq F0 20 dX8_twill_8 (by decide) (fun h9 => absurd h9 (fun h9 => if1.mpr (⟨by rw [show (2 : Int32) = nI 2 from rfl, nI_leI (by omega) (by omega)]; omega, by rw [show (8 : Int32) = nI 8 from rfl, nI_leI (by omega) (by omega)]; omega⟩ : (2 : Int32) ≤ nI n ∧ nI n ≤ 8) h9)) (fun _ => ?_)
  refine j_iload_n F0 dX8_twill_11 rfl ?_
  refine j_iconst F0 1 dX8_twill_12 (by decide) ?_
  refine j_iload_n F0 dX8_twill_13 rfl ?_
  refine m_cSi S (n1 := 3) (rest := [.ref mo]) (r_X8_isIn X.l G X.A M (nI u) 1 (nI n)) ⟨_, _, _, _, rfl, gX8_twill_X8_isIn, rfl, rfl, (by decide +kernel), ⟨(Nat.le_of_ble_eq_true rfl), (Nat.le_of_ble_eq_true rfl)⟩⟩ rfl (Nat.le_of_ble_eq_true rfl) (Nat.le_of_ble_eq_true rfl) (Nat.le_of_ble_eq_true rfl) rfl dX8_twill_14 (fun v12 M13 hD14 hp15 => ?_)
  obtain ⟨hp15a, hp15b⟩ := hp15
  subst hp15a
  subst hp15b
  refine j_if_ne F0 24 dX8_twill_17 (by decide) (fun _ => ?_) (fun h9 => absurd h9 (if1.mpr (⟨by rw [show (1 : Int32) = nI 1 from rfl, nI_leI (by omega) (by omega)]; omega, by rw [nI_leI (by omega) (by omega)]; omega⟩ : (1 : Int32) ≤ nI u ∧ nI u ≤ nI n)))
  refine j_iconst F0 0 dX8_twill_24 (by decide) ?_
  refine j_iconst F0 1 dX8_twill_25 (by decide) ?_
  refine m_cVi S (n1 := 2) (rest := []) (r_X8_start X.l G X.A M (c := False) 1 (by decide) h2) ⟨_, _, _, _, rfl, gX8_twill_X8_start, rfl, rfl, (by decide +kernel), ⟨(Nat.le_of_ble_eq_true rfl), (Nat.le_of_ble_eq_true rfl)⟩⟩ h2 rfl rfl (Nat.le_of_ble_eq_true rfl) (Nat.le_of_ble_eq_true rfl) (Nat.le_of_ble_eq_true rfl) rfl dX8_twill_26 (fun v16 M17 hD18 hp19 => ?_)
  obtain ⟨hp19v, hp19a, hp19k⟩ := hp19
  have hp19v : (0 : Int32) = v16 := hp19v
  subst hp19v
  have n20 : pl1 ∉ [mo] := by
    intro h9; simp only [List.mem_cons, List.not_mem_nil, or_false] at h9
    · exact (In.ne hD h3 h2 (by simp)) h9
  have n21 : pe1 ∉ [mo] := by
    intro h9; simp only [List.mem_cons, List.not_mem_nil, or_false] at h9
    · exact (In.ne hD h4 h2 (by simp)) h9
  have n22 : ta ∉ [mo] := by
    intro h9; simp only [List.mem_cons, List.not_mem_nil, or_false] at h9
    · exact (In.ne hD h5 h2 (by simp)) h9
  have n23 : ka ∉ [mo] := by
    intro h9; simp only [List.mem_cons, List.not_mem_nil, or_false] at h9
    · exact (In.ne hD h6 h2 (by simp)) h9
  have h3 := hp19k _ _ n20 h3
  have h4 := hp19k _ _ n21 h4
  have h5 := hp19k _ _ n22 h5
  have h6 := hp19k _ _ n23 h6
  have h24 : (mo, (.inr (8, [.int 0, .ref pl1, .ref ka, .ref ta]) : va_E)) ∈ M17 := hp19a
  refine j_if_eq F0 34 dX8_twill_29 (by decide) (fun _ => ?_) (fun h9 => absurd (by decide) h9)
  have hKr25 : Kp M [mo, ka] M17 := by
    intro b x hb hx
    have n26 : b ∉ [mo] := by
      intro h9; simp only [List.mem_cons, List.not_mem_nil, or_false] at h9
      · exact (fun c => hb (by rw [c]; simp)) h9
    have hx := hp19k b x n26 hx
    exact hx
  have hMz27 : Mo G mo ka ta 0 M17 := Mo.keep hOR hDo7 o1_0 o1_1 o1_2 o1_3 o1_4 o1_5 o1_6 hKr25 h24 h6 (fun p q hp hq => Rd.keep hOR hDo7 o1_0 o1_6 (o1_7 p q hp hq) hKr25)
  obtain ⟨pl28, pe28, f28, kn28, tf28, o28_0, o28_1, o28_2, o28_3, o28_4, o28_5, o28_6, o28_7⟩ := id hMz27
  have h29 : (mo, (.inr (8, [.int 0, .ref pl28, .ref ka, .ref ta]) : va_E)) ∈ M17 := o28_0
  have h30 : (pl28, (.inr (10, [.int 10, .ref pe28, .int 10]) : va_E)) ∈ M17 := o28_1
  have h31 : (pe28, (.inl (G.cO, 10, .inr (.inr (.inr (.inr f28)))) : va_E)) ∈ M17 := o28_2
  have h32 : (ta, (.inl (G.Z.cI, 8, .inl tf28) : va_E)) ∈ M17 := o28_4
  have h33 : (ka, (.inl (G.cR, 10, .inr (.inr (.inr (.inr kn28)))) : va_E)) ∈ M17 := o28_6
  have hDo34 := hD18
  refine j_iconst F0 0 dX8_twill_34 (by decide) ?_
  refine j_istore_n F0 [some (.ref mo), some (.int (nI n)), some (.int (nI u)), some (.int 0), none, none, none] dX8_twill_35 (by decide) rfl rfl ?_
  refine j_iconst F0 0 dX8_twill_36 (by decide) ?_
  refine j_istore F0 [some (.ref mo), some (.int (nI n)), some (.int (nI u)), some (.int 0), some (.int 0), none, none] dX8_twill_37 (by decide) rfl rfl ?_
  refine J.less [some (.ref mo), some (.int (nI n)), some (.int (nI u)), some (.int (twSum n u 0)), some (.int 0), none, none] ⟨rfl, rfl, rfl, rfl, rfl, trivial⟩ ?_
  show J (X.at 0 0) 7 (PL G.Z X.A M17) 39 [some (.ref mo), some (.int (nI n)), some (.int (nI u)), some (.int (twSum n u 0)), some (.int 0), none, none] []
  refine j_iload F0 dX8_twill_39 rfl ?_
  refine j_bipush F0 8 dX8_twill_41 (by decide) ?_
  refine j_icmp_ge F0 119 dX8_twill_43 (by decide) (fun h9 => absurd h9 (by decide)) (fun _ => ?_)
  refine j_iconst F0 0 dX8_twill_46 (by decide) ?_
  refine j_istore F0 [some (.ref mo), some (.int (nI n)), some (.int (nI u)), some (.int (twSum n u 0)), some (.int 0), some (.int 0), none] dX8_twill_47 (by decide) rfl rfl ?_
  refine j_iconst F0 0 dX8_twill_49 (by decide) ?_
  refine j_istore F0 [some (.ref mo), some (.int (nI n)), some (.int (nI u)), some (.int (twSum n u 0)), some (.int 0), some (.int 0), some (.int 0)] dX8_twill_50 (by decide) rfl rfl ?_
  suffices hfin0 : ∀ v6 : Int32, J (X.at 0 0) 7 (PL G.Z X.A M17) 84 [some (.ref mo), some (.int (nI n)), some (.int (nI u)), some (.int (twSum n u 0)), some (.int 0), some (.int (twO n u 0)), some (.int v6)] [] by
    have inner : 0 < n → ∀ (g i : Nat), i + g = u → J (X.at 0 0) 7 (PL G.Z X.A M17) 52 [some (.ref mo), some (.int (nI n)), some (.int (nI u)), some (.int (twSum n u 0)), some (.int 0), some (.int (twA n 0 i)), some (.int (nI i))] [] := by
      intro hkn g
      induction g with
      | zero =>
        intro i hi
        refine j_iload F0 dX8_twill_52 rfl ?_
        refine j_iload_n F0 dX8_twill_54 rfl ?_
        refine j_icmp_ge F0 84 dX8_twill_55 (by decide) (fun h9 => absurd h9 (by rw [show (0 : Int32) = nI 0 from rfl, nI_leI (by omega) (by omega)]; omega)) (fun _ => ?_)
        refine j_iload F0 dX8_twill_58 rfl ?_
        refine j_iload_n F0 dX8_twill_60 rfl ?_
        refine j_icmp_ge F0 84 dX8_twill_61 (by decide) (fun _ => ?_) (fun h9 => absurd (by rw [nI_leI (by omega) (by omega)]; omega) h9)
        obtain rfl : i = u := by omega
        have h9 := hfin0 (nI i)
        rw [show twO n i 0 = twA n 0 i from if_pos hkn] at h9
        exact h9
      | succ g ihg =>
        intro i hi
        refine j_iload F0 dX8_twill_52 rfl ?_
        refine j_iload_n F0 dX8_twill_54 rfl ?_
        refine j_icmp_ge F0 84 dX8_twill_55 (by decide) (fun h9 => absurd h9 (by rw [show (0 : Int32) = nI 0 from rfl, nI_leI (by omega) (by omega)]; omega)) (fun _ => ?_)
        refine j_iload F0 dX8_twill_58 rfl ?_
        refine j_iload_n F0 dX8_twill_60 rfl ?_
        refine j_icmp_ge F0 84 dX8_twill_61 (by decide) (fun h9 => absurd h9 (by rw [nI_leI (by omega) (by omega)]; omega)) (fun _ => ?_)
        refine j_iload F0 dX8_twill_64 rfl ?_
        refine j_iconst F0 1 dX8_twill_66 (by decide) ?_
        refine j_iload F0 dX8_twill_67 rfl ?_
        refine j_iload F0 dX8_twill_69 rfl ?_
        refine j_iadd F0 (nI (0 + i)) dX8_twill_71 (by rw [show (0 : Int32) = nI 0 from rfl]; exact nI_add 0 i) ?_
        refine j_iload_n F0 dX8_twill_72 rfl ?_
        refine j_irem F0 (nI ((0 + i) % n)) dX8_twill_73 (nI_ne0 (by omega) (by omega)) (pk_rem (by omega) (by omega) (by omega)) ?_
        refine j_ishl F0 ((1 : Int32) <<< (nI ((0 + i) % n) &&& 31)) dX8_twill_74 rfl ?_
        refine j_ior F0 (twA n 0 (i + 1)) dX8_twill_75 rfl ?_
        refine j_istore F0 [some (.ref mo), some (.int (nI n)), some (.int (nI u)), some (.int (twSum n u 0)), some (.int 0), some (.int (twA n 0 (i + 1))), some (.int (nI i))] dX8_twill_76 (by decide) rfl rfl ?_
        refine j_iinc F0 (nI (i + 1)) [some (.ref mo), some (.int (nI n)), some (.int (nI u)), some (.int (twSum n u 0)), some (.int 0), some (.int (twA n 0 (i + 1))), some (.int (nI (i + 1)))] dX8_twill_78 rfl (nI_1 i) (by decide) rfl rfl ?_
        refine j_goto F0 52 dX8_twill_81 (by decide) ?_
        exact ihg (i + 1) (by omega)
    by_cases hkn : 0 < n
    · exact inner hkn u 0 (Nat.zero_add _)
    · skip
      refine j_iload F0 dX8_twill_52 rfl ?_
      refine j_iload_n F0 dX8_twill_54 rfl ?_
      refine j_icmp_ge F0 84 dX8_twill_55 (by decide) (fun _ => ?_) (fun h9 => absurd (by rw [show (0 : Int32) = nI 0 from rfl, nI_leI (by omega) (by omega)]; omega) h9)
      have h9 := hfin0 0
      rw [show twO n u 0 = 0 from if_neg hkn] at h9
      exact h9
  intro v6
  refine j_iload_n F0 dX8_twill_84 rfl ?_
  refine j_iload F0 dX8_twill_85 rfl ?_
  refine j_aload_n F0 dX8_twill_87 rfl ?_
  refine m_get S (C := RX8) (T := TX8) (N := 4) (by decide +kernel) h29 rfl (v := .ref ta) 3 (by decide) (by decide +kernel) (fun _ h9 => h9) rfl dX8_twill_88 ?_
  refine j_iload F0 dX8_twill_91 rfl ?_
  refine m_iaload S (v := tie0 0) h32 (by unfold vp_in; decide) (by rw [show (0 : Int32).toNatClampNeg = 0 by decide]; exact o28_5 0 (by decide)) dX8_twill_93 ?_
  suffices hjk0 : J (X.at 0 0) 7 (PL G.Z X.A M17) 102 [some (.ref mo), some (.int (nI n)), some (.int (nI u)), some (.int (twSum n u 0)), some (.int 0), some (.int (twO n u 0)), some (.int v6)] [.int (twN n u 0), .int (twSum n u 0)] by
    refine j_icmp_ne F0 101 dX8_twill_94 (by decide) (fun h => ?_) (fun h => ?_)
    · skip
      refine j_iconst F0 1 dX8_twill_101 (by decide) ?_
      rw [show twN n u 0 = 1 from if_neg h] at hjk0
      exact hjk0
    · skip
      refine j_iconst F0 0 dX8_twill_97 (by decide) ?_
      refine j_goto F0 102 dX8_twill_98 (by decide) ?_
      rw [show twN n u 0 = 0 from if_pos h] at hjk0
      exact hjk0
  refine j_iadd F0 (twSum n u 1) dX8_twill_102 rfl ?_
  refine j_istore_n F0 [some (.ref mo), some (.int (nI n)), some (.int (nI u)), some (.int (twSum n u 1)), some (.int 0), some (.int (twO n u 0)), some (.int v6)] dX8_twill_103 (by decide) rfl rfl ?_
  refine j_aload_n F0 dX8_twill_104 rfl ?_
  refine m_get S (C := RX8) (T := TX8) (N := 4) (by decide +kernel) h29 rfl (v := .ref ta) 3 (by decide) (by decide +kernel) (fun _ h9 => h9) rfl dX8_twill_105 ?_
  refine j_iload F0 dX8_twill_108 rfl ?_
  refine j_iload F0 dX8_twill_110 rfl ?_
  refine m_iastore S (k0 := 0) h32 (by unfold vp_in; decide) (by decide) dX8_twill_112 (fun M36 hD37 hU35 => ?_)
  have n38 : mo ≠ ta := (In.ne hD18 h29 h32 (by simp))
  have n39 : pl28 ≠ ta := (In.ne hD18 h30 h32 (by simp))
  have n40 : pe28 ≠ ta := (In.ne hD18 h31 h32 (by simp))
  have n41 : ka ≠ ta := (In.ne hD18 h33 h32 (by simp))
  have h29 := hU35.2 _ _ n38 h29
  have h30 := hU35.2 _ _ n39 h30
  have h31 := hU35.2 _ _ n40 h31
  have h33 := hU35.2 _ _ n41 h33
  have h32 := hU35.1
  refine j_iinc F0 1 [some (.ref mo), some (.int (nI n)), some (.int (nI u)), some (.int (twSum n u 1)), some (.int 1), some (.int (twO n u 0)), some (.int v6)] dX8_twill_113 rfl (by decide) (by decide) rfl rfl ?_
  refine j_goto F0 39 dX8_twill_116 (by decide) ?_
  refine J.less [some (.ref mo), some (.int (nI n)), some (.int (nI u)), some (.int (twSum n u 1)), some (.int 1), none, none] ⟨rfl, rfl, rfl, rfl, rfl, trivial⟩ ?_
  show J (X.at 0 0) 7 (PL G.Z X.A M36) 39 [some (.ref mo), some (.int (nI n)), some (.int (nI u)), some (.int (twSum n u 1)), some (.int 1), none, none] []
  refine j_iload F0 dX8_twill_39 rfl ?_
  refine j_bipush F0 8 dX8_twill_41 (by decide) ?_
  refine j_icmp_ge F0 119 dX8_twill_43 (by decide) (fun h9 => absurd h9 (by decide)) (fun _ => ?_)
  refine j_iconst F0 0 dX8_twill_46 (by decide) ?_
  refine j_istore F0 [some (.ref mo), some (.int (nI n)), some (.int (nI u)), some (.int (twSum n u 1)), some (.int 1), some (.int 0), none] dX8_twill_47 (by decide) rfl rfl ?_
  refine j_iconst F0 0 dX8_twill_49 (by decide) ?_
  refine j_istore F0 [some (.ref mo), some (.int (nI n)), some (.int (nI u)), some (.int (twSum n u 1)), some (.int 1), some (.int 0), some (.int 0)] dX8_twill_50 (by decide) rfl rfl ?_
  suffices hfin1 : ∀ v6 : Int32, J (X.at 0 0) 7 (PL G.Z X.A M36) 84 [some (.ref mo), some (.int (nI n)), some (.int (nI u)), some (.int (twSum n u 1)), some (.int 1), some (.int (twO n u 1)), some (.int v6)] [] by
    have inner : 1 < n → ∀ (g i : Nat), i + g = u → J (X.at 0 0) 7 (PL G.Z X.A M36) 52 [some (.ref mo), some (.int (nI n)), some (.int (nI u)), some (.int (twSum n u 1)), some (.int 1), some (.int (twA n 1 i)), some (.int (nI i))] [] := by
      intro hkn g
      induction g with
      | zero =>
        intro i hi
        refine j_iload F0 dX8_twill_52 rfl ?_
        refine j_iload_n F0 dX8_twill_54 rfl ?_
        refine j_icmp_ge F0 84 dX8_twill_55 (by decide) (fun h9 => absurd h9 (by rw [show (1 : Int32) = nI 1 from rfl, nI_leI (by omega) (by omega)]; omega)) (fun _ => ?_)
        refine j_iload F0 dX8_twill_58 rfl ?_
        refine j_iload_n F0 dX8_twill_60 rfl ?_
        refine j_icmp_ge F0 84 dX8_twill_61 (by decide) (fun _ => ?_) (fun h9 => absurd (by rw [nI_leI (by omega) (by omega)]; omega) h9)
        obtain rfl : i = u := by omega
        have h9 := hfin1 (nI i)
        rw [show twO n i 1 = twA n 1 i from if_pos hkn] at h9
        exact h9
      | succ g ihg =>
        intro i hi
        refine j_iload F0 dX8_twill_52 rfl ?_
        refine j_iload_n F0 dX8_twill_54 rfl ?_
        refine j_icmp_ge F0 84 dX8_twill_55 (by decide) (fun h9 => absurd h9 (by rw [show (1 : Int32) = nI 1 from rfl, nI_leI (by omega) (by omega)]; omega)) (fun _ => ?_)
        refine j_iload F0 dX8_twill_58 rfl ?_
        refine j_iload_n F0 dX8_twill_60 rfl ?_
        refine j_icmp_ge F0 84 dX8_twill_61 (by decide) (fun h9 => absurd h9 (by rw [nI_leI (by omega) (by omega)]; omega)) (fun _ => ?_)
        refine j_iload F0 dX8_twill_64 rfl ?_
        refine j_iconst F0 1 dX8_twill_66 (by decide) ?_
        refine j_iload F0 dX8_twill_67 rfl ?_
        refine j_iload F0 dX8_twill_69 rfl ?_
        refine j_iadd F0 (nI (1 + i)) dX8_twill_71 (by rw [show (1 : Int32) = nI 1 from rfl]; exact nI_add 1 i) ?_
        refine j_iload_n F0 dX8_twill_72 rfl ?_
        refine j_irem F0 (nI ((1 + i) % n)) dX8_twill_73 (nI_ne0 (by omega) (by omega)) (pk_rem (by omega) (by omega) (by omega)) ?_
        refine j_ishl F0 ((1 : Int32) <<< (nI ((1 + i) % n) &&& 31)) dX8_twill_74 rfl ?_
        refine j_ior F0 (twA n 1 (i + 1)) dX8_twill_75 rfl ?_
        refine j_istore F0 [some (.ref mo), some (.int (nI n)), some (.int (nI u)), some (.int (twSum n u 1)), some (.int 1), some (.int (twA n 1 (i + 1))), some (.int (nI i))] dX8_twill_76 (by decide) rfl rfl ?_
        refine j_iinc F0 (nI (i + 1)) [some (.ref mo), some (.int (nI n)), some (.int (nI u)), some (.int (twSum n u 1)), some (.int 1), some (.int (twA n 1 (i + 1))), some (.int (nI (i + 1)))] dX8_twill_78 rfl (nI_1 i) (by decide) rfl rfl ?_
        refine j_goto F0 52 dX8_twill_81 (by decide) ?_
        exact ihg (i + 1) (by omega)
    by_cases hkn : 1 < n
    · exact inner hkn u 0 (Nat.zero_add _)
    · skip
      refine j_iload F0 dX8_twill_52 rfl ?_
      refine j_iload_n F0 dX8_twill_54 rfl ?_
      refine j_icmp_ge F0 84 dX8_twill_55 (by decide) (fun _ => ?_) (fun h9 => absurd (by rw [show (1 : Int32) = nI 1 from rfl, nI_leI (by omega) (by omega)]; omega) h9)
      have h9 := hfin1 0
      rw [show twO n u 1 = 0 from if_neg hkn] at h9
      exact h9
  intro v6
  refine j_iload_n F0 dX8_twill_84 rfl ?_
  refine j_iload F0 dX8_twill_85 rfl ?_
  refine j_aload_n F0 dX8_twill_87 rfl ?_
  refine m_get S (C := RX8) (T := TX8) (N := 4) (by decide +kernel) h29 rfl (v := .ref ta) 3 (by decide) (by decide +kernel) (fun _ h9 => h9) rfl dX8_twill_88 ?_
  refine j_iload F0 dX8_twill_91 rfl ?_
  refine m_iaload S (v := tie0 1) h32 (by unfold vp_in; decide) (by rw [show (1 : Int32).toNatClampNeg = 1 by decide]; exact (by show (upd tf28 0 (twO n u 0)) 1 = _; simp [upd]; exact o28_5 1 (by decide))) dX8_twill_93 ?_
  suffices hjk1 : J (X.at 0 0) 7 (PL G.Z X.A M36) 102 [some (.ref mo), some (.int (nI n)), some (.int (nI u)), some (.int (twSum n u 1)), some (.int 1), some (.int (twO n u 1)), some (.int v6)] [.int (twN n u 1), .int (twSum n u 1)] by
    refine j_icmp_ne F0 101 dX8_twill_94 (by decide) (fun h => ?_) (fun h => ?_)
    · skip
      refine j_iconst F0 1 dX8_twill_101 (by decide) ?_
      rw [show twN n u 1 = 1 from if_neg h] at hjk1
      exact hjk1
    · skip
      refine j_iconst F0 0 dX8_twill_97 (by decide) ?_
      refine j_goto F0 102 dX8_twill_98 (by decide) ?_
      rw [show twN n u 1 = 0 from if_pos h] at hjk1
      exact hjk1
  refine j_iadd F0 (twSum n u 2) dX8_twill_102 rfl ?_
  refine j_istore_n F0 [some (.ref mo), some (.int (nI n)), some (.int (nI u)), some (.int (twSum n u 2)), some (.int 1), some (.int (twO n u 1)), some (.int v6)] dX8_twill_103 (by decide) rfl rfl ?_
  refine j_aload_n F0 dX8_twill_104 rfl ?_
  refine m_get S (C := RX8) (T := TX8) (N := 4) (by decide +kernel) h29 rfl (v := .ref ta) 3 (by decide) (by decide +kernel) (fun _ h9 => h9) rfl dX8_twill_105 ?_
  refine j_iload F0 dX8_twill_108 rfl ?_
  refine j_iload F0 dX8_twill_110 rfl ?_
  refine m_iastore S (k0 := 1) h32 (by unfold vp_in; decide) (by decide) dX8_twill_112 (fun M43 hD44 hU42 => ?_)
  have n45 : mo ≠ ta := n38
  have n46 : pl28 ≠ ta := n39
  have n47 : pe28 ≠ ta := n40
  have n48 : ka ≠ ta := n41
  have h29 := hU42.2 _ _ n45 h29
  have h30 := hU42.2 _ _ n46 h30
  have h31 := hU42.2 _ _ n47 h31
  have h33 := hU42.2 _ _ n48 h33
  have h32 := hU42.1
  refine j_iinc F0 2 [some (.ref mo), some (.int (nI n)), some (.int (nI u)), some (.int (twSum n u 2)), some (.int 2), some (.int (twO n u 1)), some (.int v6)] dX8_twill_113 rfl (by decide) (by decide) rfl rfl ?_
  refine j_goto F0 39 dX8_twill_116 (by decide) ?_
  refine J.less [some (.ref mo), some (.int (nI n)), some (.int (nI u)), some (.int (twSum n u 2)), some (.int 2), none, none] ⟨rfl, rfl, rfl, rfl, rfl, trivial⟩ ?_
  show J (X.at 0 0) 7 (PL G.Z X.A M43) 39 [some (.ref mo), some (.int (nI n)), some (.int (nI u)), some (.int (twSum n u 2)), some (.int 2), none, none] []
  refine j_iload F0 dX8_twill_39 rfl ?_
  refine j_bipush F0 8 dX8_twill_41 (by decide) ?_
  refine j_icmp_ge F0 119 dX8_twill_43 (by decide) (fun h9 => absurd h9 (by decide)) (fun _ => ?_)
  refine j_iconst F0 0 dX8_twill_46 (by decide) ?_
  refine j_istore F0 [some (.ref mo), some (.int (nI n)), some (.int (nI u)), some (.int (twSum n u 2)), some (.int 2), some (.int 0), none] dX8_twill_47 (by decide) rfl rfl ?_
  refine j_iconst F0 0 dX8_twill_49 (by decide) ?_
  refine j_istore F0 [some (.ref mo), some (.int (nI n)), some (.int (nI u)), some (.int (twSum n u 2)), some (.int 2), some (.int 0), some (.int 0)] dX8_twill_50 (by decide) rfl rfl ?_
  suffices hfin2 : ∀ v6 : Int32, J (X.at 0 0) 7 (PL G.Z X.A M43) 84 [some (.ref mo), some (.int (nI n)), some (.int (nI u)), some (.int (twSum n u 2)), some (.int 2), some (.int (twO n u 2)), some (.int v6)] [] by
    have inner : 2 < n → ∀ (g i : Nat), i + g = u → J (X.at 0 0) 7 (PL G.Z X.A M43) 52 [some (.ref mo), some (.int (nI n)), some (.int (nI u)), some (.int (twSum n u 2)), some (.int 2), some (.int (twA n 2 i)), some (.int (nI i))] [] := by
      intro hkn g
      induction g with
      | zero =>
        intro i hi
        refine j_iload F0 dX8_twill_52 rfl ?_
        refine j_iload_n F0 dX8_twill_54 rfl ?_
        refine j_icmp_ge F0 84 dX8_twill_55 (by decide) (fun h9 => absurd h9 (by rw [show (2 : Int32) = nI 2 from rfl, nI_leI (by omega) (by omega)]; omega)) (fun _ => ?_)
        refine j_iload F0 dX8_twill_58 rfl ?_
        refine j_iload_n F0 dX8_twill_60 rfl ?_
        refine j_icmp_ge F0 84 dX8_twill_61 (by decide) (fun _ => ?_) (fun h9 => absurd (by rw [nI_leI (by omega) (by omega)]; omega) h9)
        obtain rfl : i = u := by omega
        have h9 := hfin2 (nI i)
        rw [show twO n i 2 = twA n 2 i from if_pos hkn] at h9
        exact h9
      | succ g ihg =>
        intro i hi
        refine j_iload F0 dX8_twill_52 rfl ?_
        refine j_iload_n F0 dX8_twill_54 rfl ?_
        refine j_icmp_ge F0 84 dX8_twill_55 (by decide) (fun h9 => absurd h9 (by rw [show (2 : Int32) = nI 2 from rfl, nI_leI (by omega) (by omega)]; omega)) (fun _ => ?_)
        refine j_iload F0 dX8_twill_58 rfl ?_
        refine j_iload_n F0 dX8_twill_60 rfl ?_
        refine j_icmp_ge F0 84 dX8_twill_61 (by decide) (fun h9 => absurd h9 (by rw [nI_leI (by omega) (by omega)]; omega)) (fun _ => ?_)
        refine j_iload F0 dX8_twill_64 rfl ?_
        refine j_iconst F0 1 dX8_twill_66 (by decide) ?_
        refine j_iload F0 dX8_twill_67 rfl ?_
        refine j_iload F0 dX8_twill_69 rfl ?_
        refine j_iadd F0 (nI (2 + i)) dX8_twill_71 (by rw [show (2 : Int32) = nI 2 from rfl]; exact nI_add 2 i) ?_
        refine j_iload_n F0 dX8_twill_72 rfl ?_
        refine j_irem F0 (nI ((2 + i) % n)) dX8_twill_73 (nI_ne0 (by omega) (by omega)) (pk_rem (by omega) (by omega) (by omega)) ?_
        refine j_ishl F0 ((1 : Int32) <<< (nI ((2 + i) % n) &&& 31)) dX8_twill_74 rfl ?_
        refine j_ior F0 (twA n 2 (i + 1)) dX8_twill_75 rfl ?_
        refine j_istore F0 [some (.ref mo), some (.int (nI n)), some (.int (nI u)), some (.int (twSum n u 2)), some (.int 2), some (.int (twA n 2 (i + 1))), some (.int (nI i))] dX8_twill_76 (by decide) rfl rfl ?_
        refine j_iinc F0 (nI (i + 1)) [some (.ref mo), some (.int (nI n)), some (.int (nI u)), some (.int (twSum n u 2)), some (.int 2), some (.int (twA n 2 (i + 1))), some (.int (nI (i + 1)))] dX8_twill_78 rfl (nI_1 i) (by decide) rfl rfl ?_
        refine j_goto F0 52 dX8_twill_81 (by decide) ?_
        exact ihg (i + 1) (by omega)
    by_cases hkn : 2 < n
    · exact inner hkn u 0 (Nat.zero_add _)
    · skip
      refine j_iload F0 dX8_twill_52 rfl ?_
      refine j_iload_n F0 dX8_twill_54 rfl ?_
      refine j_icmp_ge F0 84 dX8_twill_55 (by decide) (fun _ => ?_) (fun h9 => absurd (by rw [show (2 : Int32) = nI 2 from rfl, nI_leI (by omega) (by omega)]; omega) h9)
      have h9 := hfin2 0
      rw [show twO n u 2 = 0 from if_neg hkn] at h9
      exact h9
  intro v6
  refine j_iload_n F0 dX8_twill_84 rfl ?_
  refine j_iload F0 dX8_twill_85 rfl ?_
  refine j_aload_n F0 dX8_twill_87 rfl ?_
  refine m_get S (C := RX8) (T := TX8) (N := 4) (by decide +kernel) h29 rfl (v := .ref ta) 3 (by decide) (by decide +kernel) (fun _ h9 => h9) rfl dX8_twill_88 ?_
  refine j_iload F0 dX8_twill_91 rfl ?_
  refine m_iaload S (v := tie0 2) h32 (by unfold vp_in; decide) (by rw [show (2 : Int32).toNatClampNeg = 2 by decide]; exact (by show (upd (upd tf28 0 (twO n u 0)) 1 (twO n u 1)) 2 = _; simp [upd]; exact o28_5 2 (by decide))) dX8_twill_93 ?_
  suffices hjk2 : J (X.at 0 0) 7 (PL G.Z X.A M43) 102 [some (.ref mo), some (.int (nI n)), some (.int (nI u)), some (.int (twSum n u 2)), some (.int 2), some (.int (twO n u 2)), some (.int v6)] [.int (twN n u 2), .int (twSum n u 2)] by
    refine j_icmp_ne F0 101 dX8_twill_94 (by decide) (fun h => ?_) (fun h => ?_)
    · skip
      refine j_iconst F0 1 dX8_twill_101 (by decide) ?_
      rw [show twN n u 2 = 1 from if_neg h] at hjk2
      exact hjk2
    · skip
      refine j_iconst F0 0 dX8_twill_97 (by decide) ?_
      refine j_goto F0 102 dX8_twill_98 (by decide) ?_
      rw [show twN n u 2 = 0 from if_pos h] at hjk2
      exact hjk2
  refine j_iadd F0 (twSum n u 3) dX8_twill_102 rfl ?_
  refine j_istore_n F0 [some (.ref mo), some (.int (nI n)), some (.int (nI u)), some (.int (twSum n u 3)), some (.int 2), some (.int (twO n u 2)), some (.int v6)] dX8_twill_103 (by decide) rfl rfl ?_
  refine j_aload_n F0 dX8_twill_104 rfl ?_
  refine m_get S (C := RX8) (T := TX8) (N := 4) (by decide +kernel) h29 rfl (v := .ref ta) 3 (by decide) (by decide +kernel) (fun _ h9 => h9) rfl dX8_twill_105 ?_
  refine j_iload F0 dX8_twill_108 rfl ?_
  refine j_iload F0 dX8_twill_110 rfl ?_
  refine m_iastore S (k0 := 2) h32 (by unfold vp_in; decide) (by decide) dX8_twill_112 (fun M50 hD51 hU49 => ?_)
  have n52 : mo ≠ ta := n45
  have n53 : pl28 ≠ ta := n46
  have n54 : pe28 ≠ ta := n47
  have n55 : ka ≠ ta := n48
  have h29 := hU49.2 _ _ n52 h29
  have h30 := hU49.2 _ _ n53 h30
  have h31 := hU49.2 _ _ n54 h31
  have h33 := hU49.2 _ _ n55 h33
  have h32 := hU49.1
  refine j_iinc F0 3 [some (.ref mo), some (.int (nI n)), some (.int (nI u)), some (.int (twSum n u 3)), some (.int 3), some (.int (twO n u 2)), some (.int v6)] dX8_twill_113 rfl (by decide) (by decide) rfl rfl ?_
  refine j_goto F0 39 dX8_twill_116 (by decide) ?_
  refine J.less [some (.ref mo), some (.int (nI n)), some (.int (nI u)), some (.int (twSum n u 3)), some (.int 3), none, none] ⟨rfl, rfl, rfl, rfl, rfl, trivial⟩ ?_
  show J (X.at 0 0) 7 (PL G.Z X.A M50) 39 [some (.ref mo), some (.int (nI n)), some (.int (nI u)), some (.int (twSum n u 3)), some (.int 3), none, none] []
  refine j_iload F0 dX8_twill_39 rfl ?_
  refine j_bipush F0 8 dX8_twill_41 (by decide) ?_
  refine j_icmp_ge F0 119 dX8_twill_43 (by decide) (fun h9 => absurd h9 (by decide)) (fun _ => ?_)
  refine j_iconst F0 0 dX8_twill_46 (by decide) ?_
  refine j_istore F0 [some (.ref mo), some (.int (nI n)), some (.int (nI u)), some (.int (twSum n u 3)), some (.int 3), some (.int 0), none] dX8_twill_47 (by decide) rfl rfl ?_
  refine j_iconst F0 0 dX8_twill_49 (by decide) ?_
  refine j_istore F0 [some (.ref mo), some (.int (nI n)), some (.int (nI u)), some (.int (twSum n u 3)), some (.int 3), some (.int 0), some (.int 0)] dX8_twill_50 (by decide) rfl rfl ?_
  suffices hfin3 : ∀ v6 : Int32, J (X.at 0 0) 7 (PL G.Z X.A M50) 84 [some (.ref mo), some (.int (nI n)), some (.int (nI u)), some (.int (twSum n u 3)), some (.int 3), some (.int (twO n u 3)), some (.int v6)] [] by
    have inner : 3 < n → ∀ (g i : Nat), i + g = u → J (X.at 0 0) 7 (PL G.Z X.A M50) 52 [some (.ref mo), some (.int (nI n)), some (.int (nI u)), some (.int (twSum n u 3)), some (.int 3), some (.int (twA n 3 i)), some (.int (nI i))] [] := by
      intro hkn g
      induction g with
      | zero =>
        intro i hi
        refine j_iload F0 dX8_twill_52 rfl ?_
        refine j_iload_n F0 dX8_twill_54 rfl ?_
        refine j_icmp_ge F0 84 dX8_twill_55 (by decide) (fun h9 => absurd h9 (by rw [show (3 : Int32) = nI 3 from rfl, nI_leI (by omega) (by omega)]; omega)) (fun _ => ?_)
        refine j_iload F0 dX8_twill_58 rfl ?_
        refine j_iload_n F0 dX8_twill_60 rfl ?_
        refine j_icmp_ge F0 84 dX8_twill_61 (by decide) (fun _ => ?_) (fun h9 => absurd (by rw [nI_leI (by omega) (by omega)]; omega) h9)
        obtain rfl : i = u := by omega
        have h9 := hfin3 (nI i)
        rw [show twO n i 3 = twA n 3 i from if_pos hkn] at h9
        exact h9
      | succ g ihg =>
        intro i hi
        refine j_iload F0 dX8_twill_52 rfl ?_
        refine j_iload_n F0 dX8_twill_54 rfl ?_
        refine j_icmp_ge F0 84 dX8_twill_55 (by decide) (fun h9 => absurd h9 (by rw [show (3 : Int32) = nI 3 from rfl, nI_leI (by omega) (by omega)]; omega)) (fun _ => ?_)
        refine j_iload F0 dX8_twill_58 rfl ?_
        refine j_iload_n F0 dX8_twill_60 rfl ?_
        refine j_icmp_ge F0 84 dX8_twill_61 (by decide) (fun h9 => absurd h9 (by rw [nI_leI (by omega) (by omega)]; omega)) (fun _ => ?_)
        refine j_iload F0 dX8_twill_64 rfl ?_
        refine j_iconst F0 1 dX8_twill_66 (by decide) ?_
        refine j_iload F0 dX8_twill_67 rfl ?_
        refine j_iload F0 dX8_twill_69 rfl ?_
        refine j_iadd F0 (nI (3 + i)) dX8_twill_71 (by rw [show (3 : Int32) = nI 3 from rfl]; exact nI_add 3 i) ?_
        refine j_iload_n F0 dX8_twill_72 rfl ?_
        refine j_irem F0 (nI ((3 + i) % n)) dX8_twill_73 (nI_ne0 (by omega) (by omega)) (pk_rem (by omega) (by omega) (by omega)) ?_
        refine j_ishl F0 ((1 : Int32) <<< (nI ((3 + i) % n) &&& 31)) dX8_twill_74 rfl ?_
        refine j_ior F0 (twA n 3 (i + 1)) dX8_twill_75 rfl ?_
        refine j_istore F0 [some (.ref mo), some (.int (nI n)), some (.int (nI u)), some (.int (twSum n u 3)), some (.int 3), some (.int (twA n 3 (i + 1))), some (.int (nI i))] dX8_twill_76 (by decide) rfl rfl ?_
        refine j_iinc F0 (nI (i + 1)) [some (.ref mo), some (.int (nI n)), some (.int (nI u)), some (.int (twSum n u 3)), some (.int 3), some (.int (twA n 3 (i + 1))), some (.int (nI (i + 1)))] dX8_twill_78 rfl (nI_1 i) (by decide) rfl rfl ?_
        refine j_goto F0 52 dX8_twill_81 (by decide) ?_
        exact ihg (i + 1) (by omega)
    by_cases hkn : 3 < n
    · exact inner hkn u 0 (Nat.zero_add _)
    · skip
      refine j_iload F0 dX8_twill_52 rfl ?_
      refine j_iload_n F0 dX8_twill_54 rfl ?_
      refine j_icmp_ge F0 84 dX8_twill_55 (by decide) (fun _ => ?_) (fun h9 => absurd (by rw [show (3 : Int32) = nI 3 from rfl, nI_leI (by omega) (by omega)]; omega) h9)
      have h9 := hfin3 0
      rw [show twO n u 3 = 0 from if_neg hkn] at h9
      exact h9
  intro v6
  refine j_iload_n F0 dX8_twill_84 rfl ?_
  refine j_iload F0 dX8_twill_85 rfl ?_
  refine j_aload_n F0 dX8_twill_87 rfl ?_
  refine m_get S (C := RX8) (T := TX8) (N := 4) (by decide +kernel) h29 rfl (v := .ref ta) 3 (by decide) (by decide +kernel) (fun _ h9 => h9) rfl dX8_twill_88 ?_
  refine j_iload F0 dX8_twill_91 rfl ?_
  refine m_iaload S (v := tie0 3) h32 (by unfold vp_in; decide) (by rw [show (3 : Int32).toNatClampNeg = 3 by decide]; exact (by show (upd (upd (upd tf28 0 (twO n u 0)) 1 (twO n u 1)) 2 (twO n u 2)) 3 = _; simp [upd]; exact o28_5 3 (by decide))) dX8_twill_93 ?_
  suffices hjk3 : J (X.at 0 0) 7 (PL G.Z X.A M50) 102 [some (.ref mo), some (.int (nI n)), some (.int (nI u)), some (.int (twSum n u 3)), some (.int 3), some (.int (twO n u 3)), some (.int v6)] [.int (twN n u 3), .int (twSum n u 3)] by
    refine j_icmp_ne F0 101 dX8_twill_94 (by decide) (fun h => ?_) (fun h => ?_)
    · skip
      refine j_iconst F0 1 dX8_twill_101 (by decide) ?_
      rw [show twN n u 3 = 1 from if_neg h] at hjk3
      exact hjk3
    · skip
      refine j_iconst F0 0 dX8_twill_97 (by decide) ?_
      refine j_goto F0 102 dX8_twill_98 (by decide) ?_
      rw [show twN n u 3 = 0 from if_pos h] at hjk3
      exact hjk3
  refine j_iadd F0 (twSum n u 4) dX8_twill_102 rfl ?_
  refine j_istore_n F0 [some (.ref mo), some (.int (nI n)), some (.int (nI u)), some (.int (twSum n u 4)), some (.int 3), some (.int (twO n u 3)), some (.int v6)] dX8_twill_103 (by decide) rfl rfl ?_
  refine j_aload_n F0 dX8_twill_104 rfl ?_
  refine m_get S (C := RX8) (T := TX8) (N := 4) (by decide +kernel) h29 rfl (v := .ref ta) 3 (by decide) (by decide +kernel) (fun _ h9 => h9) rfl dX8_twill_105 ?_
  refine j_iload F0 dX8_twill_108 rfl ?_
  refine j_iload F0 dX8_twill_110 rfl ?_
  refine m_iastore S (k0 := 3) h32 (by unfold vp_in; decide) (by decide) dX8_twill_112 (fun M57 hD58 hU56 => ?_)
  have n59 : mo ≠ ta := n52
  have n60 : pl28 ≠ ta := n53
  have n61 : pe28 ≠ ta := n54
  have n62 : ka ≠ ta := n55
  have h29 := hU56.2 _ _ n59 h29
  have h30 := hU56.2 _ _ n60 h30
  have h31 := hU56.2 _ _ n61 h31
  have h33 := hU56.2 _ _ n62 h33
  have h32 := hU56.1
  refine j_iinc F0 4 [some (.ref mo), some (.int (nI n)), some (.int (nI u)), some (.int (twSum n u 4)), some (.int 4), some (.int (twO n u 3)), some (.int v6)] dX8_twill_113 rfl (by decide) (by decide) rfl rfl ?_
  refine j_goto F0 39 dX8_twill_116 (by decide) ?_
  refine J.less [some (.ref mo), some (.int (nI n)), some (.int (nI u)), some (.int (twSum n u 4)), some (.int 4), none, none] ⟨rfl, rfl, rfl, rfl, rfl, trivial⟩ ?_
  show J (X.at 0 0) 7 (PL G.Z X.A M57) 39 [some (.ref mo), some (.int (nI n)), some (.int (nI u)), some (.int (twSum n u 4)), some (.int 4), none, none] []
  refine j_iload F0 dX8_twill_39 rfl ?_
  refine j_bipush F0 8 dX8_twill_41 (by decide) ?_
  refine j_icmp_ge F0 119 dX8_twill_43 (by decide) (fun h9 => absurd h9 (by decide)) (fun _ => ?_)
  refine j_iconst F0 0 dX8_twill_46 (by decide) ?_
  refine j_istore F0 [some (.ref mo), some (.int (nI n)), some (.int (nI u)), some (.int (twSum n u 4)), some (.int 4), some (.int 0), none] dX8_twill_47 (by decide) rfl rfl ?_
  refine j_iconst F0 0 dX8_twill_49 (by decide) ?_
  refine j_istore F0 [some (.ref mo), some (.int (nI n)), some (.int (nI u)), some (.int (twSum n u 4)), some (.int 4), some (.int 0), some (.int 0)] dX8_twill_50 (by decide) rfl rfl ?_
  suffices hfin4 : ∀ v6 : Int32, J (X.at 0 0) 7 (PL G.Z X.A M57) 84 [some (.ref mo), some (.int (nI n)), some (.int (nI u)), some (.int (twSum n u 4)), some (.int 4), some (.int (twO n u 4)), some (.int v6)] [] by
    have inner : 4 < n → ∀ (g i : Nat), i + g = u → J (X.at 0 0) 7 (PL G.Z X.A M57) 52 [some (.ref mo), some (.int (nI n)), some (.int (nI u)), some (.int (twSum n u 4)), some (.int 4), some (.int (twA n 4 i)), some (.int (nI i))] [] := by
      intro hkn g
      induction g with
      | zero =>
        intro i hi
        refine j_iload F0 dX8_twill_52 rfl ?_
        refine j_iload_n F0 dX8_twill_54 rfl ?_
        refine j_icmp_ge F0 84 dX8_twill_55 (by decide) (fun h9 => absurd h9 (by rw [show (4 : Int32) = nI 4 from rfl, nI_leI (by omega) (by omega)]; omega)) (fun _ => ?_)
        refine j_iload F0 dX8_twill_58 rfl ?_
        refine j_iload_n F0 dX8_twill_60 rfl ?_
        refine j_icmp_ge F0 84 dX8_twill_61 (by decide) (fun _ => ?_) (fun h9 => absurd (by rw [nI_leI (by omega) (by omega)]; omega) h9)
        obtain rfl : i = u := by omega
        have h9 := hfin4 (nI i)
        rw [show twO n i 4 = twA n 4 i from if_pos hkn] at h9
        exact h9
      | succ g ihg =>
        intro i hi
        refine j_iload F0 dX8_twill_52 rfl ?_
        refine j_iload_n F0 dX8_twill_54 rfl ?_
        refine j_icmp_ge F0 84 dX8_twill_55 (by decide) (fun h9 => absurd h9 (by rw [show (4 : Int32) = nI 4 from rfl, nI_leI (by omega) (by omega)]; omega)) (fun _ => ?_)
        refine j_iload F0 dX8_twill_58 rfl ?_
        refine j_iload_n F0 dX8_twill_60 rfl ?_
        refine j_icmp_ge F0 84 dX8_twill_61 (by decide) (fun h9 => absurd h9 (by rw [nI_leI (by omega) (by omega)]; omega)) (fun _ => ?_)
        refine j_iload F0 dX8_twill_64 rfl ?_
        refine j_iconst F0 1 dX8_twill_66 (by decide) ?_
        refine j_iload F0 dX8_twill_67 rfl ?_
        refine j_iload F0 dX8_twill_69 rfl ?_
        refine j_iadd F0 (nI (4 + i)) dX8_twill_71 (by rw [show (4 : Int32) = nI 4 from rfl]; exact nI_add 4 i) ?_
        refine j_iload_n F0 dX8_twill_72 rfl ?_
        refine j_irem F0 (nI ((4 + i) % n)) dX8_twill_73 (nI_ne0 (by omega) (by omega)) (pk_rem (by omega) (by omega) (by omega)) ?_
        refine j_ishl F0 ((1 : Int32) <<< (nI ((4 + i) % n) &&& 31)) dX8_twill_74 rfl ?_
        refine j_ior F0 (twA n 4 (i + 1)) dX8_twill_75 rfl ?_
        refine j_istore F0 [some (.ref mo), some (.int (nI n)), some (.int (nI u)), some (.int (twSum n u 4)), some (.int 4), some (.int (twA n 4 (i + 1))), some (.int (nI i))] dX8_twill_76 (by decide) rfl rfl ?_
        refine j_iinc F0 (nI (i + 1)) [some (.ref mo), some (.int (nI n)), some (.int (nI u)), some (.int (twSum n u 4)), some (.int 4), some (.int (twA n 4 (i + 1))), some (.int (nI (i + 1)))] dX8_twill_78 rfl (nI_1 i) (by decide) rfl rfl ?_
        refine j_goto F0 52 dX8_twill_81 (by decide) ?_
        exact ihg (i + 1) (by omega)
    by_cases hkn : 4 < n
    · exact inner hkn u 0 (Nat.zero_add _)
    · skip
      refine j_iload F0 dX8_twill_52 rfl ?_
      refine j_iload_n F0 dX8_twill_54 rfl ?_
      refine j_icmp_ge F0 84 dX8_twill_55 (by decide) (fun _ => ?_) (fun h9 => absurd (by rw [show (4 : Int32) = nI 4 from rfl, nI_leI (by omega) (by omega)]; omega) h9)
      have h9 := hfin4 0
      rw [show twO n u 4 = 0 from if_neg hkn] at h9
      exact h9
  intro v6
  refine j_iload_n F0 dX8_twill_84 rfl ?_
  refine j_iload F0 dX8_twill_85 rfl ?_
  refine j_aload_n F0 dX8_twill_87 rfl ?_
  refine m_get S (C := RX8) (T := TX8) (N := 4) (by decide +kernel) h29 rfl (v := .ref ta) 3 (by decide) (by decide +kernel) (fun _ h9 => h9) rfl dX8_twill_88 ?_
  refine j_iload F0 dX8_twill_91 rfl ?_
  refine m_iaload S (v := tie0 4) h32 (by unfold vp_in; decide) (by rw [show (4 : Int32).toNatClampNeg = 4 by decide]; exact (by show (upd (upd (upd (upd tf28 0 (twO n u 0)) 1 (twO n u 1)) 2 (twO n u 2)) 3 (twO n u 3)) 4 = _; simp [upd]; exact o28_5 4 (by decide))) dX8_twill_93 ?_
  suffices hjk4 : J (X.at 0 0) 7 (PL G.Z X.A M57) 102 [some (.ref mo), some (.int (nI n)), some (.int (nI u)), some (.int (twSum n u 4)), some (.int 4), some (.int (twO n u 4)), some (.int v6)] [.int (twN n u 4), .int (twSum n u 4)] by
    refine j_icmp_ne F0 101 dX8_twill_94 (by decide) (fun h => ?_) (fun h => ?_)
    · skip
      refine j_iconst F0 1 dX8_twill_101 (by decide) ?_
      rw [show twN n u 4 = 1 from if_neg h] at hjk4
      exact hjk4
    · skip
      refine j_iconst F0 0 dX8_twill_97 (by decide) ?_
      refine j_goto F0 102 dX8_twill_98 (by decide) ?_
      rw [show twN n u 4 = 0 from if_pos h] at hjk4
      exact hjk4
  refine j_iadd F0 (twSum n u 5) dX8_twill_102 rfl ?_
  refine j_istore_n F0 [some (.ref mo), some (.int (nI n)), some (.int (nI u)), some (.int (twSum n u 5)), some (.int 4), some (.int (twO n u 4)), some (.int v6)] dX8_twill_103 (by decide) rfl rfl ?_
  refine j_aload_n F0 dX8_twill_104 rfl ?_
  refine m_get S (C := RX8) (T := TX8) (N := 4) (by decide +kernel) h29 rfl (v := .ref ta) 3 (by decide) (by decide +kernel) (fun _ h9 => h9) rfl dX8_twill_105 ?_
  refine j_iload F0 dX8_twill_108 rfl ?_
  refine j_iload F0 dX8_twill_110 rfl ?_
  refine m_iastore S (k0 := 4) h32 (by unfold vp_in; decide) (by decide) dX8_twill_112 (fun M64 hD65 hU63 => ?_)
  have n66 : mo ≠ ta := n59
  have n67 : pl28 ≠ ta := n60
  have n68 : pe28 ≠ ta := n61
  have n69 : ka ≠ ta := n62
  have h29 := hU63.2 _ _ n66 h29
  have h30 := hU63.2 _ _ n67 h30
  have h31 := hU63.2 _ _ n68 h31
  have h33 := hU63.2 _ _ n69 h33
  have h32 := hU63.1
  refine j_iinc F0 5 [some (.ref mo), some (.int (nI n)), some (.int (nI u)), some (.int (twSum n u 5)), some (.int 5), some (.int (twO n u 4)), some (.int v6)] dX8_twill_113 rfl (by decide) (by decide) rfl rfl ?_
  refine j_goto F0 39 dX8_twill_116 (by decide) ?_
  refine J.less [some (.ref mo), some (.int (nI n)), some (.int (nI u)), some (.int (twSum n u 5)), some (.int 5), none, none] ⟨rfl, rfl, rfl, rfl, rfl, trivial⟩ ?_
  show J (X.at 0 0) 7 (PL G.Z X.A M64) 39 [some (.ref mo), some (.int (nI n)), some (.int (nI u)), some (.int (twSum n u 5)), some (.int 5), none, none] []
  refine j_iload F0 dX8_twill_39 rfl ?_
  refine j_bipush F0 8 dX8_twill_41 (by decide) ?_
  refine j_icmp_ge F0 119 dX8_twill_43 (by decide) (fun h9 => absurd h9 (by decide)) (fun _ => ?_)
  refine j_iconst F0 0 dX8_twill_46 (by decide) ?_
  refine j_istore F0 [some (.ref mo), some (.int (nI n)), some (.int (nI u)), some (.int (twSum n u 5)), some (.int 5), some (.int 0), none] dX8_twill_47 (by decide) rfl rfl ?_
  refine j_iconst F0 0 dX8_twill_49 (by decide) ?_
  refine j_istore F0 [some (.ref mo), some (.int (nI n)), some (.int (nI u)), some (.int (twSum n u 5)), some (.int 5), some (.int 0), some (.int 0)] dX8_twill_50 (by decide) rfl rfl ?_
  suffices hfin5 : ∀ v6 : Int32, J (X.at 0 0) 7 (PL G.Z X.A M64) 84 [some (.ref mo), some (.int (nI n)), some (.int (nI u)), some (.int (twSum n u 5)), some (.int 5), some (.int (twO n u 5)), some (.int v6)] [] by
    have inner : 5 < n → ∀ (g i : Nat), i + g = u → J (X.at 0 0) 7 (PL G.Z X.A M64) 52 [some (.ref mo), some (.int (nI n)), some (.int (nI u)), some (.int (twSum n u 5)), some (.int 5), some (.int (twA n 5 i)), some (.int (nI i))] [] := by
      intro hkn g
      induction g with
      | zero =>
        intro i hi
        refine j_iload F0 dX8_twill_52 rfl ?_
        refine j_iload_n F0 dX8_twill_54 rfl ?_
        refine j_icmp_ge F0 84 dX8_twill_55 (by decide) (fun h9 => absurd h9 (by rw [show (5 : Int32) = nI 5 from rfl, nI_leI (by omega) (by omega)]; omega)) (fun _ => ?_)
        refine j_iload F0 dX8_twill_58 rfl ?_
        refine j_iload_n F0 dX8_twill_60 rfl ?_
        refine j_icmp_ge F0 84 dX8_twill_61 (by decide) (fun _ => ?_) (fun h9 => absurd (by rw [nI_leI (by omega) (by omega)]; omega) h9)
        obtain rfl : i = u := by omega
        have h9 := hfin5 (nI i)
        rw [show twO n i 5 = twA n 5 i from if_pos hkn] at h9
        exact h9
      | succ g ihg =>
        intro i hi
        refine j_iload F0 dX8_twill_52 rfl ?_
        refine j_iload_n F0 dX8_twill_54 rfl ?_
        refine j_icmp_ge F0 84 dX8_twill_55 (by decide) (fun h9 => absurd h9 (by rw [show (5 : Int32) = nI 5 from rfl, nI_leI (by omega) (by omega)]; omega)) (fun _ => ?_)
        refine j_iload F0 dX8_twill_58 rfl ?_
        refine j_iload_n F0 dX8_twill_60 rfl ?_
        refine j_icmp_ge F0 84 dX8_twill_61 (by decide) (fun h9 => absurd h9 (by rw [nI_leI (by omega) (by omega)]; omega)) (fun _ => ?_)
        refine j_iload F0 dX8_twill_64 rfl ?_
        refine j_iconst F0 1 dX8_twill_66 (by decide) ?_
        refine j_iload F0 dX8_twill_67 rfl ?_
        refine j_iload F0 dX8_twill_69 rfl ?_
        refine j_iadd F0 (nI (5 + i)) dX8_twill_71 (by rw [show (5 : Int32) = nI 5 from rfl]; exact nI_add 5 i) ?_
        refine j_iload_n F0 dX8_twill_72 rfl ?_
        refine j_irem F0 (nI ((5 + i) % n)) dX8_twill_73 (nI_ne0 (by omega) (by omega)) (pk_rem (by omega) (by omega) (by omega)) ?_
        refine j_ishl F0 ((1 : Int32) <<< (nI ((5 + i) % n) &&& 31)) dX8_twill_74 rfl ?_
        refine j_ior F0 (twA n 5 (i + 1)) dX8_twill_75 rfl ?_
        refine j_istore F0 [some (.ref mo), some (.int (nI n)), some (.int (nI u)), some (.int (twSum n u 5)), some (.int 5), some (.int (twA n 5 (i + 1))), some (.int (nI i))] dX8_twill_76 (by decide) rfl rfl ?_
        refine j_iinc F0 (nI (i + 1)) [some (.ref mo), some (.int (nI n)), some (.int (nI u)), some (.int (twSum n u 5)), some (.int 5), some (.int (twA n 5 (i + 1))), some (.int (nI (i + 1)))] dX8_twill_78 rfl (nI_1 i) (by decide) rfl rfl ?_
        refine j_goto F0 52 dX8_twill_81 (by decide) ?_
        exact ihg (i + 1) (by omega)
    by_cases hkn : 5 < n
    · exact inner hkn u 0 (Nat.zero_add _)
    · skip
      refine j_iload F0 dX8_twill_52 rfl ?_
      refine j_iload_n F0 dX8_twill_54 rfl ?_
      refine j_icmp_ge F0 84 dX8_twill_55 (by decide) (fun _ => ?_) (fun h9 => absurd (by rw [show (5 : Int32) = nI 5 from rfl, nI_leI (by omega) (by omega)]; omega) h9)
      have h9 := hfin5 0
      rw [show twO n u 5 = 0 from if_neg hkn] at h9
      exact h9
  intro v6
  refine j_iload_n F0 dX8_twill_84 rfl ?_
  refine j_iload F0 dX8_twill_85 rfl ?_
  refine j_aload_n F0 dX8_twill_87 rfl ?_
  refine m_get S (C := RX8) (T := TX8) (N := 4) (by decide +kernel) h29 rfl (v := .ref ta) 3 (by decide) (by decide +kernel) (fun _ h9 => h9) rfl dX8_twill_88 ?_
  refine j_iload F0 dX8_twill_91 rfl ?_
  refine m_iaload S (v := tie0 5) h32 (by unfold vp_in; decide) (by rw [show (5 : Int32).toNatClampNeg = 5 by decide]; exact (by show (upd (upd (upd (upd (upd tf28 0 (twO n u 0)) 1 (twO n u 1)) 2 (twO n u 2)) 3 (twO n u 3)) 4 (twO n u 4)) 5 = _; simp [upd]; exact o28_5 5 (by decide))) dX8_twill_93 ?_
  suffices hjk5 : J (X.at 0 0) 7 (PL G.Z X.A M64) 102 [some (.ref mo), some (.int (nI n)), some (.int (nI u)), some (.int (twSum n u 5)), some (.int 5), some (.int (twO n u 5)), some (.int v6)] [.int (twN n u 5), .int (twSum n u 5)] by
    refine j_icmp_ne F0 101 dX8_twill_94 (by decide) (fun h => ?_) (fun h => ?_)
    · skip
      refine j_iconst F0 1 dX8_twill_101 (by decide) ?_
      rw [show twN n u 5 = 1 from if_neg h] at hjk5
      exact hjk5
    · skip
      refine j_iconst F0 0 dX8_twill_97 (by decide) ?_
      refine j_goto F0 102 dX8_twill_98 (by decide) ?_
      rw [show twN n u 5 = 0 from if_pos h] at hjk5
      exact hjk5
  refine j_iadd F0 (twSum n u 6) dX8_twill_102 rfl ?_
  refine j_istore_n F0 [some (.ref mo), some (.int (nI n)), some (.int (nI u)), some (.int (twSum n u 6)), some (.int 5), some (.int (twO n u 5)), some (.int v6)] dX8_twill_103 (by decide) rfl rfl ?_
  refine j_aload_n F0 dX8_twill_104 rfl ?_
  refine m_get S (C := RX8) (T := TX8) (N := 4) (by decide +kernel) h29 rfl (v := .ref ta) 3 (by decide) (by decide +kernel) (fun _ h9 => h9) rfl dX8_twill_105 ?_
  refine j_iload F0 dX8_twill_108 rfl ?_
  refine j_iload F0 dX8_twill_110 rfl ?_
  refine m_iastore S (k0 := 5) h32 (by unfold vp_in; decide) (by decide) dX8_twill_112 (fun M71 hD72 hU70 => ?_)
  have n73 : mo ≠ ta := n66
  have n74 : pl28 ≠ ta := n67
  have n75 : pe28 ≠ ta := n68
  have n76 : ka ≠ ta := n69
  have h29 := hU70.2 _ _ n73 h29
  have h30 := hU70.2 _ _ n74 h30
  have h31 := hU70.2 _ _ n75 h31
  have h33 := hU70.2 _ _ n76 h33
  have h32 := hU70.1
  refine j_iinc F0 6 [some (.ref mo), some (.int (nI n)), some (.int (nI u)), some (.int (twSum n u 6)), some (.int 6), some (.int (twO n u 5)), some (.int v6)] dX8_twill_113 rfl (by decide) (by decide) rfl rfl ?_
  refine j_goto F0 39 dX8_twill_116 (by decide) ?_
  refine J.less [some (.ref mo), some (.int (nI n)), some (.int (nI u)), some (.int (twSum n u 6)), some (.int 6), none, none] ⟨rfl, rfl, rfl, rfl, rfl, trivial⟩ ?_
  show J (X.at 0 0) 7 (PL G.Z X.A M71) 39 [some (.ref mo), some (.int (nI n)), some (.int (nI u)), some (.int (twSum n u 6)), some (.int 6), none, none] []
  refine j_iload F0 dX8_twill_39 rfl ?_
  refine j_bipush F0 8 dX8_twill_41 (by decide) ?_
  refine j_icmp_ge F0 119 dX8_twill_43 (by decide) (fun h9 => absurd h9 (by decide)) (fun _ => ?_)
  refine j_iconst F0 0 dX8_twill_46 (by decide) ?_
  refine j_istore F0 [some (.ref mo), some (.int (nI n)), some (.int (nI u)), some (.int (twSum n u 6)), some (.int 6), some (.int 0), none] dX8_twill_47 (by decide) rfl rfl ?_
  refine j_iconst F0 0 dX8_twill_49 (by decide) ?_
  refine j_istore F0 [some (.ref mo), some (.int (nI n)), some (.int (nI u)), some (.int (twSum n u 6)), some (.int 6), some (.int 0), some (.int 0)] dX8_twill_50 (by decide) rfl rfl ?_
  suffices hfin6 : ∀ v6 : Int32, J (X.at 0 0) 7 (PL G.Z X.A M71) 84 [some (.ref mo), some (.int (nI n)), some (.int (nI u)), some (.int (twSum n u 6)), some (.int 6), some (.int (twO n u 6)), some (.int v6)] [] by
    have inner : 6 < n → ∀ (g i : Nat), i + g = u → J (X.at 0 0) 7 (PL G.Z X.A M71) 52 [some (.ref mo), some (.int (nI n)), some (.int (nI u)), some (.int (twSum n u 6)), some (.int 6), some (.int (twA n 6 i)), some (.int (nI i))] [] := by
      intro hkn g
      induction g with
      | zero =>
        intro i hi
        refine j_iload F0 dX8_twill_52 rfl ?_
        refine j_iload_n F0 dX8_twill_54 rfl ?_
        refine j_icmp_ge F0 84 dX8_twill_55 (by decide) (fun h9 => absurd h9 (by rw [show (6 : Int32) = nI 6 from rfl, nI_leI (by omega) (by omega)]; omega)) (fun _ => ?_)
        refine j_iload F0 dX8_twill_58 rfl ?_
        refine j_iload_n F0 dX8_twill_60 rfl ?_
        refine j_icmp_ge F0 84 dX8_twill_61 (by decide) (fun _ => ?_) (fun h9 => absurd (by rw [nI_leI (by omega) (by omega)]; omega) h9)
        obtain rfl : i = u := by omega
        have h9 := hfin6 (nI i)
        rw [show twO n i 6 = twA n 6 i from if_pos hkn] at h9
        exact h9
      | succ g ihg =>
        intro i hi
        refine j_iload F0 dX8_twill_52 rfl ?_
        refine j_iload_n F0 dX8_twill_54 rfl ?_
        refine j_icmp_ge F0 84 dX8_twill_55 (by decide) (fun h9 => absurd h9 (by rw [show (6 : Int32) = nI 6 from rfl, nI_leI (by omega) (by omega)]; omega)) (fun _ => ?_)
        refine j_iload F0 dX8_twill_58 rfl ?_
        refine j_iload_n F0 dX8_twill_60 rfl ?_
        refine j_icmp_ge F0 84 dX8_twill_61 (by decide) (fun h9 => absurd h9 (by rw [nI_leI (by omega) (by omega)]; omega)) (fun _ => ?_)
        refine j_iload F0 dX8_twill_64 rfl ?_
        refine j_iconst F0 1 dX8_twill_66 (by decide) ?_
        refine j_iload F0 dX8_twill_67 rfl ?_
        refine j_iload F0 dX8_twill_69 rfl ?_
        refine j_iadd F0 (nI (6 + i)) dX8_twill_71 (by rw [show (6 : Int32) = nI 6 from rfl]; exact nI_add 6 i) ?_
        refine j_iload_n F0 dX8_twill_72 rfl ?_
        refine j_irem F0 (nI ((6 + i) % n)) dX8_twill_73 (nI_ne0 (by omega) (by omega)) (pk_rem (by omega) (by omega) (by omega)) ?_
        refine j_ishl F0 ((1 : Int32) <<< (nI ((6 + i) % n) &&& 31)) dX8_twill_74 rfl ?_
        refine j_ior F0 (twA n 6 (i + 1)) dX8_twill_75 rfl ?_
        refine j_istore F0 [some (.ref mo), some (.int (nI n)), some (.int (nI u)), some (.int (twSum n u 6)), some (.int 6), some (.int (twA n 6 (i + 1))), some (.int (nI i))] dX8_twill_76 (by decide) rfl rfl ?_
        refine j_iinc F0 (nI (i + 1)) [some (.ref mo), some (.int (nI n)), some (.int (nI u)), some (.int (twSum n u 6)), some (.int 6), some (.int (twA n 6 (i + 1))), some (.int (nI (i + 1)))] dX8_twill_78 rfl (nI_1 i) (by decide) rfl rfl ?_
        refine j_goto F0 52 dX8_twill_81 (by decide) ?_
        exact ihg (i + 1) (by omega)
    by_cases hkn : 6 < n
    · exact inner hkn u 0 (Nat.zero_add _)
    · skip
      refine j_iload F0 dX8_twill_52 rfl ?_
      refine j_iload_n F0 dX8_twill_54 rfl ?_
      refine j_icmp_ge F0 84 dX8_twill_55 (by decide) (fun _ => ?_) (fun h9 => absurd (by rw [show (6 : Int32) = nI 6 from rfl, nI_leI (by omega) (by omega)]; omega) h9)
      have h9 := hfin6 0
      rw [show twO n u 6 = 0 from if_neg hkn] at h9
      exact h9
  intro v6
  refine j_iload_n F0 dX8_twill_84 rfl ?_
  refine j_iload F0 dX8_twill_85 rfl ?_
  refine j_aload_n F0 dX8_twill_87 rfl ?_
  refine m_get S (C := RX8) (T := TX8) (N := 4) (by decide +kernel) h29 rfl (v := .ref ta) 3 (by decide) (by decide +kernel) (fun _ h9 => h9) rfl dX8_twill_88 ?_
  refine j_iload F0 dX8_twill_91 rfl ?_
  refine m_iaload S (v := tie0 6) h32 (by unfold vp_in; decide) (by rw [show (6 : Int32).toNatClampNeg = 6 by decide]; exact (by show (upd (upd (upd (upd (upd (upd tf28 0 (twO n u 0)) 1 (twO n u 1)) 2 (twO n u 2)) 3 (twO n u 3)) 4 (twO n u 4)) 5 (twO n u 5)) 6 = _; simp [upd]; exact o28_5 6 (by decide))) dX8_twill_93 ?_
  suffices hjk6 : J (X.at 0 0) 7 (PL G.Z X.A M71) 102 [some (.ref mo), some (.int (nI n)), some (.int (nI u)), some (.int (twSum n u 6)), some (.int 6), some (.int (twO n u 6)), some (.int v6)] [.int (twN n u 6), .int (twSum n u 6)] by
    refine j_icmp_ne F0 101 dX8_twill_94 (by decide) (fun h => ?_) (fun h => ?_)
    · skip
      refine j_iconst F0 1 dX8_twill_101 (by decide) ?_
      rw [show twN n u 6 = 1 from if_neg h] at hjk6
      exact hjk6
    · skip
      refine j_iconst F0 0 dX8_twill_97 (by decide) ?_
      refine j_goto F0 102 dX8_twill_98 (by decide) ?_
      rw [show twN n u 6 = 0 from if_pos h] at hjk6
      exact hjk6
  refine j_iadd F0 (twSum n u 7) dX8_twill_102 rfl ?_
  refine j_istore_n F0 [some (.ref mo), some (.int (nI n)), some (.int (nI u)), some (.int (twSum n u 7)), some (.int 6), some (.int (twO n u 6)), some (.int v6)] dX8_twill_103 (by decide) rfl rfl ?_
  refine j_aload_n F0 dX8_twill_104 rfl ?_
  refine m_get S (C := RX8) (T := TX8) (N := 4) (by decide +kernel) h29 rfl (v := .ref ta) 3 (by decide) (by decide +kernel) (fun _ h9 => h9) rfl dX8_twill_105 ?_
  refine j_iload F0 dX8_twill_108 rfl ?_
  refine j_iload F0 dX8_twill_110 rfl ?_
  refine m_iastore S (k0 := 6) h32 (by unfold vp_in; decide) (by decide) dX8_twill_112 (fun M78 hD79 hU77 => ?_)
  have n80 : mo ≠ ta := n73
  have n81 : pl28 ≠ ta := n74
  have n82 : pe28 ≠ ta := n75
  have n83 : ka ≠ ta := n76
  have h29 := hU77.2 _ _ n80 h29
  have h30 := hU77.2 _ _ n81 h30
  have h31 := hU77.2 _ _ n82 h31
  have h33 := hU77.2 _ _ n83 h33
  have h32 := hU77.1
  refine j_iinc F0 7 [some (.ref mo), some (.int (nI n)), some (.int (nI u)), some (.int (twSum n u 7)), some (.int 7), some (.int (twO n u 6)), some (.int v6)] dX8_twill_113 rfl (by decide) (by decide) rfl rfl ?_
  refine j_goto F0 39 dX8_twill_116 (by decide) ?_
  refine J.less [some (.ref mo), some (.int (nI n)), some (.int (nI u)), some (.int (twSum n u 7)), some (.int 7), none, none] ⟨rfl, rfl, rfl, rfl, rfl, trivial⟩ ?_
  show J (X.at 0 0) 7 (PL G.Z X.A M78) 39 [some (.ref mo), some (.int (nI n)), some (.int (nI u)), some (.int (twSum n u 7)), some (.int 7), none, none] []
  refine j_iload F0 dX8_twill_39 rfl ?_
  refine j_bipush F0 8 dX8_twill_41 (by decide) ?_
  refine j_icmp_ge F0 119 dX8_twill_43 (by decide) (fun h9 => absurd h9 (by decide)) (fun _ => ?_)
  refine j_iconst F0 0 dX8_twill_46 (by decide) ?_
  refine j_istore F0 [some (.ref mo), some (.int (nI n)), some (.int (nI u)), some (.int (twSum n u 7)), some (.int 7), some (.int 0), none] dX8_twill_47 (by decide) rfl rfl ?_
  refine j_iconst F0 0 dX8_twill_49 (by decide) ?_
  refine j_istore F0 [some (.ref mo), some (.int (nI n)), some (.int (nI u)), some (.int (twSum n u 7)), some (.int 7), some (.int 0), some (.int 0)] dX8_twill_50 (by decide) rfl rfl ?_
  suffices hfin7 : ∀ v6 : Int32, J (X.at 0 0) 7 (PL G.Z X.A M78) 84 [some (.ref mo), some (.int (nI n)), some (.int (nI u)), some (.int (twSum n u 7)), some (.int 7), some (.int (twO n u 7)), some (.int v6)] [] by
    have inner : 7 < n → ∀ (g i : Nat), i + g = u → J (X.at 0 0) 7 (PL G.Z X.A M78) 52 [some (.ref mo), some (.int (nI n)), some (.int (nI u)), some (.int (twSum n u 7)), some (.int 7), some (.int (twA n 7 i)), some (.int (nI i))] [] := by
      intro hkn g
      induction g with
      | zero =>
        intro i hi
        refine j_iload F0 dX8_twill_52 rfl ?_
        refine j_iload_n F0 dX8_twill_54 rfl ?_
        refine j_icmp_ge F0 84 dX8_twill_55 (by decide) (fun h9 => absurd h9 (by rw [show (7 : Int32) = nI 7 from rfl, nI_leI (by omega) (by omega)]; omega)) (fun _ => ?_)
        refine j_iload F0 dX8_twill_58 rfl ?_
        refine j_iload_n F0 dX8_twill_60 rfl ?_
        refine j_icmp_ge F0 84 dX8_twill_61 (by decide) (fun _ => ?_) (fun h9 => absurd (by rw [nI_leI (by omega) (by omega)]; omega) h9)
        obtain rfl : i = u := by omega
        have h9 := hfin7 (nI i)
        rw [show twO n i 7 = twA n 7 i from if_pos hkn] at h9
        exact h9
      | succ g ihg =>
        intro i hi
        refine j_iload F0 dX8_twill_52 rfl ?_
        refine j_iload_n F0 dX8_twill_54 rfl ?_
        refine j_icmp_ge F0 84 dX8_twill_55 (by decide) (fun h9 => absurd h9 (by rw [show (7 : Int32) = nI 7 from rfl, nI_leI (by omega) (by omega)]; omega)) (fun _ => ?_)
        refine j_iload F0 dX8_twill_58 rfl ?_
        refine j_iload_n F0 dX8_twill_60 rfl ?_
        refine j_icmp_ge F0 84 dX8_twill_61 (by decide) (fun h9 => absurd h9 (by rw [nI_leI (by omega) (by omega)]; omega)) (fun _ => ?_)
        refine j_iload F0 dX8_twill_64 rfl ?_
        refine j_iconst F0 1 dX8_twill_66 (by decide) ?_
        refine j_iload F0 dX8_twill_67 rfl ?_
        refine j_iload F0 dX8_twill_69 rfl ?_
        refine j_iadd F0 (nI (7 + i)) dX8_twill_71 (by rw [show (7 : Int32) = nI 7 from rfl]; exact nI_add 7 i) ?_
        refine j_iload_n F0 dX8_twill_72 rfl ?_
        refine j_irem F0 (nI ((7 + i) % n)) dX8_twill_73 (nI_ne0 (by omega) (by omega)) (pk_rem (by omega) (by omega) (by omega)) ?_
        refine j_ishl F0 ((1 : Int32) <<< (nI ((7 + i) % n) &&& 31)) dX8_twill_74 rfl ?_
        refine j_ior F0 (twA n 7 (i + 1)) dX8_twill_75 rfl ?_
        refine j_istore F0 [some (.ref mo), some (.int (nI n)), some (.int (nI u)), some (.int (twSum n u 7)), some (.int 7), some (.int (twA n 7 (i + 1))), some (.int (nI i))] dX8_twill_76 (by decide) rfl rfl ?_
        refine j_iinc F0 (nI (i + 1)) [some (.ref mo), some (.int (nI n)), some (.int (nI u)), some (.int (twSum n u 7)), some (.int 7), some (.int (twA n 7 (i + 1))), some (.int (nI (i + 1)))] dX8_twill_78 rfl (nI_1 i) (by decide) rfl rfl ?_
        refine j_goto F0 52 dX8_twill_81 (by decide) ?_
        exact ihg (i + 1) (by omega)
    by_cases hkn : 7 < n
    · exact inner hkn u 0 (Nat.zero_add _)
    · skip
      refine j_iload F0 dX8_twill_52 rfl ?_
      refine j_iload_n F0 dX8_twill_54 rfl ?_
      refine j_icmp_ge F0 84 dX8_twill_55 (by decide) (fun _ => ?_) (fun h9 => absurd (by rw [show (7 : Int32) = nI 7 from rfl, nI_leI (by omega) (by omega)]; omega) h9)
      have h9 := hfin7 0
      rw [show twO n u 7 = 0 from if_neg hkn] at h9
      exact h9
  intro v6
  refine j_iload_n F0 dX8_twill_84 rfl ?_
  refine j_iload F0 dX8_twill_85 rfl ?_
  refine j_aload_n F0 dX8_twill_87 rfl ?_
  refine m_get S (C := RX8) (T := TX8) (N := 4) (by decide +kernel) h29 rfl (v := .ref ta) 3 (by decide) (by decide +kernel) (fun _ h9 => h9) rfl dX8_twill_88 ?_
  refine j_iload F0 dX8_twill_91 rfl ?_
  refine m_iaload S (v := tie0 7) h32 (by unfold vp_in; decide) (by rw [show (7 : Int32).toNatClampNeg = 7 by decide]; exact (by show (upd (upd (upd (upd (upd (upd (upd tf28 0 (twO n u 0)) 1 (twO n u 1)) 2 (twO n u 2)) 3 (twO n u 3)) 4 (twO n u 4)) 5 (twO n u 5)) 6 (twO n u 6)) 7 = _; simp [upd]; exact o28_5 7 (by decide))) dX8_twill_93 ?_
  suffices hjk7 : J (X.at 0 0) 7 (PL G.Z X.A M78) 102 [some (.ref mo), some (.int (nI n)), some (.int (nI u)), some (.int (twSum n u 7)), some (.int 7), some (.int (twO n u 7)), some (.int v6)] [.int (twN n u 7), .int (twSum n u 7)] by
    refine j_icmp_ne F0 101 dX8_twill_94 (by decide) (fun h => ?_) (fun h => ?_)
    · skip
      refine j_iconst F0 1 dX8_twill_101 (by decide) ?_
      rw [show twN n u 7 = 1 from if_neg h] at hjk7
      exact hjk7
    · skip
      refine j_iconst F0 0 dX8_twill_97 (by decide) ?_
      refine j_goto F0 102 dX8_twill_98 (by decide) ?_
      rw [show twN n u 7 = 0 from if_pos h] at hjk7
      exact hjk7
  refine j_iadd F0 (twSum n u 8) dX8_twill_102 rfl ?_
  refine j_istore_n F0 [some (.ref mo), some (.int (nI n)), some (.int (nI u)), some (.int (twSum n u 8)), some (.int 7), some (.int (twO n u 7)), some (.int v6)] dX8_twill_103 (by decide) rfl rfl ?_
  refine j_aload_n F0 dX8_twill_104 rfl ?_
  refine m_get S (C := RX8) (T := TX8) (N := 4) (by decide +kernel) h29 rfl (v := .ref ta) 3 (by decide) (by decide +kernel) (fun _ h9 => h9) rfl dX8_twill_105 ?_
  refine j_iload F0 dX8_twill_108 rfl ?_
  refine j_iload F0 dX8_twill_110 rfl ?_
  refine m_iastore S (k0 := 7) h32 (by unfold vp_in; decide) (by decide) dX8_twill_112 (fun M85 hD86 hU84 => ?_)
  have n87 : mo ≠ ta := n80
  have n88 : pl28 ≠ ta := n81
  have n89 : pe28 ≠ ta := n82
  have n90 : ka ≠ ta := n83
  have h29 := hU84.2 _ _ n87 h29
  have h30 := hU84.2 _ _ n88 h30
  have h31 := hU84.2 _ _ n89 h31
  have h33 := hU84.2 _ _ n90 h33
  have h32 := hU84.1
  refine j_iinc F0 8 [some (.ref mo), some (.int (nI n)), some (.int (nI u)), some (.int (twSum n u 8)), some (.int 8), some (.int (twO n u 7)), some (.int v6)] dX8_twill_113 rfl (by decide) (by decide) rfl rfl ?_
  refine j_goto F0 39 dX8_twill_116 (by decide) ?_
  refine j_iload F0 dX8_twill_39 rfl ?_
  refine j_bipush F0 8 dX8_twill_41 (by decide) ?_
  refine j_icmp_ge F0 119 dX8_twill_43 (by decide) (fun _ => ?_) (fun h9 => absurd (by decide) h9)
  refine j_iload_n F0 dX8_twill_119 rfl ?_
  have hKp : Kp M [mo, ka, ta] M85 := by
    intro b x hb hx
    have n91 : b ∉ [mo] := by
      intro h9; simp only [List.mem_cons, List.not_mem_nil, or_false] at h9
      · exact (fun c => hb (by rw [c]; simp)) h9
    have hx := hp19k b x n91 hx
    have hx := hU35.2 _ _ (fun c => hb (by rw [c]; simp)) hx
    have hx := hU42.2 _ _ (fun c => hb (by rw [c]; simp)) hx
    have hx := hU49.2 _ _ (fun c => hb (by rw [c]; simp)) hx
    have hx := hU56.2 _ _ (fun c => hb (by rw [c]; simp)) hx
    have hx := hU63.2 _ _ (fun c => hb (by rw [c]; simp)) hx
    have hx := hU70.2 _ _ (fun c => hb (by rw [c]; simp)) hx
    have hx := hU77.2 _ _ (fun c => hb (by rw [c]; simp)) hx
    have hx := hU84.2 _ _ (fun c => hb (by rw [c]; simp)) hx
    exact hx
  have hKL : KL G M M85 := fun o n f ho => hKp _ _ (by
    intro h9; simp only [List.mem_cons, List.not_mem_nil, or_false] at h9
    rcases h9 with h9 | h9 | h9
    · exact In.ne hD ho o1_0 (by simp) h9
    · exact In.ne hD ho o1_6 (by simp) h9
    · exact In.ne hD ho o1_4 (by simp) h9
    ) ho
  exact m_ireturn S hRT rfl hQ (Nat.le_of_ble_eq_true rfl) (Nat.le_of_ble_eq_true rfl) dX8_twill_120 rfl ⟨_, _, _, h29, hKL, rfl⟩

set_option maxRecDepth 100000 in
set_option maxHeartbeats 4000000 in
theorem r_X8_twill_n (l : Launch) (G : RG) (A : Nat → Prop) (M : Wl) {mo ka ta : Nat} {tv : Int32} (x y : Int32) (hb : ¬ (2 ≤ x ∧ x ≤ 8)) (hM : Mo G mo ka ta tv M) : Kr l G A yX8_twill wsX8_twill { frames := 2, cells := 0, slots := 0, locals := 44 } M [.ref mo, .int x, .int y] (Gi G A (fun v N => ∃ pl k9 t9 : Nat, (mo, (.inr (8, [.int 1, .ref pl, .ref k9, .ref t9]) : va_E)) ∈ N ∧ KL G M N ∧ (0 : Int32) = v)) 0 0 := by
  refine Kr.of (cc := cX8_twill) (maxL := 7) (ret := (some .int)) (by decide) rfl (Nat.le_of_ble_eq_true rfl) ?_
  intro X hXl S hRT hIN hXA hQ hD
  subst hXl
  subst hXA
  show J (X.at 0 0) 7 (PL G.Z X.A M) 0 [some (.ref mo), some (.int x), some (.int y), none, none, none, none] []
  have F0 := S.1.at 0 0 (Nat.le_of_ble_eq_true rfl) (Nat.le_of_ble_eq_true rfl)
  have hOR := S.2.1.or
  obtain ⟨pl1, pe1, f1, kn1, tf1, o1_0, o1_1, o1_2, o1_3, o1_4, o1_5, o1_6, o1_7⟩ := id hM
  have h2 : (mo, (.inr (8, [.int tv, .ref pl1, .ref ka, .ref ta]) : va_E)) ∈ M := o1_0
  have h3 : (pl1, (.inr (10, [.int 10, .ref pe1, .int 10]) : va_E)) ∈ M := o1_1
  have h4 : (pe1, (.inl (G.cO, 10, .inr (.inr (.inr (.inr f1)))) : va_E)) ∈ M := o1_2
  have h5 : (ta, (.inl (G.Z.cI, 8, .inl tf1) : va_E)) ∈ M := o1_4
  have h6 : (ka, (.inl (G.cR, 10, .inr (.inr (.inr (.inr kn1)))) : va_E)) ∈ M := o1_6
  have hDo7 := hD
  refine j_aload_n F0 dX8_twill_0 rfl ?_
  refine j_iload_n F0 dX8_twill_1 rfl ?_
  refine j_iconst F0 2 dX8_twill_2 (by decide) ?_
  refine j_bipush F0 8 dX8_twill_3 (by decide) ?_
  refine m_cSi S (n1 := 3) (rest := [.ref mo]) (r_X8_isIn X.l G X.A M x 2 8) ⟨_, _, _, _, rfl, gX8_twill_X8_isIn, rfl, rfl, (by decide +kernel), ⟨(Nat.le_of_ble_eq_true rfl), (Nat.le_of_ble_eq_true rfl)⟩⟩ rfl (Nat.le_of_ble_eq_true rfl) (Nat.le_of_ble_eq_true rfl) (Nat.le_of_ble_eq_true rfl) rfl dX8_twill_5 (fun v8 M9 hD10 hp11 => ?_)
  obtain ⟨hp11a, hp11b⟩ := hp11
  subst hp11a
  subst hp11b
  refine j_if_eq F0 20 dX8_twill_8 (by decide) (fun _ => ?_) (fun h9 => absurd (if0.mpr hb) h9)
  refine j_iconst F0 1 dX8_twill_20 (by decide) ?_
  refine j_goto F0 25 dX8_twill_21 (by decide) ?_
  refine j_iconst F0 1 dX8_twill_25 (by decide) ?_
  refine m_cVi S (n1 := 2) (rest := []) (r_X8_start X.l G X.A M (c := True) 1 (by decide) h2) ⟨_, _, _, _, rfl, gX8_twill_X8_start, rfl, rfl, (by decide +kernel), ⟨(Nat.le_of_ble_eq_true rfl), (Nat.le_of_ble_eq_true rfl)⟩⟩ h2 rfl rfl (Nat.le_of_ble_eq_true rfl) (Nat.le_of_ble_eq_true rfl) (Nat.le_of_ble_eq_true rfl) rfl dX8_twill_26 (fun v12 M13 hD14 hp15 => ?_)
  obtain ⟨hp15v, hp15a, hp15k⟩ := hp15
  have hp15v : (1 : Int32) = v12 := hp15v
  subst hp15v
  have n16 : pl1 ∉ [mo] := by
    intro h9; simp only [List.mem_cons, List.not_mem_nil, or_false] at h9
    · exact (In.ne hD h3 h2 (by simp)) h9
  have n17 : pe1 ∉ [mo] := by
    intro h9; simp only [List.mem_cons, List.not_mem_nil, or_false] at h9
    · exact (In.ne hD h4 h2 (by simp)) h9
  have n18 : ta ∉ [mo] := by
    intro h9; simp only [List.mem_cons, List.not_mem_nil, or_false] at h9
    · exact (In.ne hD h5 h2 (by simp)) h9
  have n19 : ka ∉ [mo] := by
    intro h9; simp only [List.mem_cons, List.not_mem_nil, or_false] at h9
    · exact (In.ne hD h6 h2 (by simp)) h9
  have h3 := hp15k _ _ n16 h3
  have h4 := hp15k _ _ n17 h4
  have h5 := hp15k _ _ n18 h5
  have h6 := hp15k _ _ n19 h6
  have h20 : (mo, (.inr (8, [.int 1, .ref pl1, .ref ka, .ref ta]) : va_E)) ∈ M13 := hp15a
  refine j_if_eq F0 34 dX8_twill_29 (by decide) (fun h9 => absurd h9 (by decide)) (fun _ => ?_)
  refine j_iconst F0 0 dX8_twill_32 (by decide) ?_
  have hKp : Kp M [mo, ka] M13 := by
    intro b x hb hx
    have n21 : b ∉ [mo] := by
      intro h9; simp only [List.mem_cons, List.not_mem_nil, or_false] at h9
      · exact (fun c => hb (by rw [c]; simp)) h9
    have hx := hp15k b x n21 hx
    exact hx
  have hKL : KL G M M13 := fun o n f ho => hKp _ _ (by
    intro h9; simp only [List.mem_cons, List.not_mem_nil, or_false] at h9
    rcases h9 with h9 | h9
    · exact In.ne hD ho o1_0 (by simp) h9
    · exact In.ne hD ho o1_6 (by simp) h9
    ) ho
  exact m_ireturn S hRT rfl hQ (Nat.le_of_ble_eq_true rfl) (Nat.le_of_ble_eq_true rfl) dX8_twill_33 rfl ⟨_, _, _, h20, hKL, rfl⟩

set_option maxRecDepth 100000 in
set_option maxHeartbeats 4000000 in
theorem r_X8_twill_u (l : Launch) (G : RG) (A : Nat → Prop) (M : Wl) {mo ka ta : Nat} {tv : Int32} (x y : Int32) (hg : 2 ≤ x ∧ x ≤ 8) (hb : ¬ (1 ≤ y ∧ y ≤ x)) (hM : Mo G mo ka ta tv M) : Kr l G A yX8_twill wsX8_twill { frames := 2, cells := 0, slots := 0, locals := 44 } M [.ref mo, .int x, .int y] (Gi G A (fun v N => ∃ pl k9 t9 : Nat, (mo, (.inr (8, [.int 1, .ref pl, .ref k9, .ref t9]) : va_E)) ∈ N ∧ KL G M N ∧ (0 : Int32) = v)) 0 0 := by
  refine Kr.of (cc := cX8_twill) (maxL := 7) (ret := (some .int)) (by decide) rfl (Nat.le_of_ble_eq_true rfl) ?_
  intro X hXl S hRT hIN hXA hQ hD
  subst hXl
  subst hXA
  show J (X.at 0 0) 7 (PL G.Z X.A M) 0 [some (.ref mo), some (.int x), some (.int y), none, none, none, none] []
  have F0 := S.1.at 0 0 (Nat.le_of_ble_eq_true rfl) (Nat.le_of_ble_eq_true rfl)
  have hOR := S.2.1.or
  obtain ⟨pl1, pe1, f1, kn1, tf1, o1_0, o1_1, o1_2, o1_3, o1_4, o1_5, o1_6, o1_7⟩ := id hM
  have h2 : (mo, (.inr (8, [.int tv, .ref pl1, .ref ka, .ref ta]) : va_E)) ∈ M := o1_0
  have h3 : (pl1, (.inr (10, [.int 10, .ref pe1, .int 10]) : va_E)) ∈ M := o1_1
  have h4 : (pe1, (.inl (G.cO, 10, .inr (.inr (.inr (.inr f1)))) : va_E)) ∈ M := o1_2
  have h5 : (ta, (.inl (G.Z.cI, 8, .inl tf1) : va_E)) ∈ M := o1_4
  have h6 : (ka, (.inl (G.cR, 10, .inr (.inr (.inr (.inr kn1)))) : va_E)) ∈ M := o1_6
  have hDo7 := hD
  refine j_aload_n F0 dX8_twill_0 rfl ?_
  refine j_iload_n F0 dX8_twill_1 rfl ?_
  refine j_iconst F0 2 dX8_twill_2 (by decide) ?_
  refine j_bipush F0 8 dX8_twill_3 (by decide) ?_
  refine m_cSi S (n1 := 3) (rest := [.ref mo]) (r_X8_isIn X.l G X.A M x 2 8) ⟨_, _, _, _, rfl, gX8_twill_X8_isIn, rfl, rfl, (by decide +kernel), ⟨(Nat.le_of_ble_eq_true rfl), (Nat.le_of_ble_eq_true rfl)⟩⟩ rfl (Nat.le_of_ble_eq_true rfl) (Nat.le_of_ble_eq_true rfl) (Nat.le_of_ble_eq_true rfl) rfl dX8_twill_5 (fun v8 M9 hD10 hp11 => ?_)
  obtain ⟨hp11a, hp11b⟩ := hp11
  subst hp11a
  subst hp11b
  refine j_if_eq F0 20 dX8_twill_8 (by decide) (fun h9 => absurd h9 (fun h9 => if1.mpr hg h9)) (fun _ => ?_)
  refine j_iload_n F0 dX8_twill_11 rfl ?_
  refine j_iconst F0 1 dX8_twill_12 (by decide) ?_
  refine j_iload_n F0 dX8_twill_13 rfl ?_
  refine m_cSi S (n1 := 3) (rest := [.ref mo]) (r_X8_isIn X.l G X.A M y 1 x) ⟨_, _, _, _, rfl, gX8_twill_X8_isIn, rfl, rfl, (by decide +kernel), ⟨(Nat.le_of_ble_eq_true rfl), (Nat.le_of_ble_eq_true rfl)⟩⟩ rfl (Nat.le_of_ble_eq_true rfl) (Nat.le_of_ble_eq_true rfl) (Nat.le_of_ble_eq_true rfl) rfl dX8_twill_14 (fun v12 M13 hD14 hp15 => ?_)
  obtain ⟨hp15a, hp15b⟩ := hp15
  subst hp15a
  subst hp15b
  refine j_if_ne F0 24 dX8_twill_17 (by decide) (fun h9 => absurd (if0.mpr hb) h9) (fun _ => ?_)
  refine j_iconst F0 1 dX8_twill_20 (by decide) ?_
  refine j_goto F0 25 dX8_twill_21 (by decide) ?_
  refine j_iconst F0 1 dX8_twill_25 (by decide) ?_
  refine m_cVi S (n1 := 2) (rest := []) (r_X8_start X.l G X.A M (c := True) 1 (by decide) h2) ⟨_, _, _, _, rfl, gX8_twill_X8_start, rfl, rfl, (by decide +kernel), ⟨(Nat.le_of_ble_eq_true rfl), (Nat.le_of_ble_eq_true rfl)⟩⟩ h2 rfl rfl (Nat.le_of_ble_eq_true rfl) (Nat.le_of_ble_eq_true rfl) (Nat.le_of_ble_eq_true rfl) rfl dX8_twill_26 (fun v16 M17 hD18 hp19 => ?_)
  obtain ⟨hp19v, hp19a, hp19k⟩ := hp19
  have hp19v : (1 : Int32) = v16 := hp19v
  subst hp19v
  have n20 : pl1 ∉ [mo] := by
    intro h9; simp only [List.mem_cons, List.not_mem_nil, or_false] at h9
    · exact (In.ne hD h3 h2 (by simp)) h9
  have n21 : pe1 ∉ [mo] := by
    intro h9; simp only [List.mem_cons, List.not_mem_nil, or_false] at h9
    · exact (In.ne hD h4 h2 (by simp)) h9
  have n22 : ta ∉ [mo] := by
    intro h9; simp only [List.mem_cons, List.not_mem_nil, or_false] at h9
    · exact (In.ne hD h5 h2 (by simp)) h9
  have n23 : ka ∉ [mo] := by
    intro h9; simp only [List.mem_cons, List.not_mem_nil, or_false] at h9
    · exact (In.ne hD h6 h2 (by simp)) h9
  have h3 := hp19k _ _ n20 h3
  have h4 := hp19k _ _ n21 h4
  have h5 := hp19k _ _ n22 h5
  have h6 := hp19k _ _ n23 h6
  have h24 : (mo, (.inr (8, [.int 1, .ref pl1, .ref ka, .ref ta]) : va_E)) ∈ M17 := hp19a
  refine j_if_eq F0 34 dX8_twill_29 (by decide) (fun h9 => absurd h9 (by decide)) (fun _ => ?_)
  refine j_iconst F0 0 dX8_twill_32 (by decide) ?_
  have hKp : Kp M [mo, ka] M17 := by
    intro b x hb hx
    have n25 : b ∉ [mo] := by
      intro h9; simp only [List.mem_cons, List.not_mem_nil, or_false] at h9
      · exact (fun c => hb (by rw [c]; simp)) h9
    have hx := hp19k b x n25 hx
    exact hx
  have hKL : KL G M M17 := fun o n f ho => hKp _ _ (by
    intro h9; simp only [List.mem_cons, List.not_mem_nil, or_false] at h9
    rcases h9 with h9 | h9
    · exact In.ne hD ho o1_0 (by simp) h9
    · exact In.ne hD ho o1_6 (by simp) h9
    ) ho
  exact m_ireturn S hRT rfl hQ (Nat.le_of_ble_eq_true rfl) (Nat.le_of_ble_eq_true rfl) dX8_twill_33 rfl ⟨_, _, _, h24, hKL, rfl⟩
