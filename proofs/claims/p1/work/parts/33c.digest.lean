set_option maxRecDepth 100000 in
set_option maxHeartbeats 4000000 in
theorem r_X8_digest (l : Launch) (G : RG) (A : Nat → Prop) (M : Wl) {mo ka ta : Nat} {tv : Int32} (hM : Mo G mo ka ta tv M) : Kr l G A yX8_digest wbX8_digest { frames := 11, cells := 694, slots := 2467, locals := 240 } M [.ref mo] (Gl G A (fun v N => ∃ pl k9 t9 : Nat, (mo, (.inr (8, [.int 0, .ref pl, .ref k9, .ref t9]) : va_E)) ∈ N ∧ KL G M N ∧ ((-7651352060509602172) : Int64) = v)) 694 2467 := by
  refine Kr.of (cc := cX8_digest) (maxL := 9) (ret := (some .long)) (by decide) rfl (Nat.le_of_ble_eq_true rfl) ?_
  intro X hXl S hRT hIN hXA hQ hD
  subst hXl
  subst hXA
  show J (X.at 0 0) 9 (PL G.Z X.A M) 0 [some (.ref mo), none, none, none, none, none, none, none, none] []
  have F0 := S.1.at 0 0 (Nat.le_of_ble_eq_true rfl) (Nat.le_of_ble_eq_true rfl)
  have hOR := S.2.1.or
  obtain ⟨pl1, pe1, f1, kn1, tf1, o1_0, o1_1, o1_2, o1_3, o1_4, o1_5, o1_6, o1_7⟩ := id hM
  have h2 : (mo, (.inr (8, [.int tv, .ref pl1, .ref ka, .ref ta]) : va_E)) ∈ M := o1_0
  have h3 : (pl1, (.inr (10, [.int 10, .ref pe1, .int 10]) : va_E)) ∈ M := o1_1
  have h4 : (pe1, (.inl (G.cO, 10, .inr (.inr (.inr (.inr f1)))) : va_E)) ∈ M := o1_2
  have h5 : (ta, (.inl (G.Z.cI, 8, .inl tf1) : va_E)) ∈ M := o1_4
  have h6 : (ka, (.inl (G.cR, 10, .inr (.inr (.inr (.inr kn1)))) : va_E)) ∈ M := o1_6
  have hDo7 := hD
  refine j_aload_n F0 dX8_digest_0 rfl ?_
  refine j_iconst F0 0 dX8_digest_1 (by decide) ?_
  refine m_put S (C := RX8) (T := TX8) (N := 4) (v := .int 0) (ty := .int) tyX8 tyX8_ok nmX8 (by decide +kernel) h2 rfl 0 (by decide) (by decide +kernel) (fun _ h9 => h9) rfl (by decide +kernel) rfl rfl (Nat.le_of_ble_eq_true rfl) dX8_digest_2 (fun M9 hD10 hU8 => ?_)
  have hU8 : Up M mo (.inr (8, [.int 0, .ref pl1, .ref ka, .ref ta])) M9 := hU8
  have n11 : pl1 ≠ mo := (In.ne hD h3 h2 (by simp))
  have n12 : pe1 ≠ mo := (In.ne hD h4 h2 (by simp))
  have n13 : ta ≠ mo := (In.ne hD h5 h2 (by simp))
  have n14 : ka ≠ mo := (In.ne hD h6 h2 (by simp))
  have h3 := hU8.2 _ _ n11 h3
  have h4 := hU8.2 _ _ n12 h4
  have h5 := hU8.2 _ _ n13 h5
  have h6 := hU8.2 _ _ n14 h6
  have h2 := hU8.1
  refine j_ldc2 F0 (v := 58095) (by decide +kernel) dX8_digest_5 ?_
  refine j_lstore_n F0 [some (.ref mo), some (.long 58095), none, none, none, none, none, none, none] dX8_digest_8 (by decide) rfl rfl ?_
  refine j_iconst F0 0 dX8_digest_9 (by decide) ?_
  refine j_istore_n F0 [some (.ref mo), some (.long 58095), none, some (.int 0), none, none, none, none, none] dX8_digest_10 (by decide) rfl rfl ?_
  refine j_iload_n F0 dX8_digest_11 rfl ?_
  refine j_bipush F0 10 dX8_digest_12 (by decide) ?_
  refine j_icmp_ge F0 110 dX8_digest_14 (by decide) (fun h9 => absurd h9 (by decide)) (fun _ => ?_)
  refine j_aload_n F0 dX8_digest_17 rfl ?_
  refine j_iload_n F0 dX8_digest_18 rfl ?_
  have hKm16 : Kp M [mo] M9 := by
    intro b x hb hx
    have hx := hU8.2 _ _ (fun c => hb (by rw [c]; simp)) hx
    exact hx
  have hMo15 := Mo.thr hOR hDo7 o1_0 o1_1 o1_2 o1_3 o1_4 o1_5 o1_6 o1_7 hKm16 h2
  refine m_cVr S (n1 := 1) (rest := []) (r_X8_row X.l G X.A M9 0 (by decide) hMo15) ⟨_, _, _, _, rfl, (gBV kB_X8_row (by decide +kernel)), rfl, rfl, (by decide +kernel), ⟨(Nat.le_of_ble_eq_true rfl), (Nat.le_of_ble_eq_true rfl)⟩⟩ h2 rfl rfl (Nat.le_of_ble_eq_true rfl) (Nat.le_of_ble_eq_true rfl) (Nat.le_of_ble_eq_true rfl) rfl dX8_digest_19 (fun v17 M18 hD19 hp20 => ?_)
  obtain ⟨hp20m, hp20k, hp20a⟩ := hp20
  obtain ⟨pl21, pe21, f21, kn21, tf21, o21_0, o21_1, o21_2, o21_3, o21_4, o21_5, o21_6, o21_7⟩ := id hp20m
  have h22 : (mo, (.inr (8, [.int 0, .ref pl21, .ref ka, .ref ta]) : va_E)) ∈ M18 := o21_0
  have h23 : (pl21, (.inr (10, [.int 10, .ref pe21, .int 10]) : va_E)) ∈ M18 := o21_1
  have h24 : (pe21, (.inl (G.cO, 10, .inr (.inr (.inr (.inr f21)))) : va_E)) ∈ M18 := o21_2
  have h25 : (ta, (.inl (G.Z.cI, 8, .inl tf21) : va_E)) ∈ M18 := o21_4
  have h26 : (ka, (.inl (G.cR, 10, .inr (.inr (.inr (.inr kn21)))) : va_E)) ∈ M18 := o21_6
  have hDo27 := hD19
  have h28 := hp20a
  have F29 := S.1.at 6 22 (Nat.le_of_ble_eq_true rfl) (Nat.le_of_ble_eq_true rfl)
  refine j_astore F29 [some (.ref mo), some (.long 58095), none, some (.int 0), some (.ref v17), none, none, none, none] dX8_digest_22 (by decide) rfl rfl ?_
  refine j_iconst F29 0 dX8_digest_24 (by decide) ?_
  refine j_istore F29 [some (.ref mo), some (.long 58095), none, some (.int 0), some (.ref v17), some (.int 0), none, none, none] dX8_digest_25 (by decide) rfl rfl ?_
  refine j_iload F29 dX8_digest_27 rfl ?_
  refine j_iconst F29 4 dX8_digest_29 (by decide) ?_
  refine j_icmp_ge F29 52 dX8_digest_30 (by decide) (fun h9 => absurd h9 (by decide)) (fun _ => ?_)
  refine j_lload_n F29 dX8_digest_33 rfl ?_
  refine j_aload_n F29 dX8_digest_34 rfl ?_
  refine j_iload_n F29 dX8_digest_35 rfl ?_
  refine j_iload F29 dX8_digest_36 rfl ?_
  have hKm31 : Kp M18 [] M18 := by
    intro b x hb hx
    exact hx
  have hMo30 := Mo.mono hp20m hKm31
  refine m_cVi S (n1 := 2) (rest := [.long 58095]) (r_X8_of X.l G X.A M18 0 (by decide) 0 (by decide) hMo30) ⟨_, _, _, _, rfl, (gBV kB_X8_of (by decide +kernel)), rfl, rfl, (by decide +kernel), ⟨(Nat.le_of_ble_eq_true rfl), (Nat.le_of_ble_eq_true rfl)⟩⟩ h22 rfl rfl (Nat.le_of_ble_eq_true rfl) (Nat.le_of_ble_eq_true rfl) (Nat.le_of_ble_eq_true rfl) rfl dX8_digest_38 (fun v32 M33 hD34 hp35 => ?_)
  obtain ⟨hp35m, hp35k, hp35v⟩ := hp35
  subst hp35v
  have n36 : v17 ∉ [mo, ka] := by
    intro h9; simp only [List.mem_cons, List.not_mem_nil, or_false] at h9
    rcases h9 with h9 | h9
    · exact (In.ne hD19 h28 h22 (by simp)) h9
    · exact (In.ne hD19 h28 h26 (by simp)) h9
  have h28 := hp35k _ _ n36 h28
  obtain ⟨pl37, pe37, f37, kn37, tf37, o37_0, o37_1, o37_2, o37_3, o37_4, o37_5, o37_6, o37_7⟩ := id hp35m
  have h38 : (mo, (.inr (8, [.int 0, .ref pl37, .ref ka, .ref ta]) : va_E)) ∈ M33 := o37_0
  have h39 : (pl37, (.inr (10, [.int 10, .ref pe37, .int 10]) : va_E)) ∈ M33 := o37_1
  have h40 : (pe37, (.inl (G.cO, 10, .inr (.inr (.inr (.inr f37)))) : va_E)) ∈ M33 := o37_2
  have h41 : (ta, (.inl (G.Z.cI, 8, .inl tf37) : va_E)) ∈ M33 := o37_4
  have h42 : (ka, (.inl (G.cR, 10, .inr (.inr (.inr (.inr kn37)))) : va_E)) ∈ M33 := o37_6
  have hDo43 := hD34
  have F44 := S.1.at 13 48 (Nat.le_of_ble_eq_true rfl) (Nat.le_of_ble_eq_true rfl)
  refine j_i2l F44 0 dX8_digest_41 (by decide) ?_
  refine m_cSl S (n1 := 2) (rest := []) (r_X8_add X.l G X.A M33 58095 0) ⟨_, _, _, _, rfl, (gBS kB_X8_add (by decide +kernel)), rfl, rfl, (by decide +kernel), ⟨(Nat.le_of_ble_eq_true rfl), (Nat.le_of_ble_eq_true rfl)⟩⟩ rfl (Nat.le_of_ble_eq_true rfl) (Nat.le_of_ble_eq_true rfl) (Nat.le_of_ble_eq_true rfl) rfl dX8_digest_42 (fun v45 M46 hD47 hp48 => ?_)
  obtain ⟨hp48v, hp48m⟩ := hp48
  have hp48v : (1800945 : Int64) = v45 := (by decide : (1800945 : Int64) = 58095 * 31 + 0).trans hp48v
  subst hp48v
  subst hp48m
  refine j_lstore_n F44 [some (.ref mo), some (.long 1800945), none, some (.int 0), some (.ref v17), some (.int 0), none, none, none] dX8_digest_45 (by decide) rfl rfl ?_
  refine j_iinc F44 1 [some (.ref mo), some (.long 1800945), none, some (.int 0), some (.ref v17), some (.int 1), none, none, none] dX8_digest_46 rfl (by decide) (by decide) rfl rfl ?_
  refine j_goto F44 27 dX8_digest_49 (by decide) ?_
  refine j_iload F44 dX8_digest_27 rfl ?_
  refine j_iconst F44 4 dX8_digest_29 (by decide) ?_
  refine j_icmp_ge F44 52 dX8_digest_30 (by decide) (fun h9 => absurd h9 (by decide)) (fun _ => ?_)
  refine j_lload_n F44 dX8_digest_33 rfl ?_
  refine j_aload_n F44 dX8_digest_34 rfl ?_
  refine j_iload_n F44 dX8_digest_35 rfl ?_
  refine j_iload F44 dX8_digest_36 rfl ?_
  have hKm50 : Kp M33 [] M33 := by
    intro b x hb hx
    exact hx
  have hMo49 := Mo.mono hp35m hKm50
  refine m_cVi S (n1 := 2) (rest := [.long 1800945]) (r_X8_of X.l G X.A M33 0 (by decide) 1 (by decide) hMo49) ⟨_, _, _, _, rfl, (gBV kB_X8_of (by decide +kernel)), rfl, rfl, (by decide +kernel), ⟨(Nat.le_of_ble_eq_true rfl), (Nat.le_of_ble_eq_true rfl)⟩⟩ h38 rfl rfl (Nat.le_of_ble_eq_true rfl) (Nat.le_of_ble_eq_true rfl) (Nat.le_of_ble_eq_true rfl) rfl dX8_digest_38 (fun v51 M52 hD53 hp54 => ?_)
  obtain ⟨hp54m, hp54k, hp54v⟩ := hp54
  subst hp54v
  have n55 : v17 ∉ [mo, ka] := by
    intro h9; simp only [List.mem_cons, List.not_mem_nil, or_false] at h9
    rcases h9 with h9 | h9
    · exact (In.ne hD34 h28 h38 (by simp)) h9
    · exact (In.ne hD34 h28 h42 (by simp)) h9
  have h28 := hp54k _ _ n55 h28
  obtain ⟨pl56, pe56, f56, kn56, tf56, o56_0, o56_1, o56_2, o56_3, o56_4, o56_5, o56_6, o56_7⟩ := id hp54m
  have h57 : (mo, (.inr (8, [.int 0, .ref pl56, .ref ka, .ref ta]) : va_E)) ∈ M52 := o56_0
  have h58 : (pl56, (.inr (10, [.int 10, .ref pe56, .int 10]) : va_E)) ∈ M52 := o56_1
  have h59 : (pe56, (.inl (G.cO, 10, .inr (.inr (.inr (.inr f56)))) : va_E)) ∈ M52 := o56_2
  have h60 : (ta, (.inl (G.Z.cI, 8, .inl tf56) : va_E)) ∈ M52 := o56_4
  have h61 : (ka, (.inl (G.cR, 10, .inr (.inr (.inr (.inr kn56)))) : va_E)) ∈ M52 := o56_6
  have hDo62 := hD53
  have F63 := S.1.at 20 74 (Nat.le_of_ble_eq_true rfl) (Nat.le_of_ble_eq_true rfl)
  refine j_i2l F63 0 dX8_digest_41 (by decide) ?_
  refine m_cSl S (n1 := 2) (rest := []) (r_X8_add X.l G X.A M52 1800945 0) ⟨_, _, _, _, rfl, (gBS kB_X8_add (by decide +kernel)), rfl, rfl, (by decide +kernel), ⟨(Nat.le_of_ble_eq_true rfl), (Nat.le_of_ble_eq_true rfl)⟩⟩ rfl (Nat.le_of_ble_eq_true rfl) (Nat.le_of_ble_eq_true rfl) (Nat.le_of_ble_eq_true rfl) rfl dX8_digest_42 (fun v64 M65 hD66 hp67 => ?_)
  obtain ⟨hp67v, hp67m⟩ := hp67
  have hp67v : (55829295 : Int64) = v64 := (by decide : (55829295 : Int64) = 1800945 * 31 + 0).trans hp67v
  subst hp67v
  subst hp67m
  refine j_lstore_n F63 [some (.ref mo), some (.long 55829295), none, some (.int 0), some (.ref v17), some (.int 1), none, none, none] dX8_digest_45 (by decide) rfl rfl ?_
  refine j_iinc F63 2 [some (.ref mo), some (.long 55829295), none, some (.int 0), some (.ref v17), some (.int 2), none, none, none] dX8_digest_46 rfl (by decide) (by decide) rfl rfl ?_
  refine j_goto F63 27 dX8_digest_49 (by decide) ?_
  refine j_iload F63 dX8_digest_27 rfl ?_
  refine j_iconst F63 4 dX8_digest_29 (by decide) ?_
  refine j_icmp_ge F63 52 dX8_digest_30 (by decide) (fun h9 => absurd h9 (by decide)) (fun _ => ?_)
  refine j_lload_n F63 dX8_digest_33 rfl ?_
  refine j_aload_n F63 dX8_digest_34 rfl ?_
  refine j_iload_n F63 dX8_digest_35 rfl ?_
  refine j_iload F63 dX8_digest_36 rfl ?_
  have hKm69 : Kp M52 [] M52 := by
    intro b x hb hx
    exact hx
  have hMo68 := Mo.mono hp54m hKm69
  refine m_cVi S (n1 := 2) (rest := [.long 55829295]) (r_X8_of X.l G X.A M52 0 (by decide) 2 (by decide) hMo68) ⟨_, _, _, _, rfl, (gBV kB_X8_of (by decide +kernel)), rfl, rfl, (by decide +kernel), ⟨(Nat.le_of_ble_eq_true rfl), (Nat.le_of_ble_eq_true rfl)⟩⟩ h57 rfl rfl (Nat.le_of_ble_eq_true rfl) (Nat.le_of_ble_eq_true rfl) (Nat.le_of_ble_eq_true rfl) rfl dX8_digest_38 (fun v70 M71 hD72 hp73 => ?_)
  obtain ⟨hp73m, hp73k, hp73v⟩ := hp73
  subst hp73v
  have n74 : v17 ∉ [mo, ka] := by
    intro h9; simp only [List.mem_cons, List.not_mem_nil, or_false] at h9
    rcases h9 with h9 | h9
    · exact (In.ne hD53 h28 h57 (by simp)) h9
    · exact (In.ne hD53 h28 h61 (by simp)) h9
  have h28 := hp73k _ _ n74 h28
  obtain ⟨pl75, pe75, f75, kn75, tf75, o75_0, o75_1, o75_2, o75_3, o75_4, o75_5, o75_6, o75_7⟩ := id hp73m
  have h76 : (mo, (.inr (8, [.int 0, .ref pl75, .ref ka, .ref ta]) : va_E)) ∈ M71 := o75_0
  have h77 : (pl75, (.inr (10, [.int 10, .ref pe75, .int 10]) : va_E)) ∈ M71 := o75_1
  have h78 : (pe75, (.inl (G.cO, 10, .inr (.inr (.inr (.inr f75)))) : va_E)) ∈ M71 := o75_2
  have h79 : (ta, (.inl (G.Z.cI, 8, .inl tf75) : va_E)) ∈ M71 := o75_4
  have h80 : (ka, (.inl (G.cR, 10, .inr (.inr (.inr (.inr kn75)))) : va_E)) ∈ M71 := o75_6
  have hDo81 := hD72
  have F82 := S.1.at 27 100 (Nat.le_of_ble_eq_true rfl) (Nat.le_of_ble_eq_true rfl)
  refine j_i2l F82 0 dX8_digest_41 (by decide) ?_
  refine m_cSl S (n1 := 2) (rest := []) (r_X8_add X.l G X.A M71 55829295 0) ⟨_, _, _, _, rfl, (gBS kB_X8_add (by decide +kernel)), rfl, rfl, (by decide +kernel), ⟨(Nat.le_of_ble_eq_true rfl), (Nat.le_of_ble_eq_true rfl)⟩⟩ rfl (Nat.le_of_ble_eq_true rfl) (Nat.le_of_ble_eq_true rfl) (Nat.le_of_ble_eq_true rfl) rfl dX8_digest_42 (fun v83 M84 hD85 hp86 => ?_)
  obtain ⟨hp86v, hp86m⟩ := hp86
  have hp86v : (1730708145 : Int64) = v83 := (by decide : (1730708145 : Int64) = 55829295 * 31 + 0).trans hp86v
  subst hp86v
  subst hp86m
  refine j_lstore_n F82 [some (.ref mo), some (.long 1730708145), none, some (.int 0), some (.ref v17), some (.int 2), none, none, none] dX8_digest_45 (by decide) rfl rfl ?_
  refine j_iinc F82 3 [some (.ref mo), some (.long 1730708145), none, some (.int 0), some (.ref v17), some (.int 3), none, none, none] dX8_digest_46 rfl (by decide) (by decide) rfl rfl ?_
  refine j_goto F82 27 dX8_digest_49 (by decide) ?_
  refine j_iload F82 dX8_digest_27 rfl ?_
  refine j_iconst F82 4 dX8_digest_29 (by decide) ?_
  refine j_icmp_ge F82 52 dX8_digest_30 (by decide) (fun h9 => absurd h9 (by decide)) (fun _ => ?_)
  refine j_lload_n F82 dX8_digest_33 rfl ?_
  refine j_aload_n F82 dX8_digest_34 rfl ?_
  refine j_iload_n F82 dX8_digest_35 rfl ?_
  refine j_iload F82 dX8_digest_36 rfl ?_
  have hKm88 : Kp M71 [] M71 := by
    intro b x hb hx
    exact hx
  have hMo87 := Mo.mono hp73m hKm88
  refine m_cVi S (n1 := 2) (rest := [.long 1730708145]) (r_X8_of X.l G X.A M71 0 (by decide) 3 (by decide) hMo87) ⟨_, _, _, _, rfl, (gBV kB_X8_of (by decide +kernel)), rfl, rfl, (by decide +kernel), ⟨(Nat.le_of_ble_eq_true rfl), (Nat.le_of_ble_eq_true rfl)⟩⟩ h76 rfl rfl (Nat.le_of_ble_eq_true rfl) (Nat.le_of_ble_eq_true rfl) (Nat.le_of_ble_eq_true rfl) rfl dX8_digest_38 (fun v89 M90 hD91 hp92 => ?_)
  obtain ⟨hp92m, hp92k, hp92v⟩ := hp92
  subst hp92v
  have n93 : v17 ∉ [mo, ka] := by
    intro h9; simp only [List.mem_cons, List.not_mem_nil, or_false] at h9
    rcases h9 with h9 | h9
    · exact (In.ne hD72 h28 h76 (by simp)) h9
    · exact (In.ne hD72 h28 h80 (by simp)) h9
  have h28 := hp92k _ _ n93 h28
  obtain ⟨pl94, pe94, f94, kn94, tf94, o94_0, o94_1, o94_2, o94_3, o94_4, o94_5, o94_6, o94_7⟩ := id hp92m
  have h95 : (mo, (.inr (8, [.int 0, .ref pl94, .ref ka, .ref ta]) : va_E)) ∈ M90 := o94_0
  have h96 : (pl94, (.inr (10, [.int 10, .ref pe94, .int 10]) : va_E)) ∈ M90 := o94_1
  have h97 : (pe94, (.inl (G.cO, 10, .inr (.inr (.inr (.inr f94)))) : va_E)) ∈ M90 := o94_2
  have h98 : (ta, (.inl (G.Z.cI, 8, .inl tf94) : va_E)) ∈ M90 := o94_4
  have h99 : (ka, (.inl (G.cR, 10, .inr (.inr (.inr (.inr kn94)))) : va_E)) ∈ M90 := o94_6
  have hDo100 := hD91
  have F101 := S.1.at 34 126 (Nat.le_of_ble_eq_true rfl) (Nat.le_of_ble_eq_true rfl)
  refine j_i2l F101 (-1) dX8_digest_41 (by decide) ?_
  refine m_cSl S (n1 := 2) (rest := []) (r_X8_add X.l G X.A M90 1730708145 (-1)) ⟨_, _, _, _, rfl, (gBS kB_X8_add (by decide +kernel)), rfl, rfl, (by decide +kernel), ⟨(Nat.le_of_ble_eq_true rfl), (Nat.le_of_ble_eq_true rfl)⟩⟩ rfl (Nat.le_of_ble_eq_true rfl) (Nat.le_of_ble_eq_true rfl) (Nat.le_of_ble_eq_true rfl) rfl dX8_digest_42 (fun v102 M103 hD104 hp105 => ?_)
  obtain ⟨hp105v, hp105m⟩ := hp105
  have hp105v : (53651952494 : Int64) = v102 := (by decide : (53651952494 : Int64) = 1730708145 * 31 + (-1)).trans hp105v
  subst hp105v
  subst hp105m
  refine j_lstore_n F101 [some (.ref mo), some (.long 53651952494), none, some (.int 0), some (.ref v17), some (.int 3), none, none, none] dX8_digest_45 (by decide) rfl rfl ?_
  refine j_iinc F101 4 [some (.ref mo), some (.long 53651952494), none, some (.int 0), some (.ref v17), some (.int 4), none, none, none] dX8_digest_46 rfl (by decide) (by decide) rfl rfl ?_
  refine j_goto F101 27 dX8_digest_49 (by decide) ?_
  refine j_iload F101 dX8_digest_27 rfl ?_
  refine j_iconst F101 4 dX8_digest_29 (by decide) ?_
  refine j_icmp_ge F101 52 dX8_digest_30 (by decide) (fun _ => ?_) (fun h9 => absurd (by decide) h9)
  refine j_lload_n F101 dX8_digest_52 rfl ?_
  refine j_aload_n F101 dX8_digest_53 rfl ?_
  refine j_aload F101 dX8_digest_54 rfl ?_
  refine m_cVi S (n1 := 1) (rest := [.long 53651952494]) (r_X8_periodOf X.l G X.A M90 (mo := mo) (pl := mo) (ka := mo) (ta := mo) (tv := 0) h28) ⟨_, _, _, _, rfl, (gBV kB_X8_periodOf (by decide +kernel)), rfl, rfl, (by decide +kernel), ⟨(Nat.le_of_ble_eq_true rfl), (Nat.le_of_ble_eq_true rfl)⟩⟩ h95 rfl rfl (Nat.le_of_ble_eq_true rfl) (Nat.le_of_ble_eq_true rfl) (Nat.le_of_ble_eq_true rfl) rfl dX8_digest_56 (fun v106 M107 hD108 hp109 => ?_)
  obtain ⟨hp109a, hp109b⟩ := hp109
  subst hp109a
  subst hp109b
  refine j_i2l F101 0 dX8_digest_59 (by decide) ?_
  refine m_cSl S (n1 := 2) (rest := []) (r_X8_add X.l G X.A M90 53651952494 0) ⟨_, _, _, _, rfl, (gBS kB_X8_add (by decide +kernel)), rfl, rfl, (by decide +kernel), ⟨(Nat.le_of_ble_eq_true rfl), (Nat.le_of_ble_eq_true rfl)⟩⟩ rfl (Nat.le_of_ble_eq_true rfl) (Nat.le_of_ble_eq_true rfl) (Nat.le_of_ble_eq_true rfl) rfl dX8_digest_60 (fun v110 M111 hD112 hp113 => ?_)
  obtain ⟨hp113v, hp113m⟩ := hp113
  have hp113v : (1663210527314 : Int64) = v110 := (by decide : (1663210527314 : Int64) = 53651952494 * 31 + 0).trans hp113v
  subst hp113v
  subst hp113m
  refine j_lstore_n F101 [some (.ref mo), some (.long 1663210527314), none, some (.int 0), some (.ref v17), some (.int 4), none, none, none] dX8_digest_63 (by decide) rfl rfl ?_
  refine j_aload F101 dX8_digest_64 rfl ?_
  refine j_astore F101 [some (.ref mo), some (.long 1663210527314), none, some (.int 0), some (.ref v17), some (.ref v17), none, none, none] dX8_digest_66 (by decide) rfl rfl ?_
  refine j_aload F101 dX8_digest_68 rfl ?_
  refine m_alen S (t0 := 0) (v := 0) h28 rfl (by first | decide | rfl) dX8_digest_70 ?_
  refine j_istore F101 [some (.ref mo), some (.long 1663210527314), none, some (.int 0), some (.ref v17), some (.ref v17), some (.int 0), none, none] dX8_digest_71 (by decide) rfl rfl ?_
  refine j_iconst F101 0 dX8_digest_73 (by decide) ?_
  refine j_istore F101 [some (.ref mo), some (.long 1663210527314), none, some (.int 0), some (.ref v17), some (.ref v17), some (.int 0), some (.int 0), none] dX8_digest_74 (by decide) rfl rfl ?_
  refine j_iload F101 dX8_digest_76 rfl ?_
  refine j_iload F101 dX8_digest_78 rfl ?_
  refine j_icmp_ge F101 104 dX8_digest_80 (by decide) (fun _ => ?_) (fun h9 => absurd (by decide) h9)
  refine j_iinc F101 1 [some (.ref mo), some (.long 1663210527314), none, some (.int 1), some (.ref v17), some (.ref v17), some (.int 0), some (.int 0), none] dX8_digest_104 rfl (by decide) (by decide) rfl rfl ?_
  refine j_goto F101 11 dX8_digest_107 (by decide) ?_
  refine j_iload_n F101 dX8_digest_11 rfl ?_
  refine j_bipush F101 10 dX8_digest_12 (by decide) ?_
  refine j_icmp_ge F101 110 dX8_digest_14 (by decide) (fun h9 => absurd h9 (by decide)) (fun _ => ?_)
  refine j_aload_n F101 dX8_digest_17 rfl ?_
  refine j_iload_n F101 dX8_digest_18 rfl ?_
  have hKm115 : Kp M90 [] M90 := by
    intro b x hb hx
    exact hx
  have hMo114 := Mo.mono hp92m hKm115
  refine m_cVr S (n1 := 1) (rest := []) (r_X8_row X.l G X.A M90 1 (by decide) hMo114) ⟨_, _, _, _, rfl, (gBV kB_X8_row (by decide +kernel)), rfl, rfl, (by decide +kernel), ⟨(Nat.le_of_ble_eq_true rfl), (Nat.le_of_ble_eq_true rfl)⟩⟩ h95 rfl rfl (Nat.le_of_ble_eq_true rfl) (Nat.le_of_ble_eq_true rfl) (Nat.le_of_ble_eq_true rfl) rfl dX8_digest_19 (fun v116 M117 hD118 hp119 => ?_)
  obtain ⟨hp119m, hp119k, hp119a⟩ := hp119
  have n120 : v17 ∉ [mo, ka] := by
    intro h9; simp only [List.mem_cons, List.not_mem_nil, or_false] at h9
    rcases h9 with h9 | h9
    · exact (In.ne hD91 h28 h95 (by simp)) h9
    · exact (In.ne hD91 h28 h99 (by simp)) h9
  have h28 := hp119k _ _ n120 h28
  obtain ⟨pl121, pe121, f121, kn121, tf121, o121_0, o121_1, o121_2, o121_3, o121_4, o121_5, o121_6, o121_7⟩ := id hp119m
  have h122 : (mo, (.inr (8, [.int 0, .ref pl121, .ref ka, .ref ta]) : va_E)) ∈ M117 := o121_0
  have h123 : (pl121, (.inr (10, [.int 10, .ref pe121, .int 10]) : va_E)) ∈ M117 := o121_1
  have h124 : (pe121, (.inl (G.cO, 10, .inr (.inr (.inr (.inr f121)))) : va_E)) ∈ M117 := o121_2
  have h125 : (ta, (.inl (G.Z.cI, 8, .inl tf121) : va_E)) ∈ M117 := o121_4
  have h126 : (ka, (.inl (G.cR, 10, .inr (.inr (.inr (.inr kn121)))) : va_E)) ∈ M117 := o121_6
  have hDo127 := hD118
  have h128 := hp119a
  have F129 := S.1.at 40 148 (Nat.le_of_ble_eq_true rfl) (Nat.le_of_ble_eq_true rfl)
  refine j_astore F129 [some (.ref mo), some (.long 1663210527314), none, some (.int 1), some (.ref v116), some (.ref v17), some (.int 0), some (.int 0), none] dX8_digest_22 (by decide) rfl rfl ?_
  refine j_iconst F129 0 dX8_digest_24 (by decide) ?_
  refine j_istore F129 [some (.ref mo), some (.long 1663210527314), none, some (.int 1), some (.ref v116), some (.int 0), some (.int 0), some (.int 0), none] dX8_digest_25 (by decide) rfl rfl ?_
  refine j_iload F129 dX8_digest_27 rfl ?_
  refine j_iconst F129 4 dX8_digest_29 (by decide) ?_
  refine j_icmp_ge F129 52 dX8_digest_30 (by decide) (fun h9 => absurd h9 (by decide)) (fun _ => ?_)
  refine j_lload_n F129 dX8_digest_33 rfl ?_
  refine j_aload_n F129 dX8_digest_34 rfl ?_
  refine j_iload_n F129 dX8_digest_35 rfl ?_
  refine j_iload F129 dX8_digest_36 rfl ?_
  have hKm131 : Kp M117 [] M117 := by
    intro b x hb hx
    exact hx
  have hMo130 := Mo.mono hp119m hKm131
  refine m_cVi S (n1 := 2) (rest := [.long 1663210527314]) (r_X8_of X.l G X.A M117 1 (by decide) 0 (by decide) hMo130) ⟨_, _, _, _, rfl, (gBV kB_X8_of (by decide +kernel)), rfl, rfl, (by decide +kernel), ⟨(Nat.le_of_ble_eq_true rfl), (Nat.le_of_ble_eq_true rfl)⟩⟩ h122 rfl rfl (Nat.le_of_ble_eq_true rfl) (Nat.le_of_ble_eq_true rfl) (Nat.le_of_ble_eq_true rfl) rfl dX8_digest_38 (fun v132 M133 hD134 hp135 => ?_)
  obtain ⟨hp135m, hp135k, hp135v⟩ := hp135
  subst hp135v
  have n136 : v17 ∉ [mo, ka] := by
    intro h9; simp only [List.mem_cons, List.not_mem_nil, or_false] at h9
    rcases h9 with h9 | h9
    · exact (In.ne hD118 h28 h122 (by simp)) h9
    · exact (In.ne hD118 h28 h126 (by simp)) h9
  have n137 : v116 ∉ [mo, ka] := by
    intro h9; simp only [List.mem_cons, List.not_mem_nil, or_false] at h9
    rcases h9 with h9 | h9
    · exact (In.ne hD118 h128 h122 (by simp)) h9
    · exact (In.ne hD118 h128 h126 (by simp)) h9
  have h28 := hp135k _ _ n136 h28
  have h128 := hp135k _ _ n137 h128
  obtain ⟨pl138, pe138, f138, kn138, tf138, o138_0, o138_1, o138_2, o138_3, o138_4, o138_5, o138_6, o138_7⟩ := id hp135m
  have h139 : (mo, (.inr (8, [.int 0, .ref pl138, .ref ka, .ref ta]) : va_E)) ∈ M133 := o138_0
  have h140 : (pl138, (.inr (10, [.int 10, .ref pe138, .int 10]) : va_E)) ∈ M133 := o138_1
  have h141 : (pe138, (.inl (G.cO, 10, .inr (.inr (.inr (.inr f138)))) : va_E)) ∈ M133 := o138_2
  have h142 : (ta, (.inl (G.Z.cI, 8, .inl tf138) : va_E)) ∈ M133 := o138_4
  have h143 : (ka, (.inl (G.cR, 10, .inr (.inr (.inr (.inr kn138)))) : va_E)) ∈ M133 := o138_6
  have hDo144 := hD134
  have F145 := S.1.at 47 174 (Nat.le_of_ble_eq_true rfl) (Nat.le_of_ble_eq_true rfl)
  refine j_i2l F145 0 dX8_digest_41 (by decide) ?_
  refine m_cSl S (n1 := 2) (rest := []) (r_X8_add X.l G X.A M133 1663210527314 0) ⟨_, _, _, _, rfl, (gBS kB_X8_add (by decide +kernel)), rfl, rfl, (by decide +kernel), ⟨(Nat.le_of_ble_eq_true rfl), (Nat.le_of_ble_eq_true rfl)⟩⟩ rfl (Nat.le_of_ble_eq_true rfl) (Nat.le_of_ble_eq_true rfl) (Nat.le_of_ble_eq_true rfl) rfl dX8_digest_42 (fun v146 M147 hD148 hp149 => ?_)
  obtain ⟨hp149v, hp149m⟩ := hp149
  have hp149v : (51559526346734 : Int64) = v146 := (by decide : (51559526346734 : Int64) = 1663210527314 * 31 + 0).trans hp149v
  subst hp149v
  subst hp149m
  refine j_lstore_n F145 [some (.ref mo), some (.long 51559526346734), none, some (.int 1), some (.ref v116), some (.int 0), some (.int 0), some (.int 0), none] dX8_digest_45 (by decide) rfl rfl ?_
  refine j_iinc F145 1 [some (.ref mo), some (.long 51559526346734), none, some (.int 1), some (.ref v116), some (.int 1), some (.int 0), some (.int 0), none] dX8_digest_46 rfl (by decide) (by decide) rfl rfl ?_
  refine j_goto F145 27 dX8_digest_49 (by decide) ?_
  refine j_iload F145 dX8_digest_27 rfl ?_
  refine j_iconst F145 4 dX8_digest_29 (by decide) ?_
  refine j_icmp_ge F145 52 dX8_digest_30 (by decide) (fun h9 => absurd h9 (by decide)) (fun _ => ?_)
  refine j_lload_n F145 dX8_digest_33 rfl ?_
  refine j_aload_n F145 dX8_digest_34 rfl ?_
  refine j_iload_n F145 dX8_digest_35 rfl ?_
  refine j_iload F145 dX8_digest_36 rfl ?_
  have hKm151 : Kp M133 [] M133 := by
    intro b x hb hx
    exact hx
  have hMo150 := Mo.mono hp135m hKm151
  refine m_cVi S (n1 := 2) (rest := [.long 51559526346734]) (r_X8_of X.l G X.A M133 1 (by decide) 1 (by decide) hMo150) ⟨_, _, _, _, rfl, (gBV kB_X8_of (by decide +kernel)), rfl, rfl, (by decide +kernel), ⟨(Nat.le_of_ble_eq_true rfl), (Nat.le_of_ble_eq_true rfl)⟩⟩ h139 rfl rfl (Nat.le_of_ble_eq_true rfl) (Nat.le_of_ble_eq_true rfl) (Nat.le_of_ble_eq_true rfl) rfl dX8_digest_38 (fun v152 M153 hD154 hp155 => ?_)
  obtain ⟨hp155m, hp155k, hp155v⟩ := hp155
  subst hp155v
  have n156 : v17 ∉ [mo, ka] := by
    intro h9; simp only [List.mem_cons, List.not_mem_nil, or_false] at h9
    rcases h9 with h9 | h9
    · exact (In.ne hD134 h28 h139 (by simp)) h9
    · exact (In.ne hD134 h28 h143 (by simp)) h9
  have n157 : v116 ∉ [mo, ka] := by
    intro h9; simp only [List.mem_cons, List.not_mem_nil, or_false] at h9
    rcases h9 with h9 | h9
    · exact (In.ne hD134 h128 h139 (by simp)) h9
    · exact (In.ne hD134 h128 h143 (by simp)) h9
  have h28 := hp155k _ _ n156 h28
  have h128 := hp155k _ _ n157 h128
  obtain ⟨pl158, pe158, f158, kn158, tf158, o158_0, o158_1, o158_2, o158_3, o158_4, o158_5, o158_6, o158_7⟩ := id hp155m
  have h159 : (mo, (.inr (8, [.int 0, .ref pl158, .ref ka, .ref ta]) : va_E)) ∈ M153 := o158_0
  have h160 : (pl158, (.inr (10, [.int 10, .ref pe158, .int 10]) : va_E)) ∈ M153 := o158_1
  have h161 : (pe158, (.inl (G.cO, 10, .inr (.inr (.inr (.inr f158)))) : va_E)) ∈ M153 := o158_2
  have h162 : (ta, (.inl (G.Z.cI, 8, .inl tf158) : va_E)) ∈ M153 := o158_4
  have h163 : (ka, (.inl (G.cR, 10, .inr (.inr (.inr (.inr kn158)))) : va_E)) ∈ M153 := o158_6
  have hDo164 := hD154
  have F165 := S.1.at 54 200 (Nat.le_of_ble_eq_true rfl) (Nat.le_of_ble_eq_true rfl)
  refine j_i2l F165 0 dX8_digest_41 (by decide) ?_
  refine m_cSl S (n1 := 2) (rest := []) (r_X8_add X.l G X.A M153 51559526346734 0) ⟨_, _, _, _, rfl, (gBS kB_X8_add (by decide +kernel)), rfl, rfl, (by decide +kernel), ⟨(Nat.le_of_ble_eq_true rfl), (Nat.le_of_ble_eq_true rfl)⟩⟩ rfl (Nat.le_of_ble_eq_true rfl) (Nat.le_of_ble_eq_true rfl) (Nat.le_of_ble_eq_true rfl) rfl dX8_digest_42 (fun v166 M167 hD168 hp169 => ?_)
  obtain ⟨hp169v, hp169m⟩ := hp169
  have hp169v : (1598345316748754 : Int64) = v166 := (by decide : (1598345316748754 : Int64) = 51559526346734 * 31 + 0).trans hp169v
  subst hp169v
  subst hp169m
  refine j_lstore_n F165 [some (.ref mo), some (.long 1598345316748754), none, some (.int 1), some (.ref v116), some (.int 1), some (.int 0), some (.int 0), none] dX8_digest_45 (by decide) rfl rfl ?_
  refine j_iinc F165 2 [some (.ref mo), some (.long 1598345316748754), none, some (.int 1), some (.ref v116), some (.int 2), some (.int 0), some (.int 0), none] dX8_digest_46 rfl (by decide) (by decide) rfl rfl ?_
  refine j_goto F165 27 dX8_digest_49 (by decide) ?_
  refine j_iload F165 dX8_digest_27 rfl ?_
  refine j_iconst F165 4 dX8_digest_29 (by decide) ?_
  refine j_icmp_ge F165 52 dX8_digest_30 (by decide) (fun h9 => absurd h9 (by decide)) (fun _ => ?_)
  refine j_lload_n F165 dX8_digest_33 rfl ?_
  refine j_aload_n F165 dX8_digest_34 rfl ?_
  refine j_iload_n F165 dX8_digest_35 rfl ?_
  refine j_iload F165 dX8_digest_36 rfl ?_
  have hKm171 : Kp M153 [] M153 := by
    intro b x hb hx
    exact hx
  have hMo170 := Mo.mono hp155m hKm171
  refine m_cVi S (n1 := 2) (rest := [.long 1598345316748754]) (r_X8_of X.l G X.A M153 1 (by decide) 2 (by decide) hMo170) ⟨_, _, _, _, rfl, (gBV kB_X8_of (by decide +kernel)), rfl, rfl, (by decide +kernel), ⟨(Nat.le_of_ble_eq_true rfl), (Nat.le_of_ble_eq_true rfl)⟩⟩ h159 rfl rfl (Nat.le_of_ble_eq_true rfl) (Nat.le_of_ble_eq_true rfl) (Nat.le_of_ble_eq_true rfl) rfl dX8_digest_38 (fun v172 M173 hD174 hp175 => ?_)
  obtain ⟨hp175m, hp175k, hp175v⟩ := hp175
  subst hp175v
  have n176 : v17 ∉ [mo, ka] := by
    intro h9; simp only [List.mem_cons, List.not_mem_nil, or_false] at h9
    rcases h9 with h9 | h9
    · exact (In.ne hD154 h28 h159 (by simp)) h9
    · exact (In.ne hD154 h28 h163 (by simp)) h9
  have n177 : v116 ∉ [mo, ka] := by
    intro h9; simp only [List.mem_cons, List.not_mem_nil, or_false] at h9
    rcases h9 with h9 | h9
    · exact (In.ne hD154 h128 h159 (by simp)) h9
    · exact (In.ne hD154 h128 h163 (by simp)) h9
  have h28 := hp175k _ _ n176 h28
  have h128 := hp175k _ _ n177 h128
  obtain ⟨pl178, pe178, f178, kn178, tf178, o178_0, o178_1, o178_2, o178_3, o178_4, o178_5, o178_6, o178_7⟩ := id hp175m
  have h179 : (mo, (.inr (8, [.int 0, .ref pl178, .ref ka, .ref ta]) : va_E)) ∈ M173 := o178_0
  have h180 : (pl178, (.inr (10, [.int 10, .ref pe178, .int 10]) : va_E)) ∈ M173 := o178_1
  have h181 : (pe178, (.inl (G.cO, 10, .inr (.inr (.inr (.inr f178)))) : va_E)) ∈ M173 := o178_2
  have h182 : (ta, (.inl (G.Z.cI, 8, .inl tf178) : va_E)) ∈ M173 := o178_4
  have h183 : (ka, (.inl (G.cR, 10, .inr (.inr (.inr (.inr kn178)))) : va_E)) ∈ M173 := o178_6
  have hDo184 := hD174
  have F185 := S.1.at 61 226 (Nat.le_of_ble_eq_true rfl) (Nat.le_of_ble_eq_true rfl)
  refine j_i2l F185 0 dX8_digest_41 (by decide) ?_
  refine m_cSl S (n1 := 2) (rest := []) (r_X8_add X.l G X.A M173 1598345316748754 0) ⟨_, _, _, _, rfl, (gBS kB_X8_add (by decide +kernel)), rfl, rfl, (by decide +kernel), ⟨(Nat.le_of_ble_eq_true rfl), (Nat.le_of_ble_eq_true rfl)⟩⟩ rfl (Nat.le_of_ble_eq_true rfl) (Nat.le_of_ble_eq_true rfl) (Nat.le_of_ble_eq_true rfl) rfl dX8_digest_42 (fun v186 M187 hD188 hp189 => ?_)
  obtain ⟨hp189v, hp189m⟩ := hp189
  have hp189v : (49548704819211374 : Int64) = v186 := (by decide : (49548704819211374 : Int64) = 1598345316748754 * 31 + 0).trans hp189v
  subst hp189v
  subst hp189m
  refine j_lstore_n F185 [some (.ref mo), some (.long 49548704819211374), none, some (.int 1), some (.ref v116), some (.int 2), some (.int 0), some (.int 0), none] dX8_digest_45 (by decide) rfl rfl ?_
  refine j_iinc F185 3 [some (.ref mo), some (.long 49548704819211374), none, some (.int 1), some (.ref v116), some (.int 3), some (.int 0), some (.int 0), none] dX8_digest_46 rfl (by decide) (by decide) rfl rfl ?_
  refine j_goto F185 27 dX8_digest_49 (by decide) ?_
  refine j_iload F185 dX8_digest_27 rfl ?_
  refine j_iconst F185 4 dX8_digest_29 (by decide) ?_
  refine j_icmp_ge F185 52 dX8_digest_30 (by decide) (fun h9 => absurd h9 (by decide)) (fun _ => ?_)
  refine j_lload_n F185 dX8_digest_33 rfl ?_
  refine j_aload_n F185 dX8_digest_34 rfl ?_
  refine j_iload_n F185 dX8_digest_35 rfl ?_
  refine j_iload F185 dX8_digest_36 rfl ?_
  have hKm191 : Kp M173 [] M173 := by
    intro b x hb hx
    exact hx
  have hMo190 := Mo.mono hp175m hKm191
  refine m_cVi S (n1 := 2) (rest := [.long 49548704819211374]) (r_X8_of X.l G X.A M173 1 (by decide) 3 (by decide) hMo190) ⟨_, _, _, _, rfl, (gBV kB_X8_of (by decide +kernel)), rfl, rfl, (by decide +kernel), ⟨(Nat.le_of_ble_eq_true rfl), (Nat.le_of_ble_eq_true rfl)⟩⟩ h179 rfl rfl (Nat.le_of_ble_eq_true rfl) (Nat.le_of_ble_eq_true rfl) (Nat.le_of_ble_eq_true rfl) rfl dX8_digest_38 (fun v192 M193 hD194 hp195 => ?_)
  obtain ⟨hp195m, hp195k, hp195v⟩ := hp195
  subst hp195v
  have n196 : v17 ∉ [mo, ka] := by
    intro h9; simp only [List.mem_cons, List.not_mem_nil, or_false] at h9
    rcases h9 with h9 | h9
    · exact (In.ne hD174 h28 h179 (by simp)) h9
    · exact (In.ne hD174 h28 h183 (by simp)) h9
  have n197 : v116 ∉ [mo, ka] := by
    intro h9; simp only [List.mem_cons, List.not_mem_nil, or_false] at h9
    rcases h9 with h9 | h9
    · exact (In.ne hD174 h128 h179 (by simp)) h9
    · exact (In.ne hD174 h128 h183 (by simp)) h9
  have h28 := hp195k _ _ n196 h28
  have h128 := hp195k _ _ n197 h128
  obtain ⟨pl198, pe198, f198, kn198, tf198, o198_0, o198_1, o198_2, o198_3, o198_4, o198_5, o198_6, o198_7⟩ := id hp195m
  have h199 : (mo, (.inr (8, [.int 0, .ref pl198, .ref ka, .ref ta]) : va_E)) ∈ M193 := o198_0
  have h200 : (pl198, (.inr (10, [.int 10, .ref pe198, .int 10]) : va_E)) ∈ M193 := o198_1
  have h201 : (pe198, (.inl (G.cO, 10, .inr (.inr (.inr (.inr f198)))) : va_E)) ∈ M193 := o198_2
  have h202 : (ta, (.inl (G.Z.cI, 8, .inl tf198) : va_E)) ∈ M193 := o198_4
  have h203 : (ka, (.inl (G.cR, 10, .inr (.inr (.inr (.inr kn198)))) : va_E)) ∈ M193 := o198_6
  have hDo204 := hD194
  have F205 := S.1.at 68 252 (Nat.le_of_ble_eq_true rfl) (Nat.le_of_ble_eq_true rfl)
  refine j_i2l F205 (-1) dX8_digest_41 (by decide) ?_
  refine m_cSl S (n1 := 2) (rest := []) (r_X8_add X.l G X.A M193 49548704819211374 (-1)) ⟨_, _, _, _, rfl, (gBS kB_X8_add (by decide +kernel)), rfl, rfl, (by decide +kernel), ⟨(Nat.le_of_ble_eq_true rfl), (Nat.le_of_ble_eq_true rfl)⟩⟩ rfl (Nat.le_of_ble_eq_true rfl) (Nat.le_of_ble_eq_true rfl) (Nat.le_of_ble_eq_true rfl) rfl dX8_digest_42 (fun v206 M207 hD208 hp209 => ?_)
  obtain ⟨hp209v, hp209m⟩ := hp209
  have hp209v : (1536009849395552593 : Int64) = v206 := (by decide : (1536009849395552593 : Int64) = 49548704819211374 * 31 + (-1)).trans hp209v
  subst hp209v
  subst hp209m
  refine j_lstore_n F205 [some (.ref mo), some (.long 1536009849395552593), none, some (.int 1), some (.ref v116), some (.int 3), some (.int 0), some (.int 0), none] dX8_digest_45 (by decide) rfl rfl ?_
  refine j_iinc F205 4 [some (.ref mo), some (.long 1536009849395552593), none, some (.int 1), some (.ref v116), some (.int 4), some (.int 0), some (.int 0), none] dX8_digest_46 rfl (by decide) (by decide) rfl rfl ?_
  refine j_goto F205 27 dX8_digest_49 (by decide) ?_
  refine j_iload F205 dX8_digest_27 rfl ?_
  refine j_iconst F205 4 dX8_digest_29 (by decide) ?_
  refine j_icmp_ge F205 52 dX8_digest_30 (by decide) (fun _ => ?_) (fun h9 => absurd (by decide) h9)
  refine j_lload_n F205 dX8_digest_52 rfl ?_
  refine j_aload_n F205 dX8_digest_53 rfl ?_
  refine j_aload F205 dX8_digest_54 rfl ?_
  refine m_cVi S (n1 := 1) (rest := [.long 1536009849395552593]) (r_X8_periodOf X.l G X.A M193 (mo := mo) (pl := mo) (ka := mo) (ta := mo) (tv := 0) h128) ⟨_, _, _, _, rfl, (gBV kB_X8_periodOf (by decide +kernel)), rfl, rfl, (by decide +kernel), ⟨(Nat.le_of_ble_eq_true rfl), (Nat.le_of_ble_eq_true rfl)⟩⟩ h199 rfl rfl (Nat.le_of_ble_eq_true rfl) (Nat.le_of_ble_eq_true rfl) (Nat.le_of_ble_eq_true rfl) rfl dX8_digest_56 (fun v210 M211 hD212 hp213 => ?_)
  obtain ⟨hp213a, hp213b⟩ := hp213
  subst hp213a
  subst hp213b
  refine j_i2l F205 0 dX8_digest_59 (by decide) ?_
  refine m_cSl S (n1 := 2) (rest := []) (r_X8_add X.l G X.A M193 1536009849395552593 0) ⟨_, _, _, _, rfl, (gBS kB_X8_add (by decide +kernel)), rfl, rfl, (by decide +kernel), ⟨(Nat.le_of_ble_eq_true rfl), (Nat.le_of_ble_eq_true rfl)⟩⟩ rfl (Nat.le_of_ble_eq_true rfl) (Nat.le_of_ble_eq_true rfl) (Nat.le_of_ble_eq_true rfl) rfl dX8_digest_60 (fun v214 M215 hD216 hp217 => ?_)
  obtain ⟨hp217v, hp217m⟩ := hp217
  have hp217v : (-7723926889866524465 : Int64) = v214 := (by decide : (-7723926889866524465 : Int64) = 1536009849395552593 * 31 + 0).trans hp217v
  subst hp217v
  subst hp217m
  refine j_lstore_n F205 [some (.ref mo), some (.long (-7723926889866524465)), none, some (.int 1), some (.ref v116), some (.int 4), some (.int 0), some (.int 0), none] dX8_digest_63 (by decide) rfl rfl ?_
  refine j_aload F205 dX8_digest_64 rfl ?_
  refine j_astore F205 [some (.ref mo), some (.long (-7723926889866524465)), none, some (.int 1), some (.ref v116), some (.ref v116), some (.int 0), some (.int 0), none] dX8_digest_66 (by decide) rfl rfl ?_
  refine j_aload F205 dX8_digest_68 rfl ?_
  refine m_alen S (t0 := 0) (v := 0) h128 rfl (by first | decide | rfl) dX8_digest_70 ?_
  refine j_istore F205 [some (.ref mo), some (.long (-7723926889866524465)), none, some (.int 1), some (.ref v116), some (.ref v116), some (.int 0), some (.int 0), none] dX8_digest_71 (by decide) rfl rfl ?_
  refine j_iconst F205 0 dX8_digest_73 (by decide) ?_
  refine j_istore F205 [some (.ref mo), some (.long (-7723926889866524465)), none, some (.int 1), some (.ref v116), some (.ref v116), some (.int 0), some (.int 0), none] dX8_digest_74 (by decide) rfl rfl ?_
  refine j_iload F205 dX8_digest_76 rfl ?_
  refine j_iload F205 dX8_digest_78 rfl ?_
  refine j_icmp_ge F205 104 dX8_digest_80 (by decide) (fun _ => ?_) (fun h9 => absurd (by decide) h9)
  refine j_iinc F205 2 [some (.ref mo), some (.long (-7723926889866524465)), none, some (.int 2), some (.ref v116), some (.ref v116), some (.int 0), some (.int 0), none] dX8_digest_104 rfl (by decide) (by decide) rfl rfl ?_
  refine j_goto F205 11 dX8_digest_107 (by decide) ?_
  refine j_iload_n F205 dX8_digest_11 rfl ?_
  refine j_bipush F205 10 dX8_digest_12 (by decide) ?_
  refine j_icmp_ge F205 110 dX8_digest_14 (by decide) (fun h9 => absurd h9 (by decide)) (fun _ => ?_)
  refine j_aload_n F205 dX8_digest_17 rfl ?_
  refine j_iload_n F205 dX8_digest_18 rfl ?_
  have hKm219 : Kp M193 [] M193 := by
    intro b x hb hx
    exact hx
  have hMo218 := Mo.mono hp195m hKm219
  refine m_cVr S (n1 := 1) (rest := []) (r_X8_row X.l G X.A M193 2 (by decide) hMo218) ⟨_, _, _, _, rfl, (gBV kB_X8_row (by decide +kernel)), rfl, rfl, (by decide +kernel), ⟨(Nat.le_of_ble_eq_true rfl), (Nat.le_of_ble_eq_true rfl)⟩⟩ h199 rfl rfl (Nat.le_of_ble_eq_true rfl) (Nat.le_of_ble_eq_true rfl) (Nat.le_of_ble_eq_true rfl) rfl dX8_digest_19 (fun v220 M221 hD222 hp223 => ?_)
  obtain ⟨hp223m, hp223k, hp223a⟩ := hp223
  have n224 : v17 ∉ [mo, ka] := by
    intro h9; simp only [List.mem_cons, List.not_mem_nil, or_false] at h9
    rcases h9 with h9 | h9
    · exact (In.ne hD194 h28 h199 (by simp)) h9
    · exact (In.ne hD194 h28 h203 (by simp)) h9
  have n225 : v116 ∉ [mo, ka] := by
    intro h9; simp only [List.mem_cons, List.not_mem_nil, or_false] at h9
    rcases h9 with h9 | h9
    · exact (In.ne hD194 h128 h199 (by simp)) h9
    · exact (In.ne hD194 h128 h203 (by simp)) h9
  have h28 := hp223k _ _ n224 h28
  have h128 := hp223k _ _ n225 h128
  obtain ⟨pl226, pe226, f226, kn226, tf226, o226_0, o226_1, o226_2, o226_3, o226_4, o226_5, o226_6, o226_7⟩ := id hp223m
  have h227 : (mo, (.inr (8, [.int 0, .ref pl226, .ref ka, .ref ta]) : va_E)) ∈ M221 := o226_0
  have h228 : (pl226, (.inr (10, [.int 10, .ref pe226, .int 10]) : va_E)) ∈ M221 := o226_1
  have h229 : (pe226, (.inl (G.cO, 10, .inr (.inr (.inr (.inr f226)))) : va_E)) ∈ M221 := o226_2
  have h230 : (ta, (.inl (G.Z.cI, 8, .inl tf226) : va_E)) ∈ M221 := o226_4
  have h231 : (ka, (.inl (G.cR, 10, .inr (.inr (.inr (.inr kn226)))) : va_E)) ∈ M221 := o226_6
  have hDo232 := hD222
  have h233 := hp223a
  have F234 := S.1.at 74 274 (Nat.le_of_ble_eq_true rfl) (Nat.le_of_ble_eq_true rfl)
  refine j_astore F234 [some (.ref mo), some (.long (-7723926889866524465)), none, some (.int 2), some (.ref v220), some (.ref v116), some (.int 0), some (.int 0), none] dX8_digest_22 (by decide) rfl rfl ?_
  refine j_iconst F234 0 dX8_digest_24 (by decide) ?_
  refine j_istore F234 [some (.ref mo), some (.long (-7723926889866524465)), none, some (.int 2), some (.ref v220), some (.int 0), some (.int 0), some (.int 0), none] dX8_digest_25 (by decide) rfl rfl ?_
  refine j_iload F234 dX8_digest_27 rfl ?_
  refine j_iconst F234 4 dX8_digest_29 (by decide) ?_
  refine j_icmp_ge F234 52 dX8_digest_30 (by decide) (fun h9 => absurd h9 (by decide)) (fun _ => ?_)
  refine j_lload_n F234 dX8_digest_33 rfl ?_
  refine j_aload_n F234 dX8_digest_34 rfl ?_
  refine j_iload_n F234 dX8_digest_35 rfl ?_
  refine j_iload F234 dX8_digest_36 rfl ?_
  have hKm236 : Kp M221 [] M221 := by
    intro b x hb hx
    exact hx
  have hMo235 := Mo.mono hp223m hKm236
  refine m_cVi S (n1 := 2) (rest := [.long (-7723926889866524465)]) (r_X8_of X.l G X.A M221 2 (by decide) 0 (by decide) hMo235) ⟨_, _, _, _, rfl, (gBV kB_X8_of (by decide +kernel)), rfl, rfl, (by decide +kernel), ⟨(Nat.le_of_ble_eq_true rfl), (Nat.le_of_ble_eq_true rfl)⟩⟩ h227 rfl rfl (Nat.le_of_ble_eq_true rfl) (Nat.le_of_ble_eq_true rfl) (Nat.le_of_ble_eq_true rfl) rfl dX8_digest_38 (fun v237 M238 hD239 hp240 => ?_)
  obtain ⟨hp240m, hp240k, hp240v⟩ := hp240
  subst hp240v
  have n241 : v17 ∉ [mo, ka] := by
    intro h9; simp only [List.mem_cons, List.not_mem_nil, or_false] at h9
    rcases h9 with h9 | h9
    · exact (In.ne hD222 h28 h227 (by simp)) h9
    · exact (In.ne hD222 h28 h231 (by simp)) h9
  have n242 : v116 ∉ [mo, ka] := by
    intro h9; simp only [List.mem_cons, List.not_mem_nil, or_false] at h9
    rcases h9 with h9 | h9
    · exact (In.ne hD222 h128 h227 (by simp)) h9
    · exact (In.ne hD222 h128 h231 (by simp)) h9
  have n243 : v220 ∉ [mo, ka] := by
    intro h9; simp only [List.mem_cons, List.not_mem_nil, or_false] at h9
    rcases h9 with h9 | h9
    · exact (In.ne hD222 h233 h227 (by simp)) h9
    · exact (In.ne hD222 h233 h231 (by simp)) h9
  have h28 := hp240k _ _ n241 h28
  have h128 := hp240k _ _ n242 h128
  have h233 := hp240k _ _ n243 h233
  obtain ⟨pl244, pe244, f244, kn244, tf244, o244_0, o244_1, o244_2, o244_3, o244_4, o244_5, o244_6, o244_7⟩ := id hp240m
  have h245 : (mo, (.inr (8, [.int 0, .ref pl244, .ref ka, .ref ta]) : va_E)) ∈ M238 := o244_0
  have h246 : (pl244, (.inr (10, [.int 10, .ref pe244, .int 10]) : va_E)) ∈ M238 := o244_1
  have h247 : (pe244, (.inl (G.cO, 10, .inr (.inr (.inr (.inr f244)))) : va_E)) ∈ M238 := o244_2
  have h248 : (ta, (.inl (G.Z.cI, 8, .inl tf244) : va_E)) ∈ M238 := o244_4
  have h249 : (ka, (.inl (G.cR, 10, .inr (.inr (.inr (.inr kn244)))) : va_E)) ∈ M238 := o244_6
  have hDo250 := hD239
  have F251 := S.1.at 81 300 (Nat.le_of_ble_eq_true rfl) (Nat.le_of_ble_eq_true rfl)
  refine j_i2l F251 0 dX8_digest_41 (by decide) ?_
  refine m_cSl S (n1 := 2) (rest := []) (r_X8_add X.l G X.A M238 (-7723926889866524465) 0) ⟨_, _, _, _, rfl, (gBS kB_X8_add (by decide +kernel)), rfl, rfl, (by decide +kernel), ⟨(Nat.le_of_ble_eq_true rfl), (Nat.le_of_ble_eq_true rfl)⟩⟩ rfl (Nat.le_of_ble_eq_true rfl) (Nat.le_of_ble_eq_true rfl) (Nat.le_of_ble_eq_true rfl) rfl dX8_digest_42 (fun v252 M253 hD254 hp255 => ?_)
  obtain ⟨hp255v, hp255m⟩ := hp255
  have hp255v : (365939372361912593 : Int64) = v252 := (by decide : (365939372361912593 : Int64) = (-7723926889866524465) * 31 + 0).trans hp255v
  subst hp255v
  subst hp255m
  refine j_lstore_n F251 [some (.ref mo), some (.long 365939372361912593), none, some (.int 2), some (.ref v220), some (.int 0), some (.int 0), some (.int 0), none] dX8_digest_45 (by decide) rfl rfl ?_
  refine j_iinc F251 1 [some (.ref mo), some (.long 365939372361912593), none, some (.int 2), some (.ref v220), some (.int 1), some (.int 0), some (.int 0), none] dX8_digest_46 rfl (by decide) (by decide) rfl rfl ?_
  refine j_goto F251 27 dX8_digest_49 (by decide) ?_
  refine j_iload F251 dX8_digest_27 rfl ?_
  refine j_iconst F251 4 dX8_digest_29 (by decide) ?_
  refine j_icmp_ge F251 52 dX8_digest_30 (by decide) (fun h9 => absurd h9 (by decide)) (fun _ => ?_)
  refine j_lload_n F251 dX8_digest_33 rfl ?_
  refine j_aload_n F251 dX8_digest_34 rfl ?_
  refine j_iload_n F251 dX8_digest_35 rfl ?_
  refine j_iload F251 dX8_digest_36 rfl ?_
  have hKm257 : Kp M238 [] M238 := by
    intro b x hb hx
    exact hx
  have hMo256 := Mo.mono hp240m hKm257
  refine m_cVi S (n1 := 2) (rest := [.long 365939372361912593]) (r_X8_of X.l G X.A M238 2 (by decide) 1 (by decide) hMo256) ⟨_, _, _, _, rfl, (gBV kB_X8_of (by decide +kernel)), rfl, rfl, (by decide +kernel), ⟨(Nat.le_of_ble_eq_true rfl), (Nat.le_of_ble_eq_true rfl)⟩⟩ h245 rfl rfl (Nat.le_of_ble_eq_true rfl) (Nat.le_of_ble_eq_true rfl) (Nat.le_of_ble_eq_true rfl) rfl dX8_digest_38 (fun v258 M259 hD260 hp261 => ?_)
  obtain ⟨hp261m, hp261k, hp261v⟩ := hp261
  subst hp261v
  have n262 : v17 ∉ [mo, ka] := by
    intro h9; simp only [List.mem_cons, List.not_mem_nil, or_false] at h9
    rcases h9 with h9 | h9
    · exact (In.ne hD239 h28 h245 (by simp)) h9
    · exact (In.ne hD239 h28 h249 (by simp)) h9
  have n263 : v116 ∉ [mo, ka] := by
    intro h9; simp only [List.mem_cons, List.not_mem_nil, or_false] at h9
    rcases h9 with h9 | h9
    · exact (In.ne hD239 h128 h245 (by simp)) h9
    · exact (In.ne hD239 h128 h249 (by simp)) h9
  have n264 : v220 ∉ [mo, ka] := by
    intro h9; simp only [List.mem_cons, List.not_mem_nil, or_false] at h9
    rcases h9 with h9 | h9
    · exact (In.ne hD239 h233 h245 (by simp)) h9
    · exact (In.ne hD239 h233 h249 (by simp)) h9
  have h28 := hp261k _ _ n262 h28
  have h128 := hp261k _ _ n263 h128
  have h233 := hp261k _ _ n264 h233
  obtain ⟨pl265, pe265, f265, kn265, tf265, o265_0, o265_1, o265_2, o265_3, o265_4, o265_5, o265_6, o265_7⟩ := id hp261m
  have h266 : (mo, (.inr (8, [.int 0, .ref pl265, .ref ka, .ref ta]) : va_E)) ∈ M259 := o265_0
  have h267 : (pl265, (.inr (10, [.int 10, .ref pe265, .int 10]) : va_E)) ∈ M259 := o265_1
  have h268 : (pe265, (.inl (G.cO, 10, .inr (.inr (.inr (.inr f265)))) : va_E)) ∈ M259 := o265_2
  have h269 : (ta, (.inl (G.Z.cI, 8, .inl tf265) : va_E)) ∈ M259 := o265_4
  have h270 : (ka, (.inl (G.cR, 10, .inr (.inr (.inr (.inr kn265)))) : va_E)) ∈ M259 := o265_6
  have hDo271 := hD260
  have F272 := S.1.at 88 326 (Nat.le_of_ble_eq_true rfl) (Nat.le_of_ble_eq_true rfl)
  refine j_i2l F272 0 dX8_digest_41 (by decide) ?_
  refine m_cSl S (n1 := 2) (rest := []) (r_X8_add X.l G X.A M259 365939372361912593 0) ⟨_, _, _, _, rfl, (gBS kB_X8_add (by decide +kernel)), rfl, rfl, (by decide +kernel), ⟨(Nat.le_of_ble_eq_true rfl), (Nat.le_of_ble_eq_true rfl)⟩⟩ rfl (Nat.le_of_ble_eq_true rfl) (Nat.le_of_ble_eq_true rfl) (Nat.le_of_ble_eq_true rfl) rfl dX8_digest_42 (fun v273 M274 hD275 hp276 => ?_)
  obtain ⟨hp276v, hp276m⟩ := hp276
  have hp276v : (-7102623530490261233 : Int64) = v273 := (by decide : (-7102623530490261233 : Int64) = 365939372361912593 * 31 + 0).trans hp276v
  subst hp276v
  subst hp276m
  refine j_lstore_n F272 [some (.ref mo), some (.long (-7102623530490261233)), none, some (.int 2), some (.ref v220), some (.int 1), some (.int 0), some (.int 0), none] dX8_digest_45 (by decide) rfl rfl ?_
  refine j_iinc F272 2 [some (.ref mo), some (.long (-7102623530490261233)), none, some (.int 2), some (.ref v220), some (.int 2), some (.int 0), some (.int 0), none] dX8_digest_46 rfl (by decide) (by decide) rfl rfl ?_
  refine j_goto F272 27 dX8_digest_49 (by decide) ?_
  refine j_iload F272 dX8_digest_27 rfl ?_
  refine j_iconst F272 4 dX8_digest_29 (by decide) ?_
  refine j_icmp_ge F272 52 dX8_digest_30 (by decide) (fun h9 => absurd h9 (by decide)) (fun _ => ?_)
  refine j_lload_n F272 dX8_digest_33 rfl ?_
  refine j_aload_n F272 dX8_digest_34 rfl ?_
  refine j_iload_n F272 dX8_digest_35 rfl ?_
  refine j_iload F272 dX8_digest_36 rfl ?_
  have hKm278 : Kp M259 [] M259 := by
    intro b x hb hx
    exact hx
  have hMo277 := Mo.mono hp261m hKm278
  refine m_cVi S (n1 := 2) (rest := [.long (-7102623530490261233)]) (r_X8_of X.l G X.A M259 2 (by decide) 2 (by decide) hMo277) ⟨_, _, _, _, rfl, (gBV kB_X8_of (by decide +kernel)), rfl, rfl, (by decide +kernel), ⟨(Nat.le_of_ble_eq_true rfl), (Nat.le_of_ble_eq_true rfl)⟩⟩ h266 rfl rfl (Nat.le_of_ble_eq_true rfl) (Nat.le_of_ble_eq_true rfl) (Nat.le_of_ble_eq_true rfl) rfl dX8_digest_38 (fun v279 M280 hD281 hp282 => ?_)
  obtain ⟨hp282m, hp282k, hp282v⟩ := hp282
  subst hp282v
  have n283 : v17 ∉ [mo, ka] := by
    intro h9; simp only [List.mem_cons, List.not_mem_nil, or_false] at h9
    rcases h9 with h9 | h9
    · exact (In.ne hD260 h28 h266 (by simp)) h9
    · exact (In.ne hD260 h28 h270 (by simp)) h9
  have n284 : v116 ∉ [mo, ka] := by
    intro h9; simp only [List.mem_cons, List.not_mem_nil, or_false] at h9
    rcases h9 with h9 | h9
    · exact (In.ne hD260 h128 h266 (by simp)) h9
    · exact (In.ne hD260 h128 h270 (by simp)) h9
  have n285 : v220 ∉ [mo, ka] := by
    intro h9; simp only [List.mem_cons, List.not_mem_nil, or_false] at h9
    rcases h9 with h9 | h9
    · exact (In.ne hD260 h233 h266 (by simp)) h9
    · exact (In.ne hD260 h233 h270 (by simp)) h9
  have h28 := hp282k _ _ n283 h28
  have h128 := hp282k _ _ n284 h128
  have h233 := hp282k _ _ n285 h233
  obtain ⟨pl286, pe286, f286, kn286, tf286, o286_0, o286_1, o286_2, o286_3, o286_4, o286_5, o286_6, o286_7⟩ := id hp282m
  have h287 : (mo, (.inr (8, [.int 0, .ref pl286, .ref ka, .ref ta]) : va_E)) ∈ M280 := o286_0
  have h288 : (pl286, (.inr (10, [.int 10, .ref pe286, .int 10]) : va_E)) ∈ M280 := o286_1
  have h289 : (pe286, (.inl (G.cO, 10, .inr (.inr (.inr (.inr f286)))) : va_E)) ∈ M280 := o286_2
  have h290 : (ta, (.inl (G.Z.cI, 8, .inl tf286) : va_E)) ∈ M280 := o286_4
  have h291 : (ka, (.inl (G.cR, 10, .inr (.inr (.inr (.inr kn286)))) : va_E)) ∈ M280 := o286_6
  have hDo292 := hD281
  have F293 := S.1.at 95 352 (Nat.le_of_ble_eq_true rfl) (Nat.le_of_ble_eq_true rfl)
  refine j_i2l F293 0 dX8_digest_41 (by decide) ?_
  refine m_cSl S (n1 := 2) (rest := []) (r_X8_add X.l G X.A M280 (-7102623530490261233) 0) ⟨_, _, _, _, rfl, (gBS kB_X8_add (by decide +kernel)), rfl, rfl, (by decide +kernel), ⟨(Nat.le_of_ble_eq_true rfl), (Nat.le_of_ble_eq_true rfl)⟩⟩ rfl (Nat.le_of_ble_eq_true rfl) (Nat.le_of_ble_eq_true rfl) (Nat.le_of_ble_eq_true rfl) rfl dX8_digest_42 (fun v294 M295 hD296 hp297 => ?_)
  obtain ⟨hp297v, hp297m⟩ := hp297
  have hp297v : (1179599439316521169 : Int64) = v294 := (by decide : (1179599439316521169 : Int64) = (-7102623530490261233) * 31 + 0).trans hp297v
  subst hp297v
  subst hp297m
  refine j_lstore_n F293 [some (.ref mo), some (.long 1179599439316521169), none, some (.int 2), some (.ref v220), some (.int 2), some (.int 0), some (.int 0), none] dX8_digest_45 (by decide) rfl rfl ?_
  refine j_iinc F293 3 [some (.ref mo), some (.long 1179599439316521169), none, some (.int 2), some (.ref v220), some (.int 3), some (.int 0), some (.int 0), none] dX8_digest_46 rfl (by decide) (by decide) rfl rfl ?_
  refine j_goto F293 27 dX8_digest_49 (by decide) ?_
  refine j_iload F293 dX8_digest_27 rfl ?_
  refine j_iconst F293 4 dX8_digest_29 (by decide) ?_
  refine j_icmp_ge F293 52 dX8_digest_30 (by decide) (fun h9 => absurd h9 (by decide)) (fun _ => ?_)
  refine j_lload_n F293 dX8_digest_33 rfl ?_
  refine j_aload_n F293 dX8_digest_34 rfl ?_
  refine j_iload_n F293 dX8_digest_35 rfl ?_
  refine j_iload F293 dX8_digest_36 rfl ?_
  have hKm299 : Kp M280 [] M280 := by
    intro b x hb hx
    exact hx
  have hMo298 := Mo.mono hp282m hKm299
  refine m_cVi S (n1 := 2) (rest := [.long 1179599439316521169]) (r_X8_of X.l G X.A M280 2 (by decide) 3 (by decide) hMo298) ⟨_, _, _, _, rfl, (gBV kB_X8_of (by decide +kernel)), rfl, rfl, (by decide +kernel), ⟨(Nat.le_of_ble_eq_true rfl), (Nat.le_of_ble_eq_true rfl)⟩⟩ h287 rfl rfl (Nat.le_of_ble_eq_true rfl) (Nat.le_of_ble_eq_true rfl) (Nat.le_of_ble_eq_true rfl) rfl dX8_digest_38 (fun v300 M301 hD302 hp303 => ?_)
  obtain ⟨hp303m, hp303k, hp303v⟩ := hp303
  subst hp303v
  have n304 : v17 ∉ [mo, ka] := by
    intro h9; simp only [List.mem_cons, List.not_mem_nil, or_false] at h9
    rcases h9 with h9 | h9
    · exact (In.ne hD281 h28 h287 (by simp)) h9
    · exact (In.ne hD281 h28 h291 (by simp)) h9
  have n305 : v116 ∉ [mo, ka] := by
    intro h9; simp only [List.mem_cons, List.not_mem_nil, or_false] at h9
    rcases h9 with h9 | h9
    · exact (In.ne hD281 h128 h287 (by simp)) h9
    · exact (In.ne hD281 h128 h291 (by simp)) h9
  have n306 : v220 ∉ [mo, ka] := by
    intro h9; simp only [List.mem_cons, List.not_mem_nil, or_false] at h9
    rcases h9 with h9 | h9
    · exact (In.ne hD281 h233 h287 (by simp)) h9
    · exact (In.ne hD281 h233 h291 (by simp)) h9
  have h28 := hp303k _ _ n304 h28
  have h128 := hp303k _ _ n305 h128
  have h233 := hp303k _ _ n306 h233
  obtain ⟨pl307, pe307, f307, kn307, tf307, o307_0, o307_1, o307_2, o307_3, o307_4, o307_5, o307_6, o307_7⟩ := id hp303m
  have h308 : (mo, (.inr (8, [.int 0, .ref pl307, .ref ka, .ref ta]) : va_E)) ∈ M301 := o307_0
  have h309 : (pl307, (.inr (10, [.int 10, .ref pe307, .int 10]) : va_E)) ∈ M301 := o307_1
  have h310 : (pe307, (.inl (G.cO, 10, .inr (.inr (.inr (.inr f307)))) : va_E)) ∈ M301 := o307_2
  have h311 : (ta, (.inl (G.Z.cI, 8, .inl tf307) : va_E)) ∈ M301 := o307_4
  have h312 : (ka, (.inl (G.cR, 10, .inr (.inr (.inr (.inr kn307)))) : va_E)) ∈ M301 := o307_6
  have hDo313 := hD302
  have F314 := S.1.at 102 378 (Nat.le_of_ble_eq_true rfl) (Nat.le_of_ble_eq_true rfl)
  refine j_i2l F314 (-1) dX8_digest_41 (by decide) ?_
  refine m_cSl S (n1 := 2) (rest := []) (r_X8_add X.l G X.A M301 1179599439316521169 (-1)) ⟨_, _, _, _, rfl, (gBS kB_X8_add (by decide +kernel)), rfl, rfl, (by decide +kernel), ⟨(Nat.le_of_ble_eq_true rfl), (Nat.le_of_ble_eq_true rfl)⟩⟩ rfl (Nat.le_of_ble_eq_true rfl) (Nat.le_of_ble_eq_true rfl) (Nat.le_of_ble_eq_true rfl) rfl dX8_digest_42 (fun v315 M316 hD317 hp318 => ?_)
  obtain ⟨hp318v, hp318m⟩ := hp318
  have hp318v : (-325905528606946994 : Int64) = v315 := (by decide : (-325905528606946994 : Int64) = 1179599439316521169 * 31 + (-1)).trans hp318v
  subst hp318v
  subst hp318m
  refine j_lstore_n F314 [some (.ref mo), some (.long (-325905528606946994)), none, some (.int 2), some (.ref v220), some (.int 3), some (.int 0), some (.int 0), none] dX8_digest_45 (by decide) rfl rfl ?_
  refine j_iinc F314 4 [some (.ref mo), some (.long (-325905528606946994)), none, some (.int 2), some (.ref v220), some (.int 4), some (.int 0), some (.int 0), none] dX8_digest_46 rfl (by decide) (by decide) rfl rfl ?_
  refine j_goto F314 27 dX8_digest_49 (by decide) ?_
  refine j_iload F314 dX8_digest_27 rfl ?_
  refine j_iconst F314 4 dX8_digest_29 (by decide) ?_
  refine j_icmp_ge F314 52 dX8_digest_30 (by decide) (fun _ => ?_) (fun h9 => absurd (by decide) h9)
  refine j_lload_n F314 dX8_digest_52 rfl ?_
  refine j_aload_n F314 dX8_digest_53 rfl ?_
  refine j_aload F314 dX8_digest_54 rfl ?_
  refine m_cVi S (n1 := 1) (rest := [.long (-325905528606946994)]) (r_X8_periodOf X.l G X.A M301 (mo := mo) (pl := mo) (ka := mo) (ta := mo) (tv := 0) h233) ⟨_, _, _, _, rfl, (gBV kB_X8_periodOf (by decide +kernel)), rfl, rfl, (by decide +kernel), ⟨(Nat.le_of_ble_eq_true rfl), (Nat.le_of_ble_eq_true rfl)⟩⟩ h308 rfl rfl (Nat.le_of_ble_eq_true rfl) (Nat.le_of_ble_eq_true rfl) (Nat.le_of_ble_eq_true rfl) rfl dX8_digest_56 (fun v319 M320 hD321 hp322 => ?_)
  obtain ⟨hp322a, hp322b⟩ := hp322
  subst hp322a
  subst hp322b
  refine j_i2l F314 0 dX8_digest_59 (by decide) ?_
  refine m_cSl S (n1 := 2) (rest := []) (r_X8_add X.l G X.A M301 (-325905528606946994) 0) ⟨_, _, _, _, rfl, (gBS kB_X8_add (by decide +kernel)), rfl, rfl, (by decide +kernel), ⟨(Nat.le_of_ble_eq_true rfl), (Nat.le_of_ble_eq_true rfl)⟩⟩ rfl (Nat.le_of_ble_eq_true rfl) (Nat.le_of_ble_eq_true rfl) (Nat.le_of_ble_eq_true rfl) rfl dX8_digest_60 (fun v323 M324 hD325 hp326 => ?_)
  obtain ⟨hp326v, hp326m⟩ := hp326
  have hp326v : (8343672686894194802 : Int64) = v323 := (by decide : (8343672686894194802 : Int64) = (-325905528606946994) * 31 + 0).trans hp326v
  subst hp326v
  subst hp326m
  refine j_lstore_n F314 [some (.ref mo), some (.long 8343672686894194802), none, some (.int 2), some (.ref v220), some (.int 4), some (.int 0), some (.int 0), none] dX8_digest_63 (by decide) rfl rfl ?_
  refine j_aload F314 dX8_digest_64 rfl ?_
  refine j_astore F314 [some (.ref mo), some (.long 8343672686894194802), none, some (.int 2), some (.ref v220), some (.ref v220), some (.int 0), some (.int 0), none] dX8_digest_66 (by decide) rfl rfl ?_
  refine j_aload F314 dX8_digest_68 rfl ?_
  refine m_alen S (t0 := 0) (v := 0) h233 rfl (by first | decide | rfl) dX8_digest_70 ?_
  refine j_istore F314 [some (.ref mo), some (.long 8343672686894194802), none, some (.int 2), some (.ref v220), some (.ref v220), some (.int 0), some (.int 0), none] dX8_digest_71 (by decide) rfl rfl ?_
  refine j_iconst F314 0 dX8_digest_73 (by decide) ?_
  refine j_istore F314 [some (.ref mo), some (.long 8343672686894194802), none, some (.int 2), some (.ref v220), some (.ref v220), some (.int 0), some (.int 0), none] dX8_digest_74 (by decide) rfl rfl ?_
  refine j_iload F314 dX8_digest_76 rfl ?_
  refine j_iload F314 dX8_digest_78 rfl ?_
  refine j_icmp_ge F314 104 dX8_digest_80 (by decide) (fun _ => ?_) (fun h9 => absurd (by decide) h9)
  refine j_iinc F314 3 [some (.ref mo), some (.long 8343672686894194802), none, some (.int 3), some (.ref v220), some (.ref v220), some (.int 0), some (.int 0), none] dX8_digest_104 rfl (by decide) (by decide) rfl rfl ?_
  refine j_goto F314 11 dX8_digest_107 (by decide) ?_
  refine j_iload_n F314 dX8_digest_11 rfl ?_
  refine j_bipush F314 10 dX8_digest_12 (by decide) ?_
  refine j_icmp_ge F314 110 dX8_digest_14 (by decide) (fun h9 => absurd h9 (by decide)) (fun _ => ?_)
  refine j_aload_n F314 dX8_digest_17 rfl ?_
  refine j_iload_n F314 dX8_digest_18 rfl ?_
  have hKm328 : Kp M301 [] M301 := by
    intro b x hb hx
    exact hx
  have hMo327 := Mo.mono hp303m hKm328
  refine m_cVr S (n1 := 1) (rest := []) (r_X8_row X.l G X.A M301 3 (by decide) hMo327) ⟨_, _, _, _, rfl, (gBV kB_X8_row (by decide +kernel)), rfl, rfl, (by decide +kernel), ⟨(Nat.le_of_ble_eq_true rfl), (Nat.le_of_ble_eq_true rfl)⟩⟩ h308 rfl rfl (Nat.le_of_ble_eq_true rfl) (Nat.le_of_ble_eq_true rfl) (Nat.le_of_ble_eq_true rfl) rfl dX8_digest_19 (fun v329 M330 hD331 hp332 => ?_)
  obtain ⟨hp332m, hp332k, hp332a⟩ := hp332
  have n333 : v17 ∉ [mo, ka] := by
    intro h9; simp only [List.mem_cons, List.not_mem_nil, or_false] at h9
    rcases h9 with h9 | h9
    · exact (In.ne hD302 h28 h308 (by simp)) h9
    · exact (In.ne hD302 h28 h312 (by simp)) h9
  have n334 : v116 ∉ [mo, ka] := by
    intro h9; simp only [List.mem_cons, List.not_mem_nil, or_false] at h9
    rcases h9 with h9 | h9
    · exact (In.ne hD302 h128 h308 (by simp)) h9
    · exact (In.ne hD302 h128 h312 (by simp)) h9
  have n335 : v220 ∉ [mo, ka] := by
    intro h9; simp only [List.mem_cons, List.not_mem_nil, or_false] at h9
    rcases h9 with h9 | h9
    · exact (In.ne hD302 h233 h308 (by simp)) h9
    · exact (In.ne hD302 h233 h312 (by simp)) h9
  have h28 := hp332k _ _ n333 h28
  have h128 := hp332k _ _ n334 h128
  have h233 := hp332k _ _ n335 h233
  obtain ⟨pl336, pe336, f336, kn336, tf336, o336_0, o336_1, o336_2, o336_3, o336_4, o336_5, o336_6, o336_7⟩ := id hp332m
  have h337 : (mo, (.inr (8, [.int 0, .ref pl336, .ref ka, .ref ta]) : va_E)) ∈ M330 := o336_0
  have h338 : (pl336, (.inr (10, [.int 10, .ref pe336, .int 10]) : va_E)) ∈ M330 := o336_1
  have h339 : (pe336, (.inl (G.cO, 10, .inr (.inr (.inr (.inr f336)))) : va_E)) ∈ M330 := o336_2
  have h340 : (ta, (.inl (G.Z.cI, 8, .inl tf336) : va_E)) ∈ M330 := o336_4
  have h341 : (ka, (.inl (G.cR, 10, .inr (.inr (.inr (.inr kn336)))) : va_E)) ∈ M330 := o336_6
  have hDo342 := hD331
  have h343 := hp332a
  have F344 := S.1.at 108 400 (Nat.le_of_ble_eq_true rfl) (Nat.le_of_ble_eq_true rfl)
  refine j_astore F344 [some (.ref mo), some (.long 8343672686894194802), none, some (.int 3), some (.ref v329), some (.ref v220), some (.int 0), some (.int 0), none] dX8_digest_22 (by decide) rfl rfl ?_
  refine j_iconst F344 0 dX8_digest_24 (by decide) ?_
  refine j_istore F344 [some (.ref mo), some (.long 8343672686894194802), none, some (.int 3), some (.ref v329), some (.int 0), some (.int 0), some (.int 0), none] dX8_digest_25 (by decide) rfl rfl ?_
  refine j_iload F344 dX8_digest_27 rfl ?_
  refine j_iconst F344 4 dX8_digest_29 (by decide) ?_
  refine j_icmp_ge F344 52 dX8_digest_30 (by decide) (fun h9 => absurd h9 (by decide)) (fun _ => ?_)
  refine j_lload_n F344 dX8_digest_33 rfl ?_
  refine j_aload_n F344 dX8_digest_34 rfl ?_
  refine j_iload_n F344 dX8_digest_35 rfl ?_
  refine j_iload F344 dX8_digest_36 rfl ?_
  have hKm346 : Kp M330 [] M330 := by
    intro b x hb hx
    exact hx
  have hMo345 := Mo.mono hp332m hKm346
  refine m_cVi S (n1 := 2) (rest := [.long 8343672686894194802]) (r_X8_of X.l G X.A M330 3 (by decide) 0 (by decide) hMo345) ⟨_, _, _, _, rfl, (gBV kB_X8_of (by decide +kernel)), rfl, rfl, (by decide +kernel), ⟨(Nat.le_of_ble_eq_true rfl), (Nat.le_of_ble_eq_true rfl)⟩⟩ h337 rfl rfl (Nat.le_of_ble_eq_true rfl) (Nat.le_of_ble_eq_true rfl) (Nat.le_of_ble_eq_true rfl) rfl dX8_digest_38 (fun v347 M348 hD349 hp350 => ?_)
  obtain ⟨hp350m, hp350k, hp350v⟩ := hp350
  subst hp350v
  have n351 : v17 ∉ [mo, ka] := by
    intro h9; simp only [List.mem_cons, List.not_mem_nil, or_false] at h9
    rcases h9 with h9 | h9
    · exact (In.ne hD331 h28 h337 (by simp)) h9
    · exact (In.ne hD331 h28 h341 (by simp)) h9
  have n352 : v116 ∉ [mo, ka] := by
    intro h9; simp only [List.mem_cons, List.not_mem_nil, or_false] at h9
    rcases h9 with h9 | h9
    · exact (In.ne hD331 h128 h337 (by simp)) h9
    · exact (In.ne hD331 h128 h341 (by simp)) h9
  have n353 : v220 ∉ [mo, ka] := by
    intro h9; simp only [List.mem_cons, List.not_mem_nil, or_false] at h9
    rcases h9 with h9 | h9
    · exact (In.ne hD331 h233 h337 (by simp)) h9
    · exact (In.ne hD331 h233 h341 (by simp)) h9
  have n354 : v329 ∉ [mo, ka] := by
    intro h9; simp only [List.mem_cons, List.not_mem_nil, or_false] at h9
    rcases h9 with h9 | h9
    · exact (In.ne hD331 h343 h337 (by simp)) h9
    · exact (In.ne hD331 h343 h341 (by simp)) h9
  have h28 := hp350k _ _ n351 h28
  have h128 := hp350k _ _ n352 h128
  have h233 := hp350k _ _ n353 h233
  have h343 := hp350k _ _ n354 h343
  obtain ⟨pl355, pe355, f355, kn355, tf355, o355_0, o355_1, o355_2, o355_3, o355_4, o355_5, o355_6, o355_7⟩ := id hp350m
  have h356 : (mo, (.inr (8, [.int 0, .ref pl355, .ref ka, .ref ta]) : va_E)) ∈ M348 := o355_0
  have h357 : (pl355, (.inr (10, [.int 10, .ref pe355, .int 10]) : va_E)) ∈ M348 := o355_1
  have h358 : (pe355, (.inl (G.cO, 10, .inr (.inr (.inr (.inr f355)))) : va_E)) ∈ M348 := o355_2
  have h359 : (ta, (.inl (G.Z.cI, 8, .inl tf355) : va_E)) ∈ M348 := o355_4
  have h360 : (ka, (.inl (G.cR, 10, .inr (.inr (.inr (.inr kn355)))) : va_E)) ∈ M348 := o355_6
  have hDo361 := hD349
  have F362 := S.1.at 115 426 (Nat.le_of_ble_eq_true rfl) (Nat.le_of_ble_eq_true rfl)
  refine j_i2l F362 0 dX8_digest_41 (by decide) ?_
  refine m_cSl S (n1 := 2) (rest := []) (r_X8_add X.l G X.A M348 8343672686894194802 0) ⟨_, _, _, _, rfl, (gBS kB_X8_add (by decide +kernel)), rfl, rfl, (by decide +kernel), ⟨(Nat.le_of_ble_eq_true rfl), (Nat.le_of_ble_eq_true rfl)⟩⟩ rfl (Nat.le_of_ble_eq_true rfl) (Nat.le_of_ble_eq_true rfl) (Nat.le_of_ble_eq_true rfl) rfl dX8_digest_42 (fun v363 M364 hD365 hp366 => ?_)
  obtain ⟨hp366v, hp366m⟩ := hp366
  have hp366v : (399436261786316238 : Int64) = v363 := (by decide : (399436261786316238 : Int64) = 8343672686894194802 * 31 + 0).trans hp366v
  subst hp366v
  subst hp366m
  refine j_lstore_n F362 [some (.ref mo), some (.long 399436261786316238), none, some (.int 3), some (.ref v329), some (.int 0), some (.int 0), some (.int 0), none] dX8_digest_45 (by decide) rfl rfl ?_
  refine j_iinc F362 1 [some (.ref mo), some (.long 399436261786316238), none, some (.int 3), some (.ref v329), some (.int 1), some (.int 0), some (.int 0), none] dX8_digest_46 rfl (by decide) (by decide) rfl rfl ?_
  refine j_goto F362 27 dX8_digest_49 (by decide) ?_
  refine j_iload F362 dX8_digest_27 rfl ?_
  refine j_iconst F362 4 dX8_digest_29 (by decide) ?_
  refine j_icmp_ge F362 52 dX8_digest_30 (by decide) (fun h9 => absurd h9 (by decide)) (fun _ => ?_)
  refine j_lload_n F362 dX8_digest_33 rfl ?_
  refine j_aload_n F362 dX8_digest_34 rfl ?_
  refine j_iload_n F362 dX8_digest_35 rfl ?_
  refine j_iload F362 dX8_digest_36 rfl ?_
  have hKm368 : Kp M348 [] M348 := by
    intro b x hb hx
    exact hx
  have hMo367 := Mo.mono hp350m hKm368
  refine m_cVi S (n1 := 2) (rest := [.long 399436261786316238]) (r_X8_of X.l G X.A M348 3 (by decide) 1 (by decide) hMo367) ⟨_, _, _, _, rfl, (gBV kB_X8_of (by decide +kernel)), rfl, rfl, (by decide +kernel), ⟨(Nat.le_of_ble_eq_true rfl), (Nat.le_of_ble_eq_true rfl)⟩⟩ h356 rfl rfl (Nat.le_of_ble_eq_true rfl) (Nat.le_of_ble_eq_true rfl) (Nat.le_of_ble_eq_true rfl) rfl dX8_digest_38 (fun v369 M370 hD371 hp372 => ?_)
  obtain ⟨hp372m, hp372k, hp372v⟩ := hp372
  subst hp372v
  have n373 : v17 ∉ [mo, ka] := by
    intro h9; simp only [List.mem_cons, List.not_mem_nil, or_false] at h9
    rcases h9 with h9 | h9
    · exact (In.ne hD349 h28 h356 (by simp)) h9
    · exact (In.ne hD349 h28 h360 (by simp)) h9
  have n374 : v116 ∉ [mo, ka] := by
    intro h9; simp only [List.mem_cons, List.not_mem_nil, or_false] at h9
    rcases h9 with h9 | h9
    · exact (In.ne hD349 h128 h356 (by simp)) h9
    · exact (In.ne hD349 h128 h360 (by simp)) h9
  have n375 : v220 ∉ [mo, ka] := by
    intro h9; simp only [List.mem_cons, List.not_mem_nil, or_false] at h9
    rcases h9 with h9 | h9
    · exact (In.ne hD349 h233 h356 (by simp)) h9
    · exact (In.ne hD349 h233 h360 (by simp)) h9
  have n376 : v329 ∉ [mo, ka] := by
    intro h9; simp only [List.mem_cons, List.not_mem_nil, or_false] at h9
    rcases h9 with h9 | h9
    · exact (In.ne hD349 h343 h356 (by simp)) h9
    · exact (In.ne hD349 h343 h360 (by simp)) h9
  have h28 := hp372k _ _ n373 h28
  have h128 := hp372k _ _ n374 h128
  have h233 := hp372k _ _ n375 h233
  have h343 := hp372k _ _ n376 h343
  obtain ⟨pl377, pe377, f377, kn377, tf377, o377_0, o377_1, o377_2, o377_3, o377_4, o377_5, o377_6, o377_7⟩ := id hp372m
  have h378 : (mo, (.inr (8, [.int 0, .ref pl377, .ref ka, .ref ta]) : va_E)) ∈ M370 := o377_0
  have h379 : (pl377, (.inr (10, [.int 10, .ref pe377, .int 10]) : va_E)) ∈ M370 := o377_1
  have h380 : (pe377, (.inl (G.cO, 10, .inr (.inr (.inr (.inr f377)))) : va_E)) ∈ M370 := o377_2
  have h381 : (ta, (.inl (G.Z.cI, 8, .inl tf377) : va_E)) ∈ M370 := o377_4
  have h382 : (ka, (.inl (G.cR, 10, .inr (.inr (.inr (.inr kn377)))) : va_E)) ∈ M370 := o377_6
  have hDo383 := hD371
  have F384 := S.1.at 122 452 (Nat.le_of_ble_eq_true rfl) (Nat.le_of_ble_eq_true rfl)
  refine j_i2l F384 0 dX8_digest_41 (by decide) ?_
  refine m_cSl S (n1 := 2) (rest := []) (r_X8_add X.l G X.A M370 399436261786316238 0) ⟨_, _, _, _, rfl, (gBS kB_X8_add (by decide +kernel)), rfl, rfl, (by decide +kernel), ⟨(Nat.le_of_ble_eq_true rfl), (Nat.le_of_ble_eq_true rfl)⟩⟩ rfl (Nat.le_of_ble_eq_true rfl) (Nat.le_of_ble_eq_true rfl) (Nat.le_of_ble_eq_true rfl) rfl dX8_digest_42 (fun v385 M386 hD387 hp388 => ?_)
  obtain ⟨hp388v, hp388m⟩ := hp388
  have hp388v : (-6064219958333748238 : Int64) = v385 := (by decide : (-6064219958333748238 : Int64) = 399436261786316238 * 31 + 0).trans hp388v
  subst hp388v
  subst hp388m
  refine j_lstore_n F384 [some (.ref mo), some (.long (-6064219958333748238)), none, some (.int 3), some (.ref v329), some (.int 1), some (.int 0), some (.int 0), none] dX8_digest_45 (by decide) rfl rfl ?_
  refine j_iinc F384 2 [some (.ref mo), some (.long (-6064219958333748238)), none, some (.int 3), some (.ref v329), some (.int 2), some (.int 0), some (.int 0), none] dX8_digest_46 rfl (by decide) (by decide) rfl rfl ?_
  refine j_goto F384 27 dX8_digest_49 (by decide) ?_
  refine j_iload F384 dX8_digest_27 rfl ?_
  refine j_iconst F384 4 dX8_digest_29 (by decide) ?_
  refine j_icmp_ge F384 52 dX8_digest_30 (by decide) (fun h9 => absurd h9 (by decide)) (fun _ => ?_)
  refine j_lload_n F384 dX8_digest_33 rfl ?_
  refine j_aload_n F384 dX8_digest_34 rfl ?_
  refine j_iload_n F384 dX8_digest_35 rfl ?_
  refine j_iload F384 dX8_digest_36 rfl ?_
  have hKm390 : Kp M370 [] M370 := by
    intro b x hb hx
    exact hx
  have hMo389 := Mo.mono hp372m hKm390
  refine m_cVi S (n1 := 2) (rest := [.long (-6064219958333748238)]) (r_X8_of X.l G X.A M370 3 (by decide) 2 (by decide) hMo389) ⟨_, _, _, _, rfl, (gBV kB_X8_of (by decide +kernel)), rfl, rfl, (by decide +kernel), ⟨(Nat.le_of_ble_eq_true rfl), (Nat.le_of_ble_eq_true rfl)⟩⟩ h378 rfl rfl (Nat.le_of_ble_eq_true rfl) (Nat.le_of_ble_eq_true rfl) (Nat.le_of_ble_eq_true rfl) rfl dX8_digest_38 (fun v391 M392 hD393 hp394 => ?_)
  obtain ⟨hp394m, hp394k, hp394v⟩ := hp394
  subst hp394v
  have n395 : v17 ∉ [mo, ka] := by
    intro h9; simp only [List.mem_cons, List.not_mem_nil, or_false] at h9
    rcases h9 with h9 | h9
    · exact (In.ne hD371 h28 h378 (by simp)) h9
    · exact (In.ne hD371 h28 h382 (by simp)) h9
  have n396 : v116 ∉ [mo, ka] := by
    intro h9; simp only [List.mem_cons, List.not_mem_nil, or_false] at h9
    rcases h9 with h9 | h9
    · exact (In.ne hD371 h128 h378 (by simp)) h9
    · exact (In.ne hD371 h128 h382 (by simp)) h9
  have n397 : v220 ∉ [mo, ka] := by
    intro h9; simp only [List.mem_cons, List.not_mem_nil, or_false] at h9
    rcases h9 with h9 | h9
    · exact (In.ne hD371 h233 h378 (by simp)) h9
    · exact (In.ne hD371 h233 h382 (by simp)) h9
  have n398 : v329 ∉ [mo, ka] := by
    intro h9; simp only [List.mem_cons, List.not_mem_nil, or_false] at h9
    rcases h9 with h9 | h9
    · exact (In.ne hD371 h343 h378 (by simp)) h9
    · exact (In.ne hD371 h343 h382 (by simp)) h9
  have h28 := hp394k _ _ n395 h28
  have h128 := hp394k _ _ n396 h128
  have h233 := hp394k _ _ n397 h233
  have h343 := hp394k _ _ n398 h343
  obtain ⟨pl399, pe399, f399, kn399, tf399, o399_0, o399_1, o399_2, o399_3, o399_4, o399_5, o399_6, o399_7⟩ := id hp394m
  have h400 : (mo, (.inr (8, [.int 0, .ref pl399, .ref ka, .ref ta]) : va_E)) ∈ M392 := o399_0
  have h401 : (pl399, (.inr (10, [.int 10, .ref pe399, .int 10]) : va_E)) ∈ M392 := o399_1
  have h402 : (pe399, (.inl (G.cO, 10, .inr (.inr (.inr (.inr f399)))) : va_E)) ∈ M392 := o399_2
  have h403 : (ta, (.inl (G.Z.cI, 8, .inl tf399) : va_E)) ∈ M392 := o399_4
  have h404 : (ka, (.inl (G.cR, 10, .inr (.inr (.inr (.inr kn399)))) : va_E)) ∈ M392 := o399_6
  have hDo405 := hD393
  have F406 := S.1.at 129 478 (Nat.le_of_ble_eq_true rfl) (Nat.le_of_ble_eq_true rfl)
  refine j_i2l F406 0 dX8_digest_41 (by decide) ?_
  refine m_cSl S (n1 := 2) (rest := []) (r_X8_add X.l G X.A M392 (-6064219958333748238) 0) ⟨_, _, _, _, rfl, (gBS kB_X8_add (by decide +kernel)), rfl, rfl, (by decide +kernel), ⟨(Nat.le_of_ble_eq_true rfl), (Nat.le_of_ble_eq_true rfl)⟩⟩ rfl (Nat.le_of_ble_eq_true rfl) (Nat.le_of_ble_eq_true rfl) (Nat.le_of_ble_eq_true rfl) rfl dX8_digest_42 (fun v407 M408 hD409 hp410 => ?_)
  obtain ⟨hp410v, hp410m⟩ := hp410
  have hp410v : (-3523377971250679218 : Int64) = v407 := (by decide : (-3523377971250679218 : Int64) = (-6064219958333748238) * 31 + 0).trans hp410v
  subst hp410v
  subst hp410m
  refine j_lstore_n F406 [some (.ref mo), some (.long (-3523377971250679218)), none, some (.int 3), some (.ref v329), some (.int 2), some (.int 0), some (.int 0), none] dX8_digest_45 (by decide) rfl rfl ?_
  refine j_iinc F406 3 [some (.ref mo), some (.long (-3523377971250679218)), none, some (.int 3), some (.ref v329), some (.int 3), some (.int 0), some (.int 0), none] dX8_digest_46 rfl (by decide) (by decide) rfl rfl ?_
  refine j_goto F406 27 dX8_digest_49 (by decide) ?_
  refine j_iload F406 dX8_digest_27 rfl ?_
  refine j_iconst F406 4 dX8_digest_29 (by decide) ?_
  refine j_icmp_ge F406 52 dX8_digest_30 (by decide) (fun h9 => absurd h9 (by decide)) (fun _ => ?_)
  refine j_lload_n F406 dX8_digest_33 rfl ?_
  refine j_aload_n F406 dX8_digest_34 rfl ?_
  refine j_iload_n F406 dX8_digest_35 rfl ?_
  refine j_iload F406 dX8_digest_36 rfl ?_
  have hKm412 : Kp M392 [] M392 := by
    intro b x hb hx
    exact hx
  have hMo411 := Mo.mono hp394m hKm412
  refine m_cVi S (n1 := 2) (rest := [.long (-3523377971250679218)]) (r_X8_of X.l G X.A M392 3 (by decide) 3 (by decide) hMo411) ⟨_, _, _, _, rfl, (gBV kB_X8_of (by decide +kernel)), rfl, rfl, (by decide +kernel), ⟨(Nat.le_of_ble_eq_true rfl), (Nat.le_of_ble_eq_true rfl)⟩⟩ h400 rfl rfl (Nat.le_of_ble_eq_true rfl) (Nat.le_of_ble_eq_true rfl) (Nat.le_of_ble_eq_true rfl) rfl dX8_digest_38 (fun v413 M414 hD415 hp416 => ?_)
  obtain ⟨hp416m, hp416k, hp416v⟩ := hp416
  subst hp416v
  have n417 : v17 ∉ [mo, ka] := by
    intro h9; simp only [List.mem_cons, List.not_mem_nil, or_false] at h9
    rcases h9 with h9 | h9
    · exact (In.ne hD393 h28 h400 (by simp)) h9
    · exact (In.ne hD393 h28 h404 (by simp)) h9
  have n418 : v116 ∉ [mo, ka] := by
    intro h9; simp only [List.mem_cons, List.not_mem_nil, or_false] at h9
    rcases h9 with h9 | h9
    · exact (In.ne hD393 h128 h400 (by simp)) h9
    · exact (In.ne hD393 h128 h404 (by simp)) h9
  have n419 : v220 ∉ [mo, ka] := by
    intro h9; simp only [List.mem_cons, List.not_mem_nil, or_false] at h9
    rcases h9 with h9 | h9
    · exact (In.ne hD393 h233 h400 (by simp)) h9
    · exact (In.ne hD393 h233 h404 (by simp)) h9
  have n420 : v329 ∉ [mo, ka] := by
    intro h9; simp only [List.mem_cons, List.not_mem_nil, or_false] at h9
    rcases h9 with h9 | h9
    · exact (In.ne hD393 h343 h400 (by simp)) h9
    · exact (In.ne hD393 h343 h404 (by simp)) h9
  have h28 := hp416k _ _ n417 h28
  have h128 := hp416k _ _ n418 h128
  have h233 := hp416k _ _ n419 h233
  have h343 := hp416k _ _ n420 h343
  obtain ⟨pl421, pe421, f421, kn421, tf421, o421_0, o421_1, o421_2, o421_3, o421_4, o421_5, o421_6, o421_7⟩ := id hp416m
  have h422 : (mo, (.inr (8, [.int 0, .ref pl421, .ref ka, .ref ta]) : va_E)) ∈ M414 := o421_0
  have h423 : (pl421, (.inr (10, [.int 10, .ref pe421, .int 10]) : va_E)) ∈ M414 := o421_1
  have h424 : (pe421, (.inl (G.cO, 10, .inr (.inr (.inr (.inr f421)))) : va_E)) ∈ M414 := o421_2
  have h425 : (ta, (.inl (G.Z.cI, 8, .inl tf421) : va_E)) ∈ M414 := o421_4
  have h426 : (ka, (.inl (G.cR, 10, .inr (.inr (.inr (.inr kn421)))) : va_E)) ∈ M414 := o421_6
  have hDo427 := hD415
  have F428 := S.1.at 136 504 (Nat.le_of_ble_eq_true rfl) (Nat.le_of_ble_eq_true rfl)
  refine j_i2l F428 (-1) dX8_digest_41 (by decide) ?_
  refine m_cSl S (n1 := 2) (rest := []) (r_X8_add X.l G X.A M414 (-3523377971250679218) (-1)) ⟨_, _, _, _, rfl, (gBS kB_X8_add (by decide +kernel)), rfl, rfl, (by decide +kernel), ⟨(Nat.le_of_ble_eq_true rfl), (Nat.le_of_ble_eq_true rfl)⟩⟩ rfl (Nat.le_of_ble_eq_true rfl) (Nat.le_of_ble_eq_true rfl) (Nat.le_of_ble_eq_true rfl) rfl dX8_digest_42 (fun v429 M430 hD431 hp432 => ?_)
  obtain ⟨hp432v, hp432m⟩ := hp432
  have hp432v : (1455747333486253937 : Int64) = v429 := (by decide : (1455747333486253937 : Int64) = (-3523377971250679218) * 31 + (-1)).trans hp432v
  subst hp432v
  subst hp432m
  refine j_lstore_n F428 [some (.ref mo), some (.long 1455747333486253937), none, some (.int 3), some (.ref v329), some (.int 3), some (.int 0), some (.int 0), none] dX8_digest_45 (by decide) rfl rfl ?_
  refine j_iinc F428 4 [some (.ref mo), some (.long 1455747333486253937), none, some (.int 3), some (.ref v329), some (.int 4), some (.int 0), some (.int 0), none] dX8_digest_46 rfl (by decide) (by decide) rfl rfl ?_
  refine j_goto F428 27 dX8_digest_49 (by decide) ?_
  refine j_iload F428 dX8_digest_27 rfl ?_
  refine j_iconst F428 4 dX8_digest_29 (by decide) ?_
  refine j_icmp_ge F428 52 dX8_digest_30 (by decide) (fun _ => ?_) (fun h9 => absurd (by decide) h9)
  refine j_lload_n F428 dX8_digest_52 rfl ?_
  refine j_aload_n F428 dX8_digest_53 rfl ?_
  refine j_aload F428 dX8_digest_54 rfl ?_
  refine m_cVi S (n1 := 1) (rest := [.long 1455747333486253937]) (r_X8_periodOf X.l G X.A M414 (mo := mo) (pl := mo) (ka := mo) (ta := mo) (tv := 0) h343) ⟨_, _, _, _, rfl, (gBV kB_X8_periodOf (by decide +kernel)), rfl, rfl, (by decide +kernel), ⟨(Nat.le_of_ble_eq_true rfl), (Nat.le_of_ble_eq_true rfl)⟩⟩ h422 rfl rfl (Nat.le_of_ble_eq_true rfl) (Nat.le_of_ble_eq_true rfl) (Nat.le_of_ble_eq_true rfl) rfl dX8_digest_56 (fun v433 M434 hD435 hp436 => ?_)
  obtain ⟨hp436a, hp436b⟩ := hp436
  subst hp436a
  subst hp436b
  refine j_i2l F428 0 dX8_digest_59 (by decide) ?_
  refine m_cSl S (n1 := 2) (rest := []) (r_X8_add X.l G X.A M414 1455747333486253937 0) ⟨_, _, _, _, rfl, (gBS kB_X8_add (by decide +kernel)), rfl, rfl, (by decide +kernel), ⟨(Nat.le_of_ble_eq_true rfl), (Nat.le_of_ble_eq_true rfl)⟩⟩ rfl (Nat.le_of_ble_eq_true rfl) (Nat.le_of_ble_eq_true rfl) (Nat.le_of_ble_eq_true rfl) rfl dX8_digest_60 (fun v437 M438 hD439 hp440 => ?_)
  obtain ⟨hp440v, hp440m⟩ := hp440
  have hp440v : (8234679190654768815 : Int64) = v437 := (by decide : (8234679190654768815 : Int64) = 1455747333486253937 * 31 + 0).trans hp440v
  subst hp440v
  subst hp440m
  refine j_lstore_n F428 [some (.ref mo), some (.long 8234679190654768815), none, some (.int 3), some (.ref v329), some (.int 4), some (.int 0), some (.int 0), none] dX8_digest_63 (by decide) rfl rfl ?_
  refine j_aload F428 dX8_digest_64 rfl ?_
  refine j_astore F428 [some (.ref mo), some (.long 8234679190654768815), none, some (.int 3), some (.ref v329), some (.ref v329), some (.int 0), some (.int 0), none] dX8_digest_66 (by decide) rfl rfl ?_
  refine j_aload F428 dX8_digest_68 rfl ?_
  refine m_alen S (t0 := 0) (v := 0) h343 rfl (by first | decide | rfl) dX8_digest_70 ?_
  refine j_istore F428 [some (.ref mo), some (.long 8234679190654768815), none, some (.int 3), some (.ref v329), some (.ref v329), some (.int 0), some (.int 0), none] dX8_digest_71 (by decide) rfl rfl ?_
  refine j_iconst F428 0 dX8_digest_73 (by decide) ?_
  refine j_istore F428 [some (.ref mo), some (.long 8234679190654768815), none, some (.int 3), some (.ref v329), some (.ref v329), some (.int 0), some (.int 0), none] dX8_digest_74 (by decide) rfl rfl ?_
  refine j_iload F428 dX8_digest_76 rfl ?_
  refine j_iload F428 dX8_digest_78 rfl ?_
  refine j_icmp_ge F428 104 dX8_digest_80 (by decide) (fun _ => ?_) (fun h9 => absurd (by decide) h9)
  refine j_iinc F428 4 [some (.ref mo), some (.long 8234679190654768815), none, some (.int 4), some (.ref v329), some (.ref v329), some (.int 0), some (.int 0), none] dX8_digest_104 rfl (by decide) (by decide) rfl rfl ?_
  refine j_goto F428 11 dX8_digest_107 (by decide) ?_
  refine j_iload_n F428 dX8_digest_11 rfl ?_
  refine j_bipush F428 10 dX8_digest_12 (by decide) ?_
  refine j_icmp_ge F428 110 dX8_digest_14 (by decide) (fun h9 => absurd h9 (by decide)) (fun _ => ?_)
  refine j_aload_n F428 dX8_digest_17 rfl ?_
  refine j_iload_n F428 dX8_digest_18 rfl ?_
  have hKm442 : Kp M414 [] M414 := by
    intro b x hb hx
    exact hx
  have hMo441 := Mo.mono hp416m hKm442
  refine m_cVr S (n1 := 1) (rest := []) (r_X8_row X.l G X.A M414 4 (by decide) hMo441) ⟨_, _, _, _, rfl, (gBV kB_X8_row (by decide +kernel)), rfl, rfl, (by decide +kernel), ⟨(Nat.le_of_ble_eq_true rfl), (Nat.le_of_ble_eq_true rfl)⟩⟩ h422 rfl rfl (Nat.le_of_ble_eq_true rfl) (Nat.le_of_ble_eq_true rfl) (Nat.le_of_ble_eq_true rfl) rfl dX8_digest_19 (fun v443 M444 hD445 hp446 => ?_)
  obtain ⟨hp446m, hp446k, hp446a⟩ := hp446
  have n447 : v17 ∉ [mo, ka] := by
    intro h9; simp only [List.mem_cons, List.not_mem_nil, or_false] at h9
    rcases h9 with h9 | h9
    · exact (In.ne hD415 h28 h422 (by simp)) h9
    · exact (In.ne hD415 h28 h426 (by simp)) h9
  have n448 : v116 ∉ [mo, ka] := by
    intro h9; simp only [List.mem_cons, List.not_mem_nil, or_false] at h9
    rcases h9 with h9 | h9
    · exact (In.ne hD415 h128 h422 (by simp)) h9
    · exact (In.ne hD415 h128 h426 (by simp)) h9
  have n449 : v220 ∉ [mo, ka] := by
    intro h9; simp only [List.mem_cons, List.not_mem_nil, or_false] at h9
    rcases h9 with h9 | h9
    · exact (In.ne hD415 h233 h422 (by simp)) h9
    · exact (In.ne hD415 h233 h426 (by simp)) h9
  have n450 : v329 ∉ [mo, ka] := by
    intro h9; simp only [List.mem_cons, List.not_mem_nil, or_false] at h9
    rcases h9 with h9 | h9
    · exact (In.ne hD415 h343 h422 (by simp)) h9
    · exact (In.ne hD415 h343 h426 (by simp)) h9
  have h28 := hp446k _ _ n447 h28
  have h128 := hp446k _ _ n448 h128
  have h233 := hp446k _ _ n449 h233
  have h343 := hp446k _ _ n450 h343
  obtain ⟨pl451, pe451, f451, kn451, tf451, o451_0, o451_1, o451_2, o451_3, o451_4, o451_5, o451_6, o451_7⟩ := id hp446m
  have h452 : (mo, (.inr (8, [.int 0, .ref pl451, .ref ka, .ref ta]) : va_E)) ∈ M444 := o451_0
  have h453 : (pl451, (.inr (10, [.int 10, .ref pe451, .int 10]) : va_E)) ∈ M444 := o451_1
  have h454 : (pe451, (.inl (G.cO, 10, .inr (.inr (.inr (.inr f451)))) : va_E)) ∈ M444 := o451_2
  have h455 : (ta, (.inl (G.Z.cI, 8, .inl tf451) : va_E)) ∈ M444 := o451_4
  have h456 : (ka, (.inl (G.cR, 10, .inr (.inr (.inr (.inr kn451)))) : va_E)) ∈ M444 := o451_6
  have hDo457 := hD445
  have h458 := hp446a
  have F459 := S.1.at 142 526 (Nat.le_of_ble_eq_true rfl) (Nat.le_of_ble_eq_true rfl)
  refine j_astore F459 [some (.ref mo), some (.long 8234679190654768815), none, some (.int 4), some (.ref v443), some (.ref v329), some (.int 0), some (.int 0), none] dX8_digest_22 (by decide) rfl rfl ?_
  refine j_iconst F459 0 dX8_digest_24 (by decide) ?_
  refine j_istore F459 [some (.ref mo), some (.long 8234679190654768815), none, some (.int 4), some (.ref v443), some (.int 0), some (.int 0), some (.int 0), none] dX8_digest_25 (by decide) rfl rfl ?_
  refine j_iload F459 dX8_digest_27 rfl ?_
  refine j_iconst F459 4 dX8_digest_29 (by decide) ?_
  refine j_icmp_ge F459 52 dX8_digest_30 (by decide) (fun h9 => absurd h9 (by decide)) (fun _ => ?_)
  refine j_lload_n F459 dX8_digest_33 rfl ?_
  refine j_aload_n F459 dX8_digest_34 rfl ?_
  refine j_iload_n F459 dX8_digest_35 rfl ?_
  refine j_iload F459 dX8_digest_36 rfl ?_
  have hKm461 : Kp M444 [] M444 := by
    intro b x hb hx
    exact hx
  have hMo460 := Mo.mono hp446m hKm461
  refine m_cVi S (n1 := 2) (rest := [.long 8234679190654768815]) (r_X8_of X.l G X.A M444 4 (by decide) 0 (by decide) hMo460) ⟨_, _, _, _, rfl, (gBV kB_X8_of (by decide +kernel)), rfl, rfl, (by decide +kernel), ⟨(Nat.le_of_ble_eq_true rfl), (Nat.le_of_ble_eq_true rfl)⟩⟩ h452 rfl rfl (Nat.le_of_ble_eq_true rfl) (Nat.le_of_ble_eq_true rfl) (Nat.le_of_ble_eq_true rfl) rfl dX8_digest_38 (fun v462 M463 hD464 hp465 => ?_)
  obtain ⟨hp465m, hp465k, hp465v⟩ := hp465
  subst hp465v
  have n466 : v17 ∉ [mo, ka] := by
    intro h9; simp only [List.mem_cons, List.not_mem_nil, or_false] at h9
    rcases h9 with h9 | h9
    · exact (In.ne hD445 h28 h452 (by simp)) h9
    · exact (In.ne hD445 h28 h456 (by simp)) h9
  have n467 : v116 ∉ [mo, ka] := by
    intro h9; simp only [List.mem_cons, List.not_mem_nil, or_false] at h9
    rcases h9 with h9 | h9
    · exact (In.ne hD445 h128 h452 (by simp)) h9
    · exact (In.ne hD445 h128 h456 (by simp)) h9
  have n468 : v220 ∉ [mo, ka] := by
    intro h9; simp only [List.mem_cons, List.not_mem_nil, or_false] at h9
    rcases h9 with h9 | h9
    · exact (In.ne hD445 h233 h452 (by simp)) h9
    · exact (In.ne hD445 h233 h456 (by simp)) h9
  have n469 : v329 ∉ [mo, ka] := by
    intro h9; simp only [List.mem_cons, List.not_mem_nil, or_false] at h9
    rcases h9 with h9 | h9
    · exact (In.ne hD445 h343 h452 (by simp)) h9
    · exact (In.ne hD445 h343 h456 (by simp)) h9
  have n470 : v443 ∉ [mo, ka] := by
    intro h9; simp only [List.mem_cons, List.not_mem_nil, or_false] at h9
    rcases h9 with h9 | h9
    · exact (In.ne hD445 h458 h452 (by simp)) h9
    · exact (In.ne hD445 h458 h456 (by simp)) h9
  have h28 := hp465k _ _ n466 h28
  have h128 := hp465k _ _ n467 h128
  have h233 := hp465k _ _ n468 h233
  have h343 := hp465k _ _ n469 h343
  have h458 := hp465k _ _ n470 h458
  obtain ⟨pl471, pe471, f471, kn471, tf471, o471_0, o471_1, o471_2, o471_3, o471_4, o471_5, o471_6, o471_7⟩ := id hp465m
  have h472 : (mo, (.inr (8, [.int 0, .ref pl471, .ref ka, .ref ta]) : va_E)) ∈ M463 := o471_0
  have h473 : (pl471, (.inr (10, [.int 10, .ref pe471, .int 10]) : va_E)) ∈ M463 := o471_1
  have h474 : (pe471, (.inl (G.cO, 10, .inr (.inr (.inr (.inr f471)))) : va_E)) ∈ M463 := o471_2
  have h475 : (ta, (.inl (G.Z.cI, 8, .inl tf471) : va_E)) ∈ M463 := o471_4
  have h476 : (ka, (.inl (G.cR, 10, .inr (.inr (.inr (.inr kn471)))) : va_E)) ∈ M463 := o471_6
  have hDo477 := hD464
  have F478 := S.1.at 149 552 (Nat.le_of_ble_eq_true rfl) (Nat.le_of_ble_eq_true rfl)
  refine j_i2l F478 0 dX8_digest_41 (by decide) ?_
  refine m_cSl S (n1 := 2) (rest := []) (r_X8_add X.l G X.A M463 8234679190654768815 0) ⟨_, _, _, _, rfl, (gBS kB_X8_add (by decide +kernel)), rfl, rfl, (by decide +kernel), ⟨(Nat.le_of_ble_eq_true rfl), (Nat.le_of_ble_eq_true rfl)⟩⟩ rfl (Nat.le_of_ble_eq_true rfl) (Nat.le_of_ble_eq_true rfl) (Nat.le_of_ble_eq_true rfl) rfl dX8_digest_42 (fun v479 M480 hD481 hp482 => ?_)
  obtain ⟨hp482v, hp482m⟩ := hp482
  have hp482v : (-2979362121635889359 : Int64) = v479 := (by decide : (-2979362121635889359 : Int64) = 8234679190654768815 * 31 + 0).trans hp482v
  subst hp482v
  subst hp482m
  refine j_lstore_n F478 [some (.ref mo), some (.long (-2979362121635889359)), none, some (.int 4), some (.ref v443), some (.int 0), some (.int 0), some (.int 0), none] dX8_digest_45 (by decide) rfl rfl ?_
  refine j_iinc F478 1 [some (.ref mo), some (.long (-2979362121635889359)), none, some (.int 4), some (.ref v443), some (.int 1), some (.int 0), some (.int 0), none] dX8_digest_46 rfl (by decide) (by decide) rfl rfl ?_
  refine j_goto F478 27 dX8_digest_49 (by decide) ?_
  refine j_iload F478 dX8_digest_27 rfl ?_
  refine j_iconst F478 4 dX8_digest_29 (by decide) ?_
  refine j_icmp_ge F478 52 dX8_digest_30 (by decide) (fun h9 => absurd h9 (by decide)) (fun _ => ?_)
  refine j_lload_n F478 dX8_digest_33 rfl ?_
  refine j_aload_n F478 dX8_digest_34 rfl ?_
  refine j_iload_n F478 dX8_digest_35 rfl ?_
  refine j_iload F478 dX8_digest_36 rfl ?_
  have hKm484 : Kp M463 [] M463 := by
    intro b x hb hx
    exact hx
  have hMo483 := Mo.mono hp465m hKm484
  refine m_cVi S (n1 := 2) (rest := [.long (-2979362121635889359)]) (r_X8_of X.l G X.A M463 4 (by decide) 1 (by decide) hMo483) ⟨_, _, _, _, rfl, (gBV kB_X8_of (by decide +kernel)), rfl, rfl, (by decide +kernel), ⟨(Nat.le_of_ble_eq_true rfl), (Nat.le_of_ble_eq_true rfl)⟩⟩ h472 rfl rfl (Nat.le_of_ble_eq_true rfl) (Nat.le_of_ble_eq_true rfl) (Nat.le_of_ble_eq_true rfl) rfl dX8_digest_38 (fun v485 M486 hD487 hp488 => ?_)
  obtain ⟨hp488m, hp488k, hp488v⟩ := hp488
  subst hp488v
  have n489 : v17 ∉ [mo, ka] := by
    intro h9; simp only [List.mem_cons, List.not_mem_nil, or_false] at h9
    rcases h9 with h9 | h9
    · exact (In.ne hD464 h28 h472 (by simp)) h9
    · exact (In.ne hD464 h28 h476 (by simp)) h9
  have n490 : v116 ∉ [mo, ka] := by
    intro h9; simp only [List.mem_cons, List.not_mem_nil, or_false] at h9
    rcases h9 with h9 | h9
    · exact (In.ne hD464 h128 h472 (by simp)) h9
    · exact (In.ne hD464 h128 h476 (by simp)) h9
  have n491 : v220 ∉ [mo, ka] := by
    intro h9; simp only [List.mem_cons, List.not_mem_nil, or_false] at h9
    rcases h9 with h9 | h9
    · exact (In.ne hD464 h233 h472 (by simp)) h9
    · exact (In.ne hD464 h233 h476 (by simp)) h9
  have n492 : v329 ∉ [mo, ka] := by
    intro h9; simp only [List.mem_cons, List.not_mem_nil, or_false] at h9
    rcases h9 with h9 | h9
    · exact (In.ne hD464 h343 h472 (by simp)) h9
    · exact (In.ne hD464 h343 h476 (by simp)) h9
  have n493 : v443 ∉ [mo, ka] := by
    intro h9; simp only [List.mem_cons, List.not_mem_nil, or_false] at h9
    rcases h9 with h9 | h9
    · exact (In.ne hD464 h458 h472 (by simp)) h9
    · exact (In.ne hD464 h458 h476 (by simp)) h9
  have h28 := hp488k _ _ n489 h28
  have h128 := hp488k _ _ n490 h128
  have h233 := hp488k _ _ n491 h233
  have h343 := hp488k _ _ n492 h343
  have h458 := hp488k _ _ n493 h458
  obtain ⟨pl494, pe494, f494, kn494, tf494, o494_0, o494_1, o494_2, o494_3, o494_4, o494_5, o494_6, o494_7⟩ := id hp488m
  have h495 : (mo, (.inr (8, [.int 0, .ref pl494, .ref ka, .ref ta]) : va_E)) ∈ M486 := o494_0
  have h496 : (pl494, (.inr (10, [.int 10, .ref pe494, .int 10]) : va_E)) ∈ M486 := o494_1
  have h497 : (pe494, (.inl (G.cO, 10, .inr (.inr (.inr (.inr f494)))) : va_E)) ∈ M486 := o494_2
  have h498 : (ta, (.inl (G.Z.cI, 8, .inl tf494) : va_E)) ∈ M486 := o494_4
  have h499 : (ka, (.inl (G.cR, 10, .inr (.inr (.inr (.inr kn494)))) : va_E)) ∈ M486 := o494_6
  have hDo500 := hD487
  have F501 := S.1.at 156 578 (Nat.le_of_ble_eq_true rfl) (Nat.le_of_ble_eq_true rfl)
  refine j_i2l F501 0 dX8_digest_41 (by decide) ?_
  refine m_cSl S (n1 := 2) (rest := []) (r_X8_add X.l G X.A M486 (-2979362121635889359) 0) ⟨_, _, _, _, rfl, (gBS kB_X8_add (by decide +kernel)), rfl, rfl, (by decide +kernel), ⟨(Nat.le_of_ble_eq_true rfl), (Nat.le_of_ble_eq_true rfl)⟩⟩ rfl (Nat.le_of_ble_eq_true rfl) (Nat.le_of_ble_eq_true rfl) (Nat.le_of_ble_eq_true rfl) rfl dX8_digest_42 (fun v502 M503 hD504 hp505 => ?_)
  obtain ⟨hp505v, hp505m⟩ := hp505
  have hp505v : (-126505402164812049 : Int64) = v502 := (by decide : (-126505402164812049 : Int64) = (-2979362121635889359) * 31 + 0).trans hp505v
  subst hp505v
  subst hp505m
  refine j_lstore_n F501 [some (.ref mo), some (.long (-126505402164812049)), none, some (.int 4), some (.ref v443), some (.int 1), some (.int 0), some (.int 0), none] dX8_digest_45 (by decide) rfl rfl ?_
  refine j_iinc F501 2 [some (.ref mo), some (.long (-126505402164812049)), none, some (.int 4), some (.ref v443), some (.int 2), some (.int 0), some (.int 0), none] dX8_digest_46 rfl (by decide) (by decide) rfl rfl ?_
  refine j_goto F501 27 dX8_digest_49 (by decide) ?_
  refine j_iload F501 dX8_digest_27 rfl ?_
  refine j_iconst F501 4 dX8_digest_29 (by decide) ?_
  refine j_icmp_ge F501 52 dX8_digest_30 (by decide) (fun h9 => absurd h9 (by decide)) (fun _ => ?_)
  refine j_lload_n F501 dX8_digest_33 rfl ?_
  refine j_aload_n F501 dX8_digest_34 rfl ?_
  refine j_iload_n F501 dX8_digest_35 rfl ?_
  refine j_iload F501 dX8_digest_36 rfl ?_
  have hKm507 : Kp M486 [] M486 := by
    intro b x hb hx
    exact hx
  have hMo506 := Mo.mono hp488m hKm507
  refine m_cVi S (n1 := 2) (rest := [.long (-126505402164812049)]) (r_X8_of X.l G X.A M486 4 (by decide) 2 (by decide) hMo506) ⟨_, _, _, _, rfl, (gBV kB_X8_of (by decide +kernel)), rfl, rfl, (by decide +kernel), ⟨(Nat.le_of_ble_eq_true rfl), (Nat.le_of_ble_eq_true rfl)⟩⟩ h495 rfl rfl (Nat.le_of_ble_eq_true rfl) (Nat.le_of_ble_eq_true rfl) (Nat.le_of_ble_eq_true rfl) rfl dX8_digest_38 (fun v508 M509 hD510 hp511 => ?_)
  obtain ⟨hp511m, hp511k, hp511v⟩ := hp511
  subst hp511v
  have n512 : v17 ∉ [mo, ka] := by
    intro h9; simp only [List.mem_cons, List.not_mem_nil, or_false] at h9
    rcases h9 with h9 | h9
    · exact (In.ne hD487 h28 h495 (by simp)) h9
    · exact (In.ne hD487 h28 h499 (by simp)) h9
  have n513 : v116 ∉ [mo, ka] := by
    intro h9; simp only [List.mem_cons, List.not_mem_nil, or_false] at h9
    rcases h9 with h9 | h9
    · exact (In.ne hD487 h128 h495 (by simp)) h9
    · exact (In.ne hD487 h128 h499 (by simp)) h9
  have n514 : v220 ∉ [mo, ka] := by
    intro h9; simp only [List.mem_cons, List.not_mem_nil, or_false] at h9
    rcases h9 with h9 | h9
    · exact (In.ne hD487 h233 h495 (by simp)) h9
    · exact (In.ne hD487 h233 h499 (by simp)) h9
  have n515 : v329 ∉ [mo, ka] := by
    intro h9; simp only [List.mem_cons, List.not_mem_nil, or_false] at h9
    rcases h9 with h9 | h9
    · exact (In.ne hD487 h343 h495 (by simp)) h9
    · exact (In.ne hD487 h343 h499 (by simp)) h9
  have n516 : v443 ∉ [mo, ka] := by
    intro h9; simp only [List.mem_cons, List.not_mem_nil, or_false] at h9
    rcases h9 with h9 | h9
    · exact (In.ne hD487 h458 h495 (by simp)) h9
    · exact (In.ne hD487 h458 h499 (by simp)) h9
  have h28 := hp511k _ _ n512 h28
  have h128 := hp511k _ _ n513 h128
  have h233 := hp511k _ _ n514 h233
  have h343 := hp511k _ _ n515 h343
  have h458 := hp511k _ _ n516 h458
  obtain ⟨pl517, pe517, f517, kn517, tf517, o517_0, o517_1, o517_2, o517_3, o517_4, o517_5, o517_6, o517_7⟩ := id hp511m
  have h518 : (mo, (.inr (8, [.int 0, .ref pl517, .ref ka, .ref ta]) : va_E)) ∈ M509 := o517_0
  have h519 : (pl517, (.inr (10, [.int 10, .ref pe517, .int 10]) : va_E)) ∈ M509 := o517_1
  have h520 : (pe517, (.inl (G.cO, 10, .inr (.inr (.inr (.inr f517)))) : va_E)) ∈ M509 := o517_2
  have h521 : (ta, (.inl (G.Z.cI, 8, .inl tf517) : va_E)) ∈ M509 := o517_4
  have h522 : (ka, (.inl (G.cR, 10, .inr (.inr (.inr (.inr kn517)))) : va_E)) ∈ M509 := o517_6
  have hDo523 := hD510
  have F524 := S.1.at 163 604 (Nat.le_of_ble_eq_true rfl) (Nat.le_of_ble_eq_true rfl)
  refine j_i2l F524 0 dX8_digest_41 (by decide) ?_
  refine m_cSl S (n1 := 2) (rest := []) (r_X8_add X.l G X.A M509 (-126505402164812049) 0) ⟨_, _, _, _, rfl, (gBS kB_X8_add (by decide +kernel)), rfl, rfl, (by decide +kernel), ⟨(Nat.le_of_ble_eq_true rfl), (Nat.le_of_ble_eq_true rfl)⟩⟩ rfl (Nat.le_of_ble_eq_true rfl) (Nat.le_of_ble_eq_true rfl) (Nat.le_of_ble_eq_true rfl) rfl dX8_digest_42 (fun v525 M526 hD527 hp528 => ?_)
  obtain ⟨hp528v, hp528m⟩ := hp528
  have hp528v : (-3921667467109173519 : Int64) = v525 := (by decide : (-3921667467109173519 : Int64) = (-126505402164812049) * 31 + 0).trans hp528v
  subst hp528v
  subst hp528m
  refine j_lstore_n F524 [some (.ref mo), some (.long (-3921667467109173519)), none, some (.int 4), some (.ref v443), some (.int 2), some (.int 0), some (.int 0), none] dX8_digest_45 (by decide) rfl rfl ?_
  refine j_iinc F524 3 [some (.ref mo), some (.long (-3921667467109173519)), none, some (.int 4), some (.ref v443), some (.int 3), some (.int 0), some (.int 0), none] dX8_digest_46 rfl (by decide) (by decide) rfl rfl ?_
  refine j_goto F524 27 dX8_digest_49 (by decide) ?_
  refine j_iload F524 dX8_digest_27 rfl ?_
  refine j_iconst F524 4 dX8_digest_29 (by decide) ?_
  refine j_icmp_ge F524 52 dX8_digest_30 (by decide) (fun h9 => absurd h9 (by decide)) (fun _ => ?_)
  refine j_lload_n F524 dX8_digest_33 rfl ?_
  refine j_aload_n F524 dX8_digest_34 rfl ?_
  refine j_iload_n F524 dX8_digest_35 rfl ?_
  refine j_iload F524 dX8_digest_36 rfl ?_
  have hKm530 : Kp M509 [] M509 := by
    intro b x hb hx
    exact hx
  have hMo529 := Mo.mono hp511m hKm530
  refine m_cVi S (n1 := 2) (rest := [.long (-3921667467109173519)]) (r_X8_of X.l G X.A M509 4 (by decide) 3 (by decide) hMo529) ⟨_, _, _, _, rfl, (gBV kB_X8_of (by decide +kernel)), rfl, rfl, (by decide +kernel), ⟨(Nat.le_of_ble_eq_true rfl), (Nat.le_of_ble_eq_true rfl)⟩⟩ h518 rfl rfl (Nat.le_of_ble_eq_true rfl) (Nat.le_of_ble_eq_true rfl) (Nat.le_of_ble_eq_true rfl) rfl dX8_digest_38 (fun v531 M532 hD533 hp534 => ?_)
  obtain ⟨hp534m, hp534k, hp534v⟩ := hp534
  subst hp534v
  have n535 : v17 ∉ [mo, ka] := by
    intro h9; simp only [List.mem_cons, List.not_mem_nil, or_false] at h9
    rcases h9 with h9 | h9
    · exact (In.ne hD510 h28 h518 (by simp)) h9
    · exact (In.ne hD510 h28 h522 (by simp)) h9
  have n536 : v116 ∉ [mo, ka] := by
    intro h9; simp only [List.mem_cons, List.not_mem_nil, or_false] at h9
    rcases h9 with h9 | h9
    · exact (In.ne hD510 h128 h518 (by simp)) h9
    · exact (In.ne hD510 h128 h522 (by simp)) h9
  have n537 : v220 ∉ [mo, ka] := by
    intro h9; simp only [List.mem_cons, List.not_mem_nil, or_false] at h9
    rcases h9 with h9 | h9
    · exact (In.ne hD510 h233 h518 (by simp)) h9
    · exact (In.ne hD510 h233 h522 (by simp)) h9
  have n538 : v329 ∉ [mo, ka] := by
    intro h9; simp only [List.mem_cons, List.not_mem_nil, or_false] at h9
    rcases h9 with h9 | h9
    · exact (In.ne hD510 h343 h518 (by simp)) h9
    · exact (In.ne hD510 h343 h522 (by simp)) h9
  have n539 : v443 ∉ [mo, ka] := by
    intro h9; simp only [List.mem_cons, List.not_mem_nil, or_false] at h9
    rcases h9 with h9 | h9
    · exact (In.ne hD510 h458 h518 (by simp)) h9
    · exact (In.ne hD510 h458 h522 (by simp)) h9
  have h28 := hp534k _ _ n535 h28
  have h128 := hp534k _ _ n536 h128
  have h233 := hp534k _ _ n537 h233
  have h343 := hp534k _ _ n538 h343
  have h458 := hp534k _ _ n539 h458
  obtain ⟨pl540, pe540, f540, kn540, tf540, o540_0, o540_1, o540_2, o540_3, o540_4, o540_5, o540_6, o540_7⟩ := id hp534m
  have h541 : (mo, (.inr (8, [.int 0, .ref pl540, .ref ka, .ref ta]) : va_E)) ∈ M532 := o540_0
  have h542 : (pl540, (.inr (10, [.int 10, .ref pe540, .int 10]) : va_E)) ∈ M532 := o540_1
  have h543 : (pe540, (.inl (G.cO, 10, .inr (.inr (.inr (.inr f540)))) : va_E)) ∈ M532 := o540_2
  have h544 : (ta, (.inl (G.Z.cI, 8, .inl tf540) : va_E)) ∈ M532 := o540_4
  have h545 : (ka, (.inl (G.cR, 10, .inr (.inr (.inr (.inr kn540)))) : va_E)) ∈ M532 := o540_6
  have hDo546 := hD533
  have F547 := S.1.at 170 630 (Nat.le_of_ble_eq_true rfl) (Nat.le_of_ble_eq_true rfl)
  refine j_i2l F547 (-1) dX8_digest_41 (by decide) ?_
  refine m_cSl S (n1 := 2) (rest := []) (r_X8_add X.l G X.A M532 (-3921667467109173519) (-1)) ⟨_, _, _, _, rfl, (gBS kB_X8_add (by decide +kernel)), rfl, rfl, (by decide +kernel), ⟨(Nat.le_of_ble_eq_true rfl), (Nat.le_of_ble_eq_true rfl)⟩⟩ rfl (Nat.le_of_ble_eq_true rfl) (Nat.le_of_ble_eq_true rfl) (Nat.le_of_ble_eq_true rfl) rfl dX8_digest_42 (fun v548 M549 hD550 hp551 => ?_)
  obtain ⟨hp551v, hp551m⟩ := hp551
  have hp551v : (7555517035582482222 : Int64) = v548 := (by decide : (7555517035582482222 : Int64) = (-3921667467109173519) * 31 + (-1)).trans hp551v
  subst hp551v
  subst hp551m
  refine j_lstore_n F547 [some (.ref mo), some (.long 7555517035582482222), none, some (.int 4), some (.ref v443), some (.int 3), some (.int 0), some (.int 0), none] dX8_digest_45 (by decide) rfl rfl ?_
  refine j_iinc F547 4 [some (.ref mo), some (.long 7555517035582482222), none, some (.int 4), some (.ref v443), some (.int 4), some (.int 0), some (.int 0), none] dX8_digest_46 rfl (by decide) (by decide) rfl rfl ?_
  refine j_goto F547 27 dX8_digest_49 (by decide) ?_
  refine j_iload F547 dX8_digest_27 rfl ?_
  refine j_iconst F547 4 dX8_digest_29 (by decide) ?_
  refine j_icmp_ge F547 52 dX8_digest_30 (by decide) (fun _ => ?_) (fun h9 => absurd (by decide) h9)
  refine j_lload_n F547 dX8_digest_52 rfl ?_
  refine j_aload_n F547 dX8_digest_53 rfl ?_
  refine j_aload F547 dX8_digest_54 rfl ?_
  refine m_cVi S (n1 := 1) (rest := [.long 7555517035582482222]) (r_X8_periodOf X.l G X.A M532 (mo := mo) (pl := mo) (ka := mo) (ta := mo) (tv := 0) h458) ⟨_, _, _, _, rfl, (gBV kB_X8_periodOf (by decide +kernel)), rfl, rfl, (by decide +kernel), ⟨(Nat.le_of_ble_eq_true rfl), (Nat.le_of_ble_eq_true rfl)⟩⟩ h541 rfl rfl (Nat.le_of_ble_eq_true rfl) (Nat.le_of_ble_eq_true rfl) (Nat.le_of_ble_eq_true rfl) rfl dX8_digest_56 (fun v552 M553 hD554 hp555 => ?_)
  obtain ⟨hp555a, hp555b⟩ := hp555
  subst hp555a
  subst hp555b
  refine j_i2l F547 0 dX8_digest_59 (by decide) ?_
  refine m_cSl S (n1 := 2) (rest := []) (r_X8_add X.l G X.A M532 7555517035582482222 0) ⟨_, _, _, _, rfl, (gBS kB_X8_add (by decide +kernel)), rfl, rfl, (by decide +kernel), ⟨(Nat.le_of_ble_eq_true rfl), (Nat.le_of_ble_eq_true rfl)⟩⟩ rfl (Nat.le_of_ble_eq_true rfl) (Nat.le_of_ble_eq_true rfl) (Nat.le_of_ble_eq_true rfl) rfl dX8_digest_60 (fun v556 M557 hD558 hp559 => ?_)
  obtain ⟨hp559v, hp559m⟩ := hp559
  have hp559v : (-5586644855167222126 : Int64) = v556 := (by decide : (-5586644855167222126 : Int64) = 7555517035582482222 * 31 + 0).trans hp559v
  subst hp559v
  subst hp559m
  refine j_lstore_n F547 [some (.ref mo), some (.long (-5586644855167222126)), none, some (.int 4), some (.ref v443), some (.int 4), some (.int 0), some (.int 0), none] dX8_digest_63 (by decide) rfl rfl ?_
  refine j_aload F547 dX8_digest_64 rfl ?_
  refine j_astore F547 [some (.ref mo), some (.long (-5586644855167222126)), none, some (.int 4), some (.ref v443), some (.ref v443), some (.int 0), some (.int 0), none] dX8_digest_66 (by decide) rfl rfl ?_
  refine j_aload F547 dX8_digest_68 rfl ?_
  refine m_alen S (t0 := 0) (v := 0) h458 rfl (by first | decide | rfl) dX8_digest_70 ?_
  refine j_istore F547 [some (.ref mo), some (.long (-5586644855167222126)), none, some (.int 4), some (.ref v443), some (.ref v443), some (.int 0), some (.int 0), none] dX8_digest_71 (by decide) rfl rfl ?_
  refine j_iconst F547 0 dX8_digest_73 (by decide) ?_
  refine j_istore F547 [some (.ref mo), some (.long (-5586644855167222126)), none, some (.int 4), some (.ref v443), some (.ref v443), some (.int 0), some (.int 0), none] dX8_digest_74 (by decide) rfl rfl ?_
  refine j_iload F547 dX8_digest_76 rfl ?_
  refine j_iload F547 dX8_digest_78 rfl ?_
  refine j_icmp_ge F547 104 dX8_digest_80 (by decide) (fun _ => ?_) (fun h9 => absurd (by decide) h9)
  refine j_iinc F547 5 [some (.ref mo), some (.long (-5586644855167222126)), none, some (.int 5), some (.ref v443), some (.ref v443), some (.int 0), some (.int 0), none] dX8_digest_104 rfl (by decide) (by decide) rfl rfl ?_
  refine j_goto F547 11 dX8_digest_107 (by decide) ?_
  refine j_iload_n F547 dX8_digest_11 rfl ?_
  refine j_bipush F547 10 dX8_digest_12 (by decide) ?_
  refine j_icmp_ge F547 110 dX8_digest_14 (by decide) (fun h9 => absurd h9 (by decide)) (fun _ => ?_)
  refine j_aload_n F547 dX8_digest_17 rfl ?_
  refine j_iload_n F547 dX8_digest_18 rfl ?_
  have hKm561 : Kp M532 [] M532 := by
    intro b x hb hx
    exact hx
  have hMo560 := Mo.mono hp534m hKm561
  refine m_cVr S (n1 := 1) (rest := []) (r_X8_row X.l G X.A M532 5 (by decide) hMo560) ⟨_, _, _, _, rfl, (gBV kB_X8_row (by decide +kernel)), rfl, rfl, (by decide +kernel), ⟨(Nat.le_of_ble_eq_true rfl), (Nat.le_of_ble_eq_true rfl)⟩⟩ h541 rfl rfl (Nat.le_of_ble_eq_true rfl) (Nat.le_of_ble_eq_true rfl) (Nat.le_of_ble_eq_true rfl) rfl dX8_digest_19 (fun v562 M563 hD564 hp565 => ?_)
  obtain ⟨hp565m, hp565k, hp565a⟩ := hp565
  have n566 : v17 ∉ [mo, ka] := by
    intro h9; simp only [List.mem_cons, List.not_mem_nil, or_false] at h9
    rcases h9 with h9 | h9
    · exact (In.ne hD533 h28 h541 (by simp)) h9
    · exact (In.ne hD533 h28 h545 (by simp)) h9
  have n567 : v116 ∉ [mo, ka] := by
    intro h9; simp only [List.mem_cons, List.not_mem_nil, or_false] at h9
    rcases h9 with h9 | h9
    · exact (In.ne hD533 h128 h541 (by simp)) h9
    · exact (In.ne hD533 h128 h545 (by simp)) h9
  have n568 : v220 ∉ [mo, ka] := by
    intro h9; simp only [List.mem_cons, List.not_mem_nil, or_false] at h9
    rcases h9 with h9 | h9
    · exact (In.ne hD533 h233 h541 (by simp)) h9
    · exact (In.ne hD533 h233 h545 (by simp)) h9
  have n569 : v329 ∉ [mo, ka] := by
    intro h9; simp only [List.mem_cons, List.not_mem_nil, or_false] at h9
    rcases h9 with h9 | h9
    · exact (In.ne hD533 h343 h541 (by simp)) h9
    · exact (In.ne hD533 h343 h545 (by simp)) h9
  have n570 : v443 ∉ [mo, ka] := by
    intro h9; simp only [List.mem_cons, List.not_mem_nil, or_false] at h9
    rcases h9 with h9 | h9
    · exact (In.ne hD533 h458 h541 (by simp)) h9
    · exact (In.ne hD533 h458 h545 (by simp)) h9
  have h28 := hp565k _ _ n566 h28
  have h128 := hp565k _ _ n567 h128
  have h233 := hp565k _ _ n568 h233
  have h343 := hp565k _ _ n569 h343
  have h458 := hp565k _ _ n570 h458
  obtain ⟨pl571, pe571, f571, kn571, tf571, o571_0, o571_1, o571_2, o571_3, o571_4, o571_5, o571_6, o571_7⟩ := id hp565m
  have h572 : (mo, (.inr (8, [.int 0, .ref pl571, .ref ka, .ref ta]) : va_E)) ∈ M563 := o571_0
  have h573 : (pl571, (.inr (10, [.int 10, .ref pe571, .int 10]) : va_E)) ∈ M563 := o571_1
  have h574 : (pe571, (.inl (G.cO, 10, .inr (.inr (.inr (.inr f571)))) : va_E)) ∈ M563 := o571_2
  have h575 : (ta, (.inl (G.Z.cI, 8, .inl tf571) : va_E)) ∈ M563 := o571_4
  have h576 : (ka, (.inl (G.cR, 10, .inr (.inr (.inr (.inr kn571)))) : va_E)) ∈ M563 := o571_6
  have hDo577 := hD564
  have h578 := hp565a
  have F579 := S.1.at 176 652 (Nat.le_of_ble_eq_true rfl) (Nat.le_of_ble_eq_true rfl)
  refine j_astore F579 [some (.ref mo), some (.long (-5586644855167222126)), none, some (.int 5), some (.ref v562), some (.ref v443), some (.int 0), some (.int 0), none] dX8_digest_22 (by decide) rfl rfl ?_
  refine j_iconst F579 0 dX8_digest_24 (by decide) ?_
  refine j_istore F579 [some (.ref mo), some (.long (-5586644855167222126)), none, some (.int 5), some (.ref v562), some (.int 0), some (.int 0), some (.int 0), none] dX8_digest_25 (by decide) rfl rfl ?_
  refine j_iload F579 dX8_digest_27 rfl ?_
  refine j_iconst F579 4 dX8_digest_29 (by decide) ?_
  refine j_icmp_ge F579 52 dX8_digest_30 (by decide) (fun h9 => absurd h9 (by decide)) (fun _ => ?_)
  refine j_lload_n F579 dX8_digest_33 rfl ?_
  refine j_aload_n F579 dX8_digest_34 rfl ?_
  refine j_iload_n F579 dX8_digest_35 rfl ?_
  refine j_iload F579 dX8_digest_36 rfl ?_
  have hKm581 : Kp M563 [] M563 := by
    intro b x hb hx
    exact hx
  have hMo580 := Mo.mono hp565m hKm581
  refine m_cVi S (n1 := 2) (rest := [.long (-5586644855167222126)]) (r_X8_of X.l G X.A M563 5 (by decide) 0 (by decide) hMo580) ⟨_, _, _, _, rfl, (gBV kB_X8_of (by decide +kernel)), rfl, rfl, (by decide +kernel), ⟨(Nat.le_of_ble_eq_true rfl), (Nat.le_of_ble_eq_true rfl)⟩⟩ h572 rfl rfl (Nat.le_of_ble_eq_true rfl) (Nat.le_of_ble_eq_true rfl) (Nat.le_of_ble_eq_true rfl) rfl dX8_digest_38 (fun v582 M583 hD584 hp585 => ?_)
  obtain ⟨hp585m, hp585k, hp585v⟩ := hp585
  subst hp585v
  have n586 : v17 ∉ [mo, ka] := by
    intro h9; simp only [List.mem_cons, List.not_mem_nil, or_false] at h9
    rcases h9 with h9 | h9
    · exact (In.ne hD564 h28 h572 (by simp)) h9
    · exact (In.ne hD564 h28 h576 (by simp)) h9
  have n587 : v116 ∉ [mo, ka] := by
    intro h9; simp only [List.mem_cons, List.not_mem_nil, or_false] at h9
    rcases h9 with h9 | h9
    · exact (In.ne hD564 h128 h572 (by simp)) h9
    · exact (In.ne hD564 h128 h576 (by simp)) h9
  have n588 : v220 ∉ [mo, ka] := by
    intro h9; simp only [List.mem_cons, List.not_mem_nil, or_false] at h9
    rcases h9 with h9 | h9
    · exact (In.ne hD564 h233 h572 (by simp)) h9
    · exact (In.ne hD564 h233 h576 (by simp)) h9
  have n589 : v329 ∉ [mo, ka] := by
    intro h9; simp only [List.mem_cons, List.not_mem_nil, or_false] at h9
    rcases h9 with h9 | h9
    · exact (In.ne hD564 h343 h572 (by simp)) h9
    · exact (In.ne hD564 h343 h576 (by simp)) h9
  have n590 : v443 ∉ [mo, ka] := by
    intro h9; simp only [List.mem_cons, List.not_mem_nil, or_false] at h9
    rcases h9 with h9 | h9
    · exact (In.ne hD564 h458 h572 (by simp)) h9
    · exact (In.ne hD564 h458 h576 (by simp)) h9
  have n591 : v562 ∉ [mo, ka] := by
    intro h9; simp only [List.mem_cons, List.not_mem_nil, or_false] at h9
    rcases h9 with h9 | h9
    · exact (In.ne hD564 h578 h572 (by simp)) h9
    · exact (In.ne hD564 h578 h576 (by simp)) h9
  have h28 := hp585k _ _ n586 h28
  have h128 := hp585k _ _ n587 h128
  have h233 := hp585k _ _ n588 h233
  have h343 := hp585k _ _ n589 h343
  have h458 := hp585k _ _ n590 h458
  have h578 := hp585k _ _ n591 h578
  obtain ⟨pl592, pe592, f592, kn592, tf592, o592_0, o592_1, o592_2, o592_3, o592_4, o592_5, o592_6, o592_7⟩ := id hp585m
  have h593 : (mo, (.inr (8, [.int 0, .ref pl592, .ref ka, .ref ta]) : va_E)) ∈ M583 := o592_0
  have h594 : (pl592, (.inr (10, [.int 10, .ref pe592, .int 10]) : va_E)) ∈ M583 := o592_1
  have h595 : (pe592, (.inl (G.cO, 10, .inr (.inr (.inr (.inr f592)))) : va_E)) ∈ M583 := o592_2
  have h596 : (ta, (.inl (G.Z.cI, 8, .inl tf592) : va_E)) ∈ M583 := o592_4
  have h597 : (ka, (.inl (G.cR, 10, .inr (.inr (.inr (.inr kn592)))) : va_E)) ∈ M583 := o592_6
  have hDo598 := hD584
  have F599 := S.1.at 183 678 (Nat.le_of_ble_eq_true rfl) (Nat.le_of_ble_eq_true rfl)
  refine j_i2l F599 0 dX8_digest_41 (by decide) ?_
  refine m_cSl S (n1 := 2) (rest := []) (r_X8_add X.l G X.A M583 (-5586644855167222126) 0) ⟨_, _, _, _, rfl, (gBS kB_X8_add (by decide +kernel)), rfl, rfl, (by decide +kernel), ⟨(Nat.le_of_ble_eq_true rfl), (Nat.le_of_ble_eq_true rfl)⟩⟩ rfl (Nat.le_of_ble_eq_true rfl) (Nat.le_of_ble_eq_true rfl) (Nat.le_of_ble_eq_true rfl) rfl dX8_digest_42 (fun v600 M601 hD602 hp603 => ?_)
  obtain ⟨hp603v, hp603m⟩ := hp603
  have hp603v : (-7165293846797921362 : Int64) = v600 := (by decide : (-7165293846797921362 : Int64) = (-5586644855167222126) * 31 + 0).trans hp603v
  subst hp603v
  subst hp603m
  refine j_lstore_n F599 [some (.ref mo), some (.long (-7165293846797921362)), none, some (.int 5), some (.ref v562), some (.int 0), some (.int 0), some (.int 0), none] dX8_digest_45 (by decide) rfl rfl ?_
  refine j_iinc F599 1 [some (.ref mo), some (.long (-7165293846797921362)), none, some (.int 5), some (.ref v562), some (.int 1), some (.int 0), some (.int 0), none] dX8_digest_46 rfl (by decide) (by decide) rfl rfl ?_
  refine j_goto F599 27 dX8_digest_49 (by decide) ?_
  refine j_iload F599 dX8_digest_27 rfl ?_
  refine j_iconst F599 4 dX8_digest_29 (by decide) ?_
  refine j_icmp_ge F599 52 dX8_digest_30 (by decide) (fun h9 => absurd h9 (by decide)) (fun _ => ?_)
  refine j_lload_n F599 dX8_digest_33 rfl ?_
  refine j_aload_n F599 dX8_digest_34 rfl ?_
  refine j_iload_n F599 dX8_digest_35 rfl ?_
  refine j_iload F599 dX8_digest_36 rfl ?_
  have hKm605 : Kp M583 [] M583 := by
    intro b x hb hx
    exact hx
  have hMo604 := Mo.mono hp585m hKm605
  refine m_cVi S (n1 := 2) (rest := [.long (-7165293846797921362)]) (r_X8_of X.l G X.A M583 5 (by decide) 1 (by decide) hMo604) ⟨_, _, _, _, rfl, (gBV kB_X8_of (by decide +kernel)), rfl, rfl, (by decide +kernel), ⟨(Nat.le_of_ble_eq_true rfl), (Nat.le_of_ble_eq_true rfl)⟩⟩ h593 rfl rfl (Nat.le_of_ble_eq_true rfl) (Nat.le_of_ble_eq_true rfl) (Nat.le_of_ble_eq_true rfl) rfl dX8_digest_38 (fun v606 M607 hD608 hp609 => ?_)
  obtain ⟨hp609m, hp609k, hp609v⟩ := hp609
  subst hp609v
  have n610 : v17 ∉ [mo, ka] := by
    intro h9; simp only [List.mem_cons, List.not_mem_nil, or_false] at h9
    rcases h9 with h9 | h9
    · exact (In.ne hD584 h28 h593 (by simp)) h9
    · exact (In.ne hD584 h28 h597 (by simp)) h9
  have n611 : v116 ∉ [mo, ka] := by
    intro h9; simp only [List.mem_cons, List.not_mem_nil, or_false] at h9
    rcases h9 with h9 | h9
    · exact (In.ne hD584 h128 h593 (by simp)) h9
    · exact (In.ne hD584 h128 h597 (by simp)) h9
  have n612 : v220 ∉ [mo, ka] := by
    intro h9; simp only [List.mem_cons, List.not_mem_nil, or_false] at h9
    rcases h9 with h9 | h9
    · exact (In.ne hD584 h233 h593 (by simp)) h9
    · exact (In.ne hD584 h233 h597 (by simp)) h9
  have n613 : v329 ∉ [mo, ka] := by
    intro h9; simp only [List.mem_cons, List.not_mem_nil, or_false] at h9
    rcases h9 with h9 | h9
    · exact (In.ne hD584 h343 h593 (by simp)) h9
    · exact (In.ne hD584 h343 h597 (by simp)) h9
  have n614 : v443 ∉ [mo, ka] := by
    intro h9; simp only [List.mem_cons, List.not_mem_nil, or_false] at h9
    rcases h9 with h9 | h9
    · exact (In.ne hD584 h458 h593 (by simp)) h9
    · exact (In.ne hD584 h458 h597 (by simp)) h9
  have n615 : v562 ∉ [mo, ka] := by
    intro h9; simp only [List.mem_cons, List.not_mem_nil, or_false] at h9
    rcases h9 with h9 | h9
    · exact (In.ne hD584 h578 h593 (by simp)) h9
    · exact (In.ne hD584 h578 h597 (by simp)) h9
  have h28 := hp609k _ _ n610 h28
  have h128 := hp609k _ _ n611 h128
  have h233 := hp609k _ _ n612 h233
  have h343 := hp609k _ _ n613 h343
  have h458 := hp609k _ _ n614 h458
  have h578 := hp609k _ _ n615 h578
  obtain ⟨pl616, pe616, f616, kn616, tf616, o616_0, o616_1, o616_2, o616_3, o616_4, o616_5, o616_6, o616_7⟩ := id hp609m
  have h617 : (mo, (.inr (8, [.int 0, .ref pl616, .ref ka, .ref ta]) : va_E)) ∈ M607 := o616_0
  have h618 : (pl616, (.inr (10, [.int 10, .ref pe616, .int 10]) : va_E)) ∈ M607 := o616_1
  have h619 : (pe616, (.inl (G.cO, 10, .inr (.inr (.inr (.inr f616)))) : va_E)) ∈ M607 := o616_2
  have h620 : (ta, (.inl (G.Z.cI, 8, .inl tf616) : va_E)) ∈ M607 := o616_4
  have h621 : (ka, (.inl (G.cR, 10, .inr (.inr (.inr (.inr kn616)))) : va_E)) ∈ M607 := o616_6
  have hDo622 := hD608
  have F623 := S.1.at 190 704 (Nat.le_of_ble_eq_true rfl) (Nat.le_of_ble_eq_true rfl)
  refine j_i2l F623 0 dX8_digest_41 (by decide) ?_
  refine m_cSl S (n1 := 2) (rest := []) (r_X8_add X.l G X.A M607 (-7165293846797921362) 0) ⟨_, _, _, _, rfl, (gBS kB_X8_add (by decide +kernel)), rfl, rfl, (by decide +kernel), ⟨(Nat.le_of_ble_eq_true rfl), (Nat.le_of_ble_eq_true rfl)⟩⟩ rfl (Nat.le_of_ble_eq_true rfl) (Nat.le_of_ble_eq_true rfl) (Nat.le_of_ble_eq_true rfl) rfl dX8_digest_42 (fun v624 M625 hD626 hp627 => ?_)
  obtain ⟨hp627v, hp627m⟩ := hp627
  have hp627v : (-763180366220942830 : Int64) = v624 := (by decide : (-763180366220942830 : Int64) = (-7165293846797921362) * 31 + 0).trans hp627v
  subst hp627v
  subst hp627m
  refine j_lstore_n F623 [some (.ref mo), some (.long (-763180366220942830)), none, some (.int 5), some (.ref v562), some (.int 1), some (.int 0), some (.int 0), none] dX8_digest_45 (by decide) rfl rfl ?_
  refine j_iinc F623 2 [some (.ref mo), some (.long (-763180366220942830)), none, some (.int 5), some (.ref v562), some (.int 2), some (.int 0), some (.int 0), none] dX8_digest_46 rfl (by decide) (by decide) rfl rfl ?_
  refine j_goto F623 27 dX8_digest_49 (by decide) ?_
  refine j_iload F623 dX8_digest_27 rfl ?_
  refine j_iconst F623 4 dX8_digest_29 (by decide) ?_
  refine j_icmp_ge F623 52 dX8_digest_30 (by decide) (fun h9 => absurd h9 (by decide)) (fun _ => ?_)
  refine j_lload_n F623 dX8_digest_33 rfl ?_
  refine j_aload_n F623 dX8_digest_34 rfl ?_
  refine j_iload_n F623 dX8_digest_35 rfl ?_
  refine j_iload F623 dX8_digest_36 rfl ?_
  have hKm629 : Kp M607 [] M607 := by
    intro b x hb hx
    exact hx
  have hMo628 := Mo.mono hp609m hKm629
  refine m_cVi S (n1 := 2) (rest := [.long (-763180366220942830)]) (r_X8_of X.l G X.A M607 5 (by decide) 2 (by decide) hMo628) ⟨_, _, _, _, rfl, (gBV kB_X8_of (by decide +kernel)), rfl, rfl, (by decide +kernel), ⟨(Nat.le_of_ble_eq_true rfl), (Nat.le_of_ble_eq_true rfl)⟩⟩ h617 rfl rfl (Nat.le_of_ble_eq_true rfl) (Nat.le_of_ble_eq_true rfl) (Nat.le_of_ble_eq_true rfl) rfl dX8_digest_38 (fun v630 M631 hD632 hp633 => ?_)
  obtain ⟨hp633m, hp633k, hp633v⟩ := hp633
  subst hp633v
  have n634 : v17 ∉ [mo, ka] := by
    intro h9; simp only [List.mem_cons, List.not_mem_nil, or_false] at h9
    rcases h9 with h9 | h9
    · exact (In.ne hD608 h28 h617 (by simp)) h9
    · exact (In.ne hD608 h28 h621 (by simp)) h9
  have n635 : v116 ∉ [mo, ka] := by
    intro h9; simp only [List.mem_cons, List.not_mem_nil, or_false] at h9
    rcases h9 with h9 | h9
    · exact (In.ne hD608 h128 h617 (by simp)) h9
    · exact (In.ne hD608 h128 h621 (by simp)) h9
  have n636 : v220 ∉ [mo, ka] := by
    intro h9; simp only [List.mem_cons, List.not_mem_nil, or_false] at h9
    rcases h9 with h9 | h9
    · exact (In.ne hD608 h233 h617 (by simp)) h9
    · exact (In.ne hD608 h233 h621 (by simp)) h9
  have n637 : v329 ∉ [mo, ka] := by
    intro h9; simp only [List.mem_cons, List.not_mem_nil, or_false] at h9
    rcases h9 with h9 | h9
    · exact (In.ne hD608 h343 h617 (by simp)) h9
    · exact (In.ne hD608 h343 h621 (by simp)) h9
  have n638 : v443 ∉ [mo, ka] := by
    intro h9; simp only [List.mem_cons, List.not_mem_nil, or_false] at h9
    rcases h9 with h9 | h9
    · exact (In.ne hD608 h458 h617 (by simp)) h9
    · exact (In.ne hD608 h458 h621 (by simp)) h9
  have n639 : v562 ∉ [mo, ka] := by
    intro h9; simp only [List.mem_cons, List.not_mem_nil, or_false] at h9
    rcases h9 with h9 | h9
    · exact (In.ne hD608 h578 h617 (by simp)) h9
    · exact (In.ne hD608 h578 h621 (by simp)) h9
  have h28 := hp633k _ _ n634 h28
  have h128 := hp633k _ _ n635 h128
  have h233 := hp633k _ _ n636 h233
  have h343 := hp633k _ _ n637 h343
  have h458 := hp633k _ _ n638 h458
  have h578 := hp633k _ _ n639 h578
  obtain ⟨pl640, pe640, f640, kn640, tf640, o640_0, o640_1, o640_2, o640_3, o640_4, o640_5, o640_6, o640_7⟩ := id hp633m
  have h641 : (mo, (.inr (8, [.int 0, .ref pl640, .ref ka, .ref ta]) : va_E)) ∈ M631 := o640_0
  have h642 : (pl640, (.inr (10, [.int 10, .ref pe640, .int 10]) : va_E)) ∈ M631 := o640_1
  have h643 : (pe640, (.inl (G.cO, 10, .inr (.inr (.inr (.inr f640)))) : va_E)) ∈ M631 := o640_2
  have h644 : (ta, (.inl (G.Z.cI, 8, .inl tf640) : va_E)) ∈ M631 := o640_4
  have h645 : (ka, (.inl (G.cR, 10, .inr (.inr (.inr (.inr kn640)))) : va_E)) ∈ M631 := o640_6
  have hDo646 := hD632
  have F647 := S.1.at 197 730 (Nat.le_of_ble_eq_true rfl) (Nat.le_of_ble_eq_true rfl)
  refine j_i2l F647 0 dX8_digest_41 (by decide) ?_
  refine m_cSl S (n1 := 2) (rest := []) (r_X8_add X.l G X.A M631 (-763180366220942830) 0) ⟨_, _, _, _, rfl, (gBS kB_X8_add (by decide +kernel)), rfl, rfl, (by decide +kernel), ⟨(Nat.le_of_ble_eq_true rfl), (Nat.le_of_ble_eq_true rfl)⟩⟩ rfl (Nat.le_of_ble_eq_true rfl) (Nat.le_of_ble_eq_true rfl) (Nat.le_of_ble_eq_true rfl) rfl dX8_digest_42 (fun v648 M649 hD650 hp651 => ?_)
  obtain ⟨hp651v, hp651m⟩ := hp651
  have hp651v : (-5211847279139676114 : Int64) = v648 := (by decide : (-5211847279139676114 : Int64) = (-763180366220942830) * 31 + 0).trans hp651v
  subst hp651v
  subst hp651m
  refine j_lstore_n F647 [some (.ref mo), some (.long (-5211847279139676114)), none, some (.int 5), some (.ref v562), some (.int 2), some (.int 0), some (.int 0), none] dX8_digest_45 (by decide) rfl rfl ?_
  refine j_iinc F647 3 [some (.ref mo), some (.long (-5211847279139676114)), none, some (.int 5), some (.ref v562), some (.int 3), some (.int 0), some (.int 0), none] dX8_digest_46 rfl (by decide) (by decide) rfl rfl ?_
  refine j_goto F647 27 dX8_digest_49 (by decide) ?_
  refine j_iload F647 dX8_digest_27 rfl ?_
  refine j_iconst F647 4 dX8_digest_29 (by decide) ?_
  refine j_icmp_ge F647 52 dX8_digest_30 (by decide) (fun h9 => absurd h9 (by decide)) (fun _ => ?_)
  refine j_lload_n F647 dX8_digest_33 rfl ?_
  refine j_aload_n F647 dX8_digest_34 rfl ?_
  refine j_iload_n F647 dX8_digest_35 rfl ?_
  refine j_iload F647 dX8_digest_36 rfl ?_
  have hKm653 : Kp M631 [] M631 := by
    intro b x hb hx
    exact hx
  have hMo652 := Mo.mono hp633m hKm653
  refine m_cVi S (n1 := 2) (rest := [.long (-5211847279139676114)]) (r_X8_of X.l G X.A M631 5 (by decide) 3 (by decide) hMo652) ⟨_, _, _, _, rfl, (gBV kB_X8_of (by decide +kernel)), rfl, rfl, (by decide +kernel), ⟨(Nat.le_of_ble_eq_true rfl), (Nat.le_of_ble_eq_true rfl)⟩⟩ h641 rfl rfl (Nat.le_of_ble_eq_true rfl) (Nat.le_of_ble_eq_true rfl) (Nat.le_of_ble_eq_true rfl) rfl dX8_digest_38 (fun v654 M655 hD656 hp657 => ?_)
  obtain ⟨hp657m, hp657k, hp657v⟩ := hp657
  subst hp657v
  have n658 : v17 ∉ [mo, ka] := by
    intro h9; simp only [List.mem_cons, List.not_mem_nil, or_false] at h9
    rcases h9 with h9 | h9
    · exact (In.ne hD632 h28 h641 (by simp)) h9
    · exact (In.ne hD632 h28 h645 (by simp)) h9
  have n659 : v116 ∉ [mo, ka] := by
    intro h9; simp only [List.mem_cons, List.not_mem_nil, or_false] at h9
    rcases h9 with h9 | h9
    · exact (In.ne hD632 h128 h641 (by simp)) h9
    · exact (In.ne hD632 h128 h645 (by simp)) h9
  have n660 : v220 ∉ [mo, ka] := by
    intro h9; simp only [List.mem_cons, List.not_mem_nil, or_false] at h9
    rcases h9 with h9 | h9
    · exact (In.ne hD632 h233 h641 (by simp)) h9
    · exact (In.ne hD632 h233 h645 (by simp)) h9
  have n661 : v329 ∉ [mo, ka] := by
    intro h9; simp only [List.mem_cons, List.not_mem_nil, or_false] at h9
    rcases h9 with h9 | h9
    · exact (In.ne hD632 h343 h641 (by simp)) h9
    · exact (In.ne hD632 h343 h645 (by simp)) h9
  have n662 : v443 ∉ [mo, ka] := by
    intro h9; simp only [List.mem_cons, List.not_mem_nil, or_false] at h9
    rcases h9 with h9 | h9
    · exact (In.ne hD632 h458 h641 (by simp)) h9
    · exact (In.ne hD632 h458 h645 (by simp)) h9
  have n663 : v562 ∉ [mo, ka] := by
    intro h9; simp only [List.mem_cons, List.not_mem_nil, or_false] at h9
    rcases h9 with h9 | h9
    · exact (In.ne hD632 h578 h641 (by simp)) h9
    · exact (In.ne hD632 h578 h645 (by simp)) h9
  have h28 := hp657k _ _ n658 h28
  have h128 := hp657k _ _ n659 h128
  have h233 := hp657k _ _ n660 h233
  have h343 := hp657k _ _ n661 h343
  have h458 := hp657k _ _ n662 h458
  have h578 := hp657k _ _ n663 h578
  obtain ⟨pl664, pe664, f664, kn664, tf664, o664_0, o664_1, o664_2, o664_3, o664_4, o664_5, o664_6, o664_7⟩ := id hp657m
  have h665 : (mo, (.inr (8, [.int 0, .ref pl664, .ref ka, .ref ta]) : va_E)) ∈ M655 := o664_0
  have h666 : (pl664, (.inr (10, [.int 10, .ref pe664, .int 10]) : va_E)) ∈ M655 := o664_1
  have h667 : (pe664, (.inl (G.cO, 10, .inr (.inr (.inr (.inr f664)))) : va_E)) ∈ M655 := o664_2
  have h668 : (ta, (.inl (G.Z.cI, 8, .inl tf664) : va_E)) ∈ M655 := o664_4
  have h669 : (ka, (.inl (G.cR, 10, .inr (.inr (.inr (.inr kn664)))) : va_E)) ∈ M655 := o664_6
  have hDo670 := hD656
  have F671 := S.1.at 204 756 (Nat.le_of_ble_eq_true rfl) (Nat.le_of_ble_eq_true rfl)
  refine j_i2l F671 (-1) dX8_digest_41 (by decide) ?_
  refine m_cSl S (n1 := 2) (rest := []) (r_X8_add X.l G X.A M655 (-5211847279139676114) (-1)) ⟨_, _, _, _, rfl, (gBS kB_X8_add (by decide +kernel)), rfl, rfl, (by decide +kernel), ⟨(Nat.le_of_ble_eq_true rfl), (Nat.le_of_ble_eq_true rfl)⟩⟩ rfl (Nat.le_of_ble_eq_true rfl) (Nat.le_of_ble_eq_true rfl) (Nat.le_of_ble_eq_true rfl) rfl dX8_digest_42 (fun v672 M673 hD674 hp675 => ?_)
  obtain ⟨hp675v, hp675m⟩ := hp675
  have hp675v : (4453431010056005009 : Int64) = v672 := (by decide : (4453431010056005009 : Int64) = (-5211847279139676114) * 31 + (-1)).trans hp675v
  subst hp675v
  subst hp675m
  refine j_lstore_n F671 [some (.ref mo), some (.long 4453431010056005009), none, some (.int 5), some (.ref v562), some (.int 3), some (.int 0), some (.int 0), none] dX8_digest_45 (by decide) rfl rfl ?_
  refine j_iinc F671 4 [some (.ref mo), some (.long 4453431010056005009), none, some (.int 5), some (.ref v562), some (.int 4), some (.int 0), some (.int 0), none] dX8_digest_46 rfl (by decide) (by decide) rfl rfl ?_
  refine j_goto F671 27 dX8_digest_49 (by decide) ?_
  refine j_iload F671 dX8_digest_27 rfl ?_
  refine j_iconst F671 4 dX8_digest_29 (by decide) ?_
  refine j_icmp_ge F671 52 dX8_digest_30 (by decide) (fun _ => ?_) (fun h9 => absurd (by decide) h9)
  refine j_lload_n F671 dX8_digest_52 rfl ?_
  refine j_aload_n F671 dX8_digest_53 rfl ?_
  refine j_aload F671 dX8_digest_54 rfl ?_
  refine m_cVi S (n1 := 1) (rest := [.long 4453431010056005009]) (r_X8_periodOf X.l G X.A M655 (mo := mo) (pl := mo) (ka := mo) (ta := mo) (tv := 0) h578) ⟨_, _, _, _, rfl, (gBV kB_X8_periodOf (by decide +kernel)), rfl, rfl, (by decide +kernel), ⟨(Nat.le_of_ble_eq_true rfl), (Nat.le_of_ble_eq_true rfl)⟩⟩ h665 rfl rfl (Nat.le_of_ble_eq_true rfl) (Nat.le_of_ble_eq_true rfl) (Nat.le_of_ble_eq_true rfl) rfl dX8_digest_56 (fun v676 M677 hD678 hp679 => ?_)
  obtain ⟨hp679a, hp679b⟩ := hp679
  subst hp679a
  subst hp679b
  refine j_i2l F671 0 dX8_digest_59 (by decide) ?_
  refine m_cSl S (n1 := 2) (rest := []) (r_X8_add X.l G X.A M655 4453431010056005009 0) ⟨_, _, _, _, rfl, (gBS kB_X8_add (by decide +kernel)), rfl, rfl, (by decide +kernel), ⟨(Nat.le_of_ble_eq_true rfl), (Nat.le_of_ble_eq_true rfl)⟩⟩ rfl (Nat.le_of_ble_eq_true rfl) (Nat.le_of_ble_eq_true rfl) (Nat.le_of_ble_eq_true rfl) rfl dX8_digest_60 (fun v680 M681 hD682 hp683 => ?_)
  obtain ⟨hp683v, hp683m⟩ := hp683
  have hp683v : (8929152795769293967 : Int64) = v680 := (by decide : (8929152795769293967 : Int64) = 4453431010056005009 * 31 + 0).trans hp683v
  subst hp683v
  subst hp683m
  refine j_lstore_n F671 [some (.ref mo), some (.long 8929152795769293967), none, some (.int 5), some (.ref v562), some (.int 4), some (.int 0), some (.int 0), none] dX8_digest_63 (by decide) rfl rfl ?_
  refine j_aload F671 dX8_digest_64 rfl ?_
  refine j_astore F671 [some (.ref mo), some (.long 8929152795769293967), none, some (.int 5), some (.ref v562), some (.ref v562), some (.int 0), some (.int 0), none] dX8_digest_66 (by decide) rfl rfl ?_
  refine j_aload F671 dX8_digest_68 rfl ?_
  refine m_alen S (t0 := 0) (v := 0) h578 rfl (by first | decide | rfl) dX8_digest_70 ?_
  refine j_istore F671 [some (.ref mo), some (.long 8929152795769293967), none, some (.int 5), some (.ref v562), some (.ref v562), some (.int 0), some (.int 0), none] dX8_digest_71 (by decide) rfl rfl ?_
  refine j_iconst F671 0 dX8_digest_73 (by decide) ?_
  refine j_istore F671 [some (.ref mo), some (.long 8929152795769293967), none, some (.int 5), some (.ref v562), some (.ref v562), some (.int 0), some (.int 0), none] dX8_digest_74 (by decide) rfl rfl ?_
  refine j_iload F671 dX8_digest_76 rfl ?_
  refine j_iload F671 dX8_digest_78 rfl ?_
  refine j_icmp_ge F671 104 dX8_digest_80 (by decide) (fun _ => ?_) (fun h9 => absurd (by decide) h9)
  refine j_iinc F671 6 [some (.ref mo), some (.long 8929152795769293967), none, some (.int 6), some (.ref v562), some (.ref v562), some (.int 0), some (.int 0), none] dX8_digest_104 rfl (by decide) (by decide) rfl rfl ?_
  refine j_goto F671 11 dX8_digest_107 (by decide) ?_
  refine j_iload_n F671 dX8_digest_11 rfl ?_
  refine j_bipush F671 10 dX8_digest_12 (by decide) ?_
  refine j_icmp_ge F671 110 dX8_digest_14 (by decide) (fun h9 => absurd h9 (by decide)) (fun _ => ?_)
  refine j_aload_n F671 dX8_digest_17 rfl ?_
  refine j_iload_n F671 dX8_digest_18 rfl ?_
  have hKm685 : Kp M655 [] M655 := by
    intro b x hb hx
    exact hx
  have hMo684 := Mo.mono hp657m hKm685
  refine m_cVr S (n1 := 1) (rest := []) (r_X8_row X.l G X.A M655 6 (by decide) hMo684) ⟨_, _, _, _, rfl, (gBV kB_X8_row (by decide +kernel)), rfl, rfl, (by decide +kernel), ⟨(Nat.le_of_ble_eq_true rfl), (Nat.le_of_ble_eq_true rfl)⟩⟩ h665 rfl rfl (Nat.le_of_ble_eq_true rfl) (Nat.le_of_ble_eq_true rfl) (Nat.le_of_ble_eq_true rfl) rfl dX8_digest_19 (fun v686 M687 hD688 hp689 => ?_)
  obtain ⟨hp689m, hp689k, hp689a⟩ := hp689
  have n690 : v17 ∉ [mo, ka] := by
    intro h9; simp only [List.mem_cons, List.not_mem_nil, or_false] at h9
    rcases h9 with h9 | h9
    · exact (In.ne hD656 h28 h665 (by simp)) h9
    · exact (In.ne hD656 h28 h669 (by simp)) h9
  have n691 : v116 ∉ [mo, ka] := by
    intro h9; simp only [List.mem_cons, List.not_mem_nil, or_false] at h9
    rcases h9 with h9 | h9
    · exact (In.ne hD656 h128 h665 (by simp)) h9
    · exact (In.ne hD656 h128 h669 (by simp)) h9
  have n692 : v220 ∉ [mo, ka] := by
    intro h9; simp only [List.mem_cons, List.not_mem_nil, or_false] at h9
    rcases h9 with h9 | h9
    · exact (In.ne hD656 h233 h665 (by simp)) h9
    · exact (In.ne hD656 h233 h669 (by simp)) h9
  have n693 : v329 ∉ [mo, ka] := by
    intro h9; simp only [List.mem_cons, List.not_mem_nil, or_false] at h9
    rcases h9 with h9 | h9
    · exact (In.ne hD656 h343 h665 (by simp)) h9
    · exact (In.ne hD656 h343 h669 (by simp)) h9
  have n694 : v443 ∉ [mo, ka] := by
    intro h9; simp only [List.mem_cons, List.not_mem_nil, or_false] at h9
    rcases h9 with h9 | h9
    · exact (In.ne hD656 h458 h665 (by simp)) h9
    · exact (In.ne hD656 h458 h669 (by simp)) h9
  have n695 : v562 ∉ [mo, ka] := by
    intro h9; simp only [List.mem_cons, List.not_mem_nil, or_false] at h9
    rcases h9 with h9 | h9
    · exact (In.ne hD656 h578 h665 (by simp)) h9
    · exact (In.ne hD656 h578 h669 (by simp)) h9
  have h28 := hp689k _ _ n690 h28
  have h128 := hp689k _ _ n691 h128
  have h233 := hp689k _ _ n692 h233
  have h343 := hp689k _ _ n693 h343
  have h458 := hp689k _ _ n694 h458
  have h578 := hp689k _ _ n695 h578
  obtain ⟨pl696, pe696, f696, kn696, tf696, o696_0, o696_1, o696_2, o696_3, o696_4, o696_5, o696_6, o696_7⟩ := id hp689m
  have h697 : (mo, (.inr (8, [.int 0, .ref pl696, .ref ka, .ref ta]) : va_E)) ∈ M687 := o696_0
  have h698 : (pl696, (.inr (10, [.int 10, .ref pe696, .int 10]) : va_E)) ∈ M687 := o696_1
  have h699 : (pe696, (.inl (G.cO, 10, .inr (.inr (.inr (.inr f696)))) : va_E)) ∈ M687 := o696_2
  have h700 : (ta, (.inl (G.Z.cI, 8, .inl tf696) : va_E)) ∈ M687 := o696_4
  have h701 : (ka, (.inl (G.cR, 10, .inr (.inr (.inr (.inr kn696)))) : va_E)) ∈ M687 := o696_6
  have hDo702 := hD688
  have h703 := hp689a
  have F704 := S.1.at 210 778 (Nat.le_of_ble_eq_true rfl) (Nat.le_of_ble_eq_true rfl)
  refine j_astore F704 [some (.ref mo), some (.long 8929152795769293967), none, some (.int 6), some (.ref v686), some (.ref v562), some (.int 0), some (.int 0), none] dX8_digest_22 (by decide) rfl rfl ?_
  refine j_iconst F704 0 dX8_digest_24 (by decide) ?_
  refine j_istore F704 [some (.ref mo), some (.long 8929152795769293967), none, some (.int 6), some (.ref v686), some (.int 0), some (.int 0), some (.int 0), none] dX8_digest_25 (by decide) rfl rfl ?_
  refine j_iload F704 dX8_digest_27 rfl ?_
  refine j_iconst F704 4 dX8_digest_29 (by decide) ?_
  refine j_icmp_ge F704 52 dX8_digest_30 (by decide) (fun h9 => absurd h9 (by decide)) (fun _ => ?_)
  refine j_lload_n F704 dX8_digest_33 rfl ?_
  refine j_aload_n F704 dX8_digest_34 rfl ?_
  refine j_iload_n F704 dX8_digest_35 rfl ?_
  refine j_iload F704 dX8_digest_36 rfl ?_
  have hKm706 : Kp M687 [] M687 := by
    intro b x hb hx
    exact hx
  have hMo705 := Mo.mono hp689m hKm706
  refine m_cVi S (n1 := 2) (rest := [.long 8929152795769293967]) (r_X8_of X.l G X.A M687 6 (by decide) 0 (by decide) hMo705) ⟨_, _, _, _, rfl, (gBV kB_X8_of (by decide +kernel)), rfl, rfl, (by decide +kernel), ⟨(Nat.le_of_ble_eq_true rfl), (Nat.le_of_ble_eq_true rfl)⟩⟩ h697 rfl rfl (Nat.le_of_ble_eq_true rfl) (Nat.le_of_ble_eq_true rfl) (Nat.le_of_ble_eq_true rfl) rfl dX8_digest_38 (fun v707 M708 hD709 hp710 => ?_)
  obtain ⟨hp710m, hp710k, hp710v⟩ := hp710
  subst hp710v
  have n711 : v17 ∉ [mo, ka] := by
    intro h9; simp only [List.mem_cons, List.not_mem_nil, or_false] at h9
    rcases h9 with h9 | h9
    · exact (In.ne hD688 h28 h697 (by simp)) h9
    · exact (In.ne hD688 h28 h701 (by simp)) h9
  have n712 : v116 ∉ [mo, ka] := by
    intro h9; simp only [List.mem_cons, List.not_mem_nil, or_false] at h9
    rcases h9 with h9 | h9
    · exact (In.ne hD688 h128 h697 (by simp)) h9
    · exact (In.ne hD688 h128 h701 (by simp)) h9
  have n713 : v220 ∉ [mo, ka] := by
    intro h9; simp only [List.mem_cons, List.not_mem_nil, or_false] at h9
    rcases h9 with h9 | h9
    · exact (In.ne hD688 h233 h697 (by simp)) h9
    · exact (In.ne hD688 h233 h701 (by simp)) h9
  have n714 : v329 ∉ [mo, ka] := by
    intro h9; simp only [List.mem_cons, List.not_mem_nil, or_false] at h9
    rcases h9 with h9 | h9
    · exact (In.ne hD688 h343 h697 (by simp)) h9
    · exact (In.ne hD688 h343 h701 (by simp)) h9
  have n715 : v443 ∉ [mo, ka] := by
    intro h9; simp only [List.mem_cons, List.not_mem_nil, or_false] at h9
    rcases h9 with h9 | h9
    · exact (In.ne hD688 h458 h697 (by simp)) h9
    · exact (In.ne hD688 h458 h701 (by simp)) h9
  have n716 : v562 ∉ [mo, ka] := by
    intro h9; simp only [List.mem_cons, List.not_mem_nil, or_false] at h9
    rcases h9 with h9 | h9
    · exact (In.ne hD688 h578 h697 (by simp)) h9
    · exact (In.ne hD688 h578 h701 (by simp)) h9
  have n717 : v686 ∉ [mo, ka] := by
    intro h9; simp only [List.mem_cons, List.not_mem_nil, or_false] at h9
    rcases h9 with h9 | h9
    · exact (In.ne hD688 h703 h697 (by simp)) h9
    · exact (In.ne hD688 h703 h701 (by simp)) h9
  have h28 := hp710k _ _ n711 h28
  have h128 := hp710k _ _ n712 h128
  have h233 := hp710k _ _ n713 h233
  have h343 := hp710k _ _ n714 h343
  have h458 := hp710k _ _ n715 h458
  have h578 := hp710k _ _ n716 h578
  have h703 := hp710k _ _ n717 h703
  obtain ⟨pl718, pe718, f718, kn718, tf718, o718_0, o718_1, o718_2, o718_3, o718_4, o718_5, o718_6, o718_7⟩ := id hp710m
  have h719 : (mo, (.inr (8, [.int 0, .ref pl718, .ref ka, .ref ta]) : va_E)) ∈ M708 := o718_0
  have h720 : (pl718, (.inr (10, [.int 10, .ref pe718, .int 10]) : va_E)) ∈ M708 := o718_1
  have h721 : (pe718, (.inl (G.cO, 10, .inr (.inr (.inr (.inr f718)))) : va_E)) ∈ M708 := o718_2
  have h722 : (ta, (.inl (G.Z.cI, 8, .inl tf718) : va_E)) ∈ M708 := o718_4
  have h723 : (ka, (.inl (G.cR, 10, .inr (.inr (.inr (.inr kn718)))) : va_E)) ∈ M708 := o718_6
  have hDo724 := hD709
  have F725 := S.1.at 217 804 (Nat.le_of_ble_eq_true rfl) (Nat.le_of_ble_eq_true rfl)
  refine j_i2l F725 0 dX8_digest_41 (by decide) ?_
  refine m_cSl S (n1 := 2) (rest := []) (r_X8_add X.l G X.A M708 8929152795769293967 0) ⟨_, _, _, _, rfl, (gBS kB_X8_add (by decide +kernel)), rfl, rfl, (by decide +kernel), ⟨(Nat.le_of_ble_eq_true rfl), (Nat.le_of_ble_eq_true rfl)⟩⟩ rfl (Nat.le_of_ble_eq_true rfl) (Nat.le_of_ble_eq_true rfl) (Nat.le_of_ble_eq_true rfl) rfl dX8_digest_42 (fun v726 M727 hD728 hp729 => ?_)
  obtain ⟨hp729v, hp729m⟩ := hp729
  have hp729v : (102575563204838737 : Int64) = v726 := (by decide : (102575563204838737 : Int64) = 8929152795769293967 * 31 + 0).trans hp729v
  subst hp729v
  subst hp729m
  refine j_lstore_n F725 [some (.ref mo), some (.long 102575563204838737), none, some (.int 6), some (.ref v686), some (.int 0), some (.int 0), some (.int 0), none] dX8_digest_45 (by decide) rfl rfl ?_
  refine j_iinc F725 1 [some (.ref mo), some (.long 102575563204838737), none, some (.int 6), some (.ref v686), some (.int 1), some (.int 0), some (.int 0), none] dX8_digest_46 rfl (by decide) (by decide) rfl rfl ?_
  refine j_goto F725 27 dX8_digest_49 (by decide) ?_
  refine j_iload F725 dX8_digest_27 rfl ?_
  refine j_iconst F725 4 dX8_digest_29 (by decide) ?_
  refine j_icmp_ge F725 52 dX8_digest_30 (by decide) (fun h9 => absurd h9 (by decide)) (fun _ => ?_)
  refine j_lload_n F725 dX8_digest_33 rfl ?_
  refine j_aload_n F725 dX8_digest_34 rfl ?_
  refine j_iload_n F725 dX8_digest_35 rfl ?_
  refine j_iload F725 dX8_digest_36 rfl ?_
  have hKm731 : Kp M708 [] M708 := by
    intro b x hb hx
    exact hx
  have hMo730 := Mo.mono hp710m hKm731
  refine m_cVi S (n1 := 2) (rest := [.long 102575563204838737]) (r_X8_of X.l G X.A M708 6 (by decide) 1 (by decide) hMo730) ⟨_, _, _, _, rfl, (gBV kB_X8_of (by decide +kernel)), rfl, rfl, (by decide +kernel), ⟨(Nat.le_of_ble_eq_true rfl), (Nat.le_of_ble_eq_true rfl)⟩⟩ h719 rfl rfl (Nat.le_of_ble_eq_true rfl) (Nat.le_of_ble_eq_true rfl) (Nat.le_of_ble_eq_true rfl) rfl dX8_digest_38 (fun v732 M733 hD734 hp735 => ?_)
  obtain ⟨hp735m, hp735k, hp735v⟩ := hp735
  subst hp735v
  have n736 : v17 ∉ [mo, ka] := by
    intro h9; simp only [List.mem_cons, List.not_mem_nil, or_false] at h9
    rcases h9 with h9 | h9
    · exact (In.ne hD709 h28 h719 (by simp)) h9
    · exact (In.ne hD709 h28 h723 (by simp)) h9
  have n737 : v116 ∉ [mo, ka] := by
    intro h9; simp only [List.mem_cons, List.not_mem_nil, or_false] at h9
    rcases h9 with h9 | h9
    · exact (In.ne hD709 h128 h719 (by simp)) h9
    · exact (In.ne hD709 h128 h723 (by simp)) h9
  have n738 : v220 ∉ [mo, ka] := by
    intro h9; simp only [List.mem_cons, List.not_mem_nil, or_false] at h9
    rcases h9 with h9 | h9
    · exact (In.ne hD709 h233 h719 (by simp)) h9
    · exact (In.ne hD709 h233 h723 (by simp)) h9
  have n739 : v329 ∉ [mo, ka] := by
    intro h9; simp only [List.mem_cons, List.not_mem_nil, or_false] at h9
    rcases h9 with h9 | h9
    · exact (In.ne hD709 h343 h719 (by simp)) h9
    · exact (In.ne hD709 h343 h723 (by simp)) h9
  have n740 : v443 ∉ [mo, ka] := by
    intro h9; simp only [List.mem_cons, List.not_mem_nil, or_false] at h9
    rcases h9 with h9 | h9
    · exact (In.ne hD709 h458 h719 (by simp)) h9
    · exact (In.ne hD709 h458 h723 (by simp)) h9
  have n741 : v562 ∉ [mo, ka] := by
    intro h9; simp only [List.mem_cons, List.not_mem_nil, or_false] at h9
    rcases h9 with h9 | h9
    · exact (In.ne hD709 h578 h719 (by simp)) h9
    · exact (In.ne hD709 h578 h723 (by simp)) h9
  have n742 : v686 ∉ [mo, ka] := by
    intro h9; simp only [List.mem_cons, List.not_mem_nil, or_false] at h9
    rcases h9 with h9 | h9
    · exact (In.ne hD709 h703 h719 (by simp)) h9
    · exact (In.ne hD709 h703 h723 (by simp)) h9
  have h28 := hp735k _ _ n736 h28
  have h128 := hp735k _ _ n737 h128
  have h233 := hp735k _ _ n738 h233
  have h343 := hp735k _ _ n739 h343
  have h458 := hp735k _ _ n740 h458
  have h578 := hp735k _ _ n741 h578
  have h703 := hp735k _ _ n742 h703
  obtain ⟨pl743, pe743, f743, kn743, tf743, o743_0, o743_1, o743_2, o743_3, o743_4, o743_5, o743_6, o743_7⟩ := id hp735m
  have h744 : (mo, (.inr (8, [.int 0, .ref pl743, .ref ka, .ref ta]) : va_E)) ∈ M733 := o743_0
  have h745 : (pl743, (.inr (10, [.int 10, .ref pe743, .int 10]) : va_E)) ∈ M733 := o743_1
  have h746 : (pe743, (.inl (G.cO, 10, .inr (.inr (.inr (.inr f743)))) : va_E)) ∈ M733 := o743_2
  have h747 : (ta, (.inl (G.Z.cI, 8, .inl tf743) : va_E)) ∈ M733 := o743_4
  have h748 : (ka, (.inl (G.cR, 10, .inr (.inr (.inr (.inr kn743)))) : va_E)) ∈ M733 := o743_6
  have hDo749 := hD734
  have F750 := S.1.at 224 830 (Nat.le_of_ble_eq_true rfl) (Nat.le_of_ble_eq_true rfl)
  refine j_i2l F750 0 dX8_digest_41 (by decide) ?_
  refine m_cSl S (n1 := 2) (rest := []) (r_X8_add X.l G X.A M733 102575563204838737 0) ⟨_, _, _, _, rfl, (gBS kB_X8_add (by decide +kernel)), rfl, rfl, (by decide +kernel), ⟨(Nat.le_of_ble_eq_true rfl), (Nat.le_of_ble_eq_true rfl)⟩⟩ rfl (Nat.le_of_ble_eq_true rfl) (Nat.le_of_ble_eq_true rfl) (Nat.le_of_ble_eq_true rfl) rfl dX8_digest_42 (fun v751 M752 hD753 hp754 => ?_)
  obtain ⟨hp754v, hp754m⟩ := hp754
  have hp754v : (3179842459350000847 : Int64) = v751 := (by decide : (3179842459350000847 : Int64) = 102575563204838737 * 31 + 0).trans hp754v
  subst hp754v
  subst hp754m
  refine j_lstore_n F750 [some (.ref mo), some (.long 3179842459350000847), none, some (.int 6), some (.ref v686), some (.int 1), some (.int 0), some (.int 0), none] dX8_digest_45 (by decide) rfl rfl ?_
  refine j_iinc F750 2 [some (.ref mo), some (.long 3179842459350000847), none, some (.int 6), some (.ref v686), some (.int 2), some (.int 0), some (.int 0), none] dX8_digest_46 rfl (by decide) (by decide) rfl rfl ?_
  refine j_goto F750 27 dX8_digest_49 (by decide) ?_
  refine j_iload F750 dX8_digest_27 rfl ?_
  refine j_iconst F750 4 dX8_digest_29 (by decide) ?_
  refine j_icmp_ge F750 52 dX8_digest_30 (by decide) (fun h9 => absurd h9 (by decide)) (fun _ => ?_)
  refine j_lload_n F750 dX8_digest_33 rfl ?_
  refine j_aload_n F750 dX8_digest_34 rfl ?_
  refine j_iload_n F750 dX8_digest_35 rfl ?_
  refine j_iload F750 dX8_digest_36 rfl ?_
  have hKm756 : Kp M733 [] M733 := by
    intro b x hb hx
    exact hx
  have hMo755 := Mo.mono hp735m hKm756
  refine m_cVi S (n1 := 2) (rest := [.long 3179842459350000847]) (r_X8_of X.l G X.A M733 6 (by decide) 2 (by decide) hMo755) ⟨_, _, _, _, rfl, (gBV kB_X8_of (by decide +kernel)), rfl, rfl, (by decide +kernel), ⟨(Nat.le_of_ble_eq_true rfl), (Nat.le_of_ble_eq_true rfl)⟩⟩ h744 rfl rfl (Nat.le_of_ble_eq_true rfl) (Nat.le_of_ble_eq_true rfl) (Nat.le_of_ble_eq_true rfl) rfl dX8_digest_38 (fun v757 M758 hD759 hp760 => ?_)
  obtain ⟨hp760m, hp760k, hp760v⟩ := hp760
  subst hp760v
  have n761 : v17 ∉ [mo, ka] := by
    intro h9; simp only [List.mem_cons, List.not_mem_nil, or_false] at h9
    rcases h9 with h9 | h9
    · exact (In.ne hD734 h28 h744 (by simp)) h9
    · exact (In.ne hD734 h28 h748 (by simp)) h9
  have n762 : v116 ∉ [mo, ka] := by
    intro h9; simp only [List.mem_cons, List.not_mem_nil, or_false] at h9
    rcases h9 with h9 | h9
    · exact (In.ne hD734 h128 h744 (by simp)) h9
    · exact (In.ne hD734 h128 h748 (by simp)) h9
  have n763 : v220 ∉ [mo, ka] := by
    intro h9; simp only [List.mem_cons, List.not_mem_nil, or_false] at h9
    rcases h9 with h9 | h9
    · exact (In.ne hD734 h233 h744 (by simp)) h9
    · exact (In.ne hD734 h233 h748 (by simp)) h9
  have n764 : v329 ∉ [mo, ka] := by
    intro h9; simp only [List.mem_cons, List.not_mem_nil, or_false] at h9
    rcases h9 with h9 | h9
    · exact (In.ne hD734 h343 h744 (by simp)) h9
    · exact (In.ne hD734 h343 h748 (by simp)) h9
  have n765 : v443 ∉ [mo, ka] := by
    intro h9; simp only [List.mem_cons, List.not_mem_nil, or_false] at h9
    rcases h9 with h9 | h9
    · exact (In.ne hD734 h458 h744 (by simp)) h9
    · exact (In.ne hD734 h458 h748 (by simp)) h9
  have n766 : v562 ∉ [mo, ka] := by
    intro h9; simp only [List.mem_cons, List.not_mem_nil, or_false] at h9
    rcases h9 with h9 | h9
    · exact (In.ne hD734 h578 h744 (by simp)) h9
    · exact (In.ne hD734 h578 h748 (by simp)) h9
  have n767 : v686 ∉ [mo, ka] := by
    intro h9; simp only [List.mem_cons, List.not_mem_nil, or_false] at h9
    rcases h9 with h9 | h9
    · exact (In.ne hD734 h703 h744 (by simp)) h9
    · exact (In.ne hD734 h703 h748 (by simp)) h9
  have h28 := hp760k _ _ n761 h28
  have h128 := hp760k _ _ n762 h128
  have h233 := hp760k _ _ n763 h233
  have h343 := hp760k _ _ n764 h343
  have h458 := hp760k _ _ n765 h458
  have h578 := hp760k _ _ n766 h578
  have h703 := hp760k _ _ n767 h703
  obtain ⟨pl768, pe768, f768, kn768, tf768, o768_0, o768_1, o768_2, o768_3, o768_4, o768_5, o768_6, o768_7⟩ := id hp760m
  have h769 : (mo, (.inr (8, [.int 0, .ref pl768, .ref ka, .ref ta]) : va_E)) ∈ M758 := o768_0
  have h770 : (pl768, (.inr (10, [.int 10, .ref pe768, .int 10]) : va_E)) ∈ M758 := o768_1
  have h771 : (pe768, (.inl (G.cO, 10, .inr (.inr (.inr (.inr f768)))) : va_E)) ∈ M758 := o768_2
  have h772 : (ta, (.inl (G.Z.cI, 8, .inl tf768) : va_E)) ∈ M758 := o768_4
  have h773 : (ka, (.inl (G.cR, 10, .inr (.inr (.inr (.inr kn768)))) : va_E)) ∈ M758 := o768_6
  have hDo774 := hD759
  have F775 := S.1.at 231 856 (Nat.le_of_ble_eq_true rfl) (Nat.le_of_ble_eq_true rfl)
  refine j_i2l F775 0 dX8_digest_41 (by decide) ?_
  refine m_cSl S (n1 := 2) (rest := []) (r_X8_add X.l G X.A M758 3179842459350000847 0) ⟨_, _, _, _, rfl, (gBS kB_X8_add (by decide +kernel)), rfl, rfl, (by decide +kernel), ⟨(Nat.le_of_ble_eq_true rfl), (Nat.le_of_ble_eq_true rfl)⟩⟩ rfl (Nat.le_of_ble_eq_true rfl) (Nat.le_of_ble_eq_true rfl) (Nat.le_of_ble_eq_true rfl) rfl dX8_digest_42 (fun v776 M777 hD778 hp779 => ?_)
  obtain ⟨hp779v, hp779m⟩ := hp779
  have hp779v : (6341395871302268177 : Int64) = v776 := (by decide : (6341395871302268177 : Int64) = 3179842459350000847 * 31 + 0).trans hp779v
  subst hp779v
  subst hp779m
  refine j_lstore_n F775 [some (.ref mo), some (.long 6341395871302268177), none, some (.int 6), some (.ref v686), some (.int 2), some (.int 0), some (.int 0), none] dX8_digest_45 (by decide) rfl rfl ?_
  refine j_iinc F775 3 [some (.ref mo), some (.long 6341395871302268177), none, some (.int 6), some (.ref v686), some (.int 3), some (.int 0), some (.int 0), none] dX8_digest_46 rfl (by decide) (by decide) rfl rfl ?_
  refine j_goto F775 27 dX8_digest_49 (by decide) ?_
  refine j_iload F775 dX8_digest_27 rfl ?_
  refine j_iconst F775 4 dX8_digest_29 (by decide) ?_
  refine j_icmp_ge F775 52 dX8_digest_30 (by decide) (fun h9 => absurd h9 (by decide)) (fun _ => ?_)
  refine j_lload_n F775 dX8_digest_33 rfl ?_
  refine j_aload_n F775 dX8_digest_34 rfl ?_
  refine j_iload_n F775 dX8_digest_35 rfl ?_
  refine j_iload F775 dX8_digest_36 rfl ?_
  have hKm781 : Kp M758 [] M758 := by
    intro b x hb hx
    exact hx
  have hMo780 := Mo.mono hp760m hKm781
  refine m_cVi S (n1 := 2) (rest := [.long 6341395871302268177]) (r_X8_of X.l G X.A M758 6 (by decide) 3 (by decide) hMo780) ⟨_, _, _, _, rfl, (gBV kB_X8_of (by decide +kernel)), rfl, rfl, (by decide +kernel), ⟨(Nat.le_of_ble_eq_true rfl), (Nat.le_of_ble_eq_true rfl)⟩⟩ h769 rfl rfl (Nat.le_of_ble_eq_true rfl) (Nat.le_of_ble_eq_true rfl) (Nat.le_of_ble_eq_true rfl) rfl dX8_digest_38 (fun v782 M783 hD784 hp785 => ?_)
  obtain ⟨hp785m, hp785k, hp785v⟩ := hp785
  subst hp785v
  have n786 : v17 ∉ [mo, ka] := by
    intro h9; simp only [List.mem_cons, List.not_mem_nil, or_false] at h9
    rcases h9 with h9 | h9
    · exact (In.ne hD759 h28 h769 (by simp)) h9
    · exact (In.ne hD759 h28 h773 (by simp)) h9
  have n787 : v116 ∉ [mo, ka] := by
    intro h9; simp only [List.mem_cons, List.not_mem_nil, or_false] at h9
    rcases h9 with h9 | h9
    · exact (In.ne hD759 h128 h769 (by simp)) h9
    · exact (In.ne hD759 h128 h773 (by simp)) h9
  have n788 : v220 ∉ [mo, ka] := by
    intro h9; simp only [List.mem_cons, List.not_mem_nil, or_false] at h9
    rcases h9 with h9 | h9
    · exact (In.ne hD759 h233 h769 (by simp)) h9
    · exact (In.ne hD759 h233 h773 (by simp)) h9
  have n789 : v329 ∉ [mo, ka] := by
    intro h9; simp only [List.mem_cons, List.not_mem_nil, or_false] at h9
    rcases h9 with h9 | h9
    · exact (In.ne hD759 h343 h769 (by simp)) h9
    · exact (In.ne hD759 h343 h773 (by simp)) h9
  have n790 : v443 ∉ [mo, ka] := by
    intro h9; simp only [List.mem_cons, List.not_mem_nil, or_false] at h9
    rcases h9 with h9 | h9
    · exact (In.ne hD759 h458 h769 (by simp)) h9
    · exact (In.ne hD759 h458 h773 (by simp)) h9
  have n791 : v562 ∉ [mo, ka] := by
    intro h9; simp only [List.mem_cons, List.not_mem_nil, or_false] at h9
    rcases h9 with h9 | h9
    · exact (In.ne hD759 h578 h769 (by simp)) h9
    · exact (In.ne hD759 h578 h773 (by simp)) h9
  have n792 : v686 ∉ [mo, ka] := by
    intro h9; simp only [List.mem_cons, List.not_mem_nil, or_false] at h9
    rcases h9 with h9 | h9
    · exact (In.ne hD759 h703 h769 (by simp)) h9
    · exact (In.ne hD759 h703 h773 (by simp)) h9
  have h28 := hp785k _ _ n786 h28
  have h128 := hp785k _ _ n787 h128
  have h233 := hp785k _ _ n788 h233
  have h343 := hp785k _ _ n789 h343
  have h458 := hp785k _ _ n790 h458
  have h578 := hp785k _ _ n791 h578
  have h703 := hp785k _ _ n792 h703
  obtain ⟨pl793, pe793, f793, kn793, tf793, o793_0, o793_1, o793_2, o793_3, o793_4, o793_5, o793_6, o793_7⟩ := id hp785m
  have h794 : (mo, (.inr (8, [.int 0, .ref pl793, .ref ka, .ref ta]) : va_E)) ∈ M783 := o793_0
  have h795 : (pl793, (.inr (10, [.int 10, .ref pe793, .int 10]) : va_E)) ∈ M783 := o793_1
  have h796 : (pe793, (.inl (G.cO, 10, .inr (.inr (.inr (.inr f793)))) : va_E)) ∈ M783 := o793_2
  have h797 : (ta, (.inl (G.Z.cI, 8, .inl tf793) : va_E)) ∈ M783 := o793_4
  have h798 : (ka, (.inl (G.cR, 10, .inr (.inr (.inr (.inr kn793)))) : va_E)) ∈ M783 := o793_6
  have hDo799 := hD784
  have F800 := S.1.at 238 882 (Nat.le_of_ble_eq_true rfl) (Nat.le_of_ble_eq_true rfl)
  refine j_i2l F800 (-1) dX8_digest_41 (by decide) ?_
  refine m_cSl S (n1 := 2) (rest := []) (r_X8_add X.l G X.A M783 6341395871302268177 (-1)) ⟨_, _, _, _, rfl, (gBS kB_X8_add (by decide +kernel)), rfl, rfl, (by decide +kernel), ⟨(Nat.le_of_ble_eq_true rfl), (Nat.le_of_ble_eq_true rfl)⟩⟩ rfl (Nat.le_of_ble_eq_true rfl) (Nat.le_of_ble_eq_true rfl) (Nat.le_of_ble_eq_true rfl) rfl dX8_digest_42 (fun v801 M802 hD803 hp804 => ?_)
  obtain ⟨hp804v, hp804m⟩ := hp804
  have hp804v : (-6330912800434754290 : Int64) = v801 := (by decide : (-6330912800434754290 : Int64) = 6341395871302268177 * 31 + (-1)).trans hp804v
  subst hp804v
  subst hp804m
  refine j_lstore_n F800 [some (.ref mo), some (.long (-6330912800434754290)), none, some (.int 6), some (.ref v686), some (.int 3), some (.int 0), some (.int 0), none] dX8_digest_45 (by decide) rfl rfl ?_
  refine j_iinc F800 4 [some (.ref mo), some (.long (-6330912800434754290)), none, some (.int 6), some (.ref v686), some (.int 4), some (.int 0), some (.int 0), none] dX8_digest_46 rfl (by decide) (by decide) rfl rfl ?_
  refine j_goto F800 27 dX8_digest_49 (by decide) ?_
  refine j_iload F800 dX8_digest_27 rfl ?_
  refine j_iconst F800 4 dX8_digest_29 (by decide) ?_
  refine j_icmp_ge F800 52 dX8_digest_30 (by decide) (fun _ => ?_) (fun h9 => absurd (by decide) h9)
  refine j_lload_n F800 dX8_digest_52 rfl ?_
  refine j_aload_n F800 dX8_digest_53 rfl ?_
  refine j_aload F800 dX8_digest_54 rfl ?_
  refine m_cVi S (n1 := 1) (rest := [.long (-6330912800434754290)]) (r_X8_periodOf X.l G X.A M783 (mo := mo) (pl := mo) (ka := mo) (ta := mo) (tv := 0) h703) ⟨_, _, _, _, rfl, (gBV kB_X8_periodOf (by decide +kernel)), rfl, rfl, (by decide +kernel), ⟨(Nat.le_of_ble_eq_true rfl), (Nat.le_of_ble_eq_true rfl)⟩⟩ h794 rfl rfl (Nat.le_of_ble_eq_true rfl) (Nat.le_of_ble_eq_true rfl) (Nat.le_of_ble_eq_true rfl) rfl dX8_digest_56 (fun v805 M806 hD807 hp808 => ?_)
  obtain ⟨hp808a, hp808b⟩ := hp808
  subst hp808a
  subst hp808b
  refine j_i2l F800 0 dX8_digest_59 (by decide) ?_
  refine m_cSl S (n1 := 2) (rest := []) (r_X8_add X.l G X.A M783 (-6330912800434754290) 0) ⟨_, _, _, _, rfl, (gBS kB_X8_add (by decide +kernel)), rfl, rfl, (by decide +kernel), ⟨(Nat.le_of_ble_eq_true rfl), (Nat.le_of_ble_eq_true rfl)⟩⟩ rfl (Nat.le_of_ble_eq_true rfl) (Nat.le_of_ble_eq_true rfl) (Nat.le_of_ble_eq_true rfl) rfl dX8_digest_60 (fun v809 M810 hD811 hp812 => ?_)
  obtain ⟨hp812v, hp812m⟩ := hp812
  have hp812v : (6655887997327684786 : Int64) = v809 := (by decide : (6655887997327684786 : Int64) = (-6330912800434754290) * 31 + 0).trans hp812v
  subst hp812v
  subst hp812m
  refine j_lstore_n F800 [some (.ref mo), some (.long 6655887997327684786), none, some (.int 6), some (.ref v686), some (.int 4), some (.int 0), some (.int 0), none] dX8_digest_63 (by decide) rfl rfl ?_
  refine j_aload F800 dX8_digest_64 rfl ?_
  refine j_astore F800 [some (.ref mo), some (.long 6655887997327684786), none, some (.int 6), some (.ref v686), some (.ref v686), some (.int 0), some (.int 0), none] dX8_digest_66 (by decide) rfl rfl ?_
  refine j_aload F800 dX8_digest_68 rfl ?_
  refine m_alen S (t0 := 0) (v := 0) h703 rfl (by first | decide | rfl) dX8_digest_70 ?_
  refine j_istore F800 [some (.ref mo), some (.long 6655887997327684786), none, some (.int 6), some (.ref v686), some (.ref v686), some (.int 0), some (.int 0), none] dX8_digest_71 (by decide) rfl rfl ?_
  refine j_iconst F800 0 dX8_digest_73 (by decide) ?_
  refine j_istore F800 [some (.ref mo), some (.long 6655887997327684786), none, some (.int 6), some (.ref v686), some (.ref v686), some (.int 0), some (.int 0), none] dX8_digest_74 (by decide) rfl rfl ?_
  refine j_iload F800 dX8_digest_76 rfl ?_
  refine j_iload F800 dX8_digest_78 rfl ?_
  refine j_icmp_ge F800 104 dX8_digest_80 (by decide) (fun _ => ?_) (fun h9 => absurd (by decide) h9)
  refine j_iinc F800 7 [some (.ref mo), some (.long 6655887997327684786), none, some (.int 7), some (.ref v686), some (.ref v686), some (.int 0), some (.int 0), none] dX8_digest_104 rfl (by decide) (by decide) rfl rfl ?_
  refine j_goto F800 11 dX8_digest_107 (by decide) ?_
  refine j_iload_n F800 dX8_digest_11 rfl ?_
  refine j_bipush F800 10 dX8_digest_12 (by decide) ?_
  refine j_icmp_ge F800 110 dX8_digest_14 (by decide) (fun h9 => absurd h9 (by decide)) (fun _ => ?_)
  refine j_aload_n F800 dX8_digest_17 rfl ?_
  refine j_iload_n F800 dX8_digest_18 rfl ?_
  have hKm814 : Kp M783 [] M783 := by
    intro b x hb hx
    exact hx
  have hMo813 := Mo.mono hp785m hKm814
  refine m_cVr S (n1 := 1) (rest := []) (r_X8_row X.l G X.A M783 7 (by decide) hMo813) ⟨_, _, _, _, rfl, (gBV kB_X8_row (by decide +kernel)), rfl, rfl, (by decide +kernel), ⟨(Nat.le_of_ble_eq_true rfl), (Nat.le_of_ble_eq_true rfl)⟩⟩ h794 rfl rfl (Nat.le_of_ble_eq_true rfl) (Nat.le_of_ble_eq_true rfl) (Nat.le_of_ble_eq_true rfl) rfl dX8_digest_19 (fun v815 M816 hD817 hp818 => ?_)
  obtain ⟨hp818m, hp818k, hp818a⟩ := hp818
  have n819 : v17 ∉ [mo, ka] := by
    intro h9; simp only [List.mem_cons, List.not_mem_nil, or_false] at h9
    rcases h9 with h9 | h9
    · exact (In.ne hD784 h28 h794 (by simp)) h9
    · exact (In.ne hD784 h28 h798 (by simp)) h9
  have n820 : v116 ∉ [mo, ka] := by
    intro h9; simp only [List.mem_cons, List.not_mem_nil, or_false] at h9
    rcases h9 with h9 | h9
    · exact (In.ne hD784 h128 h794 (by simp)) h9
    · exact (In.ne hD784 h128 h798 (by simp)) h9
  have n821 : v220 ∉ [mo, ka] := by
    intro h9; simp only [List.mem_cons, List.not_mem_nil, or_false] at h9
    rcases h9 with h9 | h9
    · exact (In.ne hD784 h233 h794 (by simp)) h9
    · exact (In.ne hD784 h233 h798 (by simp)) h9
  have n822 : v329 ∉ [mo, ka] := by
    intro h9; simp only [List.mem_cons, List.not_mem_nil, or_false] at h9
    rcases h9 with h9 | h9
    · exact (In.ne hD784 h343 h794 (by simp)) h9
    · exact (In.ne hD784 h343 h798 (by simp)) h9
  have n823 : v443 ∉ [mo, ka] := by
    intro h9; simp only [List.mem_cons, List.not_mem_nil, or_false] at h9
    rcases h9 with h9 | h9
    · exact (In.ne hD784 h458 h794 (by simp)) h9
    · exact (In.ne hD784 h458 h798 (by simp)) h9
  have n824 : v562 ∉ [mo, ka] := by
    intro h9; simp only [List.mem_cons, List.not_mem_nil, or_false] at h9
    rcases h9 with h9 | h9
    · exact (In.ne hD784 h578 h794 (by simp)) h9
    · exact (In.ne hD784 h578 h798 (by simp)) h9
  have n825 : v686 ∉ [mo, ka] := by
    intro h9; simp only [List.mem_cons, List.not_mem_nil, or_false] at h9
    rcases h9 with h9 | h9
    · exact (In.ne hD784 h703 h794 (by simp)) h9
    · exact (In.ne hD784 h703 h798 (by simp)) h9
  have h28 := hp818k _ _ n819 h28
  have h128 := hp818k _ _ n820 h128
  have h233 := hp818k _ _ n821 h233
  have h343 := hp818k _ _ n822 h343
  have h458 := hp818k _ _ n823 h458
  have h578 := hp818k _ _ n824 h578
  have h703 := hp818k _ _ n825 h703
  obtain ⟨pl826, pe826, f826, kn826, tf826, o826_0, o826_1, o826_2, o826_3, o826_4, o826_5, o826_6, o826_7⟩ := id hp818m
  have h827 : (mo, (.inr (8, [.int 0, .ref pl826, .ref ka, .ref ta]) : va_E)) ∈ M816 := o826_0
  have h828 : (pl826, (.inr (10, [.int 10, .ref pe826, .int 10]) : va_E)) ∈ M816 := o826_1
  have h829 : (pe826, (.inl (G.cO, 10, .inr (.inr (.inr (.inr f826)))) : va_E)) ∈ M816 := o826_2
  have h830 : (ta, (.inl (G.Z.cI, 8, .inl tf826) : va_E)) ∈ M816 := o826_4
  have h831 : (ka, (.inl (G.cR, 10, .inr (.inr (.inr (.inr kn826)))) : va_E)) ∈ M816 := o826_6
  have hDo832 := hD817
  have h833 := hp818a
  have F834 := S.1.at 244 904 (Nat.le_of_ble_eq_true rfl) (Nat.le_of_ble_eq_true rfl)
  refine j_astore F834 [some (.ref mo), some (.long 6655887997327684786), none, some (.int 7), some (.ref v815), some (.ref v686), some (.int 0), some (.int 0), none] dX8_digest_22 (by decide) rfl rfl ?_
  refine j_iconst F834 0 dX8_digest_24 (by decide) ?_
  refine j_istore F834 [some (.ref mo), some (.long 6655887997327684786), none, some (.int 7), some (.ref v815), some (.int 0), some (.int 0), some (.int 0), none] dX8_digest_25 (by decide) rfl rfl ?_
  refine j_iload F834 dX8_digest_27 rfl ?_
  refine j_iconst F834 4 dX8_digest_29 (by decide) ?_
  refine j_icmp_ge F834 52 dX8_digest_30 (by decide) (fun h9 => absurd h9 (by decide)) (fun _ => ?_)
  refine j_lload_n F834 dX8_digest_33 rfl ?_
  refine j_aload_n F834 dX8_digest_34 rfl ?_
  refine j_iload_n F834 dX8_digest_35 rfl ?_
  refine j_iload F834 dX8_digest_36 rfl ?_
  have hKm836 : Kp M816 [] M816 := by
    intro b x hb hx
    exact hx
  have hMo835 := Mo.mono hp818m hKm836
  refine m_cVi S (n1 := 2) (rest := [.long 6655887997327684786]) (r_X8_of X.l G X.A M816 7 (by decide) 0 (by decide) hMo835) ⟨_, _, _, _, rfl, (gBV kB_X8_of (by decide +kernel)), rfl, rfl, (by decide +kernel), ⟨(Nat.le_of_ble_eq_true rfl), (Nat.le_of_ble_eq_true rfl)⟩⟩ h827 rfl rfl (Nat.le_of_ble_eq_true rfl) (Nat.le_of_ble_eq_true rfl) (Nat.le_of_ble_eq_true rfl) rfl dX8_digest_38 (fun v837 M838 hD839 hp840 => ?_)
  obtain ⟨hp840m, hp840k, hp840v⟩ := hp840
  subst hp840v
  have n841 : v17 ∉ [mo, ka] := by
    intro h9; simp only [List.mem_cons, List.not_mem_nil, or_false] at h9
    rcases h9 with h9 | h9
    · exact (In.ne hD817 h28 h827 (by simp)) h9
    · exact (In.ne hD817 h28 h831 (by simp)) h9
  have n842 : v116 ∉ [mo, ka] := by
    intro h9; simp only [List.mem_cons, List.not_mem_nil, or_false] at h9
    rcases h9 with h9 | h9
    · exact (In.ne hD817 h128 h827 (by simp)) h9
    · exact (In.ne hD817 h128 h831 (by simp)) h9
  have n843 : v220 ∉ [mo, ka] := by
    intro h9; simp only [List.mem_cons, List.not_mem_nil, or_false] at h9
    rcases h9 with h9 | h9
    · exact (In.ne hD817 h233 h827 (by simp)) h9
    · exact (In.ne hD817 h233 h831 (by simp)) h9
  have n844 : v329 ∉ [mo, ka] := by
    intro h9; simp only [List.mem_cons, List.not_mem_nil, or_false] at h9
    rcases h9 with h9 | h9
    · exact (In.ne hD817 h343 h827 (by simp)) h9
    · exact (In.ne hD817 h343 h831 (by simp)) h9
  have n845 : v443 ∉ [mo, ka] := by
    intro h9; simp only [List.mem_cons, List.not_mem_nil, or_false] at h9
    rcases h9 with h9 | h9
    · exact (In.ne hD817 h458 h827 (by simp)) h9
    · exact (In.ne hD817 h458 h831 (by simp)) h9
  have n846 : v562 ∉ [mo, ka] := by
    intro h9; simp only [List.mem_cons, List.not_mem_nil, or_false] at h9
    rcases h9 with h9 | h9
    · exact (In.ne hD817 h578 h827 (by simp)) h9
    · exact (In.ne hD817 h578 h831 (by simp)) h9
  have n847 : v686 ∉ [mo, ka] := by
    intro h9; simp only [List.mem_cons, List.not_mem_nil, or_false] at h9
    rcases h9 with h9 | h9
    · exact (In.ne hD817 h703 h827 (by simp)) h9
    · exact (In.ne hD817 h703 h831 (by simp)) h9
  have n848 : v815 ∉ [mo, ka] := by
    intro h9; simp only [List.mem_cons, List.not_mem_nil, or_false] at h9
    rcases h9 with h9 | h9
    · exact (In.ne hD817 h833 h827 (by simp)) h9
    · exact (In.ne hD817 h833 h831 (by simp)) h9
  have h28 := hp840k _ _ n841 h28
  have h128 := hp840k _ _ n842 h128
  have h233 := hp840k _ _ n843 h233
  have h343 := hp840k _ _ n844 h343
  have h458 := hp840k _ _ n845 h458
  have h578 := hp840k _ _ n846 h578
  have h703 := hp840k _ _ n847 h703
  have h833 := hp840k _ _ n848 h833
  obtain ⟨pl849, pe849, f849, kn849, tf849, o849_0, o849_1, o849_2, o849_3, o849_4, o849_5, o849_6, o849_7⟩ := id hp840m
  have h850 : (mo, (.inr (8, [.int 0, .ref pl849, .ref ka, .ref ta]) : va_E)) ∈ M838 := o849_0
  have h851 : (pl849, (.inr (10, [.int 10, .ref pe849, .int 10]) : va_E)) ∈ M838 := o849_1
  have h852 : (pe849, (.inl (G.cO, 10, .inr (.inr (.inr (.inr f849)))) : va_E)) ∈ M838 := o849_2
  have h853 : (ta, (.inl (G.Z.cI, 8, .inl tf849) : va_E)) ∈ M838 := o849_4
  have h854 : (ka, (.inl (G.cR, 10, .inr (.inr (.inr (.inr kn849)))) : va_E)) ∈ M838 := o849_6
  have hDo855 := hD839
  have F856 := S.1.at 251 930 (Nat.le_of_ble_eq_true rfl) (Nat.le_of_ble_eq_true rfl)
  refine j_i2l F856 0 dX8_digest_41 (by decide) ?_
  refine m_cSl S (n1 := 2) (rest := []) (r_X8_add X.l G X.A M838 6655887997327684786 0) ⟨_, _, _, _, rfl, (gBS kB_X8_add (by decide +kernel)), rfl, rfl, (by decide +kernel), ⟨(Nat.le_of_ble_eq_true rfl), (Nat.le_of_ble_eq_true rfl)⟩⟩ rfl (Nat.le_of_ble_eq_true rfl) (Nat.le_of_ble_eq_true rfl) (Nat.le_of_ble_eq_true rfl) rfl dX8_digest_42 (fun v857 M858 hD859 hp860 => ?_)
  obtain ⟨hp860v, hp860m⟩ := hp860
  have hp860v : (3418343106353160590 : Int64) = v857 := (by decide : (3418343106353160590 : Int64) = 6655887997327684786 * 31 + 0).trans hp860v
  subst hp860v
  subst hp860m
  refine j_lstore_n F856 [some (.ref mo), some (.long 3418343106353160590), none, some (.int 7), some (.ref v815), some (.int 0), some (.int 0), some (.int 0), none] dX8_digest_45 (by decide) rfl rfl ?_
  refine j_iinc F856 1 [some (.ref mo), some (.long 3418343106353160590), none, some (.int 7), some (.ref v815), some (.int 1), some (.int 0), some (.int 0), none] dX8_digest_46 rfl (by decide) (by decide) rfl rfl ?_
  refine j_goto F856 27 dX8_digest_49 (by decide) ?_
  refine j_iload F856 dX8_digest_27 rfl ?_
  refine j_iconst F856 4 dX8_digest_29 (by decide) ?_
  refine j_icmp_ge F856 52 dX8_digest_30 (by decide) (fun h9 => absurd h9 (by decide)) (fun _ => ?_)
  refine j_lload_n F856 dX8_digest_33 rfl ?_
  refine j_aload_n F856 dX8_digest_34 rfl ?_
  refine j_iload_n F856 dX8_digest_35 rfl ?_
  refine j_iload F856 dX8_digest_36 rfl ?_
  have hKm862 : Kp M838 [] M838 := by
    intro b x hb hx
    exact hx
  have hMo861 := Mo.mono hp840m hKm862
  refine m_cVi S (n1 := 2) (rest := [.long 3418343106353160590]) (r_X8_of X.l G X.A M838 7 (by decide) 1 (by decide) hMo861) ⟨_, _, _, _, rfl, (gBV kB_X8_of (by decide +kernel)), rfl, rfl, (by decide +kernel), ⟨(Nat.le_of_ble_eq_true rfl), (Nat.le_of_ble_eq_true rfl)⟩⟩ h850 rfl rfl (Nat.le_of_ble_eq_true rfl) (Nat.le_of_ble_eq_true rfl) (Nat.le_of_ble_eq_true rfl) rfl dX8_digest_38 (fun v863 M864 hD865 hp866 => ?_)
  obtain ⟨hp866m, hp866k, hp866v⟩ := hp866
  subst hp866v
  have n867 : v17 ∉ [mo, ka] := by
    intro h9; simp only [List.mem_cons, List.not_mem_nil, or_false] at h9
    rcases h9 with h9 | h9
    · exact (In.ne hD839 h28 h850 (by simp)) h9
    · exact (In.ne hD839 h28 h854 (by simp)) h9
  have n868 : v116 ∉ [mo, ka] := by
    intro h9; simp only [List.mem_cons, List.not_mem_nil, or_false] at h9
    rcases h9 with h9 | h9
    · exact (In.ne hD839 h128 h850 (by simp)) h9
    · exact (In.ne hD839 h128 h854 (by simp)) h9
  have n869 : v220 ∉ [mo, ka] := by
    intro h9; simp only [List.mem_cons, List.not_mem_nil, or_false] at h9
    rcases h9 with h9 | h9
    · exact (In.ne hD839 h233 h850 (by simp)) h9
    · exact (In.ne hD839 h233 h854 (by simp)) h9
  have n870 : v329 ∉ [mo, ka] := by
    intro h9; simp only [List.mem_cons, List.not_mem_nil, or_false] at h9
    rcases h9 with h9 | h9
    · exact (In.ne hD839 h343 h850 (by simp)) h9
    · exact (In.ne hD839 h343 h854 (by simp)) h9
  have n871 : v443 ∉ [mo, ka] := by
    intro h9; simp only [List.mem_cons, List.not_mem_nil, or_false] at h9
    rcases h9 with h9 | h9
    · exact (In.ne hD839 h458 h850 (by simp)) h9
    · exact (In.ne hD839 h458 h854 (by simp)) h9
  have n872 : v562 ∉ [mo, ka] := by
    intro h9; simp only [List.mem_cons, List.not_mem_nil, or_false] at h9
    rcases h9 with h9 | h9
    · exact (In.ne hD839 h578 h850 (by simp)) h9
    · exact (In.ne hD839 h578 h854 (by simp)) h9
  have n873 : v686 ∉ [mo, ka] := by
    intro h9; simp only [List.mem_cons, List.not_mem_nil, or_false] at h9
    rcases h9 with h9 | h9
    · exact (In.ne hD839 h703 h850 (by simp)) h9
    · exact (In.ne hD839 h703 h854 (by simp)) h9
  have n874 : v815 ∉ [mo, ka] := by
    intro h9; simp only [List.mem_cons, List.not_mem_nil, or_false] at h9
    rcases h9 with h9 | h9
    · exact (In.ne hD839 h833 h850 (by simp)) h9
    · exact (In.ne hD839 h833 h854 (by simp)) h9
  have h28 := hp866k _ _ n867 h28
  have h128 := hp866k _ _ n868 h128
  have h233 := hp866k _ _ n869 h233
  have h343 := hp866k _ _ n870 h343
  have h458 := hp866k _ _ n871 h458
  have h578 := hp866k _ _ n872 h578
  have h703 := hp866k _ _ n873 h703
  have h833 := hp866k _ _ n874 h833
  obtain ⟨pl875, pe875, f875, kn875, tf875, o875_0, o875_1, o875_2, o875_3, o875_4, o875_5, o875_6, o875_7⟩ := id hp866m
  have h876 : (mo, (.inr (8, [.int 0, .ref pl875, .ref ka, .ref ta]) : va_E)) ∈ M864 := o875_0
  have h877 : (pl875, (.inr (10, [.int 10, .ref pe875, .int 10]) : va_E)) ∈ M864 := o875_1
  have h878 : (pe875, (.inl (G.cO, 10, .inr (.inr (.inr (.inr f875)))) : va_E)) ∈ M864 := o875_2
  have h879 : (ta, (.inl (G.Z.cI, 8, .inl tf875) : va_E)) ∈ M864 := o875_4
  have h880 : (ka, (.inl (G.cR, 10, .inr (.inr (.inr (.inr kn875)))) : va_E)) ∈ M864 := o875_6
  have hDo881 := hD865
  have F882 := S.1.at 258 956 (Nat.le_of_ble_eq_true rfl) (Nat.le_of_ble_eq_true rfl)
  refine j_i2l F882 0 dX8_digest_41 (by decide) ?_
  refine m_cSl S (n1 := 2) (rest := []) (r_X8_add X.l G X.A M864 3418343106353160590 0) ⟨_, _, _, _, rfl, (gBS kB_X8_add (by decide +kernel)), rfl, rfl, (by decide +kernel), ⟨(Nat.le_of_ble_eq_true rfl), (Nat.le_of_ble_eq_true rfl)⟩⟩ rfl (Nat.le_of_ble_eq_true rfl) (Nat.le_of_ble_eq_true rfl) (Nat.le_of_ble_eq_true rfl) rfl dX8_digest_42 (fun v883 M884 hD885 hp886 => ?_)
  obtain ⟨hp886v, hp886m⟩ := hp886
  have hp886v : (-4711828145309331406 : Int64) = v883 := (by decide : (-4711828145309331406 : Int64) = 3418343106353160590 * 31 + 0).trans hp886v
  subst hp886v
  subst hp886m
  refine j_lstore_n F882 [some (.ref mo), some (.long (-4711828145309331406)), none, some (.int 7), some (.ref v815), some (.int 1), some (.int 0), some (.int 0), none] dX8_digest_45 (by decide) rfl rfl ?_
  refine j_iinc F882 2 [some (.ref mo), some (.long (-4711828145309331406)), none, some (.int 7), some (.ref v815), some (.int 2), some (.int 0), some (.int 0), none] dX8_digest_46 rfl (by decide) (by decide) rfl rfl ?_
  refine j_goto F882 27 dX8_digest_49 (by decide) ?_
  refine j_iload F882 dX8_digest_27 rfl ?_
  refine j_iconst F882 4 dX8_digest_29 (by decide) ?_
  refine j_icmp_ge F882 52 dX8_digest_30 (by decide) (fun h9 => absurd h9 (by decide)) (fun _ => ?_)
  refine j_lload_n F882 dX8_digest_33 rfl ?_
  refine j_aload_n F882 dX8_digest_34 rfl ?_
  refine j_iload_n F882 dX8_digest_35 rfl ?_
  refine j_iload F882 dX8_digest_36 rfl ?_
  have hKm888 : Kp M864 [] M864 := by
    intro b x hb hx
    exact hx
  have hMo887 := Mo.mono hp866m hKm888
  refine m_cVi S (n1 := 2) (rest := [.long (-4711828145309331406)]) (r_X8_of X.l G X.A M864 7 (by decide) 2 (by decide) hMo887) ⟨_, _, _, _, rfl, (gBV kB_X8_of (by decide +kernel)), rfl, rfl, (by decide +kernel), ⟨(Nat.le_of_ble_eq_true rfl), (Nat.le_of_ble_eq_true rfl)⟩⟩ h876 rfl rfl (Nat.le_of_ble_eq_true rfl) (Nat.le_of_ble_eq_true rfl) (Nat.le_of_ble_eq_true rfl) rfl dX8_digest_38 (fun v889 M890 hD891 hp892 => ?_)
  obtain ⟨hp892m, hp892k, hp892v⟩ := hp892
  subst hp892v
  have n893 : v17 ∉ [mo, ka] := by
    intro h9; simp only [List.mem_cons, List.not_mem_nil, or_false] at h9
    rcases h9 with h9 | h9
    · exact (In.ne hD865 h28 h876 (by simp)) h9
    · exact (In.ne hD865 h28 h880 (by simp)) h9
  have n894 : v116 ∉ [mo, ka] := by
    intro h9; simp only [List.mem_cons, List.not_mem_nil, or_false] at h9
    rcases h9 with h9 | h9
    · exact (In.ne hD865 h128 h876 (by simp)) h9
    · exact (In.ne hD865 h128 h880 (by simp)) h9
  have n895 : v220 ∉ [mo, ka] := by
    intro h9; simp only [List.mem_cons, List.not_mem_nil, or_false] at h9
    rcases h9 with h9 | h9
    · exact (In.ne hD865 h233 h876 (by simp)) h9
    · exact (In.ne hD865 h233 h880 (by simp)) h9
  have n896 : v329 ∉ [mo, ka] := by
    intro h9; simp only [List.mem_cons, List.not_mem_nil, or_false] at h9
    rcases h9 with h9 | h9
    · exact (In.ne hD865 h343 h876 (by simp)) h9
    · exact (In.ne hD865 h343 h880 (by simp)) h9
  have n897 : v443 ∉ [mo, ka] := by
    intro h9; simp only [List.mem_cons, List.not_mem_nil, or_false] at h9
    rcases h9 with h9 | h9
    · exact (In.ne hD865 h458 h876 (by simp)) h9
    · exact (In.ne hD865 h458 h880 (by simp)) h9
  have n898 : v562 ∉ [mo, ka] := by
    intro h9; simp only [List.mem_cons, List.not_mem_nil, or_false] at h9
    rcases h9 with h9 | h9
    · exact (In.ne hD865 h578 h876 (by simp)) h9
    · exact (In.ne hD865 h578 h880 (by simp)) h9
  have n899 : v686 ∉ [mo, ka] := by
    intro h9; simp only [List.mem_cons, List.not_mem_nil, or_false] at h9
    rcases h9 with h9 | h9
    · exact (In.ne hD865 h703 h876 (by simp)) h9
    · exact (In.ne hD865 h703 h880 (by simp)) h9
  have n900 : v815 ∉ [mo, ka] := by
    intro h9; simp only [List.mem_cons, List.not_mem_nil, or_false] at h9
    rcases h9 with h9 | h9
    · exact (In.ne hD865 h833 h876 (by simp)) h9
    · exact (In.ne hD865 h833 h880 (by simp)) h9
  have h28 := hp892k _ _ n893 h28
  have h128 := hp892k _ _ n894 h128
  have h233 := hp892k _ _ n895 h233
  have h343 := hp892k _ _ n896 h343
  have h458 := hp892k _ _ n897 h458
  have h578 := hp892k _ _ n898 h578
  have h703 := hp892k _ _ n899 h703
  have h833 := hp892k _ _ n900 h833
  obtain ⟨pl901, pe901, f901, kn901, tf901, o901_0, o901_1, o901_2, o901_3, o901_4, o901_5, o901_6, o901_7⟩ := id hp892m
  have h902 : (mo, (.inr (8, [.int 0, .ref pl901, .ref ka, .ref ta]) : va_E)) ∈ M890 := o901_0
  have h903 : (pl901, (.inr (10, [.int 10, .ref pe901, .int 10]) : va_E)) ∈ M890 := o901_1
  have h904 : (pe901, (.inl (G.cO, 10, .inr (.inr (.inr (.inr f901)))) : va_E)) ∈ M890 := o901_2
  have h905 : (ta, (.inl (G.Z.cI, 8, .inl tf901) : va_E)) ∈ M890 := o901_4
  have h906 : (ka, (.inl (G.cR, 10, .inr (.inr (.inr (.inr kn901)))) : va_E)) ∈ M890 := o901_6
  have hDo907 := hD891
  have F908 := S.1.at 265 982 (Nat.le_of_ble_eq_true rfl) (Nat.le_of_ble_eq_true rfl)
  refine j_i2l F908 0 dX8_digest_41 (by decide) ?_
  refine m_cSl S (n1 := 2) (rest := []) (r_X8_add X.l G X.A M890 (-4711828145309331406) 0) ⟨_, _, _, _, rfl, (gBS kB_X8_add (by decide +kernel)), rfl, rfl, (by decide +kernel), ⟨(Nat.le_of_ble_eq_true rfl), (Nat.le_of_ble_eq_true rfl)⟩⟩ rfl (Nat.le_of_ble_eq_true rfl) (Nat.le_of_ble_eq_true rfl) (Nat.le_of_ble_eq_true rfl) rfl dX8_digest_42 (fun v909 M910 hD911 hp912 => ?_)
  obtain ⟨hp912v, hp912m⟩ := hp912
  have hp912v : (1507280085087139342 : Int64) = v909 := (by decide : (1507280085087139342 : Int64) = (-4711828145309331406) * 31 + 0).trans hp912v
  subst hp912v
  subst hp912m
  refine j_lstore_n F908 [some (.ref mo), some (.long 1507280085087139342), none, some (.int 7), some (.ref v815), some (.int 2), some (.int 0), some (.int 0), none] dX8_digest_45 (by decide) rfl rfl ?_
  refine j_iinc F908 3 [some (.ref mo), some (.long 1507280085087139342), none, some (.int 7), some (.ref v815), some (.int 3), some (.int 0), some (.int 0), none] dX8_digest_46 rfl (by decide) (by decide) rfl rfl ?_
  refine j_goto F908 27 dX8_digest_49 (by decide) ?_
  refine j_iload F908 dX8_digest_27 rfl ?_
  refine j_iconst F908 4 dX8_digest_29 (by decide) ?_
  refine j_icmp_ge F908 52 dX8_digest_30 (by decide) (fun h9 => absurd h9 (by decide)) (fun _ => ?_)
  refine j_lload_n F908 dX8_digest_33 rfl ?_
  refine j_aload_n F908 dX8_digest_34 rfl ?_
  refine j_iload_n F908 dX8_digest_35 rfl ?_
  refine j_iload F908 dX8_digest_36 rfl ?_
  have hKm914 : Kp M890 [] M890 := by
    intro b x hb hx
    exact hx
  have hMo913 := Mo.mono hp892m hKm914
  refine m_cVi S (n1 := 2) (rest := [.long 1507280085087139342]) (r_X8_of X.l G X.A M890 7 (by decide) 3 (by decide) hMo913) ⟨_, _, _, _, rfl, (gBV kB_X8_of (by decide +kernel)), rfl, rfl, (by decide +kernel), ⟨(Nat.le_of_ble_eq_true rfl), (Nat.le_of_ble_eq_true rfl)⟩⟩ h902 rfl rfl (Nat.le_of_ble_eq_true rfl) (Nat.le_of_ble_eq_true rfl) (Nat.le_of_ble_eq_true rfl) rfl dX8_digest_38 (fun v915 M916 hD917 hp918 => ?_)
  obtain ⟨hp918m, hp918k, hp918v⟩ := hp918
  subst hp918v
  have n919 : v17 ∉ [mo, ka] := by
    intro h9; simp only [List.mem_cons, List.not_mem_nil, or_false] at h9
    rcases h9 with h9 | h9
    · exact (In.ne hD891 h28 h902 (by simp)) h9
    · exact (In.ne hD891 h28 h906 (by simp)) h9
  have n920 : v116 ∉ [mo, ka] := by
    intro h9; simp only [List.mem_cons, List.not_mem_nil, or_false] at h9
    rcases h9 with h9 | h9
    · exact (In.ne hD891 h128 h902 (by simp)) h9
    · exact (In.ne hD891 h128 h906 (by simp)) h9
  have n921 : v220 ∉ [mo, ka] := by
    intro h9; simp only [List.mem_cons, List.not_mem_nil, or_false] at h9
    rcases h9 with h9 | h9
    · exact (In.ne hD891 h233 h902 (by simp)) h9
    · exact (In.ne hD891 h233 h906 (by simp)) h9
  have n922 : v329 ∉ [mo, ka] := by
    intro h9; simp only [List.mem_cons, List.not_mem_nil, or_false] at h9
    rcases h9 with h9 | h9
    · exact (In.ne hD891 h343 h902 (by simp)) h9
    · exact (In.ne hD891 h343 h906 (by simp)) h9
  have n923 : v443 ∉ [mo, ka] := by
    intro h9; simp only [List.mem_cons, List.not_mem_nil, or_false] at h9
    rcases h9 with h9 | h9
    · exact (In.ne hD891 h458 h902 (by simp)) h9
    · exact (In.ne hD891 h458 h906 (by simp)) h9
  have n924 : v562 ∉ [mo, ka] := by
    intro h9; simp only [List.mem_cons, List.not_mem_nil, or_false] at h9
    rcases h9 with h9 | h9
    · exact (In.ne hD891 h578 h902 (by simp)) h9
    · exact (In.ne hD891 h578 h906 (by simp)) h9
  have n925 : v686 ∉ [mo, ka] := by
    intro h9; simp only [List.mem_cons, List.not_mem_nil, or_false] at h9
    rcases h9 with h9 | h9
    · exact (In.ne hD891 h703 h902 (by simp)) h9
    · exact (In.ne hD891 h703 h906 (by simp)) h9
  have n926 : v815 ∉ [mo, ka] := by
    intro h9; simp only [List.mem_cons, List.not_mem_nil, or_false] at h9
    rcases h9 with h9 | h9
    · exact (In.ne hD891 h833 h902 (by simp)) h9
    · exact (In.ne hD891 h833 h906 (by simp)) h9
  have h28 := hp918k _ _ n919 h28
  have h128 := hp918k _ _ n920 h128
  have h233 := hp918k _ _ n921 h233
  have h343 := hp918k _ _ n922 h343
  have h458 := hp918k _ _ n923 h458
  have h578 := hp918k _ _ n924 h578
  have h703 := hp918k _ _ n925 h703
  have h833 := hp918k _ _ n926 h833
  obtain ⟨pl927, pe927, f927, kn927, tf927, o927_0, o927_1, o927_2, o927_3, o927_4, o927_5, o927_6, o927_7⟩ := id hp918m
  have h928 : (mo, (.inr (8, [.int 0, .ref pl927, .ref ka, .ref ta]) : va_E)) ∈ M916 := o927_0
  have h929 : (pl927, (.inr (10, [.int 10, .ref pe927, .int 10]) : va_E)) ∈ M916 := o927_1
  have h930 : (pe927, (.inl (G.cO, 10, .inr (.inr (.inr (.inr f927)))) : va_E)) ∈ M916 := o927_2
  have h931 : (ta, (.inl (G.Z.cI, 8, .inl tf927) : va_E)) ∈ M916 := o927_4
  have h932 : (ka, (.inl (G.cR, 10, .inr (.inr (.inr (.inr kn927)))) : va_E)) ∈ M916 := o927_6
  have hDo933 := hD917
  have F934 := S.1.at 272 1008 (Nat.le_of_ble_eq_true rfl) (Nat.le_of_ble_eq_true rfl)
  refine j_i2l F934 (-1) dX8_digest_41 (by decide) ?_
  refine m_cSl S (n1 := 2) (rest := []) (r_X8_add X.l G X.A M916 1507280085087139342 (-1)) ⟨_, _, _, _, rfl, (gBS kB_X8_add (by decide +kernel)), rfl, rfl, (by decide +kernel), ⟨(Nat.le_of_ble_eq_true rfl), (Nat.le_of_ble_eq_true rfl)⟩⟩ rfl (Nat.le_of_ble_eq_true rfl) (Nat.le_of_ble_eq_true rfl) (Nat.le_of_ble_eq_true rfl) rfl dX8_digest_42 (fun v935 M936 hD937 hp938 => ?_)
  obtain ⟨hp938v, hp938m⟩ := hp938
  have hp938v : (-8614549583427335247 : Int64) = v935 := (by decide : (-8614549583427335247 : Int64) = 1507280085087139342 * 31 + (-1)).trans hp938v
  subst hp938v
  subst hp938m
  refine j_lstore_n F934 [some (.ref mo), some (.long (-8614549583427335247)), none, some (.int 7), some (.ref v815), some (.int 3), some (.int 0), some (.int 0), none] dX8_digest_45 (by decide) rfl rfl ?_
  refine j_iinc F934 4 [some (.ref mo), some (.long (-8614549583427335247)), none, some (.int 7), some (.ref v815), some (.int 4), some (.int 0), some (.int 0), none] dX8_digest_46 rfl (by decide) (by decide) rfl rfl ?_
  refine j_goto F934 27 dX8_digest_49 (by decide) ?_
  refine j_iload F934 dX8_digest_27 rfl ?_
  refine j_iconst F934 4 dX8_digest_29 (by decide) ?_
  refine j_icmp_ge F934 52 dX8_digest_30 (by decide) (fun _ => ?_) (fun h9 => absurd (by decide) h9)
  refine j_lload_n F934 dX8_digest_52 rfl ?_
  refine j_aload_n F934 dX8_digest_53 rfl ?_
  refine j_aload F934 dX8_digest_54 rfl ?_
  refine m_cVi S (n1 := 1) (rest := [.long (-8614549583427335247)]) (r_X8_periodOf X.l G X.A M916 (mo := mo) (pl := mo) (ka := mo) (ta := mo) (tv := 0) h833) ⟨_, _, _, _, rfl, (gBV kB_X8_periodOf (by decide +kernel)), rfl, rfl, (by decide +kernel), ⟨(Nat.le_of_ble_eq_true rfl), (Nat.le_of_ble_eq_true rfl)⟩⟩ h928 rfl rfl (Nat.le_of_ble_eq_true rfl) (Nat.le_of_ble_eq_true rfl) (Nat.le_of_ble_eq_true rfl) rfl dX8_digest_56 (fun v939 M940 hD941 hp942 => ?_)
  obtain ⟨hp942a, hp942b⟩ := hp942
  subst hp942a
  subst hp942b
  refine j_i2l F934 0 dX8_digest_59 (by decide) ?_
  refine m_cSl S (n1 := 2) (rest := []) (r_X8_add X.l G X.A M916 (-8614549583427335247) 0) ⟨_, _, _, _, rfl, (gBS kB_X8_add (by decide +kernel)), rfl, rfl, (by decide +kernel), ⟨(Nat.le_of_ble_eq_true rfl), (Nat.le_of_ble_eq_true rfl)⟩⟩ rfl (Nat.le_of_ble_eq_true rfl) (Nat.le_of_ble_eq_true rfl) (Nat.le_of_ble_eq_true rfl) rfl dX8_digest_60 (fun v943 M944 hD945 hp946 => ?_)
  obtain ⟨hp946v, hp946m⟩ := hp946
  have hp946v : (-8796620054313670033 : Int64) = v943 := (by decide : (-8796620054313670033 : Int64) = (-8614549583427335247) * 31 + 0).trans hp946v
  subst hp946v
  subst hp946m
  refine j_lstore_n F934 [some (.ref mo), some (.long (-8796620054313670033)), none, some (.int 7), some (.ref v815), some (.int 4), some (.int 0), some (.int 0), none] dX8_digest_63 (by decide) rfl rfl ?_
  refine j_aload F934 dX8_digest_64 rfl ?_
  refine j_astore F934 [some (.ref mo), some (.long (-8796620054313670033)), none, some (.int 7), some (.ref v815), some (.ref v815), some (.int 0), some (.int 0), none] dX8_digest_66 (by decide) rfl rfl ?_
  refine j_aload F934 dX8_digest_68 rfl ?_
  refine m_alen S (t0 := 0) (v := 0) h833 rfl (by first | decide | rfl) dX8_digest_70 ?_
  refine j_istore F934 [some (.ref mo), some (.long (-8796620054313670033)), none, some (.int 7), some (.ref v815), some (.ref v815), some (.int 0), some (.int 0), none] dX8_digest_71 (by decide) rfl rfl ?_
  refine j_iconst F934 0 dX8_digest_73 (by decide) ?_
  refine j_istore F934 [some (.ref mo), some (.long (-8796620054313670033)), none, some (.int 7), some (.ref v815), some (.ref v815), some (.int 0), some (.int 0), none] dX8_digest_74 (by decide) rfl rfl ?_
  refine j_iload F934 dX8_digest_76 rfl ?_
  refine j_iload F934 dX8_digest_78 rfl ?_
  refine j_icmp_ge F934 104 dX8_digest_80 (by decide) (fun _ => ?_) (fun h9 => absurd (by decide) h9)
  refine j_iinc F934 8 [some (.ref mo), some (.long (-8796620054313670033)), none, some (.int 8), some (.ref v815), some (.ref v815), some (.int 0), some (.int 0), none] dX8_digest_104 rfl (by decide) (by decide) rfl rfl ?_
  refine j_goto F934 11 dX8_digest_107 (by decide) ?_
  refine j_iload_n F934 dX8_digest_11 rfl ?_
  refine j_bipush F934 10 dX8_digest_12 (by decide) ?_
  refine j_icmp_ge F934 110 dX8_digest_14 (by decide) (fun h9 => absurd h9 (by decide)) (fun _ => ?_)
  refine j_aload_n F934 dX8_digest_17 rfl ?_
  refine j_iload_n F934 dX8_digest_18 rfl ?_
  have hKm948 : Kp M916 [] M916 := by
    intro b x hb hx
    exact hx
  have hMo947 := Mo.mono hp918m hKm948
  refine m_cVr S (n1 := 1) (rest := []) (r_X8_row X.l G X.A M916 8 (by decide) hMo947) ⟨_, _, _, _, rfl, (gBV kB_X8_row (by decide +kernel)), rfl, rfl, (by decide +kernel), ⟨(Nat.le_of_ble_eq_true rfl), (Nat.le_of_ble_eq_true rfl)⟩⟩ h928 rfl rfl (Nat.le_of_ble_eq_true rfl) (Nat.le_of_ble_eq_true rfl) (Nat.le_of_ble_eq_true rfl) rfl dX8_digest_19 (fun v949 M950 hD951 hp952 => ?_)
  obtain ⟨hp952m, hp952k, hp952a⟩ := hp952
  have n953 : v17 ∉ [mo, ka] := by
    intro h9; simp only [List.mem_cons, List.not_mem_nil, or_false] at h9
    rcases h9 with h9 | h9
    · exact (In.ne hD917 h28 h928 (by simp)) h9
    · exact (In.ne hD917 h28 h932 (by simp)) h9
  have n954 : v116 ∉ [mo, ka] := by
    intro h9; simp only [List.mem_cons, List.not_mem_nil, or_false] at h9
    rcases h9 with h9 | h9
    · exact (In.ne hD917 h128 h928 (by simp)) h9
    · exact (In.ne hD917 h128 h932 (by simp)) h9
  have n955 : v220 ∉ [mo, ka] := by
    intro h9; simp only [List.mem_cons, List.not_mem_nil, or_false] at h9
    rcases h9 with h9 | h9
    · exact (In.ne hD917 h233 h928 (by simp)) h9
    · exact (In.ne hD917 h233 h932 (by simp)) h9
  have n956 : v329 ∉ [mo, ka] := by
    intro h9; simp only [List.mem_cons, List.not_mem_nil, or_false] at h9
    rcases h9 with h9 | h9
    · exact (In.ne hD917 h343 h928 (by simp)) h9
    · exact (In.ne hD917 h343 h932 (by simp)) h9
  have n957 : v443 ∉ [mo, ka] := by
    intro h9; simp only [List.mem_cons, List.not_mem_nil, or_false] at h9
    rcases h9 with h9 | h9
    · exact (In.ne hD917 h458 h928 (by simp)) h9
    · exact (In.ne hD917 h458 h932 (by simp)) h9
  have n958 : v562 ∉ [mo, ka] := by
    intro h9; simp only [List.mem_cons, List.not_mem_nil, or_false] at h9
    rcases h9 with h9 | h9
    · exact (In.ne hD917 h578 h928 (by simp)) h9
    · exact (In.ne hD917 h578 h932 (by simp)) h9
  have n959 : v686 ∉ [mo, ka] := by
    intro h9; simp only [List.mem_cons, List.not_mem_nil, or_false] at h9
    rcases h9 with h9 | h9
    · exact (In.ne hD917 h703 h928 (by simp)) h9
    · exact (In.ne hD917 h703 h932 (by simp)) h9
  have n960 : v815 ∉ [mo, ka] := by
    intro h9; simp only [List.mem_cons, List.not_mem_nil, or_false] at h9
    rcases h9 with h9 | h9
    · exact (In.ne hD917 h833 h928 (by simp)) h9
    · exact (In.ne hD917 h833 h932 (by simp)) h9
  have h28 := hp952k _ _ n953 h28
  have h128 := hp952k _ _ n954 h128
  have h233 := hp952k _ _ n955 h233
  have h343 := hp952k _ _ n956 h343
  have h458 := hp952k _ _ n957 h458
  have h578 := hp952k _ _ n958 h578
  have h703 := hp952k _ _ n959 h703
  have h833 := hp952k _ _ n960 h833
  obtain ⟨pl961, pe961, f961, kn961, tf961, o961_0, o961_1, o961_2, o961_3, o961_4, o961_5, o961_6, o961_7⟩ := id hp952m
  have h962 : (mo, (.inr (8, [.int 0, .ref pl961, .ref ka, .ref ta]) : va_E)) ∈ M950 := o961_0
  have h963 : (pl961, (.inr (10, [.int 10, .ref pe961, .int 10]) : va_E)) ∈ M950 := o961_1
  have h964 : (pe961, (.inl (G.cO, 10, .inr (.inr (.inr (.inr f961)))) : va_E)) ∈ M950 := o961_2
  have h965 : (ta, (.inl (G.Z.cI, 8, .inl tf961) : va_E)) ∈ M950 := o961_4
  have h966 : (ka, (.inl (G.cR, 10, .inr (.inr (.inr (.inr kn961)))) : va_E)) ∈ M950 := o961_6
  have hDo967 := hD951
  have h968 := hp952a
  have F969 := S.1.at 278 1030 (Nat.le_of_ble_eq_true rfl) (Nat.le_of_ble_eq_true rfl)
  refine j_astore F969 [some (.ref mo), some (.long (-8796620054313670033)), none, some (.int 8), some (.ref v949), some (.ref v815), some (.int 0), some (.int 0), none] dX8_digest_22 (by decide) rfl rfl ?_
  refine j_iconst F969 0 dX8_digest_24 (by decide) ?_
  refine j_istore F969 [some (.ref mo), some (.long (-8796620054313670033)), none, some (.int 8), some (.ref v949), some (.int 0), some (.int 0), some (.int 0), none] dX8_digest_25 (by decide) rfl rfl ?_
  refine j_iload F969 dX8_digest_27 rfl ?_
  refine j_iconst F969 4 dX8_digest_29 (by decide) ?_
  refine j_icmp_ge F969 52 dX8_digest_30 (by decide) (fun h9 => absurd h9 (by decide)) (fun _ => ?_)
  refine j_lload_n F969 dX8_digest_33 rfl ?_
  refine j_aload_n F969 dX8_digest_34 rfl ?_
  refine j_iload_n F969 dX8_digest_35 rfl ?_
  refine j_iload F969 dX8_digest_36 rfl ?_
  have hKm971 : Kp M950 [] M950 := by
    intro b x hb hx
    exact hx
  have hMo970 := Mo.mono hp952m hKm971
  refine m_cVi S (n1 := 2) (rest := [.long (-8796620054313670033)]) (r_X8_of X.l G X.A M950 8 (by decide) 0 (by decide) hMo970) ⟨_, _, _, _, rfl, (gBV kB_X8_of (by decide +kernel)), rfl, rfl, (by decide +kernel), ⟨(Nat.le_of_ble_eq_true rfl), (Nat.le_of_ble_eq_true rfl)⟩⟩ h962 rfl rfl (Nat.le_of_ble_eq_true rfl) (Nat.le_of_ble_eq_true rfl) (Nat.le_of_ble_eq_true rfl) rfl dX8_digest_38 (fun v972 M973 hD974 hp975 => ?_)
  obtain ⟨hp975m, hp975k, hp975v⟩ := hp975
  subst hp975v
  have n976 : v17 ∉ [mo, ka] := by
    intro h9; simp only [List.mem_cons, List.not_mem_nil, or_false] at h9
    rcases h9 with h9 | h9
    · exact (In.ne hD951 h28 h962 (by simp)) h9
    · exact (In.ne hD951 h28 h966 (by simp)) h9
  have n977 : v116 ∉ [mo, ka] := by
    intro h9; simp only [List.mem_cons, List.not_mem_nil, or_false] at h9
    rcases h9 with h9 | h9
    · exact (In.ne hD951 h128 h962 (by simp)) h9
    · exact (In.ne hD951 h128 h966 (by simp)) h9
  have n978 : v220 ∉ [mo, ka] := by
    intro h9; simp only [List.mem_cons, List.not_mem_nil, or_false] at h9
    rcases h9 with h9 | h9
    · exact (In.ne hD951 h233 h962 (by simp)) h9
    · exact (In.ne hD951 h233 h966 (by simp)) h9
  have n979 : v329 ∉ [mo, ka] := by
    intro h9; simp only [List.mem_cons, List.not_mem_nil, or_false] at h9
    rcases h9 with h9 | h9
    · exact (In.ne hD951 h343 h962 (by simp)) h9
    · exact (In.ne hD951 h343 h966 (by simp)) h9
  have n980 : v443 ∉ [mo, ka] := by
    intro h9; simp only [List.mem_cons, List.not_mem_nil, or_false] at h9
    rcases h9 with h9 | h9
    · exact (In.ne hD951 h458 h962 (by simp)) h9
    · exact (In.ne hD951 h458 h966 (by simp)) h9
  have n981 : v562 ∉ [mo, ka] := by
    intro h9; simp only [List.mem_cons, List.not_mem_nil, or_false] at h9
    rcases h9 with h9 | h9
    · exact (In.ne hD951 h578 h962 (by simp)) h9
    · exact (In.ne hD951 h578 h966 (by simp)) h9
  have n982 : v686 ∉ [mo, ka] := by
    intro h9; simp only [List.mem_cons, List.not_mem_nil, or_false] at h9
    rcases h9 with h9 | h9
    · exact (In.ne hD951 h703 h962 (by simp)) h9
    · exact (In.ne hD951 h703 h966 (by simp)) h9
  have n983 : v815 ∉ [mo, ka] := by
    intro h9; simp only [List.mem_cons, List.not_mem_nil, or_false] at h9
    rcases h9 with h9 | h9
    · exact (In.ne hD951 h833 h962 (by simp)) h9
    · exact (In.ne hD951 h833 h966 (by simp)) h9
  have n984 : v949 ∉ [mo, ka] := by
    intro h9; simp only [List.mem_cons, List.not_mem_nil, or_false] at h9
    rcases h9 with h9 | h9
    · exact (In.ne hD951 h968 h962 (by simp)) h9
    · exact (In.ne hD951 h968 h966 (by simp)) h9
  have h28 := hp975k _ _ n976 h28
  have h128 := hp975k _ _ n977 h128
  have h233 := hp975k _ _ n978 h233
  have h343 := hp975k _ _ n979 h343
  have h458 := hp975k _ _ n980 h458
  have h578 := hp975k _ _ n981 h578
  have h703 := hp975k _ _ n982 h703
  have h833 := hp975k _ _ n983 h833
  have h968 := hp975k _ _ n984 h968
  obtain ⟨pl985, pe985, f985, kn985, tf985, o985_0, o985_1, o985_2, o985_3, o985_4, o985_5, o985_6, o985_7⟩ := id hp975m
  have h986 : (mo, (.inr (8, [.int 0, .ref pl985, .ref ka, .ref ta]) : va_E)) ∈ M973 := o985_0
  have h987 : (pl985, (.inr (10, [.int 10, .ref pe985, .int 10]) : va_E)) ∈ M973 := o985_1
  have h988 : (pe985, (.inl (G.cO, 10, .inr (.inr (.inr (.inr f985)))) : va_E)) ∈ M973 := o985_2
  have h989 : (ta, (.inl (G.Z.cI, 8, .inl tf985) : va_E)) ∈ M973 := o985_4
  have h990 : (ka, (.inl (G.cR, 10, .inr (.inr (.inr (.inr kn985)))) : va_E)) ∈ M973 := o985_6
  have hDo991 := hD974
  have F992 := S.1.at 285 1056 (Nat.le_of_ble_eq_true rfl) (Nat.le_of_ble_eq_true rfl)
  refine j_i2l F992 0 dX8_digest_41 (by decide) ?_
  refine m_cSl S (n1 := 2) (rest := []) (r_X8_add X.l G X.A M973 (-8796620054313670033) 0) ⟨_, _, _, _, rfl, (gBS kB_X8_add (by decide +kernel)), rfl, rfl, (by decide +kernel), ⟨(Nat.le_of_ble_eq_true rfl), (Nat.le_of_ble_eq_true rfl)⟩⟩ rfl (Nat.le_of_ble_eq_true rfl) (Nat.le_of_ble_eq_true rfl) (Nat.le_of_ble_eq_true rfl) rfl dX8_digest_42 (fun v993 M994 hD995 hp996 => ?_)
  obtain ⟨hp996v, hp996m⟩ := hp996
  have hp996v : (4005939421919503217 : Int64) = v993 := (by decide : (4005939421919503217 : Int64) = (-8796620054313670033) * 31 + 0).trans hp996v
  subst hp996v
  subst hp996m
  refine j_lstore_n F992 [some (.ref mo), some (.long 4005939421919503217), none, some (.int 8), some (.ref v949), some (.int 0), some (.int 0), some (.int 0), none] dX8_digest_45 (by decide) rfl rfl ?_
  refine j_iinc F992 1 [some (.ref mo), some (.long 4005939421919503217), none, some (.int 8), some (.ref v949), some (.int 1), some (.int 0), some (.int 0), none] dX8_digest_46 rfl (by decide) (by decide) rfl rfl ?_
  refine j_goto F992 27 dX8_digest_49 (by decide) ?_
  refine j_iload F992 dX8_digest_27 rfl ?_
  refine j_iconst F992 4 dX8_digest_29 (by decide) ?_
  refine j_icmp_ge F992 52 dX8_digest_30 (by decide) (fun h9 => absurd h9 (by decide)) (fun _ => ?_)
  refine j_lload_n F992 dX8_digest_33 rfl ?_
  refine j_aload_n F992 dX8_digest_34 rfl ?_
  refine j_iload_n F992 dX8_digest_35 rfl ?_
  refine j_iload F992 dX8_digest_36 rfl ?_
  have hKm998 : Kp M973 [] M973 := by
    intro b x hb hx
    exact hx
  have hMo997 := Mo.mono hp975m hKm998
  refine m_cVi S (n1 := 2) (rest := [.long 4005939421919503217]) (r_X8_of X.l G X.A M973 8 (by decide) 1 (by decide) hMo997) ⟨_, _, _, _, rfl, (gBV kB_X8_of (by decide +kernel)), rfl, rfl, (by decide +kernel), ⟨(Nat.le_of_ble_eq_true rfl), (Nat.le_of_ble_eq_true rfl)⟩⟩ h986 rfl rfl (Nat.le_of_ble_eq_true rfl) (Nat.le_of_ble_eq_true rfl) (Nat.le_of_ble_eq_true rfl) rfl dX8_digest_38 (fun v999 M1000 hD1001 hp1002 => ?_)
  obtain ⟨hp1002m, hp1002k, hp1002v⟩ := hp1002
  subst hp1002v
  have n1003 : v17 ∉ [mo, ka] := by
    intro h9; simp only [List.mem_cons, List.not_mem_nil, or_false] at h9
    rcases h9 with h9 | h9
    · exact (In.ne hD974 h28 h986 (by simp)) h9
    · exact (In.ne hD974 h28 h990 (by simp)) h9
  have n1004 : v116 ∉ [mo, ka] := by
    intro h9; simp only [List.mem_cons, List.not_mem_nil, or_false] at h9
    rcases h9 with h9 | h9
    · exact (In.ne hD974 h128 h986 (by simp)) h9
    · exact (In.ne hD974 h128 h990 (by simp)) h9
  have n1005 : v220 ∉ [mo, ka] := by
    intro h9; simp only [List.mem_cons, List.not_mem_nil, or_false] at h9
    rcases h9 with h9 | h9
    · exact (In.ne hD974 h233 h986 (by simp)) h9
    · exact (In.ne hD974 h233 h990 (by simp)) h9
  have n1006 : v329 ∉ [mo, ka] := by
    intro h9; simp only [List.mem_cons, List.not_mem_nil, or_false] at h9
    rcases h9 with h9 | h9
    · exact (In.ne hD974 h343 h986 (by simp)) h9
    · exact (In.ne hD974 h343 h990 (by simp)) h9
  have n1007 : v443 ∉ [mo, ka] := by
    intro h9; simp only [List.mem_cons, List.not_mem_nil, or_false] at h9
    rcases h9 with h9 | h9
    · exact (In.ne hD974 h458 h986 (by simp)) h9
    · exact (In.ne hD974 h458 h990 (by simp)) h9
  have n1008 : v562 ∉ [mo, ka] := by
    intro h9; simp only [List.mem_cons, List.not_mem_nil, or_false] at h9
    rcases h9 with h9 | h9
    · exact (In.ne hD974 h578 h986 (by simp)) h9
    · exact (In.ne hD974 h578 h990 (by simp)) h9
  have n1009 : v686 ∉ [mo, ka] := by
    intro h9; simp only [List.mem_cons, List.not_mem_nil, or_false] at h9
    rcases h9 with h9 | h9
    · exact (In.ne hD974 h703 h986 (by simp)) h9
    · exact (In.ne hD974 h703 h990 (by simp)) h9
  have n1010 : v815 ∉ [mo, ka] := by
    intro h9; simp only [List.mem_cons, List.not_mem_nil, or_false] at h9
    rcases h9 with h9 | h9
    · exact (In.ne hD974 h833 h986 (by simp)) h9
    · exact (In.ne hD974 h833 h990 (by simp)) h9
  have n1011 : v949 ∉ [mo, ka] := by
    intro h9; simp only [List.mem_cons, List.not_mem_nil, or_false] at h9
    rcases h9 with h9 | h9
    · exact (In.ne hD974 h968 h986 (by simp)) h9
    · exact (In.ne hD974 h968 h990 (by simp)) h9
  have h28 := hp1002k _ _ n1003 h28
  have h128 := hp1002k _ _ n1004 h128
  have h233 := hp1002k _ _ n1005 h233
  have h343 := hp1002k _ _ n1006 h343
  have h458 := hp1002k _ _ n1007 h458
  have h578 := hp1002k _ _ n1008 h578
  have h703 := hp1002k _ _ n1009 h703
  have h833 := hp1002k _ _ n1010 h833
  have h968 := hp1002k _ _ n1011 h968
  obtain ⟨pl1012, pe1012, f1012, kn1012, tf1012, o1012_0, o1012_1, o1012_2, o1012_3, o1012_4, o1012_5, o1012_6, o1012_7⟩ := id hp1002m
  have h1013 : (mo, (.inr (8, [.int 0, .ref pl1012, .ref ka, .ref ta]) : va_E)) ∈ M1000 := o1012_0
  have h1014 : (pl1012, (.inr (10, [.int 10, .ref pe1012, .int 10]) : va_E)) ∈ M1000 := o1012_1
  have h1015 : (pe1012, (.inl (G.cO, 10, .inr (.inr (.inr (.inr f1012)))) : va_E)) ∈ M1000 := o1012_2
  have h1016 : (ta, (.inl (G.Z.cI, 8, .inl tf1012) : va_E)) ∈ M1000 := o1012_4
  have h1017 : (ka, (.inl (G.cR, 10, .inr (.inr (.inr (.inr kn1012)))) : va_E)) ∈ M1000 := o1012_6
  have hDo1018 := hD1001
  have F1019 := S.1.at 292 1082 (Nat.le_of_ble_eq_true rfl) (Nat.le_of_ble_eq_true rfl)
  refine j_i2l F1019 0 dX8_digest_41 (by decide) ?_
  refine m_cSl S (n1 := 2) (rest := []) (r_X8_add X.l G X.A M1000 4005939421919503217 0) ⟨_, _, _, _, rfl, (gBS kB_X8_add (by decide +kernel)), rfl, rfl, (by decide +kernel), ⟨(Nat.le_of_ble_eq_true rfl), (Nat.le_of_ble_eq_true rfl)⟩⟩ rfl (Nat.le_of_ble_eq_true rfl) (Nat.le_of_ble_eq_true rfl) (Nat.le_of_ble_eq_true rfl) rfl dX8_digest_42 (fun v1020 M1021 hD1022 hp1023 => ?_)
  obtain ⟨hp1023v, hp1023m⟩ := hp1023
  have hp1023v : (-4943086436462261585 : Int64) = v1020 := (by decide : (-4943086436462261585 : Int64) = 4005939421919503217 * 31 + 0).trans hp1023v
  subst hp1023v
  subst hp1023m
  refine j_lstore_n F1019 [some (.ref mo), some (.long (-4943086436462261585)), none, some (.int 8), some (.ref v949), some (.int 1), some (.int 0), some (.int 0), none] dX8_digest_45 (by decide) rfl rfl ?_
  refine j_iinc F1019 2 [some (.ref mo), some (.long (-4943086436462261585)), none, some (.int 8), some (.ref v949), some (.int 2), some (.int 0), some (.int 0), none] dX8_digest_46 rfl (by decide) (by decide) rfl rfl ?_
  refine j_goto F1019 27 dX8_digest_49 (by decide) ?_
  refine j_iload F1019 dX8_digest_27 rfl ?_
  refine j_iconst F1019 4 dX8_digest_29 (by decide) ?_
  refine j_icmp_ge F1019 52 dX8_digest_30 (by decide) (fun h9 => absurd h9 (by decide)) (fun _ => ?_)
  refine j_lload_n F1019 dX8_digest_33 rfl ?_
  refine j_aload_n F1019 dX8_digest_34 rfl ?_
  refine j_iload_n F1019 dX8_digest_35 rfl ?_
  refine j_iload F1019 dX8_digest_36 rfl ?_
  have hKm1025 : Kp M1000 [] M1000 := by
    intro b x hb hx
    exact hx
  have hMo1024 := Mo.mono hp1002m hKm1025
  refine m_cVi S (n1 := 2) (rest := [.long (-4943086436462261585)]) (r_X8_of X.l G X.A M1000 8 (by decide) 2 (by decide) hMo1024) ⟨_, _, _, _, rfl, (gBV kB_X8_of (by decide +kernel)), rfl, rfl, (by decide +kernel), ⟨(Nat.le_of_ble_eq_true rfl), (Nat.le_of_ble_eq_true rfl)⟩⟩ h1013 rfl rfl (Nat.le_of_ble_eq_true rfl) (Nat.le_of_ble_eq_true rfl) (Nat.le_of_ble_eq_true rfl) rfl dX8_digest_38 (fun v1026 M1027 hD1028 hp1029 => ?_)
  obtain ⟨hp1029m, hp1029k, hp1029v⟩ := hp1029
  subst hp1029v
  have n1030 : v17 ∉ [mo, ka] := by
    intro h9; simp only [List.mem_cons, List.not_mem_nil, or_false] at h9
    rcases h9 with h9 | h9
    · exact (In.ne hD1001 h28 h1013 (by simp)) h9
    · exact (In.ne hD1001 h28 h1017 (by simp)) h9
  have n1031 : v116 ∉ [mo, ka] := by
    intro h9; simp only [List.mem_cons, List.not_mem_nil, or_false] at h9
    rcases h9 with h9 | h9
    · exact (In.ne hD1001 h128 h1013 (by simp)) h9
    · exact (In.ne hD1001 h128 h1017 (by simp)) h9
  have n1032 : v220 ∉ [mo, ka] := by
    intro h9; simp only [List.mem_cons, List.not_mem_nil, or_false] at h9
    rcases h9 with h9 | h9
    · exact (In.ne hD1001 h233 h1013 (by simp)) h9
    · exact (In.ne hD1001 h233 h1017 (by simp)) h9
  have n1033 : v329 ∉ [mo, ka] := by
    intro h9; simp only [List.mem_cons, List.not_mem_nil, or_false] at h9
    rcases h9 with h9 | h9
    · exact (In.ne hD1001 h343 h1013 (by simp)) h9
    · exact (In.ne hD1001 h343 h1017 (by simp)) h9
  have n1034 : v443 ∉ [mo, ka] := by
    intro h9; simp only [List.mem_cons, List.not_mem_nil, or_false] at h9
    rcases h9 with h9 | h9
    · exact (In.ne hD1001 h458 h1013 (by simp)) h9
    · exact (In.ne hD1001 h458 h1017 (by simp)) h9
  have n1035 : v562 ∉ [mo, ka] := by
    intro h9; simp only [List.mem_cons, List.not_mem_nil, or_false] at h9
    rcases h9 with h9 | h9
    · exact (In.ne hD1001 h578 h1013 (by simp)) h9
    · exact (In.ne hD1001 h578 h1017 (by simp)) h9
  have n1036 : v686 ∉ [mo, ka] := by
    intro h9; simp only [List.mem_cons, List.not_mem_nil, or_false] at h9
    rcases h9 with h9 | h9
    · exact (In.ne hD1001 h703 h1013 (by simp)) h9
    · exact (In.ne hD1001 h703 h1017 (by simp)) h9
  have n1037 : v815 ∉ [mo, ka] := by
    intro h9; simp only [List.mem_cons, List.not_mem_nil, or_false] at h9
    rcases h9 with h9 | h9
    · exact (In.ne hD1001 h833 h1013 (by simp)) h9
    · exact (In.ne hD1001 h833 h1017 (by simp)) h9
  have n1038 : v949 ∉ [mo, ka] := by
    intro h9; simp only [List.mem_cons, List.not_mem_nil, or_false] at h9
    rcases h9 with h9 | h9
    · exact (In.ne hD1001 h968 h1013 (by simp)) h9
    · exact (In.ne hD1001 h968 h1017 (by simp)) h9
  have h28 := hp1029k _ _ n1030 h28
  have h128 := hp1029k _ _ n1031 h128
  have h233 := hp1029k _ _ n1032 h233
  have h343 := hp1029k _ _ n1033 h343
  have h458 := hp1029k _ _ n1034 h458
  have h578 := hp1029k _ _ n1035 h578
  have h703 := hp1029k _ _ n1036 h703
  have h833 := hp1029k _ _ n1037 h833
  have h968 := hp1029k _ _ n1038 h968
  obtain ⟨pl1039, pe1039, f1039, kn1039, tf1039, o1039_0, o1039_1, o1039_2, o1039_3, o1039_4, o1039_5, o1039_6, o1039_7⟩ := id hp1029m
  have h1040 : (mo, (.inr (8, [.int 0, .ref pl1039, .ref ka, .ref ta]) : va_E)) ∈ M1027 := o1039_0
  have h1041 : (pl1039, (.inr (10, [.int 10, .ref pe1039, .int 10]) : va_E)) ∈ M1027 := o1039_1
  have h1042 : (pe1039, (.inl (G.cO, 10, .inr (.inr (.inr (.inr f1039)))) : va_E)) ∈ M1027 := o1039_2
  have h1043 : (ta, (.inl (G.Z.cI, 8, .inl tf1039) : va_E)) ∈ M1027 := o1039_4
  have h1044 : (ka, (.inl (G.cR, 10, .inr (.inr (.inr (.inr kn1039)))) : va_E)) ∈ M1027 := o1039_6
  have hDo1045 := hD1028
  have F1046 := S.1.at 299 1108 (Nat.le_of_ble_eq_true rfl) (Nat.le_of_ble_eq_true rfl)
  refine j_i2l F1046 0 dX8_digest_41 (by decide) ?_
  refine m_cSl S (n1 := 2) (rest := []) (r_X8_add X.l G X.A M1027 (-4943086436462261585) 0) ⟨_, _, _, _, rfl, (gBS kB_X8_add (by decide +kernel)), rfl, rfl, (by decide +kernel), ⟨(Nat.le_of_ble_eq_true rfl), (Nat.le_of_ble_eq_true rfl)⟩⟩ rfl (Nat.le_of_ble_eq_true rfl) (Nat.le_of_ble_eq_true rfl) (Nat.le_of_ble_eq_true rfl) rfl dX8_digest_42 (fun v1047 M1048 hD1049 hp1050 => ?_)
  obtain ⟨hp1050v, hp1050m⟩ := hp1050
  have hp1050v : (-5661726940653696207 : Int64) = v1047 := (by decide : (-5661726940653696207 : Int64) = (-4943086436462261585) * 31 + 0).trans hp1050v
  subst hp1050v
  subst hp1050m
  refine j_lstore_n F1046 [some (.ref mo), some (.long (-5661726940653696207)), none, some (.int 8), some (.ref v949), some (.int 2), some (.int 0), some (.int 0), none] dX8_digest_45 (by decide) rfl rfl ?_
  refine j_iinc F1046 3 [some (.ref mo), some (.long (-5661726940653696207)), none, some (.int 8), some (.ref v949), some (.int 3), some (.int 0), some (.int 0), none] dX8_digest_46 rfl (by decide) (by decide) rfl rfl ?_
  refine j_goto F1046 27 dX8_digest_49 (by decide) ?_
  refine j_iload F1046 dX8_digest_27 rfl ?_
  refine j_iconst F1046 4 dX8_digest_29 (by decide) ?_
  refine j_icmp_ge F1046 52 dX8_digest_30 (by decide) (fun h9 => absurd h9 (by decide)) (fun _ => ?_)
  refine j_lload_n F1046 dX8_digest_33 rfl ?_
  refine j_aload_n F1046 dX8_digest_34 rfl ?_
  refine j_iload_n F1046 dX8_digest_35 rfl ?_
  refine j_iload F1046 dX8_digest_36 rfl ?_
  have hKm1052 : Kp M1027 [] M1027 := by
    intro b x hb hx
    exact hx
  have hMo1051 := Mo.mono hp1029m hKm1052
  refine m_cVi S (n1 := 2) (rest := [.long (-5661726940653696207)]) (r_X8_of X.l G X.A M1027 8 (by decide) 3 (by decide) hMo1051) ⟨_, _, _, _, rfl, (gBV kB_X8_of (by decide +kernel)), rfl, rfl, (by decide +kernel), ⟨(Nat.le_of_ble_eq_true rfl), (Nat.le_of_ble_eq_true rfl)⟩⟩ h1040 rfl rfl (Nat.le_of_ble_eq_true rfl) (Nat.le_of_ble_eq_true rfl) (Nat.le_of_ble_eq_true rfl) rfl dX8_digest_38 (fun v1053 M1054 hD1055 hp1056 => ?_)
  obtain ⟨hp1056m, hp1056k, hp1056v⟩ := hp1056
  subst hp1056v
  have n1057 : v17 ∉ [mo, ka] := by
    intro h9; simp only [List.mem_cons, List.not_mem_nil, or_false] at h9
    rcases h9 with h9 | h9
    · exact (In.ne hD1028 h28 h1040 (by simp)) h9
    · exact (In.ne hD1028 h28 h1044 (by simp)) h9
  have n1058 : v116 ∉ [mo, ka] := by
    intro h9; simp only [List.mem_cons, List.not_mem_nil, or_false] at h9
    rcases h9 with h9 | h9
    · exact (In.ne hD1028 h128 h1040 (by simp)) h9
    · exact (In.ne hD1028 h128 h1044 (by simp)) h9
  have n1059 : v220 ∉ [mo, ka] := by
    intro h9; simp only [List.mem_cons, List.not_mem_nil, or_false] at h9
    rcases h9 with h9 | h9
    · exact (In.ne hD1028 h233 h1040 (by simp)) h9
    · exact (In.ne hD1028 h233 h1044 (by simp)) h9
  have n1060 : v329 ∉ [mo, ka] := by
    intro h9; simp only [List.mem_cons, List.not_mem_nil, or_false] at h9
    rcases h9 with h9 | h9
    · exact (In.ne hD1028 h343 h1040 (by simp)) h9
    · exact (In.ne hD1028 h343 h1044 (by simp)) h9
  have n1061 : v443 ∉ [mo, ka] := by
    intro h9; simp only [List.mem_cons, List.not_mem_nil, or_false] at h9
    rcases h9 with h9 | h9
    · exact (In.ne hD1028 h458 h1040 (by simp)) h9
    · exact (In.ne hD1028 h458 h1044 (by simp)) h9
  have n1062 : v562 ∉ [mo, ka] := by
    intro h9; simp only [List.mem_cons, List.not_mem_nil, or_false] at h9
    rcases h9 with h9 | h9
    · exact (In.ne hD1028 h578 h1040 (by simp)) h9
    · exact (In.ne hD1028 h578 h1044 (by simp)) h9
  have n1063 : v686 ∉ [mo, ka] := by
    intro h9; simp only [List.mem_cons, List.not_mem_nil, or_false] at h9
    rcases h9 with h9 | h9
    · exact (In.ne hD1028 h703 h1040 (by simp)) h9
    · exact (In.ne hD1028 h703 h1044 (by simp)) h9
  have n1064 : v815 ∉ [mo, ka] := by
    intro h9; simp only [List.mem_cons, List.not_mem_nil, or_false] at h9
    rcases h9 with h9 | h9
    · exact (In.ne hD1028 h833 h1040 (by simp)) h9
    · exact (In.ne hD1028 h833 h1044 (by simp)) h9
  have n1065 : v949 ∉ [mo, ka] := by
    intro h9; simp only [List.mem_cons, List.not_mem_nil, or_false] at h9
    rcases h9 with h9 | h9
    · exact (In.ne hD1028 h968 h1040 (by simp)) h9
    · exact (In.ne hD1028 h968 h1044 (by simp)) h9
  have h28 := hp1056k _ _ n1057 h28
  have h128 := hp1056k _ _ n1058 h128
  have h233 := hp1056k _ _ n1059 h233
  have h343 := hp1056k _ _ n1060 h343
  have h458 := hp1056k _ _ n1061 h458
  have h578 := hp1056k _ _ n1062 h578
  have h703 := hp1056k _ _ n1063 h703
  have h833 := hp1056k _ _ n1064 h833
  have h968 := hp1056k _ _ n1065 h968
  obtain ⟨pl1066, pe1066, f1066, kn1066, tf1066, o1066_0, o1066_1, o1066_2, o1066_3, o1066_4, o1066_5, o1066_6, o1066_7⟩ := id hp1056m
  have h1067 : (mo, (.inr (8, [.int 0, .ref pl1066, .ref ka, .ref ta]) : va_E)) ∈ M1054 := o1066_0
  have h1068 : (pl1066, (.inr (10, [.int 10, .ref pe1066, .int 10]) : va_E)) ∈ M1054 := o1066_1
  have h1069 : (pe1066, (.inl (G.cO, 10, .inr (.inr (.inr (.inr f1066)))) : va_E)) ∈ M1054 := o1066_2
  have h1070 : (ta, (.inl (G.Z.cI, 8, .inl tf1066) : va_E)) ∈ M1054 := o1066_4
  have h1071 : (ka, (.inl (G.cR, 10, .inr (.inr (.inr (.inr kn1066)))) : va_E)) ∈ M1054 := o1066_6
  have hDo1072 := hD1055
  have F1073 := S.1.at 306 1134 (Nat.le_of_ble_eq_true rfl) (Nat.le_of_ble_eq_true rfl)
  refine j_i2l F1073 (-1) dX8_digest_41 (by decide) ?_
  refine m_cSl S (n1 := 2) (rest := []) (r_X8_add X.l G X.A M1054 (-5661726940653696207) (-1)) ⟨_, _, _, _, rfl, (gBS kB_X8_add (by decide +kernel)), rfl, rfl, (by decide +kernel), ⟨(Nat.le_of_ble_eq_true rfl), (Nat.le_of_ble_eq_true rfl)⟩⟩ rfl (Nat.le_of_ble_eq_true rfl) (Nat.le_of_ble_eq_true rfl) (Nat.le_of_ble_eq_true rfl) rfl dX8_digest_42 (fun v1074 M1075 hD1076 hp1077 => ?_)
  obtain ⟨hp1077v, hp1077m⟩ := hp1077
  have hp1077v : (8953905576830933742 : Int64) = v1074 := (by decide : (8953905576830933742 : Int64) = (-5661726940653696207) * 31 + (-1)).trans hp1077v
  subst hp1077v
  subst hp1077m
  refine j_lstore_n F1073 [some (.ref mo), some (.long 8953905576830933742), none, some (.int 8), some (.ref v949), some (.int 3), some (.int 0), some (.int 0), none] dX8_digest_45 (by decide) rfl rfl ?_
  refine j_iinc F1073 4 [some (.ref mo), some (.long 8953905576830933742), none, some (.int 8), some (.ref v949), some (.int 4), some (.int 0), some (.int 0), none] dX8_digest_46 rfl (by decide) (by decide) rfl rfl ?_
  refine j_goto F1073 27 dX8_digest_49 (by decide) ?_
  refine j_iload F1073 dX8_digest_27 rfl ?_
  refine j_iconst F1073 4 dX8_digest_29 (by decide) ?_
  refine j_icmp_ge F1073 52 dX8_digest_30 (by decide) (fun _ => ?_) (fun h9 => absurd (by decide) h9)
  refine j_lload_n F1073 dX8_digest_52 rfl ?_
  refine j_aload_n F1073 dX8_digest_53 rfl ?_
  refine j_aload F1073 dX8_digest_54 rfl ?_
  refine m_cVi S (n1 := 1) (rest := [.long 8953905576830933742]) (r_X8_periodOf X.l G X.A M1054 (mo := mo) (pl := mo) (ka := mo) (ta := mo) (tv := 0) h968) ⟨_, _, _, _, rfl, (gBV kB_X8_periodOf (by decide +kernel)), rfl, rfl, (by decide +kernel), ⟨(Nat.le_of_ble_eq_true rfl), (Nat.le_of_ble_eq_true rfl)⟩⟩ h1067 rfl rfl (Nat.le_of_ble_eq_true rfl) (Nat.le_of_ble_eq_true rfl) (Nat.le_of_ble_eq_true rfl) rfl dX8_digest_56 (fun v1078 M1079 hD1080 hp1081 => ?_)
  obtain ⟨hp1081a, hp1081b⟩ := hp1081
  subst hp1081a
  subst hp1081b
  refine j_i2l F1073 0 dX8_digest_59 (by decide) ?_
  refine m_cSl S (n1 := 2) (rest := []) (r_X8_add X.l G X.A M1054 8953905576830933742 0) ⟨_, _, _, _, rfl, (gBS kB_X8_add (by decide +kernel)), rfl, rfl, (by decide +kernel), ⟨(Nat.le_of_ble_eq_true rfl), (Nat.le_of_ble_eq_true rfl)⟩⟩ rfl (Nat.le_of_ble_eq_true rfl) (Nat.le_of_ble_eq_true rfl) (Nat.le_of_ble_eq_true rfl) rfl dX8_digest_60 (fun v1082 M1083 hD1084 hp1085 => ?_)
  obtain ⟨hp1085v, hp1085m⟩ := hp1085
  have hp1085v : (869911776115671762 : Int64) = v1082 := (by decide : (869911776115671762 : Int64) = 8953905576830933742 * 31 + 0).trans hp1085v
  subst hp1085v
  subst hp1085m
  refine j_lstore_n F1073 [some (.ref mo), some (.long 869911776115671762), none, some (.int 8), some (.ref v949), some (.int 4), some (.int 0), some (.int 0), none] dX8_digest_63 (by decide) rfl rfl ?_
  refine j_aload F1073 dX8_digest_64 rfl ?_
  refine j_astore F1073 [some (.ref mo), some (.long 869911776115671762), none, some (.int 8), some (.ref v949), some (.ref v949), some (.int 0), some (.int 0), none] dX8_digest_66 (by decide) rfl rfl ?_
  refine j_aload F1073 dX8_digest_68 rfl ?_
  refine m_alen S (t0 := 0) (v := 0) h968 rfl (by first | decide | rfl) dX8_digest_70 ?_
  refine j_istore F1073 [some (.ref mo), some (.long 869911776115671762), none, some (.int 8), some (.ref v949), some (.ref v949), some (.int 0), some (.int 0), none] dX8_digest_71 (by decide) rfl rfl ?_
  refine j_iconst F1073 0 dX8_digest_73 (by decide) ?_
  refine j_istore F1073 [some (.ref mo), some (.long 869911776115671762), none, some (.int 8), some (.ref v949), some (.ref v949), some (.int 0), some (.int 0), none] dX8_digest_74 (by decide) rfl rfl ?_
  refine j_iload F1073 dX8_digest_76 rfl ?_
  refine j_iload F1073 dX8_digest_78 rfl ?_
  refine j_icmp_ge F1073 104 dX8_digest_80 (by decide) (fun _ => ?_) (fun h9 => absurd (by decide) h9)
  refine j_iinc F1073 9 [some (.ref mo), some (.long 869911776115671762), none, some (.int 9), some (.ref v949), some (.ref v949), some (.int 0), some (.int 0), none] dX8_digest_104 rfl (by decide) (by decide) rfl rfl ?_
  refine j_goto F1073 11 dX8_digest_107 (by decide) ?_
  refine j_iload_n F1073 dX8_digest_11 rfl ?_
  refine j_bipush F1073 10 dX8_digest_12 (by decide) ?_
  refine j_icmp_ge F1073 110 dX8_digest_14 (by decide) (fun h9 => absurd h9 (by decide)) (fun _ => ?_)
  refine j_aload_n F1073 dX8_digest_17 rfl ?_
  refine j_iload_n F1073 dX8_digest_18 rfl ?_
  have hKm1087 : Kp M1054 [] M1054 := by
    intro b x hb hx
    exact hx
  have hMo1086 := Mo.mono hp1056m hKm1087
  refine m_cVr S (n1 := 1) (rest := []) (r_X8_row X.l G X.A M1054 9 (by decide) hMo1086) ⟨_, _, _, _, rfl, (gBV kB_X8_row (by decide +kernel)), rfl, rfl, (by decide +kernel), ⟨(Nat.le_of_ble_eq_true rfl), (Nat.le_of_ble_eq_true rfl)⟩⟩ h1067 rfl rfl (Nat.le_of_ble_eq_true rfl) (Nat.le_of_ble_eq_true rfl) (Nat.le_of_ble_eq_true rfl) rfl dX8_digest_19 (fun v1088 M1089 hD1090 hp1091 => ?_)
  obtain ⟨hp1091m, hp1091k, hp1091a⟩ := hp1091
  have n1092 : v17 ∉ [mo, ka] := by
    intro h9; simp only [List.mem_cons, List.not_mem_nil, or_false] at h9
    rcases h9 with h9 | h9
    · exact (In.ne hD1055 h28 h1067 (by simp)) h9
    · exact (In.ne hD1055 h28 h1071 (by simp)) h9
  have n1093 : v116 ∉ [mo, ka] := by
    intro h9; simp only [List.mem_cons, List.not_mem_nil, or_false] at h9
    rcases h9 with h9 | h9
    · exact (In.ne hD1055 h128 h1067 (by simp)) h9
    · exact (In.ne hD1055 h128 h1071 (by simp)) h9
  have n1094 : v220 ∉ [mo, ka] := by
    intro h9; simp only [List.mem_cons, List.not_mem_nil, or_false] at h9
    rcases h9 with h9 | h9
    · exact (In.ne hD1055 h233 h1067 (by simp)) h9
    · exact (In.ne hD1055 h233 h1071 (by simp)) h9
  have n1095 : v329 ∉ [mo, ka] := by
    intro h9; simp only [List.mem_cons, List.not_mem_nil, or_false] at h9
    rcases h9 with h9 | h9
    · exact (In.ne hD1055 h343 h1067 (by simp)) h9
    · exact (In.ne hD1055 h343 h1071 (by simp)) h9
  have n1096 : v443 ∉ [mo, ka] := by
    intro h9; simp only [List.mem_cons, List.not_mem_nil, or_false] at h9
    rcases h9 with h9 | h9
    · exact (In.ne hD1055 h458 h1067 (by simp)) h9
    · exact (In.ne hD1055 h458 h1071 (by simp)) h9
  have n1097 : v562 ∉ [mo, ka] := by
    intro h9; simp only [List.mem_cons, List.not_mem_nil, or_false] at h9
    rcases h9 with h9 | h9
    · exact (In.ne hD1055 h578 h1067 (by simp)) h9
    · exact (In.ne hD1055 h578 h1071 (by simp)) h9
  have n1098 : v686 ∉ [mo, ka] := by
    intro h9; simp only [List.mem_cons, List.not_mem_nil, or_false] at h9
    rcases h9 with h9 | h9
    · exact (In.ne hD1055 h703 h1067 (by simp)) h9
    · exact (In.ne hD1055 h703 h1071 (by simp)) h9
  have n1099 : v815 ∉ [mo, ka] := by
    intro h9; simp only [List.mem_cons, List.not_mem_nil, or_false] at h9
    rcases h9 with h9 | h9
    · exact (In.ne hD1055 h833 h1067 (by simp)) h9
    · exact (In.ne hD1055 h833 h1071 (by simp)) h9
  have n1100 : v949 ∉ [mo, ka] := by
    intro h9; simp only [List.mem_cons, List.not_mem_nil, or_false] at h9
    rcases h9 with h9 | h9
    · exact (In.ne hD1055 h968 h1067 (by simp)) h9
    · exact (In.ne hD1055 h968 h1071 (by simp)) h9
  have h28 := hp1091k _ _ n1092 h28
  have h128 := hp1091k _ _ n1093 h128
  have h233 := hp1091k _ _ n1094 h233
  have h343 := hp1091k _ _ n1095 h343
  have h458 := hp1091k _ _ n1096 h458
  have h578 := hp1091k _ _ n1097 h578
  have h703 := hp1091k _ _ n1098 h703
  have h833 := hp1091k _ _ n1099 h833
  have h968 := hp1091k _ _ n1100 h968
  obtain ⟨pl1101, pe1101, f1101, kn1101, tf1101, o1101_0, o1101_1, o1101_2, o1101_3, o1101_4, o1101_5, o1101_6, o1101_7⟩ := id hp1091m
  have h1102 : (mo, (.inr (8, [.int 0, .ref pl1101, .ref ka, .ref ta]) : va_E)) ∈ M1089 := o1101_0
  have h1103 : (pl1101, (.inr (10, [.int 10, .ref pe1101, .int 10]) : va_E)) ∈ M1089 := o1101_1
  have h1104 : (pe1101, (.inl (G.cO, 10, .inr (.inr (.inr (.inr f1101)))) : va_E)) ∈ M1089 := o1101_2
  have h1105 : (ta, (.inl (G.Z.cI, 8, .inl tf1101) : va_E)) ∈ M1089 := o1101_4
  have h1106 : (ka, (.inl (G.cR, 10, .inr (.inr (.inr (.inr kn1101)))) : va_E)) ∈ M1089 := o1101_6
  have hDo1107 := hD1090
  have h1108 := hp1091a
  have F1109 := S.1.at 312 1156 (Nat.le_of_ble_eq_true rfl) (Nat.le_of_ble_eq_true rfl)
  refine j_astore F1109 [some (.ref mo), some (.long 869911776115671762), none, some (.int 9), some (.ref v1088), some (.ref v949), some (.int 0), some (.int 0), none] dX8_digest_22 (by decide) rfl rfl ?_
  refine j_iconst F1109 0 dX8_digest_24 (by decide) ?_
  refine j_istore F1109 [some (.ref mo), some (.long 869911776115671762), none, some (.int 9), some (.ref v1088), some (.int 0), some (.int 0), some (.int 0), none] dX8_digest_25 (by decide) rfl rfl ?_
  refine j_iload F1109 dX8_digest_27 rfl ?_
  refine j_iconst F1109 4 dX8_digest_29 (by decide) ?_
  refine j_icmp_ge F1109 52 dX8_digest_30 (by decide) (fun h9 => absurd h9 (by decide)) (fun _ => ?_)
  refine j_lload_n F1109 dX8_digest_33 rfl ?_
  refine j_aload_n F1109 dX8_digest_34 rfl ?_
  refine j_iload_n F1109 dX8_digest_35 rfl ?_
  refine j_iload F1109 dX8_digest_36 rfl ?_
  have hKm1111 : Kp M1089 [] M1089 := by
    intro b x hb hx
    exact hx
  have hMo1110 := Mo.mono hp1091m hKm1111
  refine m_cVi S (n1 := 2) (rest := [.long 869911776115671762]) (r_X8_of X.l G X.A M1089 9 (by decide) 0 (by decide) hMo1110) ⟨_, _, _, _, rfl, (gBV kB_X8_of (by decide +kernel)), rfl, rfl, (by decide +kernel), ⟨(Nat.le_of_ble_eq_true rfl), (Nat.le_of_ble_eq_true rfl)⟩⟩ h1102 rfl rfl (Nat.le_of_ble_eq_true rfl) (Nat.le_of_ble_eq_true rfl) (Nat.le_of_ble_eq_true rfl) rfl dX8_digest_38 (fun v1112 M1113 hD1114 hp1115 => ?_)
  obtain ⟨hp1115m, hp1115k, hp1115v⟩ := hp1115
  subst hp1115v
  have n1116 : v17 ∉ [mo, ka] := by
    intro h9; simp only [List.mem_cons, List.not_mem_nil, or_false] at h9
    rcases h9 with h9 | h9
    · exact (In.ne hD1090 h28 h1102 (by simp)) h9
    · exact (In.ne hD1090 h28 h1106 (by simp)) h9
  have n1117 : v116 ∉ [mo, ka] := by
    intro h9; simp only [List.mem_cons, List.not_mem_nil, or_false] at h9
    rcases h9 with h9 | h9
    · exact (In.ne hD1090 h128 h1102 (by simp)) h9
    · exact (In.ne hD1090 h128 h1106 (by simp)) h9
  have n1118 : v220 ∉ [mo, ka] := by
    intro h9; simp only [List.mem_cons, List.not_mem_nil, or_false] at h9
    rcases h9 with h9 | h9
    · exact (In.ne hD1090 h233 h1102 (by simp)) h9
    · exact (In.ne hD1090 h233 h1106 (by simp)) h9
  have n1119 : v329 ∉ [mo, ka] := by
    intro h9; simp only [List.mem_cons, List.not_mem_nil, or_false] at h9
    rcases h9 with h9 | h9
    · exact (In.ne hD1090 h343 h1102 (by simp)) h9
    · exact (In.ne hD1090 h343 h1106 (by simp)) h9
  have n1120 : v443 ∉ [mo, ka] := by
    intro h9; simp only [List.mem_cons, List.not_mem_nil, or_false] at h9
    rcases h9 with h9 | h9
    · exact (In.ne hD1090 h458 h1102 (by simp)) h9
    · exact (In.ne hD1090 h458 h1106 (by simp)) h9
  have n1121 : v562 ∉ [mo, ka] := by
    intro h9; simp only [List.mem_cons, List.not_mem_nil, or_false] at h9
    rcases h9 with h9 | h9
    · exact (In.ne hD1090 h578 h1102 (by simp)) h9
    · exact (In.ne hD1090 h578 h1106 (by simp)) h9
  have n1122 : v686 ∉ [mo, ka] := by
    intro h9; simp only [List.mem_cons, List.not_mem_nil, or_false] at h9
    rcases h9 with h9 | h9
    · exact (In.ne hD1090 h703 h1102 (by simp)) h9
    · exact (In.ne hD1090 h703 h1106 (by simp)) h9
  have n1123 : v815 ∉ [mo, ka] := by
    intro h9; simp only [List.mem_cons, List.not_mem_nil, or_false] at h9
    rcases h9 with h9 | h9
    · exact (In.ne hD1090 h833 h1102 (by simp)) h9
    · exact (In.ne hD1090 h833 h1106 (by simp)) h9
  have n1124 : v949 ∉ [mo, ka] := by
    intro h9; simp only [List.mem_cons, List.not_mem_nil, or_false] at h9
    rcases h9 with h9 | h9
    · exact (In.ne hD1090 h968 h1102 (by simp)) h9
    · exact (In.ne hD1090 h968 h1106 (by simp)) h9
  have n1125 : v1088 ∉ [mo, ka] := by
    intro h9; simp only [List.mem_cons, List.not_mem_nil, or_false] at h9
    rcases h9 with h9 | h9
    · exact (In.ne hD1090 h1108 h1102 (by simp)) h9
    · exact (In.ne hD1090 h1108 h1106 (by simp)) h9
  have h28 := hp1115k _ _ n1116 h28
  have h128 := hp1115k _ _ n1117 h128
  have h233 := hp1115k _ _ n1118 h233
  have h343 := hp1115k _ _ n1119 h343
  have h458 := hp1115k _ _ n1120 h458
  have h578 := hp1115k _ _ n1121 h578
  have h703 := hp1115k _ _ n1122 h703
  have h833 := hp1115k _ _ n1123 h833
  have h968 := hp1115k _ _ n1124 h968
  have h1108 := hp1115k _ _ n1125 h1108
  obtain ⟨pl1126, pe1126, f1126, kn1126, tf1126, o1126_0, o1126_1, o1126_2, o1126_3, o1126_4, o1126_5, o1126_6, o1126_7⟩ := id hp1115m
  have h1127 : (mo, (.inr (8, [.int 0, .ref pl1126, .ref ka, .ref ta]) : va_E)) ∈ M1113 := o1126_0
  have h1128 : (pl1126, (.inr (10, [.int 10, .ref pe1126, .int 10]) : va_E)) ∈ M1113 := o1126_1
  have h1129 : (pe1126, (.inl (G.cO, 10, .inr (.inr (.inr (.inr f1126)))) : va_E)) ∈ M1113 := o1126_2
  have h1130 : (ta, (.inl (G.Z.cI, 8, .inl tf1126) : va_E)) ∈ M1113 := o1126_4
  have h1131 : (ka, (.inl (G.cR, 10, .inr (.inr (.inr (.inr kn1126)))) : va_E)) ∈ M1113 := o1126_6
  have hDo1132 := hD1114
  have F1133 := S.1.at 319 1182 (Nat.le_of_ble_eq_true rfl) (Nat.le_of_ble_eq_true rfl)
  refine j_i2l F1133 0 dX8_digest_41 (by decide) ?_
  refine m_cSl S (n1 := 2) (rest := []) (r_X8_add X.l G X.A M1113 869911776115671762 0) ⟨_, _, _, _, rfl, (gBS kB_X8_add (by decide +kernel)), rfl, rfl, (by decide +kernel), ⟨(Nat.le_of_ble_eq_true rfl), (Nat.le_of_ble_eq_true rfl)⟩⟩ rfl (Nat.le_of_ble_eq_true rfl) (Nat.le_of_ble_eq_true rfl) (Nat.le_of_ble_eq_true rfl) rfl dX8_digest_42 (fun v1134 M1135 hD1136 hp1137 => ?_)
  obtain ⟨hp1137v, hp1137m⟩ := hp1137
  have hp1137v : (8520520985876273006 : Int64) = v1134 := (by decide : (8520520985876273006 : Int64) = 869911776115671762 * 31 + 0).trans hp1137v
  subst hp1137v
  subst hp1137m
  refine j_lstore_n F1133 [some (.ref mo), some (.long 8520520985876273006), none, some (.int 9), some (.ref v1088), some (.int 0), some (.int 0), some (.int 0), none] dX8_digest_45 (by decide) rfl rfl ?_
  refine j_iinc F1133 1 [some (.ref mo), some (.long 8520520985876273006), none, some (.int 9), some (.ref v1088), some (.int 1), some (.int 0), some (.int 0), none] dX8_digest_46 rfl (by decide) (by decide) rfl rfl ?_
  refine j_goto F1133 27 dX8_digest_49 (by decide) ?_
  refine j_iload F1133 dX8_digest_27 rfl ?_
  refine j_iconst F1133 4 dX8_digest_29 (by decide) ?_
  refine j_icmp_ge F1133 52 dX8_digest_30 (by decide) (fun h9 => absurd h9 (by decide)) (fun _ => ?_)
  refine j_lload_n F1133 dX8_digest_33 rfl ?_
  refine j_aload_n F1133 dX8_digest_34 rfl ?_
  refine j_iload_n F1133 dX8_digest_35 rfl ?_
  refine j_iload F1133 dX8_digest_36 rfl ?_
  have hKm1139 : Kp M1113 [] M1113 := by
    intro b x hb hx
    exact hx
  have hMo1138 := Mo.mono hp1115m hKm1139
  refine m_cVi S (n1 := 2) (rest := [.long 8520520985876273006]) (r_X8_of X.l G X.A M1113 9 (by decide) 1 (by decide) hMo1138) ⟨_, _, _, _, rfl, (gBV kB_X8_of (by decide +kernel)), rfl, rfl, (by decide +kernel), ⟨(Nat.le_of_ble_eq_true rfl), (Nat.le_of_ble_eq_true rfl)⟩⟩ h1127 rfl rfl (Nat.le_of_ble_eq_true rfl) (Nat.le_of_ble_eq_true rfl) (Nat.le_of_ble_eq_true rfl) rfl dX8_digest_38 (fun v1140 M1141 hD1142 hp1143 => ?_)
  obtain ⟨hp1143m, hp1143k, hp1143v⟩ := hp1143
  subst hp1143v
  have n1144 : v17 ∉ [mo, ka] := by
    intro h9; simp only [List.mem_cons, List.not_mem_nil, or_false] at h9
    rcases h9 with h9 | h9
    · exact (In.ne hD1114 h28 h1127 (by simp)) h9
    · exact (In.ne hD1114 h28 h1131 (by simp)) h9
  have n1145 : v116 ∉ [mo, ka] := by
    intro h9; simp only [List.mem_cons, List.not_mem_nil, or_false] at h9
    rcases h9 with h9 | h9
    · exact (In.ne hD1114 h128 h1127 (by simp)) h9
    · exact (In.ne hD1114 h128 h1131 (by simp)) h9
  have n1146 : v220 ∉ [mo, ka] := by
    intro h9; simp only [List.mem_cons, List.not_mem_nil, or_false] at h9
    rcases h9 with h9 | h9
    · exact (In.ne hD1114 h233 h1127 (by simp)) h9
    · exact (In.ne hD1114 h233 h1131 (by simp)) h9
  have n1147 : v329 ∉ [mo, ka] := by
    intro h9; simp only [List.mem_cons, List.not_mem_nil, or_false] at h9
    rcases h9 with h9 | h9
    · exact (In.ne hD1114 h343 h1127 (by simp)) h9
    · exact (In.ne hD1114 h343 h1131 (by simp)) h9
  have n1148 : v443 ∉ [mo, ka] := by
    intro h9; simp only [List.mem_cons, List.not_mem_nil, or_false] at h9
    rcases h9 with h9 | h9
    · exact (In.ne hD1114 h458 h1127 (by simp)) h9
    · exact (In.ne hD1114 h458 h1131 (by simp)) h9
  have n1149 : v562 ∉ [mo, ka] := by
    intro h9; simp only [List.mem_cons, List.not_mem_nil, or_false] at h9
    rcases h9 with h9 | h9
    · exact (In.ne hD1114 h578 h1127 (by simp)) h9
    · exact (In.ne hD1114 h578 h1131 (by simp)) h9
  have n1150 : v686 ∉ [mo, ka] := by
    intro h9; simp only [List.mem_cons, List.not_mem_nil, or_false] at h9
    rcases h9 with h9 | h9
    · exact (In.ne hD1114 h703 h1127 (by simp)) h9
    · exact (In.ne hD1114 h703 h1131 (by simp)) h9
  have n1151 : v815 ∉ [mo, ka] := by
    intro h9; simp only [List.mem_cons, List.not_mem_nil, or_false] at h9
    rcases h9 with h9 | h9
    · exact (In.ne hD1114 h833 h1127 (by simp)) h9
    · exact (In.ne hD1114 h833 h1131 (by simp)) h9
  have n1152 : v949 ∉ [mo, ka] := by
    intro h9; simp only [List.mem_cons, List.not_mem_nil, or_false] at h9
    rcases h9 with h9 | h9
    · exact (In.ne hD1114 h968 h1127 (by simp)) h9
    · exact (In.ne hD1114 h968 h1131 (by simp)) h9
  have n1153 : v1088 ∉ [mo, ka] := by
    intro h9; simp only [List.mem_cons, List.not_mem_nil, or_false] at h9
    rcases h9 with h9 | h9
    · exact (In.ne hD1114 h1108 h1127 (by simp)) h9
    · exact (In.ne hD1114 h1108 h1131 (by simp)) h9
  have h28 := hp1143k _ _ n1144 h28
  have h128 := hp1143k _ _ n1145 h128
  have h233 := hp1143k _ _ n1146 h233
  have h343 := hp1143k _ _ n1147 h343
  have h458 := hp1143k _ _ n1148 h458
  have h578 := hp1143k _ _ n1149 h578
  have h703 := hp1143k _ _ n1150 h703
  have h833 := hp1143k _ _ n1151 h833
  have h968 := hp1143k _ _ n1152 h968
  have h1108 := hp1143k _ _ n1153 h1108
  obtain ⟨pl1154, pe1154, f1154, kn1154, tf1154, o1154_0, o1154_1, o1154_2, o1154_3, o1154_4, o1154_5, o1154_6, o1154_7⟩ := id hp1143m
  have h1155 : (mo, (.inr (8, [.int 0, .ref pl1154, .ref ka, .ref ta]) : va_E)) ∈ M1141 := o1154_0
  have h1156 : (pl1154, (.inr (10, [.int 10, .ref pe1154, .int 10]) : va_E)) ∈ M1141 := o1154_1
  have h1157 : (pe1154, (.inl (G.cO, 10, .inr (.inr (.inr (.inr f1154)))) : va_E)) ∈ M1141 := o1154_2
  have h1158 : (ta, (.inl (G.Z.cI, 8, .inl tf1154) : va_E)) ∈ M1141 := o1154_4
  have h1159 : (ka, (.inl (G.cR, 10, .inr (.inr (.inr (.inr kn1154)))) : va_E)) ∈ M1141 := o1154_6
  have hDo1160 := hD1142
  have F1161 := S.1.at 326 1208 (Nat.le_of_ble_eq_true rfl) (Nat.le_of_ble_eq_true rfl)
  refine j_i2l F1161 0 dX8_digest_41 (by decide) ?_
  refine m_cSl S (n1 := 2) (rest := []) (r_X8_add X.l G X.A M1141 8520520985876273006 0) ⟨_, _, _, _, rfl, (gBS kB_X8_add (by decide +kernel)), rfl, rfl, (by decide +kernel), ⟨(Nat.le_of_ble_eq_true rfl), (Nat.le_of_ble_eq_true rfl)⟩⟩ rfl (Nat.le_of_ble_eq_true rfl) (Nat.le_of_ble_eq_true rfl) (Nat.le_of_ble_eq_true rfl) rfl dX8_digest_42 (fun v1162 M1163 hD1164 hp1165 => ?_)
  obtain ⟨hp1165v, hp1165m⟩ := hp1165
  have hp1165v : (5881733530230740562 : Int64) = v1162 := (by decide : (5881733530230740562 : Int64) = 8520520985876273006 * 31 + 0).trans hp1165v
  subst hp1165v
  subst hp1165m
  refine j_lstore_n F1161 [some (.ref mo), some (.long 5881733530230740562), none, some (.int 9), some (.ref v1088), some (.int 1), some (.int 0), some (.int 0), none] dX8_digest_45 (by decide) rfl rfl ?_
  refine j_iinc F1161 2 [some (.ref mo), some (.long 5881733530230740562), none, some (.int 9), some (.ref v1088), some (.int 2), some (.int 0), some (.int 0), none] dX8_digest_46 rfl (by decide) (by decide) rfl rfl ?_
  refine j_goto F1161 27 dX8_digest_49 (by decide) ?_
  refine j_iload F1161 dX8_digest_27 rfl ?_
  refine j_iconst F1161 4 dX8_digest_29 (by decide) ?_
  refine j_icmp_ge F1161 52 dX8_digest_30 (by decide) (fun h9 => absurd h9 (by decide)) (fun _ => ?_)
  refine j_lload_n F1161 dX8_digest_33 rfl ?_
  refine j_aload_n F1161 dX8_digest_34 rfl ?_
  refine j_iload_n F1161 dX8_digest_35 rfl ?_
  refine j_iload F1161 dX8_digest_36 rfl ?_
  have hKm1167 : Kp M1141 [] M1141 := by
    intro b x hb hx
    exact hx
  have hMo1166 := Mo.mono hp1143m hKm1167
  refine m_cVi S (n1 := 2) (rest := [.long 5881733530230740562]) (r_X8_of X.l G X.A M1141 9 (by decide) 2 (by decide) hMo1166) ⟨_, _, _, _, rfl, (gBV kB_X8_of (by decide +kernel)), rfl, rfl, (by decide +kernel), ⟨(Nat.le_of_ble_eq_true rfl), (Nat.le_of_ble_eq_true rfl)⟩⟩ h1155 rfl rfl (Nat.le_of_ble_eq_true rfl) (Nat.le_of_ble_eq_true rfl) (Nat.le_of_ble_eq_true rfl) rfl dX8_digest_38 (fun v1168 M1169 hD1170 hp1171 => ?_)
  obtain ⟨hp1171m, hp1171k, hp1171v⟩ := hp1171
  subst hp1171v
  have n1172 : v17 ∉ [mo, ka] := by
    intro h9; simp only [List.mem_cons, List.not_mem_nil, or_false] at h9
    rcases h9 with h9 | h9
    · exact (In.ne hD1142 h28 h1155 (by simp)) h9
    · exact (In.ne hD1142 h28 h1159 (by simp)) h9
  have n1173 : v116 ∉ [mo, ka] := by
    intro h9; simp only [List.mem_cons, List.not_mem_nil, or_false] at h9
    rcases h9 with h9 | h9
    · exact (In.ne hD1142 h128 h1155 (by simp)) h9
    · exact (In.ne hD1142 h128 h1159 (by simp)) h9
  have n1174 : v220 ∉ [mo, ka] := by
    intro h9; simp only [List.mem_cons, List.not_mem_nil, or_false] at h9
    rcases h9 with h9 | h9
    · exact (In.ne hD1142 h233 h1155 (by simp)) h9
    · exact (In.ne hD1142 h233 h1159 (by simp)) h9
  have n1175 : v329 ∉ [mo, ka] := by
    intro h9; simp only [List.mem_cons, List.not_mem_nil, or_false] at h9
    rcases h9 with h9 | h9
    · exact (In.ne hD1142 h343 h1155 (by simp)) h9
    · exact (In.ne hD1142 h343 h1159 (by simp)) h9
  have n1176 : v443 ∉ [mo, ka] := by
    intro h9; simp only [List.mem_cons, List.not_mem_nil, or_false] at h9
    rcases h9 with h9 | h9
    · exact (In.ne hD1142 h458 h1155 (by simp)) h9
    · exact (In.ne hD1142 h458 h1159 (by simp)) h9
  have n1177 : v562 ∉ [mo, ka] := by
    intro h9; simp only [List.mem_cons, List.not_mem_nil, or_false] at h9
    rcases h9 with h9 | h9
    · exact (In.ne hD1142 h578 h1155 (by simp)) h9
    · exact (In.ne hD1142 h578 h1159 (by simp)) h9
  have n1178 : v686 ∉ [mo, ka] := by
    intro h9; simp only [List.mem_cons, List.not_mem_nil, or_false] at h9
    rcases h9 with h9 | h9
    · exact (In.ne hD1142 h703 h1155 (by simp)) h9
    · exact (In.ne hD1142 h703 h1159 (by simp)) h9
  have n1179 : v815 ∉ [mo, ka] := by
    intro h9; simp only [List.mem_cons, List.not_mem_nil, or_false] at h9
    rcases h9 with h9 | h9
    · exact (In.ne hD1142 h833 h1155 (by simp)) h9
    · exact (In.ne hD1142 h833 h1159 (by simp)) h9
  have n1180 : v949 ∉ [mo, ka] := by
    intro h9; simp only [List.mem_cons, List.not_mem_nil, or_false] at h9
    rcases h9 with h9 | h9
    · exact (In.ne hD1142 h968 h1155 (by simp)) h9
    · exact (In.ne hD1142 h968 h1159 (by simp)) h9
  have n1181 : v1088 ∉ [mo, ka] := by
    intro h9; simp only [List.mem_cons, List.not_mem_nil, or_false] at h9
    rcases h9 with h9 | h9
    · exact (In.ne hD1142 h1108 h1155 (by simp)) h9
    · exact (In.ne hD1142 h1108 h1159 (by simp)) h9
  have h28 := hp1171k _ _ n1172 h28
  have h128 := hp1171k _ _ n1173 h128
  have h233 := hp1171k _ _ n1174 h233
  have h343 := hp1171k _ _ n1175 h343
  have h458 := hp1171k _ _ n1176 h458
  have h578 := hp1171k _ _ n1177 h578
  have h703 := hp1171k _ _ n1178 h703
  have h833 := hp1171k _ _ n1179 h833
  have h968 := hp1171k _ _ n1180 h968
  have h1108 := hp1171k _ _ n1181 h1108
  obtain ⟨pl1182, pe1182, f1182, kn1182, tf1182, o1182_0, o1182_1, o1182_2, o1182_3, o1182_4, o1182_5, o1182_6, o1182_7⟩ := id hp1171m
  have h1183 : (mo, (.inr (8, [.int 0, .ref pl1182, .ref ka, .ref ta]) : va_E)) ∈ M1169 := o1182_0
  have h1184 : (pl1182, (.inr (10, [.int 10, .ref pe1182, .int 10]) : va_E)) ∈ M1169 := o1182_1
  have h1185 : (pe1182, (.inl (G.cO, 10, .inr (.inr (.inr (.inr f1182)))) : va_E)) ∈ M1169 := o1182_2
  have h1186 : (ta, (.inl (G.Z.cI, 8, .inl tf1182) : va_E)) ∈ M1169 := o1182_4
  have h1187 : (ka, (.inl (G.cR, 10, .inr (.inr (.inr (.inr kn1182)))) : va_E)) ∈ M1169 := o1182_6
  have hDo1188 := hD1170
  have F1189 := S.1.at 333 1234 (Nat.le_of_ble_eq_true rfl) (Nat.le_of_ble_eq_true rfl)
  refine j_i2l F1189 0 dX8_digest_41 (by decide) ?_
  refine m_cSl S (n1 := 2) (rest := []) (r_X8_add X.l G X.A M1169 5881733530230740562 0) ⟨_, _, _, _, rfl, (gBS kB_X8_add (by decide +kernel)), rfl, rfl, (by decide +kernel), ⟨(Nat.le_of_ble_eq_true rfl), (Nat.le_of_ble_eq_true rfl)⟩⟩ rfl (Nat.le_of_ble_eq_true rfl) (Nat.le_of_ble_eq_true rfl) (Nat.le_of_ble_eq_true rfl) rfl dX8_digest_42 (fun v1190 M1191 hD1192 hp1193 => ?_)
  obtain ⟨hp1193v, hp1193m⟩ := hp1193
  have hp1193v : (-2133701299942558738 : Int64) = v1190 := (by decide : (-2133701299942558738 : Int64) = 5881733530230740562 * 31 + 0).trans hp1193v
  subst hp1193v
  subst hp1193m
  refine j_lstore_n F1189 [some (.ref mo), some (.long (-2133701299942558738)), none, some (.int 9), some (.ref v1088), some (.int 2), some (.int 0), some (.int 0), none] dX8_digest_45 (by decide) rfl rfl ?_
  refine j_iinc F1189 3 [some (.ref mo), some (.long (-2133701299942558738)), none, some (.int 9), some (.ref v1088), some (.int 3), some (.int 0), some (.int 0), none] dX8_digest_46 rfl (by decide) (by decide) rfl rfl ?_
  refine j_goto F1189 27 dX8_digest_49 (by decide) ?_
  refine j_iload F1189 dX8_digest_27 rfl ?_
  refine j_iconst F1189 4 dX8_digest_29 (by decide) ?_
  refine j_icmp_ge F1189 52 dX8_digest_30 (by decide) (fun h9 => absurd h9 (by decide)) (fun _ => ?_)
  refine j_lload_n F1189 dX8_digest_33 rfl ?_
  refine j_aload_n F1189 dX8_digest_34 rfl ?_
  refine j_iload_n F1189 dX8_digest_35 rfl ?_
  refine j_iload F1189 dX8_digest_36 rfl ?_
  have hKm1195 : Kp M1169 [] M1169 := by
    intro b x hb hx
    exact hx
  have hMo1194 := Mo.mono hp1171m hKm1195
  refine m_cVi S (n1 := 2) (rest := [.long (-2133701299942558738)]) (r_X8_of X.l G X.A M1169 9 (by decide) 3 (by decide) hMo1194) ⟨_, _, _, _, rfl, (gBV kB_X8_of (by decide +kernel)), rfl, rfl, (by decide +kernel), ⟨(Nat.le_of_ble_eq_true rfl), (Nat.le_of_ble_eq_true rfl)⟩⟩ h1183 rfl rfl (Nat.le_of_ble_eq_true rfl) (Nat.le_of_ble_eq_true rfl) (Nat.le_of_ble_eq_true rfl) rfl dX8_digest_38 (fun v1196 M1197 hD1198 hp1199 => ?_)
  obtain ⟨hp1199m, hp1199k, hp1199v⟩ := hp1199
  subst hp1199v
  have n1200 : v17 ∉ [mo, ka] := by
    intro h9; simp only [List.mem_cons, List.not_mem_nil, or_false] at h9
    rcases h9 with h9 | h9
    · exact (In.ne hD1170 h28 h1183 (by simp)) h9
    · exact (In.ne hD1170 h28 h1187 (by simp)) h9
  have n1201 : v116 ∉ [mo, ka] := by
    intro h9; simp only [List.mem_cons, List.not_mem_nil, or_false] at h9
    rcases h9 with h9 | h9
    · exact (In.ne hD1170 h128 h1183 (by simp)) h9
    · exact (In.ne hD1170 h128 h1187 (by simp)) h9
  have n1202 : v220 ∉ [mo, ka] := by
    intro h9; simp only [List.mem_cons, List.not_mem_nil, or_false] at h9
    rcases h9 with h9 | h9
    · exact (In.ne hD1170 h233 h1183 (by simp)) h9
    · exact (In.ne hD1170 h233 h1187 (by simp)) h9
  have n1203 : v329 ∉ [mo, ka] := by
    intro h9; simp only [List.mem_cons, List.not_mem_nil, or_false] at h9
    rcases h9 with h9 | h9
    · exact (In.ne hD1170 h343 h1183 (by simp)) h9
    · exact (In.ne hD1170 h343 h1187 (by simp)) h9
  have n1204 : v443 ∉ [mo, ka] := by
    intro h9; simp only [List.mem_cons, List.not_mem_nil, or_false] at h9
    rcases h9 with h9 | h9
    · exact (In.ne hD1170 h458 h1183 (by simp)) h9
    · exact (In.ne hD1170 h458 h1187 (by simp)) h9
  have n1205 : v562 ∉ [mo, ka] := by
    intro h9; simp only [List.mem_cons, List.not_mem_nil, or_false] at h9
    rcases h9 with h9 | h9
    · exact (In.ne hD1170 h578 h1183 (by simp)) h9
    · exact (In.ne hD1170 h578 h1187 (by simp)) h9
  have n1206 : v686 ∉ [mo, ka] := by
    intro h9; simp only [List.mem_cons, List.not_mem_nil, or_false] at h9
    rcases h9 with h9 | h9
    · exact (In.ne hD1170 h703 h1183 (by simp)) h9
    · exact (In.ne hD1170 h703 h1187 (by simp)) h9
  have n1207 : v815 ∉ [mo, ka] := by
    intro h9; simp only [List.mem_cons, List.not_mem_nil, or_false] at h9
    rcases h9 with h9 | h9
    · exact (In.ne hD1170 h833 h1183 (by simp)) h9
    · exact (In.ne hD1170 h833 h1187 (by simp)) h9
  have n1208 : v949 ∉ [mo, ka] := by
    intro h9; simp only [List.mem_cons, List.not_mem_nil, or_false] at h9
    rcases h9 with h9 | h9
    · exact (In.ne hD1170 h968 h1183 (by simp)) h9
    · exact (In.ne hD1170 h968 h1187 (by simp)) h9
  have n1209 : v1088 ∉ [mo, ka] := by
    intro h9; simp only [List.mem_cons, List.not_mem_nil, or_false] at h9
    rcases h9 with h9 | h9
    · exact (In.ne hD1170 h1108 h1183 (by simp)) h9
    · exact (In.ne hD1170 h1108 h1187 (by simp)) h9
  have h28 := hp1199k _ _ n1200 h28
  have h128 := hp1199k _ _ n1201 h128
  have h233 := hp1199k _ _ n1202 h233
  have h343 := hp1199k _ _ n1203 h343
  have h458 := hp1199k _ _ n1204 h458
  have h578 := hp1199k _ _ n1205 h578
  have h703 := hp1199k _ _ n1206 h703
  have h833 := hp1199k _ _ n1207 h833
  have h968 := hp1199k _ _ n1208 h968
  have h1108 := hp1199k _ _ n1209 h1108
  obtain ⟨pl1210, pe1210, f1210, kn1210, tf1210, o1210_0, o1210_1, o1210_2, o1210_3, o1210_4, o1210_5, o1210_6, o1210_7⟩ := id hp1199m
  have h1211 : (mo, (.inr (8, [.int 0, .ref pl1210, .ref ka, .ref ta]) : va_E)) ∈ M1197 := o1210_0
  have h1212 : (pl1210, (.inr (10, [.int 10, .ref pe1210, .int 10]) : va_E)) ∈ M1197 := o1210_1
  have h1213 : (pe1210, (.inl (G.cO, 10, .inr (.inr (.inr (.inr f1210)))) : va_E)) ∈ M1197 := o1210_2
  have h1214 : (ta, (.inl (G.Z.cI, 8, .inl tf1210) : va_E)) ∈ M1197 := o1210_4
  have h1215 : (ka, (.inl (G.cR, 10, .inr (.inr (.inr (.inr kn1210)))) : va_E)) ∈ M1197 := o1210_6
  have hDo1216 := hD1198
  have F1217 := S.1.at 340 1260 (Nat.le_of_ble_eq_true rfl) (Nat.le_of_ble_eq_true rfl)
  refine j_i2l F1217 (-1) dX8_digest_41 (by decide) ?_
  refine m_cSl S (n1 := 2) (rest := []) (r_X8_add X.l G X.A M1197 (-2133701299942558738) (-1)) ⟨_, _, _, _, rfl, (gBS kB_X8_add (by decide +kernel)), rfl, rfl, (by decide +kernel), ⟨(Nat.le_of_ble_eq_true rfl), (Nat.le_of_ble_eq_true rfl)⟩⟩ rfl (Nat.le_of_ble_eq_true rfl) (Nat.le_of_ble_eq_true rfl) (Nat.le_of_ble_eq_true rfl) rfl dX8_digest_42 (fun v1218 M1219 hD1220 hp1221 => ?_)
  obtain ⟨hp1221v, hp1221m⟩ := hp1221
  have hp1221v : (7642235996618885585 : Int64) = v1218 := (by decide : (7642235996618885585 : Int64) = (-2133701299942558738) * 31 + (-1)).trans hp1221v
  subst hp1221v
  subst hp1221m
  refine j_lstore_n F1217 [some (.ref mo), some (.long 7642235996618885585), none, some (.int 9), some (.ref v1088), some (.int 3), some (.int 0), some (.int 0), none] dX8_digest_45 (by decide) rfl rfl ?_
  refine j_iinc F1217 4 [some (.ref mo), some (.long 7642235996618885585), none, some (.int 9), some (.ref v1088), some (.int 4), some (.int 0), some (.int 0), none] dX8_digest_46 rfl (by decide) (by decide) rfl rfl ?_
  refine j_goto F1217 27 dX8_digest_49 (by decide) ?_
  refine j_iload F1217 dX8_digest_27 rfl ?_
  refine j_iconst F1217 4 dX8_digest_29 (by decide) ?_
  refine j_icmp_ge F1217 52 dX8_digest_30 (by decide) (fun _ => ?_) (fun h9 => absurd (by decide) h9)
  refine j_lload_n F1217 dX8_digest_52 rfl ?_
  refine j_aload_n F1217 dX8_digest_53 rfl ?_
  refine j_aload F1217 dX8_digest_54 rfl ?_
  refine m_cVi S (n1 := 1) (rest := [.long 7642235996618885585]) (r_X8_periodOf X.l G X.A M1197 (mo := mo) (pl := mo) (ka := mo) (ta := mo) (tv := 0) h1108) ⟨_, _, _, _, rfl, (gBV kB_X8_periodOf (by decide +kernel)), rfl, rfl, (by decide +kernel), ⟨(Nat.le_of_ble_eq_true rfl), (Nat.le_of_ble_eq_true rfl)⟩⟩ h1211 rfl rfl (Nat.le_of_ble_eq_true rfl) (Nat.le_of_ble_eq_true rfl) (Nat.le_of_ble_eq_true rfl) rfl dX8_digest_56 (fun v1222 M1223 hD1224 hp1225 => ?_)
  obtain ⟨hp1225a, hp1225b⟩ := hp1225
  subst hp1225a
  subst hp1225b
  refine j_i2l F1217 0 dX8_digest_59 (by decide) ?_
  refine m_cSl S (n1 := 2) (rest := []) (r_X8_add X.l G X.A M1197 7642235996618885585 0) ⟨_, _, _, _, rfl, (gBS kB_X8_add (by decide +kernel)), rfl, rfl, (by decide +kernel), ⟨(Nat.le_of_ble_eq_true rfl), (Nat.le_of_ble_eq_true rfl)⟩⟩ rfl (Nat.le_of_ble_eq_true rfl) (Nat.le_of_ble_eq_true rfl) (Nat.le_of_ble_eq_true rfl) rfl dX8_digest_60 (fun v1226 M1227 hD1228 hp1229 => ?_)
  obtain ⟨hp1229v, hp1229m⟩ := hp1229
  have hp1229v : (-2898357063038717873 : Int64) = v1226 := (by decide : (-2898357063038717873 : Int64) = 7642235996618885585 * 31 + 0).trans hp1229v
  subst hp1229v
  subst hp1229m
  refine j_lstore_n F1217 [some (.ref mo), some (.long (-2898357063038717873)), none, some (.int 9), some (.ref v1088), some (.int 4), some (.int 0), some (.int 0), none] dX8_digest_63 (by decide) rfl rfl ?_
  refine j_aload F1217 dX8_digest_64 rfl ?_
  refine j_astore F1217 [some (.ref mo), some (.long (-2898357063038717873)), none, some (.int 9), some (.ref v1088), some (.ref v1088), some (.int 0), some (.int 0), none] dX8_digest_66 (by decide) rfl rfl ?_
  refine j_aload F1217 dX8_digest_68 rfl ?_
  refine m_alen S (t0 := 0) (v := 0) h1108 rfl (by first | decide | rfl) dX8_digest_70 ?_
  refine j_istore F1217 [some (.ref mo), some (.long (-2898357063038717873)), none, some (.int 9), some (.ref v1088), some (.ref v1088), some (.int 0), some (.int 0), none] dX8_digest_71 (by decide) rfl rfl ?_
  refine j_iconst F1217 0 dX8_digest_73 (by decide) ?_
  refine j_istore F1217 [some (.ref mo), some (.long (-2898357063038717873)), none, some (.int 9), some (.ref v1088), some (.ref v1088), some (.int 0), some (.int 0), none] dX8_digest_74 (by decide) rfl rfl ?_
  refine j_iload F1217 dX8_digest_76 rfl ?_
  refine j_iload F1217 dX8_digest_78 rfl ?_
  refine j_icmp_ge F1217 104 dX8_digest_80 (by decide) (fun _ => ?_) (fun h9 => absurd (by decide) h9)
  refine j_iinc F1217 10 [some (.ref mo), some (.long (-2898357063038717873)), none, some (.int 10), some (.ref v1088), some (.ref v1088), some (.int 0), some (.int 0), none] dX8_digest_104 rfl (by decide) (by decide) rfl rfl ?_
  refine j_goto F1217 11 dX8_digest_107 (by decide) ?_
  refine j_iload_n F1217 dX8_digest_11 rfl ?_
  refine j_bipush F1217 10 dX8_digest_12 (by decide) ?_
  refine j_icmp_ge F1217 110 dX8_digest_14 (by decide) (fun _ => ?_) (fun h9 => absurd (by decide) h9)
  refine j_aload_n F1217 dX8_digest_110 rfl ?_
  refine m_get S (C := RX8) (T := TX8) (N := 4) (by decide +kernel) h1211 rfl (v := .ref ta) 3 (by decide) (by decide +kernel) (fun _ h9 => h9) rfl dX8_digest_111 ?_
  refine j_astore_n F1217 [some (.ref mo), some (.long (-2898357063038717873)), none, some (.ref ta), some (.ref v1088), some (.ref v1088), some (.int 0), some (.int 0), none] dX8_digest_114 (by decide) rfl rfl ?_
  refine j_aload_n F1217 dX8_digest_115 rfl ?_
  refine m_alen S (t0 := 0) (v := 8) h1214 rfl (by first | decide | rfl) dX8_digest_116 ?_
  refine j_istore F1217 [some (.ref mo), some (.long (-2898357063038717873)), none, some (.ref ta), some (.int 8), some (.ref v1088), some (.int 0), some (.int 0), none] dX8_digest_117 (by decide) rfl rfl ?_
  refine j_iconst F1217 0 dX8_digest_119 (by decide) ?_
  refine j_istore F1217 [some (.ref mo), some (.long (-2898357063038717873)), none, some (.ref ta), some (.int 8), some (.int 0), some (.int 0), some (.int 0), none] dX8_digest_120 (by decide) rfl rfl ?_
  refine j_iload F1217 dX8_digest_122 rfl ?_
  refine j_iload F1217 dX8_digest_124 rfl ?_
  refine j_icmp_ge F1217 149 dX8_digest_126 (by decide) (fun h9 => absurd h9 (by decide)) (fun _ => ?_)
  refine j_aload_n F1217 dX8_digest_129 rfl ?_
  refine j_iload F1217 dX8_digest_130 rfl ?_
  refine m_iaload S (v := 1) h1214 (by unfold vp_in; decide) (by rw [show (0 : Int32).toNatClampNeg = 0 by decide]; exact (o1210_5 0 (by decide)).trans (by decide)) dX8_digest_132 ?_
  refine j_istore F1217 [some (.ref mo), some (.long (-2898357063038717873)), none, some (.ref ta), some (.int 8), some (.int 0), some (.int 1), some (.int 0), none] dX8_digest_133 (by decide) rfl rfl ?_
  refine j_lload_n F1217 dX8_digest_135 rfl ?_
  refine j_iload F1217 dX8_digest_136 rfl ?_
  refine j_i2l F1217 1 dX8_digest_138 (by decide) ?_
  refine m_cSl S (n1 := 2) (rest := []) (r_X8_add X.l G X.A M1197 (-2898357063038717873) 1) ⟨_, _, _, _, rfl, (gBS kB_X8_add (by decide +kernel)), rfl, rfl, (by decide +kernel), ⟨(Nat.le_of_ble_eq_true rfl), (Nat.le_of_ble_eq_true rfl)⟩⟩ rfl (Nat.le_of_ble_eq_true rfl) (Nat.le_of_ble_eq_true rfl) (Nat.le_of_ble_eq_true rfl) rfl dX8_digest_139 (fun v1230 M1231 hD1232 hp1233 => ?_)
  obtain ⟨hp1233v, hp1233m⟩ := hp1233
  have hp1233v : (2384651414347504018 : Int64) = v1230 := (by decide : (2384651414347504018 : Int64) = (-2898357063038717873) * 31 + 1).trans hp1233v
  subst hp1233v
  subst hp1233m
  refine j_lstore_n F1217 [some (.ref mo), some (.long 2384651414347504018), none, some (.ref ta), some (.int 8), some (.int 0), some (.int 1), some (.int 0), none] dX8_digest_142 (by decide) rfl rfl ?_
  refine j_iinc F1217 1 [some (.ref mo), some (.long 2384651414347504018), none, some (.ref ta), some (.int 8), some (.int 1), some (.int 1), some (.int 0), none] dX8_digest_143 rfl (by decide) (by decide) rfl rfl ?_
  refine j_goto F1217 122 dX8_digest_146 (by decide) ?_
  refine j_iload F1217 dX8_digest_122 rfl ?_
  refine j_iload F1217 dX8_digest_124 rfl ?_
  refine j_icmp_ge F1217 149 dX8_digest_126 (by decide) (fun h9 => absurd h9 (by decide)) (fun _ => ?_)
  refine j_aload_n F1217 dX8_digest_129 rfl ?_
  refine j_iload F1217 dX8_digest_130 rfl ?_
  refine m_iaload S (v := 2) h1214 (by unfold vp_in; decide) (by rw [show (1 : Int32).toNatClampNeg = 1 by decide]; exact (o1210_5 1 (by decide)).trans (by decide)) dX8_digest_132 ?_
  refine j_istore F1217 [some (.ref mo), some (.long 2384651414347504018), none, some (.ref ta), some (.int 8), some (.int 1), some (.int 2), some (.int 0), none] dX8_digest_133 (by decide) rfl rfl ?_
  refine j_lload_n F1217 dX8_digest_135 rfl ?_
  refine j_iload F1217 dX8_digest_136 rfl ?_
  refine j_i2l F1217 2 dX8_digest_138 (by decide) ?_
  refine m_cSl S (n1 := 2) (rest := []) (r_X8_add X.l G X.A M1197 2384651414347504018 2) ⟨_, _, _, _, rfl, (gBS kB_X8_add (by decide +kernel)), rfl, rfl, (by decide +kernel), ⟨(Nat.le_of_ble_eq_true rfl), (Nat.le_of_ble_eq_true rfl)⟩⟩ rfl (Nat.le_of_ble_eq_true rfl) (Nat.le_of_ble_eq_true rfl) (Nat.le_of_ble_eq_true rfl) rfl dX8_digest_139 (fun v1234 M1235 hD1236 hp1237 => ?_)
  obtain ⟨hp1237v, hp1237m⟩ := hp1237
  have hp1237v : (137217549934418096 : Int64) = v1234 := (by decide : (137217549934418096 : Int64) = 2384651414347504018 * 31 + 2).trans hp1237v
  subst hp1237v
  subst hp1237m
  refine j_lstore_n F1217 [some (.ref mo), some (.long 137217549934418096), none, some (.ref ta), some (.int 8), some (.int 1), some (.int 2), some (.int 0), none] dX8_digest_142 (by decide) rfl rfl ?_
  refine j_iinc F1217 2 [some (.ref mo), some (.long 137217549934418096), none, some (.ref ta), some (.int 8), some (.int 2), some (.int 2), some (.int 0), none] dX8_digest_143 rfl (by decide) (by decide) rfl rfl ?_
  refine j_goto F1217 122 dX8_digest_146 (by decide) ?_
  refine j_iload F1217 dX8_digest_122 rfl ?_
  refine j_iload F1217 dX8_digest_124 rfl ?_
  refine j_icmp_ge F1217 149 dX8_digest_126 (by decide) (fun h9 => absurd h9 (by decide)) (fun _ => ?_)
  refine j_aload_n F1217 dX8_digest_129 rfl ?_
  refine j_iload F1217 dX8_digest_130 rfl ?_
  refine m_iaload S (v := 4) h1214 (by unfold vp_in; decide) (by rw [show (2 : Int32).toNatClampNeg = 2 by decide]; exact (o1210_5 2 (by decide)).trans (by decide)) dX8_digest_132 ?_
  refine j_istore F1217 [some (.ref mo), some (.long 137217549934418096), none, some (.ref ta), some (.int 8), some (.int 2), some (.int 4), some (.int 0), none] dX8_digest_133 (by decide) rfl rfl ?_
  refine j_lload_n F1217 dX8_digest_135 rfl ?_
  refine j_iload F1217 dX8_digest_136 rfl ?_
  refine j_i2l F1217 4 dX8_digest_138 (by decide) ?_
  refine m_cSl S (n1 := 2) (rest := []) (r_X8_add X.l G X.A M1197 137217549934418096 4) ⟨_, _, _, _, rfl, (gBS kB_X8_add (by decide +kernel)), rfl, rfl, (by decide +kernel), ⟨(Nat.le_of_ble_eq_true rfl), (Nat.le_of_ble_eq_true rfl)⟩⟩ rfl (Nat.le_of_ble_eq_true rfl) (Nat.le_of_ble_eq_true rfl) (Nat.le_of_ble_eq_true rfl) rfl dX8_digest_139 (fun v1238 M1239 hD1240 hp1241 => ?_)
  obtain ⟨hp1241v, hp1241m⟩ := hp1241
  have hp1241v : (4253744047966960980 : Int64) = v1238 := (by decide : (4253744047966960980 : Int64) = 137217549934418096 * 31 + 4).trans hp1241v
  subst hp1241v
  subst hp1241m
  refine j_lstore_n F1217 [some (.ref mo), some (.long 4253744047966960980), none, some (.ref ta), some (.int 8), some (.int 2), some (.int 4), some (.int 0), none] dX8_digest_142 (by decide) rfl rfl ?_
  refine j_iinc F1217 3 [some (.ref mo), some (.long 4253744047966960980), none, some (.ref ta), some (.int 8), some (.int 3), some (.int 4), some (.int 0), none] dX8_digest_143 rfl (by decide) (by decide) rfl rfl ?_
  refine j_goto F1217 122 dX8_digest_146 (by decide) ?_
  refine j_iload F1217 dX8_digest_122 rfl ?_
  refine j_iload F1217 dX8_digest_124 rfl ?_
  refine j_icmp_ge F1217 149 dX8_digest_126 (by decide) (fun h9 => absurd h9 (by decide)) (fun _ => ?_)
  refine j_aload_n F1217 dX8_digest_129 rfl ?_
  refine j_iload F1217 dX8_digest_130 rfl ?_
  refine m_iaload S (v := 8) h1214 (by unfold vp_in; decide) (by rw [show (3 : Int32).toNatClampNeg = 3 by decide]; exact (o1210_5 3 (by decide)).trans (by decide)) dX8_digest_132 ?_
  refine j_istore F1217 [some (.ref mo), some (.long 4253744047966960980), none, some (.ref ta), some (.int 8), some (.int 3), some (.int 8), some (.int 0), none] dX8_digest_133 (by decide) rfl rfl ?_
  refine j_lload_n F1217 dX8_digest_135 rfl ?_
  refine j_iload F1217 dX8_digest_136 rfl ?_
  refine j_i2l F1217 8 dX8_digest_138 (by decide) ?_
  refine m_cSl S (n1 := 2) (rest := []) (r_X8_add X.l G X.A M1197 4253744047966960980 8) ⟨_, _, _, _, rfl, (gBS kB_X8_add (by decide +kernel)), rfl, rfl, (by decide +kernel), ⟨(Nat.le_of_ble_eq_true rfl), (Nat.le_of_ble_eq_true rfl)⟩⟩ rfl (Nat.le_of_ble_eq_true rfl) (Nat.le_of_ble_eq_true rfl) (Nat.le_of_ble_eq_true rfl) rfl dX8_digest_139 (fun v1242 M1243 hD1244 hp1245 => ?_)
  obtain ⟨hp1245v, hp1245m⟩ := hp1245
  have hp1245v : (2738856971008929076 : Int64) = v1242 := (by decide : (2738856971008929076 : Int64) = 4253744047966960980 * 31 + 8).trans hp1245v
  subst hp1245v
  subst hp1245m
  refine j_lstore_n F1217 [some (.ref mo), some (.long 2738856971008929076), none, some (.ref ta), some (.int 8), some (.int 3), some (.int 8), some (.int 0), none] dX8_digest_142 (by decide) rfl rfl ?_
  refine j_iinc F1217 4 [some (.ref mo), some (.long 2738856971008929076), none, some (.ref ta), some (.int 8), some (.int 4), some (.int 8), some (.int 0), none] dX8_digest_143 rfl (by decide) (by decide) rfl rfl ?_
  refine j_goto F1217 122 dX8_digest_146 (by decide) ?_
  refine j_iload F1217 dX8_digest_122 rfl ?_
  refine j_iload F1217 dX8_digest_124 rfl ?_
  refine j_icmp_ge F1217 149 dX8_digest_126 (by decide) (fun h9 => absurd h9 (by decide)) (fun _ => ?_)
  refine j_aload_n F1217 dX8_digest_129 rfl ?_
  refine j_iload F1217 dX8_digest_130 rfl ?_
  refine m_iaload S (v := 16) h1214 (by unfold vp_in; decide) (by rw [show (4 : Int32).toNatClampNeg = 4 by decide]; exact (o1210_5 4 (by decide)).trans (by decide)) dX8_digest_132 ?_
  refine j_istore F1217 [some (.ref mo), some (.long 2738856971008929076), none, some (.ref ta), some (.int 8), some (.int 4), some (.int 16), some (.int 0), none] dX8_digest_133 (by decide) rfl rfl ?_
  refine j_lload_n F1217 dX8_digest_135 rfl ?_
  refine j_iload F1217 dX8_digest_136 rfl ?_
  refine j_i2l F1217 16 dX8_digest_138 (by decide) ?_
  refine m_cSl S (n1 := 2) (rest := []) (r_X8_add X.l G X.A M1197 2738856971008929076 16) ⟨_, _, _, _, rfl, (gBS kB_X8_add (by decide +kernel)), rfl, rfl, (by decide +kernel), ⟨(Nat.le_of_ble_eq_true rfl), (Nat.le_of_ble_eq_true rfl)⟩⟩ rfl (Nat.le_of_ble_eq_true rfl) (Nat.le_of_ble_eq_true rfl) (Nat.le_of_ble_eq_true rfl) rfl dX8_digest_139 (fun v1246 M1247 hD1248 hp1249 => ?_)
  obtain ⟨hp1249v, hp1249m⟩ := hp1249
  have hp1249v : (-7329154267270956708 : Int64) = v1246 := (by decide : (-7329154267270956708 : Int64) = 2738856971008929076 * 31 + 16).trans hp1249v
  subst hp1249v
  subst hp1249m
  refine j_lstore_n F1217 [some (.ref mo), some (.long (-7329154267270956708)), none, some (.ref ta), some (.int 8), some (.int 4), some (.int 16), some (.int 0), none] dX8_digest_142 (by decide) rfl rfl ?_
  refine j_iinc F1217 5 [some (.ref mo), some (.long (-7329154267270956708)), none, some (.ref ta), some (.int 8), some (.int 5), some (.int 16), some (.int 0), none] dX8_digest_143 rfl (by decide) (by decide) rfl rfl ?_
  refine j_goto F1217 122 dX8_digest_146 (by decide) ?_
  refine j_iload F1217 dX8_digest_122 rfl ?_
  refine j_iload F1217 dX8_digest_124 rfl ?_
  refine j_icmp_ge F1217 149 dX8_digest_126 (by decide) (fun h9 => absurd h9 (by decide)) (fun _ => ?_)
  refine j_aload_n F1217 dX8_digest_129 rfl ?_
  refine j_iload F1217 dX8_digest_130 rfl ?_
  refine m_iaload S (v := 32) h1214 (by unfold vp_in; decide) (by rw [show (5 : Int32).toNatClampNeg = 5 by decide]; exact (o1210_5 5 (by decide)).trans (by decide)) dX8_digest_132 ?_
  refine j_istore F1217 [some (.ref mo), some (.long (-7329154267270956708)), none, some (.ref ta), some (.int 8), some (.int 5), some (.int 32), some (.int 0), none] dX8_digest_133 (by decide) rfl rfl ?_
  refine j_lload_n F1217 dX8_digest_135 rfl ?_
  refine j_iload F1217 dX8_digest_136 rfl ?_
  refine j_i2l F1217 32 dX8_digest_138 (by decide) ?_
  refine m_cSl S (n1 := 2) (rest := []) (r_X8_add X.l G X.A M1197 (-7329154267270956708) 32) ⟨_, _, _, _, rfl, (gBS kB_X8_add (by decide +kernel)), rfl, rfl, (by decide +kernel), ⟨(Nat.le_of_ble_eq_true rfl), (Nat.le_of_ble_eq_true rfl)⟩⟩ rfl (Nat.le_of_ble_eq_true rfl) (Nat.le_of_ble_eq_true rfl) (Nat.le_of_ble_eq_true rfl) rfl dX8_digest_139 (fun v1250 M1251 hD1252 hp1253 => ?_)
  obtain ⟨hp1253v, hp1253m⟩ := hp1253
  have hp1253v : (-5842853400885038524 : Int64) = v1250 := (by decide : (-5842853400885038524 : Int64) = (-7329154267270956708) * 31 + 32).trans hp1253v
  subst hp1253v
  subst hp1253m
  refine j_lstore_n F1217 [some (.ref mo), some (.long (-5842853400885038524)), none, some (.ref ta), some (.int 8), some (.int 5), some (.int 32), some (.int 0), none] dX8_digest_142 (by decide) rfl rfl ?_
  refine j_iinc F1217 6 [some (.ref mo), some (.long (-5842853400885038524)), none, some (.ref ta), some (.int 8), some (.int 6), some (.int 32), some (.int 0), none] dX8_digest_143 rfl (by decide) (by decide) rfl rfl ?_
  refine j_goto F1217 122 dX8_digest_146 (by decide) ?_
  refine j_iload F1217 dX8_digest_122 rfl ?_
  refine j_iload F1217 dX8_digest_124 rfl ?_
  refine j_icmp_ge F1217 149 dX8_digest_126 (by decide) (fun h9 => absurd h9 (by decide)) (fun _ => ?_)
  refine j_aload_n F1217 dX8_digest_129 rfl ?_
  refine j_iload F1217 dX8_digest_130 rfl ?_
  refine m_iaload S (v := 64) h1214 (by unfold vp_in; decide) (by rw [show (6 : Int32).toNatClampNeg = 6 by decide]; exact (o1210_5 6 (by decide)).trans (by decide)) dX8_digest_132 ?_
  refine j_istore F1217 [some (.ref mo), some (.long (-5842853400885038524)), none, some (.ref ta), some (.int 8), some (.int 6), some (.int 64), some (.int 0), none] dX8_digest_133 (by decide) rfl rfl ?_
  refine j_lload_n F1217 dX8_digest_135 rfl ?_
  refine j_iload F1217 dX8_digest_136 rfl ?_
  refine j_i2l F1217 64 dX8_digest_138 (by decide) ?_
  refine m_cSl S (n1 := 2) (rest := []) (r_X8_add X.l G X.A M1197 (-5842853400885038524) 64) ⟨_, _, _, _, rfl, (gBS kB_X8_add (by decide +kernel)), rfl, rfl, (by decide +kernel), ⟨(Nat.le_of_ble_eq_true rfl), (Nat.le_of_ble_eq_true rfl)⟩⟩ rfl (Nat.le_of_ble_eq_true rfl) (Nat.le_of_ble_eq_true rfl) (Nat.le_of_ble_eq_true rfl) rfl dX8_digest_139 (fun v1254 M1255 hD1256 hp1257 => ?_)
  obtain ⟨hp1257v, hp1257m⟩ := hp1257
  have hp1257v : (3338985309659321980 : Int64) = v1254 := (by decide : (3338985309659321980 : Int64) = (-5842853400885038524) * 31 + 64).trans hp1257v
  subst hp1257v
  subst hp1257m
  refine j_lstore_n F1217 [some (.ref mo), some (.long 3338985309659321980), none, some (.ref ta), some (.int 8), some (.int 6), some (.int 64), some (.int 0), none] dX8_digest_142 (by decide) rfl rfl ?_
  refine j_iinc F1217 7 [some (.ref mo), some (.long 3338985309659321980), none, some (.ref ta), some (.int 8), some (.int 7), some (.int 64), some (.int 0), none] dX8_digest_143 rfl (by decide) (by decide) rfl rfl ?_
  refine j_goto F1217 122 dX8_digest_146 (by decide) ?_
  refine j_iload F1217 dX8_digest_122 rfl ?_
  refine j_iload F1217 dX8_digest_124 rfl ?_
  refine j_icmp_ge F1217 149 dX8_digest_126 (by decide) (fun h9 => absurd h9 (by decide)) (fun _ => ?_)
  refine j_aload_n F1217 dX8_digest_129 rfl ?_
  refine j_iload F1217 dX8_digest_130 rfl ?_
  refine m_iaload S (v := 128) h1214 (by unfold vp_in; decide) (by rw [show (7 : Int32).toNatClampNeg = 7 by decide]; exact (o1210_5 7 (by decide)).trans (by decide)) dX8_digest_132 ?_
  refine j_istore F1217 [some (.ref mo), some (.long 3338985309659321980), none, some (.ref ta), some (.int 8), some (.int 7), some (.int 128), some (.int 0), none] dX8_digest_133 (by decide) rfl rfl ?_
  refine j_lload_n F1217 dX8_digest_135 rfl ?_
  refine j_iload F1217 dX8_digest_136 rfl ?_
  refine j_i2l F1217 128 dX8_digest_138 (by decide) ?_
  refine m_cSl S (n1 := 2) (rest := []) (r_X8_add X.l G X.A M1197 3338985309659321980 128) ⟨_, _, _, _, rfl, (gBS kB_X8_add (by decide +kernel)), rfl, rfl, (by decide +kernel), ⟨(Nat.le_of_ble_eq_true rfl), (Nat.le_of_ble_eq_true rfl)⟩⟩ rfl (Nat.le_of_ble_eq_true rfl) (Nat.le_of_ble_eq_true rfl) (Nat.le_of_ble_eq_true rfl) rfl dX8_digest_139 (fun v1258 M1259 hD1260 hp1261 => ?_)
  obtain ⟨hp1261v, hp1261m⟩ := hp1261
  have hp1261v : (-7171919842818328188 : Int64) = v1258 := (by decide : (-7171919842818328188 : Int64) = 3338985309659321980 * 31 + 128).trans hp1261v
  subst hp1261v
  subst hp1261m
  refine j_lstore_n F1217 [some (.ref mo), some (.long (-7171919842818328188)), none, some (.ref ta), some (.int 8), some (.int 7), some (.int 128), some (.int 0), none] dX8_digest_142 (by decide) rfl rfl ?_
  refine j_iinc F1217 8 [some (.ref mo), some (.long (-7171919842818328188)), none, some (.ref ta), some (.int 8), some (.int 8), some (.int 128), some (.int 0), none] dX8_digest_143 rfl (by decide) (by decide) rfl rfl ?_
  refine j_goto F1217 122 dX8_digest_146 (by decide) ?_
  refine j_iload F1217 dX8_digest_122 rfl ?_
  refine j_iload F1217 dX8_digest_124 rfl ?_
  refine j_icmp_ge F1217 149 dX8_digest_126 (by decide) (fun _ => ?_) (fun h9 => absurd (by decide) h9)
  refine j_iconst F1217 0 dX8_digest_149 (by decide) ?_
  refine j_istore_n F1217 [some (.ref mo), some (.long (-7171919842818328188)), none, some (.int 0), some (.int 8), some (.int 8), some (.int 128), some (.int 0), none] dX8_digest_150 (by decide) rfl rfl ?_
  refine j_iload_n F1217 dX8_digest_151 rfl ?_
  refine j_bipush F1217 10 dX8_digest_152 (by decide) ?_
  refine j_icmp_ge F1217 174 dX8_digest_154 (by decide) (fun h9 => absurd h9 (by decide)) (fun _ => ?_)
  refine j_lload_n F1217 dX8_digest_157 rfl ?_
  refine j_aload_n F1217 dX8_digest_158 rfl ?_
  refine j_iload_n F1217 dX8_digest_159 rfl ?_
  have hKm1263 : Kp M1197 [] M1197 := by
    intro b x hb hx
    exact hx
  have hMo1262 := Mo.mono hp1199m hKm1263
  refine m_cVi S (n1 := 1) (rest := [.long (-7171919842818328188)]) (r_X8_clothOf X.l G X.A M1197 0 (by decide) hMo1262) ⟨_, _, _, _, rfl, (gBV kB_X8_clothOf (by decide +kernel)), rfl, rfl, (by decide +kernel), ⟨(Nat.le_of_ble_eq_true rfl), (Nat.le_of_ble_eq_true rfl)⟩⟩ h1211 rfl rfl (Nat.le_of_ble_eq_true rfl) (Nat.le_of_ble_eq_true rfl) (Nat.le_of_ble_eq_true rfl) rfl dX8_digest_160 (fun v1264 M1265 hD1266 hp1267 => ?_)
  obtain ⟨hp1267m, hp1267k, hp1267v⟩ := hp1267
  subst hp1267v
  have n1268 : v17 ∉ [mo, ka] := by
    intro h9; simp only [List.mem_cons, List.not_mem_nil, or_false] at h9
    rcases h9 with h9 | h9
    · exact (In.ne hD1198 h28 h1211 (by simp)) h9
    · exact (In.ne hD1198 h28 h1215 (by simp)) h9
  have n1269 : v116 ∉ [mo, ka] := by
    intro h9; simp only [List.mem_cons, List.not_mem_nil, or_false] at h9
    rcases h9 with h9 | h9
    · exact (In.ne hD1198 h128 h1211 (by simp)) h9
    · exact (In.ne hD1198 h128 h1215 (by simp)) h9
  have n1270 : v220 ∉ [mo, ka] := by
    intro h9; simp only [List.mem_cons, List.not_mem_nil, or_false] at h9
    rcases h9 with h9 | h9
    · exact (In.ne hD1198 h233 h1211 (by simp)) h9
    · exact (In.ne hD1198 h233 h1215 (by simp)) h9
  have n1271 : v329 ∉ [mo, ka] := by
    intro h9; simp only [List.mem_cons, List.not_mem_nil, or_false] at h9
    rcases h9 with h9 | h9
    · exact (In.ne hD1198 h343 h1211 (by simp)) h9
    · exact (In.ne hD1198 h343 h1215 (by simp)) h9
  have n1272 : v443 ∉ [mo, ka] := by
    intro h9; simp only [List.mem_cons, List.not_mem_nil, or_false] at h9
    rcases h9 with h9 | h9
    · exact (In.ne hD1198 h458 h1211 (by simp)) h9
    · exact (In.ne hD1198 h458 h1215 (by simp)) h9
  have n1273 : v562 ∉ [mo, ka] := by
    intro h9; simp only [List.mem_cons, List.not_mem_nil, or_false] at h9
    rcases h9 with h9 | h9
    · exact (In.ne hD1198 h578 h1211 (by simp)) h9
    · exact (In.ne hD1198 h578 h1215 (by simp)) h9
  have n1274 : v686 ∉ [mo, ka] := by
    intro h9; simp only [List.mem_cons, List.not_mem_nil, or_false] at h9
    rcases h9 with h9 | h9
    · exact (In.ne hD1198 h703 h1211 (by simp)) h9
    · exact (In.ne hD1198 h703 h1215 (by simp)) h9
  have n1275 : v815 ∉ [mo, ka] := by
    intro h9; simp only [List.mem_cons, List.not_mem_nil, or_false] at h9
    rcases h9 with h9 | h9
    · exact (In.ne hD1198 h833 h1211 (by simp)) h9
    · exact (In.ne hD1198 h833 h1215 (by simp)) h9
  have n1276 : v949 ∉ [mo, ka] := by
    intro h9; simp only [List.mem_cons, List.not_mem_nil, or_false] at h9
    rcases h9 with h9 | h9
    · exact (In.ne hD1198 h968 h1211 (by simp)) h9
    · exact (In.ne hD1198 h968 h1215 (by simp)) h9
  have n1277 : v1088 ∉ [mo, ka] := by
    intro h9; simp only [List.mem_cons, List.not_mem_nil, or_false] at h9
    rcases h9 with h9 | h9
    · exact (In.ne hD1198 h1108 h1211 (by simp)) h9
    · exact (In.ne hD1198 h1108 h1215 (by simp)) h9
  have h28 := hp1267k _ _ n1268 h28
  have h128 := hp1267k _ _ n1269 h128
  have h233 := hp1267k _ _ n1270 h233
  have h343 := hp1267k _ _ n1271 h343
  have h458 := hp1267k _ _ n1272 h458
  have h578 := hp1267k _ _ n1273 h578
  have h703 := hp1267k _ _ n1274 h703
  have h833 := hp1267k _ _ n1275 h833
  have h968 := hp1267k _ _ n1276 h968
  have h1108 := hp1267k _ _ n1277 h1108
  obtain ⟨pl1278, pe1278, f1278, kn1278, tf1278, o1278_0, o1278_1, o1278_2, o1278_3, o1278_4, o1278_5, o1278_6, o1278_7⟩ := id hp1267m
  have h1279 : (mo, (.inr (8, [.int 0, .ref pl1278, .ref ka, .ref ta]) : va_E)) ∈ M1265 := o1278_0
  have h1280 : (pl1278, (.inr (10, [.int 10, .ref pe1278, .int 10]) : va_E)) ∈ M1265 := o1278_1
  have h1281 : (pe1278, (.inl (G.cO, 10, .inr (.inr (.inr (.inr f1278)))) : va_E)) ∈ M1265 := o1278_2
  have h1282 : (ta, (.inl (G.Z.cI, 8, .inl tf1278) : va_E)) ∈ M1265 := o1278_4
  have h1283 : (ka, (.inl (G.cR, 10, .inr (.inr (.inr (.inr kn1278)))) : va_E)) ∈ M1265 := o1278_6
  have hDo1284 := hD1266
  have F1285 := S.1.at 360 1329 (Nat.le_of_ble_eq_true rfl) (Nat.le_of_ble_eq_true rfl)
  refine j_i2l F1285 0 dX8_digest_163 (by decide) ?_
  refine m_cSl S (n1 := 2) (rest := []) (r_X8_add X.l G X.A M1265 (-7171919842818328188) 0) ⟨_, _, _, _, rfl, (gBS kB_X8_add (by decide +kernel)), rfl, rfl, (by decide +kernel), ⟨(Nat.le_of_ble_eq_true rfl), (Nat.le_of_ble_eq_true rfl)⟩⟩ rfl (Nat.le_of_ble_eq_true rfl) (Nat.le_of_ble_eq_true rfl) (Nat.le_of_ble_eq_true rfl) rfl dX8_digest_164 (fun v1286 M1287 hD1288 hp1289 => ?_)
  obtain ⟨hp1289v, hp1289m⟩ := hp1289
  have hp1289v : (-968586242853554436 : Int64) = v1286 := (by decide : (-968586242853554436 : Int64) = (-7171919842818328188) * 31 + 0).trans hp1289v
  subst hp1289v
  subst hp1289m
  refine j_lstore_n F1285 [some (.ref mo), some (.long (-968586242853554436)), none, some (.int 0), some (.int 8), some (.int 8), some (.int 128), some (.int 0), none] dX8_digest_167 (by decide) rfl rfl ?_
  refine j_iinc F1285 1 [some (.ref mo), some (.long (-968586242853554436)), none, some (.int 1), some (.int 8), some (.int 8), some (.int 128), some (.int 0), none] dX8_digest_168 rfl (by decide) (by decide) rfl rfl ?_
  refine j_goto F1285 151 dX8_digest_171 (by decide) ?_
  refine j_iload_n F1285 dX8_digest_151 rfl ?_
  refine j_bipush F1285 10 dX8_digest_152 (by decide) ?_
  refine j_icmp_ge F1285 174 dX8_digest_154 (by decide) (fun h9 => absurd h9 (by decide)) (fun _ => ?_)
  refine j_lload_n F1285 dX8_digest_157 rfl ?_
  refine j_aload_n F1285 dX8_digest_158 rfl ?_
  refine j_iload_n F1285 dX8_digest_159 rfl ?_
  have hKm1291 : Kp M1265 [] M1265 := by
    intro b x hb hx
    exact hx
  have hMo1290 := Mo.mono hp1267m hKm1291
  refine m_cVi S (n1 := 1) (rest := [.long (-968586242853554436)]) (r_X8_clothOf X.l G X.A M1265 1 (by decide) hMo1290) ⟨_, _, _, _, rfl, (gBV kB_X8_clothOf (by decide +kernel)), rfl, rfl, (by decide +kernel), ⟨(Nat.le_of_ble_eq_true rfl), (Nat.le_of_ble_eq_true rfl)⟩⟩ h1279 rfl rfl (Nat.le_of_ble_eq_true rfl) (Nat.le_of_ble_eq_true rfl) (Nat.le_of_ble_eq_true rfl) rfl dX8_digest_160 (fun v1292 M1293 hD1294 hp1295 => ?_)
  obtain ⟨hp1295m, hp1295k, hp1295v⟩ := hp1295
  subst hp1295v
  have n1296 : v17 ∉ [mo, ka] := by
    intro h9; simp only [List.mem_cons, List.not_mem_nil, or_false] at h9
    rcases h9 with h9 | h9
    · exact (In.ne hD1266 h28 h1279 (by simp)) h9
    · exact (In.ne hD1266 h28 h1283 (by simp)) h9
  have n1297 : v116 ∉ [mo, ka] := by
    intro h9; simp only [List.mem_cons, List.not_mem_nil, or_false] at h9
    rcases h9 with h9 | h9
    · exact (In.ne hD1266 h128 h1279 (by simp)) h9
    · exact (In.ne hD1266 h128 h1283 (by simp)) h9
  have n1298 : v220 ∉ [mo, ka] := by
    intro h9; simp only [List.mem_cons, List.not_mem_nil, or_false] at h9
    rcases h9 with h9 | h9
    · exact (In.ne hD1266 h233 h1279 (by simp)) h9
    · exact (In.ne hD1266 h233 h1283 (by simp)) h9
  have n1299 : v329 ∉ [mo, ka] := by
    intro h9; simp only [List.mem_cons, List.not_mem_nil, or_false] at h9
    rcases h9 with h9 | h9
    · exact (In.ne hD1266 h343 h1279 (by simp)) h9
    · exact (In.ne hD1266 h343 h1283 (by simp)) h9
  have n1300 : v443 ∉ [mo, ka] := by
    intro h9; simp only [List.mem_cons, List.not_mem_nil, or_false] at h9
    rcases h9 with h9 | h9
    · exact (In.ne hD1266 h458 h1279 (by simp)) h9
    · exact (In.ne hD1266 h458 h1283 (by simp)) h9
  have n1301 : v562 ∉ [mo, ka] := by
    intro h9; simp only [List.mem_cons, List.not_mem_nil, or_false] at h9
    rcases h9 with h9 | h9
    · exact (In.ne hD1266 h578 h1279 (by simp)) h9
    · exact (In.ne hD1266 h578 h1283 (by simp)) h9
  have n1302 : v686 ∉ [mo, ka] := by
    intro h9; simp only [List.mem_cons, List.not_mem_nil, or_false] at h9
    rcases h9 with h9 | h9
    · exact (In.ne hD1266 h703 h1279 (by simp)) h9
    · exact (In.ne hD1266 h703 h1283 (by simp)) h9
  have n1303 : v815 ∉ [mo, ka] := by
    intro h9; simp only [List.mem_cons, List.not_mem_nil, or_false] at h9
    rcases h9 with h9 | h9
    · exact (In.ne hD1266 h833 h1279 (by simp)) h9
    · exact (In.ne hD1266 h833 h1283 (by simp)) h9
  have n1304 : v949 ∉ [mo, ka] := by
    intro h9; simp only [List.mem_cons, List.not_mem_nil, or_false] at h9
    rcases h9 with h9 | h9
    · exact (In.ne hD1266 h968 h1279 (by simp)) h9
    · exact (In.ne hD1266 h968 h1283 (by simp)) h9
  have n1305 : v1088 ∉ [mo, ka] := by
    intro h9; simp only [List.mem_cons, List.not_mem_nil, or_false] at h9
    rcases h9 with h9 | h9
    · exact (In.ne hD1266 h1108 h1279 (by simp)) h9
    · exact (In.ne hD1266 h1108 h1283 (by simp)) h9
  have h28 := hp1295k _ _ n1296 h28
  have h128 := hp1295k _ _ n1297 h128
  have h233 := hp1295k _ _ n1298 h233
  have h343 := hp1295k _ _ n1299 h343
  have h458 := hp1295k _ _ n1300 h458
  have h578 := hp1295k _ _ n1301 h578
  have h703 := hp1295k _ _ n1302 h703
  have h833 := hp1295k _ _ n1303 h833
  have h968 := hp1295k _ _ n1304 h968
  have h1108 := hp1295k _ _ n1305 h1108
  obtain ⟨pl1306, pe1306, f1306, kn1306, tf1306, o1306_0, o1306_1, o1306_2, o1306_3, o1306_4, o1306_5, o1306_6, o1306_7⟩ := id hp1295m
  have h1307 : (mo, (.inr (8, [.int 0, .ref pl1306, .ref ka, .ref ta]) : va_E)) ∈ M1293 := o1306_0
  have h1308 : (pl1306, (.inr (10, [.int 10, .ref pe1306, .int 10]) : va_E)) ∈ M1293 := o1306_1
  have h1309 : (pe1306, (.inl (G.cO, 10, .inr (.inr (.inr (.inr f1306)))) : va_E)) ∈ M1293 := o1306_2
  have h1310 : (ta, (.inl (G.Z.cI, 8, .inl tf1306) : va_E)) ∈ M1293 := o1306_4
  have h1311 : (ka, (.inl (G.cR, 10, .inr (.inr (.inr (.inr kn1306)))) : va_E)) ∈ M1293 := o1306_6
  have hDo1312 := hD1294
  have F1313 := S.1.at 380 1398 (Nat.le_of_ble_eq_true rfl) (Nat.le_of_ble_eq_true rfl)
  refine j_i2l F1313 0 dX8_digest_163 (by decide) ?_
  refine m_cSl S (n1 := 2) (rest := []) (r_X8_add X.l G X.A M1293 (-968586242853554436) 0) ⟨_, _, _, _, rfl, (gBS kB_X8_add (by decide +kernel)), rfl, rfl, (by decide +kernel), ⟨(Nat.le_of_ble_eq_true rfl), (Nat.le_of_ble_eq_true rfl)⟩⟩ rfl (Nat.le_of_ble_eq_true rfl) (Nat.le_of_ble_eq_true rfl) (Nat.le_of_ble_eq_true rfl) rfl dX8_digest_164 (fun v1314 M1315 hD1316 hp1317 => ?_)
  obtain ⟨hp1317v, hp1317m⟩ := hp1317
  have hp1317v : (6867314618958915716 : Int64) = v1314 := (by decide : (6867314618958915716 : Int64) = (-968586242853554436) * 31 + 0).trans hp1317v
  subst hp1317v
  subst hp1317m
  refine j_lstore_n F1313 [some (.ref mo), some (.long 6867314618958915716), none, some (.int 1), some (.int 8), some (.int 8), some (.int 128), some (.int 0), none] dX8_digest_167 (by decide) rfl rfl ?_
  refine j_iinc F1313 2 [some (.ref mo), some (.long 6867314618958915716), none, some (.int 2), some (.int 8), some (.int 8), some (.int 128), some (.int 0), none] dX8_digest_168 rfl (by decide) (by decide) rfl rfl ?_
  refine j_goto F1313 151 dX8_digest_171 (by decide) ?_
  refine j_iload_n F1313 dX8_digest_151 rfl ?_
  refine j_bipush F1313 10 dX8_digest_152 (by decide) ?_
  refine j_icmp_ge F1313 174 dX8_digest_154 (by decide) (fun h9 => absurd h9 (by decide)) (fun _ => ?_)
  refine j_lload_n F1313 dX8_digest_157 rfl ?_
  refine j_aload_n F1313 dX8_digest_158 rfl ?_
  refine j_iload_n F1313 dX8_digest_159 rfl ?_
  have hKm1319 : Kp M1293 [] M1293 := by
    intro b x hb hx
    exact hx
  have hMo1318 := Mo.mono hp1295m hKm1319
  refine m_cVi S (n1 := 1) (rest := [.long 6867314618958915716]) (r_X8_clothOf X.l G X.A M1293 2 (by decide) hMo1318) ⟨_, _, _, _, rfl, (gBV kB_X8_clothOf (by decide +kernel)), rfl, rfl, (by decide +kernel), ⟨(Nat.le_of_ble_eq_true rfl), (Nat.le_of_ble_eq_true rfl)⟩⟩ h1307 rfl rfl (Nat.le_of_ble_eq_true rfl) (Nat.le_of_ble_eq_true rfl) (Nat.le_of_ble_eq_true rfl) rfl dX8_digest_160 (fun v1320 M1321 hD1322 hp1323 => ?_)
  obtain ⟨hp1323m, hp1323k, hp1323v⟩ := hp1323
  subst hp1323v
  have n1324 : v17 ∉ [mo, ka] := by
    intro h9; simp only [List.mem_cons, List.not_mem_nil, or_false] at h9
    rcases h9 with h9 | h9
    · exact (In.ne hD1294 h28 h1307 (by simp)) h9
    · exact (In.ne hD1294 h28 h1311 (by simp)) h9
  have n1325 : v116 ∉ [mo, ka] := by
    intro h9; simp only [List.mem_cons, List.not_mem_nil, or_false] at h9
    rcases h9 with h9 | h9
    · exact (In.ne hD1294 h128 h1307 (by simp)) h9
    · exact (In.ne hD1294 h128 h1311 (by simp)) h9
  have n1326 : v220 ∉ [mo, ka] := by
    intro h9; simp only [List.mem_cons, List.not_mem_nil, or_false] at h9
    rcases h9 with h9 | h9
    · exact (In.ne hD1294 h233 h1307 (by simp)) h9
    · exact (In.ne hD1294 h233 h1311 (by simp)) h9
  have n1327 : v329 ∉ [mo, ka] := by
    intro h9; simp only [List.mem_cons, List.not_mem_nil, or_false] at h9
    rcases h9 with h9 | h9
    · exact (In.ne hD1294 h343 h1307 (by simp)) h9
    · exact (In.ne hD1294 h343 h1311 (by simp)) h9
  have n1328 : v443 ∉ [mo, ka] := by
    intro h9; simp only [List.mem_cons, List.not_mem_nil, or_false] at h9
    rcases h9 with h9 | h9
    · exact (In.ne hD1294 h458 h1307 (by simp)) h9
    · exact (In.ne hD1294 h458 h1311 (by simp)) h9
  have n1329 : v562 ∉ [mo, ka] := by
    intro h9; simp only [List.mem_cons, List.not_mem_nil, or_false] at h9
    rcases h9 with h9 | h9
    · exact (In.ne hD1294 h578 h1307 (by simp)) h9
    · exact (In.ne hD1294 h578 h1311 (by simp)) h9
  have n1330 : v686 ∉ [mo, ka] := by
    intro h9; simp only [List.mem_cons, List.not_mem_nil, or_false] at h9
    rcases h9 with h9 | h9
    · exact (In.ne hD1294 h703 h1307 (by simp)) h9
    · exact (In.ne hD1294 h703 h1311 (by simp)) h9
  have n1331 : v815 ∉ [mo, ka] := by
    intro h9; simp only [List.mem_cons, List.not_mem_nil, or_false] at h9
    rcases h9 with h9 | h9
    · exact (In.ne hD1294 h833 h1307 (by simp)) h9
    · exact (In.ne hD1294 h833 h1311 (by simp)) h9
  have n1332 : v949 ∉ [mo, ka] := by
    intro h9; simp only [List.mem_cons, List.not_mem_nil, or_false] at h9
    rcases h9 with h9 | h9
    · exact (In.ne hD1294 h968 h1307 (by simp)) h9
    · exact (In.ne hD1294 h968 h1311 (by simp)) h9
  have n1333 : v1088 ∉ [mo, ka] := by
    intro h9; simp only [List.mem_cons, List.not_mem_nil, or_false] at h9
    rcases h9 with h9 | h9
    · exact (In.ne hD1294 h1108 h1307 (by simp)) h9
    · exact (In.ne hD1294 h1108 h1311 (by simp)) h9
  have h28 := hp1323k _ _ n1324 h28
  have h128 := hp1323k _ _ n1325 h128
  have h233 := hp1323k _ _ n1326 h233
  have h343 := hp1323k _ _ n1327 h343
  have h458 := hp1323k _ _ n1328 h458
  have h578 := hp1323k _ _ n1329 h578
  have h703 := hp1323k _ _ n1330 h703
  have h833 := hp1323k _ _ n1331 h833
  have h968 := hp1323k _ _ n1332 h968
  have h1108 := hp1323k _ _ n1333 h1108
  obtain ⟨pl1334, pe1334, f1334, kn1334, tf1334, o1334_0, o1334_1, o1334_2, o1334_3, o1334_4, o1334_5, o1334_6, o1334_7⟩ := id hp1323m
  have h1335 : (mo, (.inr (8, [.int 0, .ref pl1334, .ref ka, .ref ta]) : va_E)) ∈ M1321 := o1334_0
  have h1336 : (pl1334, (.inr (10, [.int 10, .ref pe1334, .int 10]) : va_E)) ∈ M1321 := o1334_1
  have h1337 : (pe1334, (.inl (G.cO, 10, .inr (.inr (.inr (.inr f1334)))) : va_E)) ∈ M1321 := o1334_2
  have h1338 : (ta, (.inl (G.Z.cI, 8, .inl tf1334) : va_E)) ∈ M1321 := o1334_4
  have h1339 : (ka, (.inl (G.cR, 10, .inr (.inr (.inr (.inr kn1334)))) : va_E)) ∈ M1321 := o1334_6
  have hDo1340 := hD1322
  have F1341 := S.1.at 400 1467 (Nat.le_of_ble_eq_true rfl) (Nat.le_of_ble_eq_true rfl)
  refine j_i2l F1341 0 dX8_digest_163 (by decide) ?_
  refine m_cSl S (n1 := 2) (rest := []) (r_X8_add X.l G X.A M1321 6867314618958915716 0) ⟨_, _, _, _, rfl, (gBS kB_X8_add (by decide +kernel)), rfl, rfl, (by decide +kernel), ⟨(Nat.le_of_ble_eq_true rfl), (Nat.le_of_ble_eq_true rfl)⟩⟩ rfl (Nat.le_of_ble_eq_true rfl) (Nat.le_of_ble_eq_true rfl) (Nat.le_of_ble_eq_true rfl) rfl dX8_digest_164 (fun v1342 M1343 hD1344 hp1345 => ?_)
  obtain ⟨hp1345v, hp1345m⟩ := hp1345
  have hp1345v : (-8474175696788232196 : Int64) = v1342 := (by decide : (-8474175696788232196 : Int64) = 6867314618958915716 * 31 + 0).trans hp1345v
  subst hp1345v
  subst hp1345m
  refine j_lstore_n F1341 [some (.ref mo), some (.long (-8474175696788232196)), none, some (.int 2), some (.int 8), some (.int 8), some (.int 128), some (.int 0), none] dX8_digest_167 (by decide) rfl rfl ?_
  refine j_iinc F1341 3 [some (.ref mo), some (.long (-8474175696788232196)), none, some (.int 3), some (.int 8), some (.int 8), some (.int 128), some (.int 0), none] dX8_digest_168 rfl (by decide) (by decide) rfl rfl ?_
  refine j_goto F1341 151 dX8_digest_171 (by decide) ?_
  refine j_iload_n F1341 dX8_digest_151 rfl ?_
  refine j_bipush F1341 10 dX8_digest_152 (by decide) ?_
  refine j_icmp_ge F1341 174 dX8_digest_154 (by decide) (fun h9 => absurd h9 (by decide)) (fun _ => ?_)
  refine j_lload_n F1341 dX8_digest_157 rfl ?_
  refine j_aload_n F1341 dX8_digest_158 rfl ?_
  refine j_iload_n F1341 dX8_digest_159 rfl ?_
  have hKm1347 : Kp M1321 [] M1321 := by
    intro b x hb hx
    exact hx
  have hMo1346 := Mo.mono hp1323m hKm1347
  refine m_cVi S (n1 := 1) (rest := [.long (-8474175696788232196)]) (r_X8_clothOf X.l G X.A M1321 3 (by decide) hMo1346) ⟨_, _, _, _, rfl, (gBV kB_X8_clothOf (by decide +kernel)), rfl, rfl, (by decide +kernel), ⟨(Nat.le_of_ble_eq_true rfl), (Nat.le_of_ble_eq_true rfl)⟩⟩ h1335 rfl rfl (Nat.le_of_ble_eq_true rfl) (Nat.le_of_ble_eq_true rfl) (Nat.le_of_ble_eq_true rfl) rfl dX8_digest_160 (fun v1348 M1349 hD1350 hp1351 => ?_)
  obtain ⟨hp1351m, hp1351k, hp1351v⟩ := hp1351
  subst hp1351v
  have n1352 : v17 ∉ [mo, ka] := by
    intro h9; simp only [List.mem_cons, List.not_mem_nil, or_false] at h9
    rcases h9 with h9 | h9
    · exact (In.ne hD1322 h28 h1335 (by simp)) h9
    · exact (In.ne hD1322 h28 h1339 (by simp)) h9
  have n1353 : v116 ∉ [mo, ka] := by
    intro h9; simp only [List.mem_cons, List.not_mem_nil, or_false] at h9
    rcases h9 with h9 | h9
    · exact (In.ne hD1322 h128 h1335 (by simp)) h9
    · exact (In.ne hD1322 h128 h1339 (by simp)) h9
  have n1354 : v220 ∉ [mo, ka] := by
    intro h9; simp only [List.mem_cons, List.not_mem_nil, or_false] at h9
    rcases h9 with h9 | h9
    · exact (In.ne hD1322 h233 h1335 (by simp)) h9
    · exact (In.ne hD1322 h233 h1339 (by simp)) h9
  have n1355 : v329 ∉ [mo, ka] := by
    intro h9; simp only [List.mem_cons, List.not_mem_nil, or_false] at h9
    rcases h9 with h9 | h9
    · exact (In.ne hD1322 h343 h1335 (by simp)) h9
    · exact (In.ne hD1322 h343 h1339 (by simp)) h9
  have n1356 : v443 ∉ [mo, ka] := by
    intro h9; simp only [List.mem_cons, List.not_mem_nil, or_false] at h9
    rcases h9 with h9 | h9
    · exact (In.ne hD1322 h458 h1335 (by simp)) h9
    · exact (In.ne hD1322 h458 h1339 (by simp)) h9
  have n1357 : v562 ∉ [mo, ka] := by
    intro h9; simp only [List.mem_cons, List.not_mem_nil, or_false] at h9
    rcases h9 with h9 | h9
    · exact (In.ne hD1322 h578 h1335 (by simp)) h9
    · exact (In.ne hD1322 h578 h1339 (by simp)) h9
  have n1358 : v686 ∉ [mo, ka] := by
    intro h9; simp only [List.mem_cons, List.not_mem_nil, or_false] at h9
    rcases h9 with h9 | h9
    · exact (In.ne hD1322 h703 h1335 (by simp)) h9
    · exact (In.ne hD1322 h703 h1339 (by simp)) h9
  have n1359 : v815 ∉ [mo, ka] := by
    intro h9; simp only [List.mem_cons, List.not_mem_nil, or_false] at h9
    rcases h9 with h9 | h9
    · exact (In.ne hD1322 h833 h1335 (by simp)) h9
    · exact (In.ne hD1322 h833 h1339 (by simp)) h9
  have n1360 : v949 ∉ [mo, ka] := by
    intro h9; simp only [List.mem_cons, List.not_mem_nil, or_false] at h9
    rcases h9 with h9 | h9
    · exact (In.ne hD1322 h968 h1335 (by simp)) h9
    · exact (In.ne hD1322 h968 h1339 (by simp)) h9
  have n1361 : v1088 ∉ [mo, ka] := by
    intro h9; simp only [List.mem_cons, List.not_mem_nil, or_false] at h9
    rcases h9 with h9 | h9
    · exact (In.ne hD1322 h1108 h1335 (by simp)) h9
    · exact (In.ne hD1322 h1108 h1339 (by simp)) h9
  have h28 := hp1351k _ _ n1352 h28
  have h128 := hp1351k _ _ n1353 h128
  have h233 := hp1351k _ _ n1354 h233
  have h343 := hp1351k _ _ n1355 h343
  have h458 := hp1351k _ _ n1356 h458
  have h578 := hp1351k _ _ n1357 h578
  have h703 := hp1351k _ _ n1358 h703
  have h833 := hp1351k _ _ n1359 h833
  have h968 := hp1351k _ _ n1360 h968
  have h1108 := hp1351k _ _ n1361 h1108
  obtain ⟨pl1362, pe1362, f1362, kn1362, tf1362, o1362_0, o1362_1, o1362_2, o1362_3, o1362_4, o1362_5, o1362_6, o1362_7⟩ := id hp1351m
  have h1363 : (mo, (.inr (8, [.int 0, .ref pl1362, .ref ka, .ref ta]) : va_E)) ∈ M1349 := o1362_0
  have h1364 : (pl1362, (.inr (10, [.int 10, .ref pe1362, .int 10]) : va_E)) ∈ M1349 := o1362_1
  have h1365 : (pe1362, (.inl (G.cO, 10, .inr (.inr (.inr (.inr f1362)))) : va_E)) ∈ M1349 := o1362_2
  have h1366 : (ta, (.inl (G.Z.cI, 8, .inl tf1362) : va_E)) ∈ M1349 := o1362_4
  have h1367 : (ka, (.inl (G.cR, 10, .inr (.inr (.inr (.inr kn1362)))) : va_E)) ∈ M1349 := o1362_6
  have hDo1368 := hD1350
  have F1369 := S.1.at 420 1536 (Nat.le_of_ble_eq_true rfl) (Nat.le_of_ble_eq_true rfl)
  refine j_i2l F1369 0 dX8_digest_163 (by decide) ?_
  refine m_cSl S (n1 := 2) (rest := []) (r_X8_add X.l G X.A M1349 (-8474175696788232196) 0) ⟨_, _, _, _, rfl, (gBS kB_X8_add (by decide +kernel)), rfl, rfl, (by decide +kernel), ⟨(Nat.le_of_ble_eq_true rfl), (Nat.le_of_ble_eq_true rfl)⟩⟩ rfl (Nat.le_of_ble_eq_true rfl) (Nat.le_of_ble_eq_true rfl) (Nat.le_of_ble_eq_true rfl) rfl dX8_digest_164 (fun v1370 M1371 hD1372 hp1373 => ?_)
  obtain ⟨hp1373v, hp1373m⟩ := hp1373
  have hp1373v : (-4445029568501475452 : Int64) = v1370 := (by decide : (-4445029568501475452 : Int64) = (-8474175696788232196) * 31 + 0).trans hp1373v
  subst hp1373v
  subst hp1373m
  refine j_lstore_n F1369 [some (.ref mo), some (.long (-4445029568501475452)), none, some (.int 3), some (.int 8), some (.int 8), some (.int 128), some (.int 0), none] dX8_digest_167 (by decide) rfl rfl ?_
  refine j_iinc F1369 4 [some (.ref mo), some (.long (-4445029568501475452)), none, some (.int 4), some (.int 8), some (.int 8), some (.int 128), some (.int 0), none] dX8_digest_168 rfl (by decide) (by decide) rfl rfl ?_
  refine j_goto F1369 151 dX8_digest_171 (by decide) ?_
  refine j_iload_n F1369 dX8_digest_151 rfl ?_
  refine j_bipush F1369 10 dX8_digest_152 (by decide) ?_
  refine j_icmp_ge F1369 174 dX8_digest_154 (by decide) (fun h9 => absurd h9 (by decide)) (fun _ => ?_)
  refine j_lload_n F1369 dX8_digest_157 rfl ?_
  refine j_aload_n F1369 dX8_digest_158 rfl ?_
  refine j_iload_n F1369 dX8_digest_159 rfl ?_
  have hKm1375 : Kp M1349 [] M1349 := by
    intro b x hb hx
    exact hx
  have hMo1374 := Mo.mono hp1351m hKm1375
  refine m_cVi S (n1 := 1) (rest := [.long (-4445029568501475452)]) (r_X8_clothOf X.l G X.A M1349 4 (by decide) hMo1374) ⟨_, _, _, _, rfl, (gBV kB_X8_clothOf (by decide +kernel)), rfl, rfl, (by decide +kernel), ⟨(Nat.le_of_ble_eq_true rfl), (Nat.le_of_ble_eq_true rfl)⟩⟩ h1363 rfl rfl (Nat.le_of_ble_eq_true rfl) (Nat.le_of_ble_eq_true rfl) (Nat.le_of_ble_eq_true rfl) rfl dX8_digest_160 (fun v1376 M1377 hD1378 hp1379 => ?_)
  obtain ⟨hp1379m, hp1379k, hp1379v⟩ := hp1379
  subst hp1379v
  have n1380 : v17 ∉ [mo, ka] := by
    intro h9; simp only [List.mem_cons, List.not_mem_nil, or_false] at h9
    rcases h9 with h9 | h9
    · exact (In.ne hD1350 h28 h1363 (by simp)) h9
    · exact (In.ne hD1350 h28 h1367 (by simp)) h9
  have n1381 : v116 ∉ [mo, ka] := by
    intro h9; simp only [List.mem_cons, List.not_mem_nil, or_false] at h9
    rcases h9 with h9 | h9
    · exact (In.ne hD1350 h128 h1363 (by simp)) h9
    · exact (In.ne hD1350 h128 h1367 (by simp)) h9
  have n1382 : v220 ∉ [mo, ka] := by
    intro h9; simp only [List.mem_cons, List.not_mem_nil, or_false] at h9
    rcases h9 with h9 | h9
    · exact (In.ne hD1350 h233 h1363 (by simp)) h9
    · exact (In.ne hD1350 h233 h1367 (by simp)) h9
  have n1383 : v329 ∉ [mo, ka] := by
    intro h9; simp only [List.mem_cons, List.not_mem_nil, or_false] at h9
    rcases h9 with h9 | h9
    · exact (In.ne hD1350 h343 h1363 (by simp)) h9
    · exact (In.ne hD1350 h343 h1367 (by simp)) h9
  have n1384 : v443 ∉ [mo, ka] := by
    intro h9; simp only [List.mem_cons, List.not_mem_nil, or_false] at h9
    rcases h9 with h9 | h9
    · exact (In.ne hD1350 h458 h1363 (by simp)) h9
    · exact (In.ne hD1350 h458 h1367 (by simp)) h9
  have n1385 : v562 ∉ [mo, ka] := by
    intro h9; simp only [List.mem_cons, List.not_mem_nil, or_false] at h9
    rcases h9 with h9 | h9
    · exact (In.ne hD1350 h578 h1363 (by simp)) h9
    · exact (In.ne hD1350 h578 h1367 (by simp)) h9
  have n1386 : v686 ∉ [mo, ka] := by
    intro h9; simp only [List.mem_cons, List.not_mem_nil, or_false] at h9
    rcases h9 with h9 | h9
    · exact (In.ne hD1350 h703 h1363 (by simp)) h9
    · exact (In.ne hD1350 h703 h1367 (by simp)) h9
  have n1387 : v815 ∉ [mo, ka] := by
    intro h9; simp only [List.mem_cons, List.not_mem_nil, or_false] at h9
    rcases h9 with h9 | h9
    · exact (In.ne hD1350 h833 h1363 (by simp)) h9
    · exact (In.ne hD1350 h833 h1367 (by simp)) h9
  have n1388 : v949 ∉ [mo, ka] := by
    intro h9; simp only [List.mem_cons, List.not_mem_nil, or_false] at h9
    rcases h9 with h9 | h9
    · exact (In.ne hD1350 h968 h1363 (by simp)) h9
    · exact (In.ne hD1350 h968 h1367 (by simp)) h9
  have n1389 : v1088 ∉ [mo, ka] := by
    intro h9; simp only [List.mem_cons, List.not_mem_nil, or_false] at h9
    rcases h9 with h9 | h9
    · exact (In.ne hD1350 h1108 h1363 (by simp)) h9
    · exact (In.ne hD1350 h1108 h1367 (by simp)) h9
  have h28 := hp1379k _ _ n1380 h28
  have h128 := hp1379k _ _ n1381 h128
  have h233 := hp1379k _ _ n1382 h233
  have h343 := hp1379k _ _ n1383 h343
  have h458 := hp1379k _ _ n1384 h458
  have h578 := hp1379k _ _ n1385 h578
  have h703 := hp1379k _ _ n1386 h703
  have h833 := hp1379k _ _ n1387 h833
  have h968 := hp1379k _ _ n1388 h968
  have h1108 := hp1379k _ _ n1389 h1108
  obtain ⟨pl1390, pe1390, f1390, kn1390, tf1390, o1390_0, o1390_1, o1390_2, o1390_3, o1390_4, o1390_5, o1390_6, o1390_7⟩ := id hp1379m
  have h1391 : (mo, (.inr (8, [.int 0, .ref pl1390, .ref ka, .ref ta]) : va_E)) ∈ M1377 := o1390_0
  have h1392 : (pl1390, (.inr (10, [.int 10, .ref pe1390, .int 10]) : va_E)) ∈ M1377 := o1390_1
  have h1393 : (pe1390, (.inl (G.cO, 10, .inr (.inr (.inr (.inr f1390)))) : va_E)) ∈ M1377 := o1390_2
  have h1394 : (ta, (.inl (G.Z.cI, 8, .inl tf1390) : va_E)) ∈ M1377 := o1390_4
  have h1395 : (ka, (.inl (G.cR, 10, .inr (.inr (.inr (.inr kn1390)))) : va_E)) ∈ M1377 := o1390_6
  have hDo1396 := hD1378
  have F1397 := S.1.at 440 1605 (Nat.le_of_ble_eq_true rfl) (Nat.le_of_ble_eq_true rfl)
  refine j_i2l F1397 0 dX8_digest_163 (by decide) ?_
  refine m_cSl S (n1 := 2) (rest := []) (r_X8_add X.l G X.A M1377 (-4445029568501475452) 0) ⟨_, _, _, _, rfl, (gBS kB_X8_add (by decide +kernel)), rfl, rfl, (by decide +kernel), ⟨(Nat.le_of_ble_eq_true rfl), (Nat.le_of_ble_eq_true rfl)⟩⟩ rfl (Nat.le_of_ble_eq_true rfl) (Nat.le_of_ble_eq_true rfl) (Nat.le_of_ble_eq_true rfl) rfl dX8_digest_164 (fun v1398 M1399 hD1400 hp1401 => ?_)
  obtain ⟨hp1401v, hp1401m⟩ := hp1401
  have hp1401v : (-8668708107578877700 : Int64) = v1398 := (by decide : (-8668708107578877700 : Int64) = (-4445029568501475452) * 31 + 0).trans hp1401v
  subst hp1401v
  subst hp1401m
  refine j_lstore_n F1397 [some (.ref mo), some (.long (-8668708107578877700)), none, some (.int 4), some (.int 8), some (.int 8), some (.int 128), some (.int 0), none] dX8_digest_167 (by decide) rfl rfl ?_
  refine j_iinc F1397 5 [some (.ref mo), some (.long (-8668708107578877700)), none, some (.int 5), some (.int 8), some (.int 8), some (.int 128), some (.int 0), none] dX8_digest_168 rfl (by decide) (by decide) rfl rfl ?_
  refine j_goto F1397 151 dX8_digest_171 (by decide) ?_
  refine j_iload_n F1397 dX8_digest_151 rfl ?_
  refine j_bipush F1397 10 dX8_digest_152 (by decide) ?_
  refine j_icmp_ge F1397 174 dX8_digest_154 (by decide) (fun h9 => absurd h9 (by decide)) (fun _ => ?_)
  refine j_lload_n F1397 dX8_digest_157 rfl ?_
  refine j_aload_n F1397 dX8_digest_158 rfl ?_
  refine j_iload_n F1397 dX8_digest_159 rfl ?_
  have hKm1403 : Kp M1377 [] M1377 := by
    intro b x hb hx
    exact hx
  have hMo1402 := Mo.mono hp1379m hKm1403
  refine m_cVi S (n1 := 1) (rest := [.long (-8668708107578877700)]) (r_X8_clothOf X.l G X.A M1377 5 (by decide) hMo1402) ⟨_, _, _, _, rfl, (gBV kB_X8_clothOf (by decide +kernel)), rfl, rfl, (by decide +kernel), ⟨(Nat.le_of_ble_eq_true rfl), (Nat.le_of_ble_eq_true rfl)⟩⟩ h1391 rfl rfl (Nat.le_of_ble_eq_true rfl) (Nat.le_of_ble_eq_true rfl) (Nat.le_of_ble_eq_true rfl) rfl dX8_digest_160 (fun v1404 M1405 hD1406 hp1407 => ?_)
  obtain ⟨hp1407m, hp1407k, hp1407v⟩ := hp1407
  subst hp1407v
  have n1408 : v17 ∉ [mo, ka] := by
    intro h9; simp only [List.mem_cons, List.not_mem_nil, or_false] at h9
    rcases h9 with h9 | h9
    · exact (In.ne hD1378 h28 h1391 (by simp)) h9
    · exact (In.ne hD1378 h28 h1395 (by simp)) h9
  have n1409 : v116 ∉ [mo, ka] := by
    intro h9; simp only [List.mem_cons, List.not_mem_nil, or_false] at h9
    rcases h9 with h9 | h9
    · exact (In.ne hD1378 h128 h1391 (by simp)) h9
    · exact (In.ne hD1378 h128 h1395 (by simp)) h9
  have n1410 : v220 ∉ [mo, ka] := by
    intro h9; simp only [List.mem_cons, List.not_mem_nil, or_false] at h9
    rcases h9 with h9 | h9
    · exact (In.ne hD1378 h233 h1391 (by simp)) h9
    · exact (In.ne hD1378 h233 h1395 (by simp)) h9
  have n1411 : v329 ∉ [mo, ka] := by
    intro h9; simp only [List.mem_cons, List.not_mem_nil, or_false] at h9
    rcases h9 with h9 | h9
    · exact (In.ne hD1378 h343 h1391 (by simp)) h9
    · exact (In.ne hD1378 h343 h1395 (by simp)) h9
  have n1412 : v443 ∉ [mo, ka] := by
    intro h9; simp only [List.mem_cons, List.not_mem_nil, or_false] at h9
    rcases h9 with h9 | h9
    · exact (In.ne hD1378 h458 h1391 (by simp)) h9
    · exact (In.ne hD1378 h458 h1395 (by simp)) h9
  have n1413 : v562 ∉ [mo, ka] := by
    intro h9; simp only [List.mem_cons, List.not_mem_nil, or_false] at h9
    rcases h9 with h9 | h9
    · exact (In.ne hD1378 h578 h1391 (by simp)) h9
    · exact (In.ne hD1378 h578 h1395 (by simp)) h9
  have n1414 : v686 ∉ [mo, ka] := by
    intro h9; simp only [List.mem_cons, List.not_mem_nil, or_false] at h9
    rcases h9 with h9 | h9
    · exact (In.ne hD1378 h703 h1391 (by simp)) h9
    · exact (In.ne hD1378 h703 h1395 (by simp)) h9
  have n1415 : v815 ∉ [mo, ka] := by
    intro h9; simp only [List.mem_cons, List.not_mem_nil, or_false] at h9
    rcases h9 with h9 | h9
    · exact (In.ne hD1378 h833 h1391 (by simp)) h9
    · exact (In.ne hD1378 h833 h1395 (by simp)) h9
  have n1416 : v949 ∉ [mo, ka] := by
    intro h9; simp only [List.mem_cons, List.not_mem_nil, or_false] at h9
    rcases h9 with h9 | h9
    · exact (In.ne hD1378 h968 h1391 (by simp)) h9
    · exact (In.ne hD1378 h968 h1395 (by simp)) h9
  have n1417 : v1088 ∉ [mo, ka] := by
    intro h9; simp only [List.mem_cons, List.not_mem_nil, or_false] at h9
    rcases h9 with h9 | h9
    · exact (In.ne hD1378 h1108 h1391 (by simp)) h9
    · exact (In.ne hD1378 h1108 h1395 (by simp)) h9
  have h28 := hp1407k _ _ n1408 h28
  have h128 := hp1407k _ _ n1409 h128
  have h233 := hp1407k _ _ n1410 h233
  have h343 := hp1407k _ _ n1411 h343
  have h458 := hp1407k _ _ n1412 h458
  have h578 := hp1407k _ _ n1413 h578
  have h703 := hp1407k _ _ n1414 h703
  have h833 := hp1407k _ _ n1415 h833
  have h968 := hp1407k _ _ n1416 h968
  have h1108 := hp1407k _ _ n1417 h1108
  obtain ⟨pl1418, pe1418, f1418, kn1418, tf1418, o1418_0, o1418_1, o1418_2, o1418_3, o1418_4, o1418_5, o1418_6, o1418_7⟩ := id hp1407m
  have h1419 : (mo, (.inr (8, [.int 0, .ref pl1418, .ref ka, .ref ta]) : va_E)) ∈ M1405 := o1418_0
  have h1420 : (pl1418, (.inr (10, [.int 10, .ref pe1418, .int 10]) : va_E)) ∈ M1405 := o1418_1
  have h1421 : (pe1418, (.inl (G.cO, 10, .inr (.inr (.inr (.inr f1418)))) : va_E)) ∈ M1405 := o1418_2
  have h1422 : (ta, (.inl (G.Z.cI, 8, .inl tf1418) : va_E)) ∈ M1405 := o1418_4
  have h1423 : (ka, (.inl (G.cR, 10, .inr (.inr (.inr (.inr kn1418)))) : va_E)) ∈ M1405 := o1418_6
  have hDo1424 := hD1406
  have F1425 := S.1.at 460 1674 (Nat.le_of_ble_eq_true rfl) (Nat.le_of_ble_eq_true rfl)
  refine j_i2l F1425 0 dX8_digest_163 (by decide) ?_
  refine m_cSl S (n1 := 2) (rest := []) (r_X8_add X.l G X.A M1405 (-8668708107578877700) 0) ⟨_, _, _, _, rfl, (gBS kB_X8_add (by decide +kernel)), rfl, rfl, (by decide +kernel), ⟨(Nat.le_of_ble_eq_true rfl), (Nat.le_of_ble_eq_true rfl)⟩⟩ rfl (Nat.le_of_ble_eq_true rfl) (Nat.le_of_ble_eq_true rfl) (Nat.le_of_ble_eq_true rfl) rfl dX8_digest_164 (fun v1426 M1427 hD1428 hp1429 => ?_)
  obtain ⟨hp1429v, hp1429m⟩ := hp1429
  have hp1429v : (7971209770698065540 : Int64) = v1426 := (by decide : (7971209770698065540 : Int64) = (-8668708107578877700) * 31 + 0).trans hp1429v
  subst hp1429v
  subst hp1429m
  refine j_lstore_n F1425 [some (.ref mo), some (.long 7971209770698065540), none, some (.int 5), some (.int 8), some (.int 8), some (.int 128), some (.int 0), none] dX8_digest_167 (by decide) rfl rfl ?_
  refine j_iinc F1425 6 [some (.ref mo), some (.long 7971209770698065540), none, some (.int 6), some (.int 8), some (.int 8), some (.int 128), some (.int 0), none] dX8_digest_168 rfl (by decide) (by decide) rfl rfl ?_
  refine j_goto F1425 151 dX8_digest_171 (by decide) ?_
  refine j_iload_n F1425 dX8_digest_151 rfl ?_
  refine j_bipush F1425 10 dX8_digest_152 (by decide) ?_
  refine j_icmp_ge F1425 174 dX8_digest_154 (by decide) (fun h9 => absurd h9 (by decide)) (fun _ => ?_)
  refine j_lload_n F1425 dX8_digest_157 rfl ?_
  refine j_aload_n F1425 dX8_digest_158 rfl ?_
  refine j_iload_n F1425 dX8_digest_159 rfl ?_
  have hKm1431 : Kp M1405 [] M1405 := by
    intro b x hb hx
    exact hx
  have hMo1430 := Mo.mono hp1407m hKm1431
  refine m_cVi S (n1 := 1) (rest := [.long 7971209770698065540]) (r_X8_clothOf X.l G X.A M1405 6 (by decide) hMo1430) ⟨_, _, _, _, rfl, (gBV kB_X8_clothOf (by decide +kernel)), rfl, rfl, (by decide +kernel), ⟨(Nat.le_of_ble_eq_true rfl), (Nat.le_of_ble_eq_true rfl)⟩⟩ h1419 rfl rfl (Nat.le_of_ble_eq_true rfl) (Nat.le_of_ble_eq_true rfl) (Nat.le_of_ble_eq_true rfl) rfl dX8_digest_160 (fun v1432 M1433 hD1434 hp1435 => ?_)
  obtain ⟨hp1435m, hp1435k, hp1435v⟩ := hp1435
  subst hp1435v
  have n1436 : v17 ∉ [mo, ka] := by
    intro h9; simp only [List.mem_cons, List.not_mem_nil, or_false] at h9
    rcases h9 with h9 | h9
    · exact (In.ne hD1406 h28 h1419 (by simp)) h9
    · exact (In.ne hD1406 h28 h1423 (by simp)) h9
  have n1437 : v116 ∉ [mo, ka] := by
    intro h9; simp only [List.mem_cons, List.not_mem_nil, or_false] at h9
    rcases h9 with h9 | h9
    · exact (In.ne hD1406 h128 h1419 (by simp)) h9
    · exact (In.ne hD1406 h128 h1423 (by simp)) h9
  have n1438 : v220 ∉ [mo, ka] := by
    intro h9; simp only [List.mem_cons, List.not_mem_nil, or_false] at h9
    rcases h9 with h9 | h9
    · exact (In.ne hD1406 h233 h1419 (by simp)) h9
    · exact (In.ne hD1406 h233 h1423 (by simp)) h9
  have n1439 : v329 ∉ [mo, ka] := by
    intro h9; simp only [List.mem_cons, List.not_mem_nil, or_false] at h9
    rcases h9 with h9 | h9
    · exact (In.ne hD1406 h343 h1419 (by simp)) h9
    · exact (In.ne hD1406 h343 h1423 (by simp)) h9
  have n1440 : v443 ∉ [mo, ka] := by
    intro h9; simp only [List.mem_cons, List.not_mem_nil, or_false] at h9
    rcases h9 with h9 | h9
    · exact (In.ne hD1406 h458 h1419 (by simp)) h9
    · exact (In.ne hD1406 h458 h1423 (by simp)) h9
  have n1441 : v562 ∉ [mo, ka] := by
    intro h9; simp only [List.mem_cons, List.not_mem_nil, or_false] at h9
    rcases h9 with h9 | h9
    · exact (In.ne hD1406 h578 h1419 (by simp)) h9
    · exact (In.ne hD1406 h578 h1423 (by simp)) h9
  have n1442 : v686 ∉ [mo, ka] := by
    intro h9; simp only [List.mem_cons, List.not_mem_nil, or_false] at h9
    rcases h9 with h9 | h9
    · exact (In.ne hD1406 h703 h1419 (by simp)) h9
    · exact (In.ne hD1406 h703 h1423 (by simp)) h9
  have n1443 : v815 ∉ [mo, ka] := by
    intro h9; simp only [List.mem_cons, List.not_mem_nil, or_false] at h9
    rcases h9 with h9 | h9
    · exact (In.ne hD1406 h833 h1419 (by simp)) h9
    · exact (In.ne hD1406 h833 h1423 (by simp)) h9
  have n1444 : v949 ∉ [mo, ka] := by
    intro h9; simp only [List.mem_cons, List.not_mem_nil, or_false] at h9
    rcases h9 with h9 | h9
    · exact (In.ne hD1406 h968 h1419 (by simp)) h9
    · exact (In.ne hD1406 h968 h1423 (by simp)) h9
  have n1445 : v1088 ∉ [mo, ka] := by
    intro h9; simp only [List.mem_cons, List.not_mem_nil, or_false] at h9
    rcases h9 with h9 | h9
    · exact (In.ne hD1406 h1108 h1419 (by simp)) h9
    · exact (In.ne hD1406 h1108 h1423 (by simp)) h9
  have h28 := hp1435k _ _ n1436 h28
  have h128 := hp1435k _ _ n1437 h128
  have h233 := hp1435k _ _ n1438 h233
  have h343 := hp1435k _ _ n1439 h343
  have h458 := hp1435k _ _ n1440 h458
  have h578 := hp1435k _ _ n1441 h578
  have h703 := hp1435k _ _ n1442 h703
  have h833 := hp1435k _ _ n1443 h833
  have h968 := hp1435k _ _ n1444 h968
  have h1108 := hp1435k _ _ n1445 h1108
  obtain ⟨pl1446, pe1446, f1446, kn1446, tf1446, o1446_0, o1446_1, o1446_2, o1446_3, o1446_4, o1446_5, o1446_6, o1446_7⟩ := id hp1435m
  have h1447 : (mo, (.inr (8, [.int 0, .ref pl1446, .ref ka, .ref ta]) : va_E)) ∈ M1433 := o1446_0
  have h1448 : (pl1446, (.inr (10, [.int 10, .ref pe1446, .int 10]) : va_E)) ∈ M1433 := o1446_1
  have h1449 : (pe1446, (.inl (G.cO, 10, .inr (.inr (.inr (.inr f1446)))) : va_E)) ∈ M1433 := o1446_2
  have h1450 : (ta, (.inl (G.Z.cI, 8, .inl tf1446) : va_E)) ∈ M1433 := o1446_4
  have h1451 : (ka, (.inl (G.cR, 10, .inr (.inr (.inr (.inr kn1446)))) : va_E)) ∈ M1433 := o1446_6
  have hDo1452 := hD1434
  have F1453 := S.1.at 480 1743 (Nat.le_of_ble_eq_true rfl) (Nat.le_of_ble_eq_true rfl)
  refine j_i2l F1453 0 dX8_digest_163 (by decide) ?_
  refine m_cSl S (n1 := 2) (rest := []) (r_X8_add X.l G X.A M1433 7971209770698065540 0) ⟨_, _, _, _, rfl, (gBS kB_X8_add (by decide +kernel)), rfl, rfl, (by decide +kernel), ⟨(Nat.le_of_ble_eq_true rfl), (Nat.le_of_ble_eq_true rfl)⟩⟩ rfl (Nat.le_of_ble_eq_true rfl) (Nat.le_of_ble_eq_true rfl) (Nat.le_of_ble_eq_true rfl) rfl dX8_digest_164 (fun v1454 M1455 hD1456 hp1457 => ?_)
  obtain ⟨hp1457v, hp1457m⟩ := hp1457
  have hp1457v : (7299829933415860732 : Int64) = v1454 := (by decide : (7299829933415860732 : Int64) = 7971209770698065540 * 31 + 0).trans hp1457v
  subst hp1457v
  subst hp1457m
  refine j_lstore_n F1453 [some (.ref mo), some (.long 7299829933415860732), none, some (.int 6), some (.int 8), some (.int 8), some (.int 128), some (.int 0), none] dX8_digest_167 (by decide) rfl rfl ?_
  refine j_iinc F1453 7 [some (.ref mo), some (.long 7299829933415860732), none, some (.int 7), some (.int 8), some (.int 8), some (.int 128), some (.int 0), none] dX8_digest_168 rfl (by decide) (by decide) rfl rfl ?_
  refine j_goto F1453 151 dX8_digest_171 (by decide) ?_
  refine j_iload_n F1453 dX8_digest_151 rfl ?_
  refine j_bipush F1453 10 dX8_digest_152 (by decide) ?_
  refine j_icmp_ge F1453 174 dX8_digest_154 (by decide) (fun h9 => absurd h9 (by decide)) (fun _ => ?_)
  refine j_lload_n F1453 dX8_digest_157 rfl ?_
  refine j_aload_n F1453 dX8_digest_158 rfl ?_
  refine j_iload_n F1453 dX8_digest_159 rfl ?_
  have hKm1459 : Kp M1433 [] M1433 := by
    intro b x hb hx
    exact hx
  have hMo1458 := Mo.mono hp1435m hKm1459
  refine m_cVi S (n1 := 1) (rest := [.long 7299829933415860732]) (r_X8_clothOf X.l G X.A M1433 7 (by decide) hMo1458) ⟨_, _, _, _, rfl, (gBV kB_X8_clothOf (by decide +kernel)), rfl, rfl, (by decide +kernel), ⟨(Nat.le_of_ble_eq_true rfl), (Nat.le_of_ble_eq_true rfl)⟩⟩ h1447 rfl rfl (Nat.le_of_ble_eq_true rfl) (Nat.le_of_ble_eq_true rfl) (Nat.le_of_ble_eq_true rfl) rfl dX8_digest_160 (fun v1460 M1461 hD1462 hp1463 => ?_)
  obtain ⟨hp1463m, hp1463k, hp1463v⟩ := hp1463
  subst hp1463v
  have n1464 : v17 ∉ [mo, ka] := by
    intro h9; simp only [List.mem_cons, List.not_mem_nil, or_false] at h9
    rcases h9 with h9 | h9
    · exact (In.ne hD1434 h28 h1447 (by simp)) h9
    · exact (In.ne hD1434 h28 h1451 (by simp)) h9
  have n1465 : v116 ∉ [mo, ka] := by
    intro h9; simp only [List.mem_cons, List.not_mem_nil, or_false] at h9
    rcases h9 with h9 | h9
    · exact (In.ne hD1434 h128 h1447 (by simp)) h9
    · exact (In.ne hD1434 h128 h1451 (by simp)) h9
  have n1466 : v220 ∉ [mo, ka] := by
    intro h9; simp only [List.mem_cons, List.not_mem_nil, or_false] at h9
    rcases h9 with h9 | h9
    · exact (In.ne hD1434 h233 h1447 (by simp)) h9
    · exact (In.ne hD1434 h233 h1451 (by simp)) h9
  have n1467 : v329 ∉ [mo, ka] := by
    intro h9; simp only [List.mem_cons, List.not_mem_nil, or_false] at h9
    rcases h9 with h9 | h9
    · exact (In.ne hD1434 h343 h1447 (by simp)) h9
    · exact (In.ne hD1434 h343 h1451 (by simp)) h9
  have n1468 : v443 ∉ [mo, ka] := by
    intro h9; simp only [List.mem_cons, List.not_mem_nil, or_false] at h9
    rcases h9 with h9 | h9
    · exact (In.ne hD1434 h458 h1447 (by simp)) h9
    · exact (In.ne hD1434 h458 h1451 (by simp)) h9
  have n1469 : v562 ∉ [mo, ka] := by
    intro h9; simp only [List.mem_cons, List.not_mem_nil, or_false] at h9
    rcases h9 with h9 | h9
    · exact (In.ne hD1434 h578 h1447 (by simp)) h9
    · exact (In.ne hD1434 h578 h1451 (by simp)) h9
  have n1470 : v686 ∉ [mo, ka] := by
    intro h9; simp only [List.mem_cons, List.not_mem_nil, or_false] at h9
    rcases h9 with h9 | h9
    · exact (In.ne hD1434 h703 h1447 (by simp)) h9
    · exact (In.ne hD1434 h703 h1451 (by simp)) h9
  have n1471 : v815 ∉ [mo, ka] := by
    intro h9; simp only [List.mem_cons, List.not_mem_nil, or_false] at h9
    rcases h9 with h9 | h9
    · exact (In.ne hD1434 h833 h1447 (by simp)) h9
    · exact (In.ne hD1434 h833 h1451 (by simp)) h9
  have n1472 : v949 ∉ [mo, ka] := by
    intro h9; simp only [List.mem_cons, List.not_mem_nil, or_false] at h9
    rcases h9 with h9 | h9
    · exact (In.ne hD1434 h968 h1447 (by simp)) h9
    · exact (In.ne hD1434 h968 h1451 (by simp)) h9
  have n1473 : v1088 ∉ [mo, ka] := by
    intro h9; simp only [List.mem_cons, List.not_mem_nil, or_false] at h9
    rcases h9 with h9 | h9
    · exact (In.ne hD1434 h1108 h1447 (by simp)) h9
    · exact (In.ne hD1434 h1108 h1451 (by simp)) h9
  have h28 := hp1463k _ _ n1464 h28
  have h128 := hp1463k _ _ n1465 h128
  have h233 := hp1463k _ _ n1466 h233
  have h343 := hp1463k _ _ n1467 h343
  have h458 := hp1463k _ _ n1468 h458
  have h578 := hp1463k _ _ n1469 h578
  have h703 := hp1463k _ _ n1470 h703
  have h833 := hp1463k _ _ n1471 h833
  have h968 := hp1463k _ _ n1472 h968
  have h1108 := hp1463k _ _ n1473 h1108
  obtain ⟨pl1474, pe1474, f1474, kn1474, tf1474, o1474_0, o1474_1, o1474_2, o1474_3, o1474_4, o1474_5, o1474_6, o1474_7⟩ := id hp1463m
  have h1475 : (mo, (.inr (8, [.int 0, .ref pl1474, .ref ka, .ref ta]) : va_E)) ∈ M1461 := o1474_0
  have h1476 : (pl1474, (.inr (10, [.int 10, .ref pe1474, .int 10]) : va_E)) ∈ M1461 := o1474_1
  have h1477 : (pe1474, (.inl (G.cO, 10, .inr (.inr (.inr (.inr f1474)))) : va_E)) ∈ M1461 := o1474_2
  have h1478 : (ta, (.inl (G.Z.cI, 8, .inl tf1474) : va_E)) ∈ M1461 := o1474_4
  have h1479 : (ka, (.inl (G.cR, 10, .inr (.inr (.inr (.inr kn1474)))) : va_E)) ∈ M1461 := o1474_6
  have hDo1480 := hD1462
  have F1481 := S.1.at 500 1812 (Nat.le_of_ble_eq_true rfl) (Nat.le_of_ble_eq_true rfl)
  refine j_i2l F1481 0 dX8_digest_163 (by decide) ?_
  refine m_cSl S (n1 := 2) (rest := []) (r_X8_add X.l G X.A M1461 7299829933415860732 0) ⟨_, _, _, _, rfl, (gBS kB_X8_add (by decide +kernel)), rfl, rfl, (by decide +kernel), ⟨(Nat.le_of_ble_eq_true rfl), (Nat.le_of_ble_eq_true rfl)⟩⟩ rfl (Nat.le_of_ble_eq_true rfl) (Nat.le_of_ble_eq_true rfl) (Nat.le_of_ble_eq_true rfl) rfl dX8_digest_164 (fun v1482 M1483 hD1484 hp1485 => ?_)
  obtain ⟨hp1485v, hp1485m⟩ := hp1485
  have hp1485v : (4933799051377063300 : Int64) = v1482 := (by decide : (4933799051377063300 : Int64) = 7299829933415860732 * 31 + 0).trans hp1485v
  subst hp1485v
  subst hp1485m
  refine j_lstore_n F1481 [some (.ref mo), some (.long 4933799051377063300), none, some (.int 7), some (.int 8), some (.int 8), some (.int 128), some (.int 0), none] dX8_digest_167 (by decide) rfl rfl ?_
  refine j_iinc F1481 8 [some (.ref mo), some (.long 4933799051377063300), none, some (.int 8), some (.int 8), some (.int 8), some (.int 128), some (.int 0), none] dX8_digest_168 rfl (by decide) (by decide) rfl rfl ?_
  refine j_goto F1481 151 dX8_digest_171 (by decide) ?_
  refine j_iload_n F1481 dX8_digest_151 rfl ?_
  refine j_bipush F1481 10 dX8_digest_152 (by decide) ?_
  refine j_icmp_ge F1481 174 dX8_digest_154 (by decide) (fun h9 => absurd h9 (by decide)) (fun _ => ?_)
  refine j_lload_n F1481 dX8_digest_157 rfl ?_
  refine j_aload_n F1481 dX8_digest_158 rfl ?_
  refine j_iload_n F1481 dX8_digest_159 rfl ?_
  have hKm1487 : Kp M1461 [] M1461 := by
    intro b x hb hx
    exact hx
  have hMo1486 := Mo.mono hp1463m hKm1487
  refine m_cVi S (n1 := 1) (rest := [.long 4933799051377063300]) (r_X8_clothOf X.l G X.A M1461 8 (by decide) hMo1486) ⟨_, _, _, _, rfl, (gBV kB_X8_clothOf (by decide +kernel)), rfl, rfl, (by decide +kernel), ⟨(Nat.le_of_ble_eq_true rfl), (Nat.le_of_ble_eq_true rfl)⟩⟩ h1475 rfl rfl (Nat.le_of_ble_eq_true rfl) (Nat.le_of_ble_eq_true rfl) (Nat.le_of_ble_eq_true rfl) rfl dX8_digest_160 (fun v1488 M1489 hD1490 hp1491 => ?_)
  obtain ⟨hp1491m, hp1491k, hp1491v⟩ := hp1491
  subst hp1491v
  have n1492 : v17 ∉ [mo, ka] := by
    intro h9; simp only [List.mem_cons, List.not_mem_nil, or_false] at h9
    rcases h9 with h9 | h9
    · exact (In.ne hD1462 h28 h1475 (by simp)) h9
    · exact (In.ne hD1462 h28 h1479 (by simp)) h9
  have n1493 : v116 ∉ [mo, ka] := by
    intro h9; simp only [List.mem_cons, List.not_mem_nil, or_false] at h9
    rcases h9 with h9 | h9
    · exact (In.ne hD1462 h128 h1475 (by simp)) h9
    · exact (In.ne hD1462 h128 h1479 (by simp)) h9
  have n1494 : v220 ∉ [mo, ka] := by
    intro h9; simp only [List.mem_cons, List.not_mem_nil, or_false] at h9
    rcases h9 with h9 | h9
    · exact (In.ne hD1462 h233 h1475 (by simp)) h9
    · exact (In.ne hD1462 h233 h1479 (by simp)) h9
  have n1495 : v329 ∉ [mo, ka] := by
    intro h9; simp only [List.mem_cons, List.not_mem_nil, or_false] at h9
    rcases h9 with h9 | h9
    · exact (In.ne hD1462 h343 h1475 (by simp)) h9
    · exact (In.ne hD1462 h343 h1479 (by simp)) h9
  have n1496 : v443 ∉ [mo, ka] := by
    intro h9; simp only [List.mem_cons, List.not_mem_nil, or_false] at h9
    rcases h9 with h9 | h9
    · exact (In.ne hD1462 h458 h1475 (by simp)) h9
    · exact (In.ne hD1462 h458 h1479 (by simp)) h9
  have n1497 : v562 ∉ [mo, ka] := by
    intro h9; simp only [List.mem_cons, List.not_mem_nil, or_false] at h9
    rcases h9 with h9 | h9
    · exact (In.ne hD1462 h578 h1475 (by simp)) h9
    · exact (In.ne hD1462 h578 h1479 (by simp)) h9
  have n1498 : v686 ∉ [mo, ka] := by
    intro h9; simp only [List.mem_cons, List.not_mem_nil, or_false] at h9
    rcases h9 with h9 | h9
    · exact (In.ne hD1462 h703 h1475 (by simp)) h9
    · exact (In.ne hD1462 h703 h1479 (by simp)) h9
  have n1499 : v815 ∉ [mo, ka] := by
    intro h9; simp only [List.mem_cons, List.not_mem_nil, or_false] at h9
    rcases h9 with h9 | h9
    · exact (In.ne hD1462 h833 h1475 (by simp)) h9
    · exact (In.ne hD1462 h833 h1479 (by simp)) h9
  have n1500 : v949 ∉ [mo, ka] := by
    intro h9; simp only [List.mem_cons, List.not_mem_nil, or_false] at h9
    rcases h9 with h9 | h9
    · exact (In.ne hD1462 h968 h1475 (by simp)) h9
    · exact (In.ne hD1462 h968 h1479 (by simp)) h9
  have n1501 : v1088 ∉ [mo, ka] := by
    intro h9; simp only [List.mem_cons, List.not_mem_nil, or_false] at h9
    rcases h9 with h9 | h9
    · exact (In.ne hD1462 h1108 h1475 (by simp)) h9
    · exact (In.ne hD1462 h1108 h1479 (by simp)) h9
  have h28 := hp1491k _ _ n1492 h28
  have h128 := hp1491k _ _ n1493 h128
  have h233 := hp1491k _ _ n1494 h233
  have h343 := hp1491k _ _ n1495 h343
  have h458 := hp1491k _ _ n1496 h458
  have h578 := hp1491k _ _ n1497 h578
  have h703 := hp1491k _ _ n1498 h703
  have h833 := hp1491k _ _ n1499 h833
  have h968 := hp1491k _ _ n1500 h968
  have h1108 := hp1491k _ _ n1501 h1108
  obtain ⟨pl1502, pe1502, f1502, kn1502, tf1502, o1502_0, o1502_1, o1502_2, o1502_3, o1502_4, o1502_5, o1502_6, o1502_7⟩ := id hp1491m
  have h1503 : (mo, (.inr (8, [.int 0, .ref pl1502, .ref ka, .ref ta]) : va_E)) ∈ M1489 := o1502_0
  have h1504 : (pl1502, (.inr (10, [.int 10, .ref pe1502, .int 10]) : va_E)) ∈ M1489 := o1502_1
  have h1505 : (pe1502, (.inl (G.cO, 10, .inr (.inr (.inr (.inr f1502)))) : va_E)) ∈ M1489 := o1502_2
  have h1506 : (ta, (.inl (G.Z.cI, 8, .inl tf1502) : va_E)) ∈ M1489 := o1502_4
  have h1507 : (ka, (.inl (G.cR, 10, .inr (.inr (.inr (.inr kn1502)))) : va_E)) ∈ M1489 := o1502_6
  have hDo1508 := hD1490
  have F1509 := S.1.at 520 1881 (Nat.le_of_ble_eq_true rfl) (Nat.le_of_ble_eq_true rfl)
  refine j_i2l F1509 0 dX8_digest_163 (by decide) ?_
  refine m_cSl S (n1 := 2) (rest := []) (r_X8_add X.l G X.A M1489 4933799051377063300 0) ⟨_, _, _, _, rfl, (gBS kB_X8_add (by decide +kernel)), rfl, rfl, (by decide +kernel), ⟨(Nat.le_of_ble_eq_true rfl), (Nat.le_of_ble_eq_true rfl)⟩⟩ rfl (Nat.le_of_ble_eq_true rfl) (Nat.le_of_ble_eq_true rfl) (Nat.le_of_ble_eq_true rfl) rfl dX8_digest_164 (fun v1510 M1511 hD1512 hp1513 => ?_)
  obtain ⟨hp1513v, hp1513m⟩ := hp1513
  have hp1513v : (5373818003012549372 : Int64) = v1510 := (by decide : (5373818003012549372 : Int64) = 4933799051377063300 * 31 + 0).trans hp1513v
  subst hp1513v
  subst hp1513m
  refine j_lstore_n F1509 [some (.ref mo), some (.long 5373818003012549372), none, some (.int 8), some (.int 8), some (.int 8), some (.int 128), some (.int 0), none] dX8_digest_167 (by decide) rfl rfl ?_
  refine j_iinc F1509 9 [some (.ref mo), some (.long 5373818003012549372), none, some (.int 9), some (.int 8), some (.int 8), some (.int 128), some (.int 0), none] dX8_digest_168 rfl (by decide) (by decide) rfl rfl ?_
  refine j_goto F1509 151 dX8_digest_171 (by decide) ?_
  refine j_iload_n F1509 dX8_digest_151 rfl ?_
  refine j_bipush F1509 10 dX8_digest_152 (by decide) ?_
  refine j_icmp_ge F1509 174 dX8_digest_154 (by decide) (fun h9 => absurd h9 (by decide)) (fun _ => ?_)
  refine j_lload_n F1509 dX8_digest_157 rfl ?_
  refine j_aload_n F1509 dX8_digest_158 rfl ?_
  refine j_iload_n F1509 dX8_digest_159 rfl ?_
  have hKm1515 : Kp M1489 [] M1489 := by
    intro b x hb hx
    exact hx
  have hMo1514 := Mo.mono hp1491m hKm1515
  refine m_cVi S (n1 := 1) (rest := [.long 5373818003012549372]) (r_X8_clothOf X.l G X.A M1489 9 (by decide) hMo1514) ⟨_, _, _, _, rfl, (gBV kB_X8_clothOf (by decide +kernel)), rfl, rfl, (by decide +kernel), ⟨(Nat.le_of_ble_eq_true rfl), (Nat.le_of_ble_eq_true rfl)⟩⟩ h1503 rfl rfl (Nat.le_of_ble_eq_true rfl) (Nat.le_of_ble_eq_true rfl) (Nat.le_of_ble_eq_true rfl) rfl dX8_digest_160 (fun v1516 M1517 hD1518 hp1519 => ?_)
  obtain ⟨hp1519m, hp1519k, hp1519v⟩ := hp1519
  subst hp1519v
  have n1520 : v17 ∉ [mo, ka] := by
    intro h9; simp only [List.mem_cons, List.not_mem_nil, or_false] at h9
    rcases h9 with h9 | h9
    · exact (In.ne hD1490 h28 h1503 (by simp)) h9
    · exact (In.ne hD1490 h28 h1507 (by simp)) h9
  have n1521 : v116 ∉ [mo, ka] := by
    intro h9; simp only [List.mem_cons, List.not_mem_nil, or_false] at h9
    rcases h9 with h9 | h9
    · exact (In.ne hD1490 h128 h1503 (by simp)) h9
    · exact (In.ne hD1490 h128 h1507 (by simp)) h9
  have n1522 : v220 ∉ [mo, ka] := by
    intro h9; simp only [List.mem_cons, List.not_mem_nil, or_false] at h9
    rcases h9 with h9 | h9
    · exact (In.ne hD1490 h233 h1503 (by simp)) h9
    · exact (In.ne hD1490 h233 h1507 (by simp)) h9
  have n1523 : v329 ∉ [mo, ka] := by
    intro h9; simp only [List.mem_cons, List.not_mem_nil, or_false] at h9
    rcases h9 with h9 | h9
    · exact (In.ne hD1490 h343 h1503 (by simp)) h9
    · exact (In.ne hD1490 h343 h1507 (by simp)) h9
  have n1524 : v443 ∉ [mo, ka] := by
    intro h9; simp only [List.mem_cons, List.not_mem_nil, or_false] at h9
    rcases h9 with h9 | h9
    · exact (In.ne hD1490 h458 h1503 (by simp)) h9
    · exact (In.ne hD1490 h458 h1507 (by simp)) h9
  have n1525 : v562 ∉ [mo, ka] := by
    intro h9; simp only [List.mem_cons, List.not_mem_nil, or_false] at h9
    rcases h9 with h9 | h9
    · exact (In.ne hD1490 h578 h1503 (by simp)) h9
    · exact (In.ne hD1490 h578 h1507 (by simp)) h9
  have n1526 : v686 ∉ [mo, ka] := by
    intro h9; simp only [List.mem_cons, List.not_mem_nil, or_false] at h9
    rcases h9 with h9 | h9
    · exact (In.ne hD1490 h703 h1503 (by simp)) h9
    · exact (In.ne hD1490 h703 h1507 (by simp)) h9
  have n1527 : v815 ∉ [mo, ka] := by
    intro h9; simp only [List.mem_cons, List.not_mem_nil, or_false] at h9
    rcases h9 with h9 | h9
    · exact (In.ne hD1490 h833 h1503 (by simp)) h9
    · exact (In.ne hD1490 h833 h1507 (by simp)) h9
  have n1528 : v949 ∉ [mo, ka] := by
    intro h9; simp only [List.mem_cons, List.not_mem_nil, or_false] at h9
    rcases h9 with h9 | h9
    · exact (In.ne hD1490 h968 h1503 (by simp)) h9
    · exact (In.ne hD1490 h968 h1507 (by simp)) h9
  have n1529 : v1088 ∉ [mo, ka] := by
    intro h9; simp only [List.mem_cons, List.not_mem_nil, or_false] at h9
    rcases h9 with h9 | h9
    · exact (In.ne hD1490 h1108 h1503 (by simp)) h9
    · exact (In.ne hD1490 h1108 h1507 (by simp)) h9
  have h28 := hp1519k _ _ n1520 h28
  have h128 := hp1519k _ _ n1521 h128
  have h233 := hp1519k _ _ n1522 h233
  have h343 := hp1519k _ _ n1523 h343
  have h458 := hp1519k _ _ n1524 h458
  have h578 := hp1519k _ _ n1525 h578
  have h703 := hp1519k _ _ n1526 h703
  have h833 := hp1519k _ _ n1527 h833
  have h968 := hp1519k _ _ n1528 h968
  have h1108 := hp1519k _ _ n1529 h1108
  obtain ⟨pl1530, pe1530, f1530, kn1530, tf1530, o1530_0, o1530_1, o1530_2, o1530_3, o1530_4, o1530_5, o1530_6, o1530_7⟩ := id hp1519m
  have h1531 : (mo, (.inr (8, [.int 0, .ref pl1530, .ref ka, .ref ta]) : va_E)) ∈ M1517 := o1530_0
  have h1532 : (pl1530, (.inr (10, [.int 10, .ref pe1530, .int 10]) : va_E)) ∈ M1517 := o1530_1
  have h1533 : (pe1530, (.inl (G.cO, 10, .inr (.inr (.inr (.inr f1530)))) : va_E)) ∈ M1517 := o1530_2
  have h1534 : (ta, (.inl (G.Z.cI, 8, .inl tf1530) : va_E)) ∈ M1517 := o1530_4
  have h1535 : (ka, (.inl (G.cR, 10, .inr (.inr (.inr (.inr kn1530)))) : va_E)) ∈ M1517 := o1530_6
  have hDo1536 := hD1518
  have F1537 := S.1.at 540 1950 (Nat.le_of_ble_eq_true rfl) (Nat.le_of_ble_eq_true rfl)
  refine j_i2l F1537 0 dX8_digest_163 (by decide) ?_
  refine m_cSl S (n1 := 2) (rest := []) (r_X8_add X.l G X.A M1517 5373818003012549372 0) ⟨_, _, _, _, rfl, (gBS kB_X8_add (by decide +kernel)), rfl, rfl, (by decide +kernel), ⟨(Nat.le_of_ble_eq_true rfl), (Nat.le_of_ble_eq_true rfl)⟩⟩ rfl (Nat.le_of_ble_eq_true rfl) (Nat.le_of_ble_eq_true rfl) (Nat.le_of_ble_eq_true rfl) rfl dX8_digest_164 (fun v1538 M1539 hD1540 hp1541 => ?_)
  obtain ⟨hp1541v, hp1541m⟩ := hp1541
  have hp1541v : (567661430003065988 : Int64) = v1538 := (by decide : (567661430003065988 : Int64) = 5373818003012549372 * 31 + 0).trans hp1541v
  subst hp1541v
  subst hp1541m
  refine j_lstore_n F1537 [some (.ref mo), some (.long 567661430003065988), none, some (.int 9), some (.int 8), some (.int 8), some (.int 128), some (.int 0), none] dX8_digest_167 (by decide) rfl rfl ?_
  refine j_iinc F1537 10 [some (.ref mo), some (.long 567661430003065988), none, some (.int 10), some (.int 8), some (.int 8), some (.int 128), some (.int 0), none] dX8_digest_168 rfl (by decide) (by decide) rfl rfl ?_
  refine j_goto F1537 151 dX8_digest_171 (by decide) ?_
  refine j_iload_n F1537 dX8_digest_151 rfl ?_
  refine j_bipush F1537 10 dX8_digest_152 (by decide) ?_
  refine j_icmp_ge F1537 174 dX8_digest_154 (by decide) (fun _ => ?_) (fun h9 => absurd (by decide) h9)
  refine j_aload_n F1537 dX8_digest_174 rfl ?_
  have hKm1543 : Kp M1517 [] M1517 := by
    intro b x hb hx
    exact hx
  have hMo1542 := Mo.mono hp1519m hKm1543
  refine m_cVr S (n1 := 0) (rest := []) (r_X8_cloth_ X.l G X.A M1517 hMo1542) ⟨_, _, _, _, rfl, (gBV kB_X8_cloth_ (by decide +kernel)), rfl, rfl, (by decide +kernel), ⟨(Nat.le_of_ble_eq_true rfl), (Nat.le_of_ble_eq_true rfl)⟩⟩ h1531 rfl rfl (Nat.le_of_ble_eq_true rfl) (Nat.le_of_ble_eq_true rfl) (Nat.le_of_ble_eq_true rfl) rfl dX8_digest_175 (fun v1544 M1545 hD1546 hp1547 => ?_)
  obtain ⟨hp1547m, hp1547k, z1548, hp1547a⟩ := hp1547
  have n1549 : v17 ∉ [mo, ka] := by
    intro h9; simp only [List.mem_cons, List.not_mem_nil, or_false] at h9
    rcases h9 with h9 | h9
    · exact (In.ne hD1518 h28 h1531 (by simp)) h9
    · exact (In.ne hD1518 h28 h1535 (by simp)) h9
  have n1550 : v116 ∉ [mo, ka] := by
    intro h9; simp only [List.mem_cons, List.not_mem_nil, or_false] at h9
    rcases h9 with h9 | h9
    · exact (In.ne hD1518 h128 h1531 (by simp)) h9
    · exact (In.ne hD1518 h128 h1535 (by simp)) h9
  have n1551 : v220 ∉ [mo, ka] := by
    intro h9; simp only [List.mem_cons, List.not_mem_nil, or_false] at h9
    rcases h9 with h9 | h9
    · exact (In.ne hD1518 h233 h1531 (by simp)) h9
    · exact (In.ne hD1518 h233 h1535 (by simp)) h9
  have n1552 : v329 ∉ [mo, ka] := by
    intro h9; simp only [List.mem_cons, List.not_mem_nil, or_false] at h9
    rcases h9 with h9 | h9
    · exact (In.ne hD1518 h343 h1531 (by simp)) h9
    · exact (In.ne hD1518 h343 h1535 (by simp)) h9
  have n1553 : v443 ∉ [mo, ka] := by
    intro h9; simp only [List.mem_cons, List.not_mem_nil, or_false] at h9
    rcases h9 with h9 | h9
    · exact (In.ne hD1518 h458 h1531 (by simp)) h9
    · exact (In.ne hD1518 h458 h1535 (by simp)) h9
  have n1554 : v562 ∉ [mo, ka] := by
    intro h9; simp only [List.mem_cons, List.not_mem_nil, or_false] at h9
    rcases h9 with h9 | h9
    · exact (In.ne hD1518 h578 h1531 (by simp)) h9
    · exact (In.ne hD1518 h578 h1535 (by simp)) h9
  have n1555 : v686 ∉ [mo, ka] := by
    intro h9; simp only [List.mem_cons, List.not_mem_nil, or_false] at h9
    rcases h9 with h9 | h9
    · exact (In.ne hD1518 h703 h1531 (by simp)) h9
    · exact (In.ne hD1518 h703 h1535 (by simp)) h9
  have n1556 : v815 ∉ [mo, ka] := by
    intro h9; simp only [List.mem_cons, List.not_mem_nil, or_false] at h9
    rcases h9 with h9 | h9
    · exact (In.ne hD1518 h833 h1531 (by simp)) h9
    · exact (In.ne hD1518 h833 h1535 (by simp)) h9
  have n1557 : v949 ∉ [mo, ka] := by
    intro h9; simp only [List.mem_cons, List.not_mem_nil, or_false] at h9
    rcases h9 with h9 | h9
    · exact (In.ne hD1518 h968 h1531 (by simp)) h9
    · exact (In.ne hD1518 h968 h1535 (by simp)) h9
  have n1558 : v1088 ∉ [mo, ka] := by
    intro h9; simp only [List.mem_cons, List.not_mem_nil, or_false] at h9
    rcases h9 with h9 | h9
    · exact (In.ne hD1518 h1108 h1531 (by simp)) h9
    · exact (In.ne hD1518 h1108 h1535 (by simp)) h9
  have h28 := hp1547k _ _ n1549 h28
  have h128 := hp1547k _ _ n1550 h128
  have h233 := hp1547k _ _ n1551 h233
  have h343 := hp1547k _ _ n1552 h343
  have h458 := hp1547k _ _ n1553 h458
  have h578 := hp1547k _ _ n1554 h578
  have h703 := hp1547k _ _ n1555 h703
  have h833 := hp1547k _ _ n1556 h833
  have h968 := hp1547k _ _ n1557 h968
  have h1108 := hp1547k _ _ n1558 h1108
  obtain ⟨pl1559, pe1559, f1559, kn1559, tf1559, o1559_0, o1559_1, o1559_2, o1559_3, o1559_4, o1559_5, o1559_6, o1559_7⟩ := id hp1547m
  have h1560 : (mo, (.inr (8, [.int 0, .ref pl1559, .ref ka, .ref ta]) : va_E)) ∈ M1545 := o1559_0
  have h1561 : (pl1559, (.inr (10, [.int 10, .ref pe1559, .int 10]) : va_E)) ∈ M1545 := o1559_1
  have h1562 : (pe1559, (.inl (G.cO, 10, .inr (.inr (.inr (.inr f1559)))) : va_E)) ∈ M1545 := o1559_2
  have h1563 : (ta, (.inl (G.Z.cI, 8, .inl tf1559) : va_E)) ∈ M1545 := o1559_4
  have h1564 : (ka, (.inl (G.cR, 10, .inr (.inr (.inr (.inr kn1559)))) : va_E)) ∈ M1545 := o1559_6
  have hDo1565 := hD1546
  have h1566 := hp1547a
  have F1567 := S.1.at 554 1997 (Nat.le_of_ble_eq_true rfl) (Nat.le_of_ble_eq_true rfl)
  refine j_astore_n F1567 [some (.ref mo), some (.long 567661430003065988), none, some (.ref v1544), some (.int 8), some (.int 8), some (.int 128), some (.int 0), none] dX8_digest_178 (by decide) rfl rfl ?_
  refine j_lload_n F1567 dX8_digest_179 rfl ?_
  refine j_aload_n F1567 dX8_digest_180 rfl ?_
  refine j_iconst F1567 1 dX8_digest_181 (by decide) ?_
  refine m_cVi S (n1 := 1) (rest := [.long 567661430003065988]) (r_X5_repeat X.l G X.A M1545 1 h1566) ⟨_, _, _, _, rfl, (gBV kB_X5_repeat (by decide +kernel)), rfl, rfl, (by decide +kernel), ⟨(Nat.le_of_ble_eq_true rfl), (Nat.le_of_ble_eq_true rfl)⟩⟩ h1566 rfl rfl (Nat.le_of_ble_eq_true rfl) (Nat.le_of_ble_eq_true rfl) (Nat.le_of_ble_eq_true rfl) rfl dX8_digest_182 (fun v1568 M1569 hD1570 hp1571 => ?_)
  obtain ⟨hp1571a, hp1571b⟩ := hp1571
  subst hp1571a
  subst hp1571b
  refine j_i2l F1567 0 dX8_digest_185 (by decide) ?_
  refine m_cSl S (n1 := 2) (rest := []) (r_X8_add X.l G X.A M1545 567661430003065988 0) ⟨_, _, _, _, rfl, (gBS kB_X8_add (by decide +kernel)), rfl, rfl, (by decide +kernel), ⟨(Nat.le_of_ble_eq_true rfl), (Nat.le_of_ble_eq_true rfl)⟩⟩ rfl (Nat.le_of_ble_eq_true rfl) (Nat.le_of_ble_eq_true rfl) (Nat.le_of_ble_eq_true rfl) rfl dX8_digest_186 (fun v1572 M1573 hD1574 hp1575 => ?_)
  obtain ⟨hp1575v, hp1575m⟩ := hp1575
  have hp1575v : (-849239743614505988 : Int64) = v1572 := (by decide : (-849239743614505988 : Int64) = 567661430003065988 * 31 + 0).trans hp1575v
  subst hp1575v
  subst hp1575m
  refine j_aload_n F1567 dX8_digest_189 rfl ?_
  refine j_iconst F1567 0 dX8_digest_190 (by decide) ?_
  refine m_cVi S (n1 := 1) (rest := [.long (-849239743614505988)]) (r_X5_repeat X.l G X.A M1545 0 h1566) ⟨_, _, _, _, rfl, (gBV kB_X5_repeat (by decide +kernel)), rfl, rfl, (by decide +kernel), ⟨(Nat.le_of_ble_eq_true rfl), (Nat.le_of_ble_eq_true rfl)⟩⟩ h1566 rfl rfl (Nat.le_of_ble_eq_true rfl) (Nat.le_of_ble_eq_true rfl) (Nat.le_of_ble_eq_true rfl) rfl dX8_digest_191 (fun v1576 M1577 hD1578 hp1579 => ?_)
  obtain ⟨hp1579a, hp1579b⟩ := hp1579
  subst hp1579a
  subst hp1579b
  refine j_i2l F1567 0 dX8_digest_194 (by decide) ?_
  refine m_cSl S (n1 := 2) (rest := []) (r_X8_add X.l G X.A M1545 (-849239743614505988) 0) ⟨_, _, _, _, rfl, (gBS kB_X8_add (by decide +kernel)), rfl, rfl, (by decide +kernel), ⟨(Nat.le_of_ble_eq_true rfl), (Nat.le_of_ble_eq_true rfl)⟩⟩ rfl (Nat.le_of_ble_eq_true rfl) (Nat.le_of_ble_eq_true rfl) (Nat.le_of_ble_eq_true rfl) rfl dX8_digest_195 (fun v1580 M1581 hD1582 hp1583 => ?_)
  obtain ⟨hp1583v, hp1583m⟩ := hp1583
  have hp1583v : (-7879687978340134012 : Int64) = v1580 := (by decide : (-7879687978340134012 : Int64) = (-849239743614505988) * 31 + 0).trans hp1583v
  subst hp1583v
  subst hp1583m
  refine j_aload_n F1567 dX8_digest_198 rfl ?_
  refine m_cVi S (n1 := 0) (rest := [.long (-7879687978340134012)]) (r_X5_hangs X.l G X.A M1545 h1566) ⟨_, _, _, _, rfl, (gBV kB_X5_hangs (by decide +kernel)), rfl, rfl, (by decide +kernel), ⟨(Nat.le_of_ble_eq_true rfl), (Nat.le_of_ble_eq_true rfl)⟩⟩ h1566 rfl rfl (Nat.le_of_ble_eq_true rfl) (Nat.le_of_ble_eq_true rfl) (Nat.le_of_ble_eq_true rfl) rfl dX8_digest_199 (fun v1584 M1585 hD1586 hp1587 => ?_)
  obtain ⟨hp1587a, hp1587b⟩ := hp1587
  subst hp1587a
  subst hp1587b
  refine j_if_eq F1567 209 dX8_digest_202 (by decide) (fun _ => ?_) (fun h9 => absurd (by decide) h9)
  refine m_lconst F1567 0 dX8_digest_209 (by decide) ?_
  refine m_cSl S (n1 := 2) (rest := []) (r_X8_add X.l G X.A M1545 (-7879687978340134012) 0) ⟨_, _, _, _, rfl, (gBS kB_X8_add (by decide +kernel)), rfl, rfl, (by decide +kernel), ⟨(Nat.le_of_ble_eq_true rfl), (Nat.le_of_ble_eq_true rfl)⟩⟩ rfl (Nat.le_of_ble_eq_true rfl) (Nat.le_of_ble_eq_true rfl) (Nat.le_of_ble_eq_true rfl) rfl dX8_digest_210 (fun v1588 M1589 hD1590 hp1591 => ?_)
  obtain ⟨hp1591v, hp1591m⟩ := hp1591
  have hp1591v : (-4462654370319983364 : Int64) = v1588 := (by decide : (-4462654370319983364 : Int64) = (-7879687978340134012) * 31 + 0).trans hp1591v
  subst hp1591v
  subst hp1591m
  refine j_lstore_n F1567 [some (.ref mo), some (.long (-4462654370319983364)), none, some (.ref v1544), some (.int 8), some (.int 8), some (.int 128), some (.int 0), none] dX8_digest_213 (by decide) rfl rfl ?_
  refine j_lload_n F1567 dX8_digest_214 rfl ?_
  refine j_aload_n F1567 dX8_digest_215 rfl ?_
  refine j_iconst F1567 1 dX8_digest_216 (by decide) ?_
  refine m_cVi S (n1 := 1) (rest := [.long (-4462654370319983364)]) (r_X5_reached X.l G X.A M1545 1 h1566) ⟨_, _, _, _, rfl, (gBV kB_X5_reached (by decide +kernel)), rfl, rfl, (by decide +kernel), ⟨(Nat.le_of_ble_eq_true rfl), (Nat.le_of_ble_eq_true rfl)⟩⟩ h1566 rfl rfl (Nat.le_of_ble_eq_true rfl) (Nat.le_of_ble_eq_true rfl) (Nat.le_of_ble_eq_true rfl) rfl dX8_digest_217 (fun v1592 M1593 hD1594 hp1595 => ?_)
  obtain ⟨hp1595a, hp1595b⟩ := hp1595
  subst hp1595a
  subst hp1595b
  refine j_i2l F1567 0 dX8_digest_220 (by decide) ?_
  refine m_cSl S (n1 := 2) (rest := []) (r_X8_add X.l G X.A M1545 (-4462654370319983364) 0) ⟨_, _, _, _, rfl, (gBS kB_X8_add (by decide +kernel)), rfl, rfl, (by decide +kernel), ⟨(Nat.le_of_ble_eq_true rfl), (Nat.le_of_ble_eq_true rfl)⟩⟩ rfl (Nat.le_of_ble_eq_true rfl) (Nat.le_of_ble_eq_true rfl) (Nat.le_of_ble_eq_true rfl) rfl dX8_digest_221 (fun v1596 M1597 hD1598 hp1599 => ?_)
  obtain ⟨hp1599v, hp1599m⟩ := hp1599
  have hp1599v : (-9215076963952622972 : Int64) = v1596 := (by decide : (-9215076963952622972 : Int64) = (-4462654370319983364) * 31 + 0).trans hp1599v
  subst hp1599v
  subst hp1599m
  refine j_aload_n F1567 dX8_digest_224 rfl ?_
  refine j_iconst F1567 0 dX8_digest_225 (by decide) ?_
  refine m_cVi S (n1 := 1) (rest := [.long (-9215076963952622972)]) (r_X5_reached X.l G X.A M1545 0 h1566) ⟨_, _, _, _, rfl, (gBV kB_X5_reached (by decide +kernel)), rfl, rfl, (by decide +kernel), ⟨(Nat.le_of_ble_eq_true rfl), (Nat.le_of_ble_eq_true rfl)⟩⟩ h1566 rfl rfl (Nat.le_of_ble_eq_true rfl) (Nat.le_of_ble_eq_true rfl) (Nat.le_of_ble_eq_true rfl) rfl dX8_digest_226 (fun v1600 M1601 hD1602 hp1603 => ?_)
  obtain ⟨hp1603a, hp1603b⟩ := hp1603
  subst hp1603a
  subst hp1603b
  refine j_i2l F1567 0 dX8_digest_229 (by decide) ?_
  refine m_cSl S (n1 := 2) (rest := []) (r_X8_add X.l G X.A M1545 (-9215076963952622972) 0) ⟨_, _, _, _, rfl, (gBS kB_X8_add (by decide +kernel)), rfl, rfl, (by decide +kernel), ⟨(Nat.le_of_ble_eq_true rfl), (Nat.le_of_ble_eq_true rfl)⟩⟩ rfl (Nat.le_of_ble_eq_true rfl) (Nat.le_of_ble_eq_true rfl) (Nat.le_of_ble_eq_true rfl) rfl dX8_digest_230 (fun v1604 M1605 hD1606 hp1607 => ?_)
  obtain ⟨hp1607v, hp1607m⟩ := hp1607
  have hp1607v : (-8966224776888037892 : Int64) = v1604 := (by decide : (-8966224776888037892 : Int64) = (-9215076963952622972) * 31 + 0).trans hp1607v
  subst hp1607v
  subst hp1607m
  refine j_lstore_n F1567 [some (.ref mo), some (.long (-8966224776888037892)), none, some (.ref v1544), some (.int 8), some (.int 8), some (.int 128), some (.int 0), none] dX8_digest_233 (by decide) rfl rfl ?_
  refine j_lload_n F1567 dX8_digest_234 rfl ?_
  refine j_aload_n F1567 dX8_digest_235 rfl ?_
  refine j_iconst F1567 2 dX8_digest_236 (by decide) ?_
  have hKm1609 : Kp M1545 [] M1545 := by
    intro b x hb hx
    exact hx
  have hMo1608 := Mo.mono hp1547m hKm1609
  refine m_cVi S (n1 := 1) (rest := [.long (-8966224776888037892)]) (r_X8_floatsOf X.l G X.A M1545 2 hMo1608) ⟨_, _, _, _, rfl, (gBV kB_X8_floatsOf (by decide +kernel)), rfl, rfl, (by decide +kernel), ⟨(Nat.le_of_ble_eq_true rfl), (Nat.le_of_ble_eq_true rfl)⟩⟩ h1560 rfl rfl (Nat.le_of_ble_eq_true rfl) (Nat.le_of_ble_eq_true rfl) (Nat.le_of_ble_eq_true rfl) rfl dX8_digest_237 (fun v1610 M1611 hD1612 hp1613 => ?_)
  obtain ⟨hp1613m, hp1613k, hp1613v⟩ := hp1613
  subst hp1613v
  have n1614 : v17 ∉ [mo, ka] := by
    intro h9; simp only [List.mem_cons, List.not_mem_nil, or_false] at h9
    rcases h9 with h9 | h9
    · exact (In.ne hD1546 h28 h1560 (by simp)) h9
    · exact (In.ne hD1546 h28 h1564 (by simp)) h9
  have n1615 : v116 ∉ [mo, ka] := by
    intro h9; simp only [List.mem_cons, List.not_mem_nil, or_false] at h9
    rcases h9 with h9 | h9
    · exact (In.ne hD1546 h128 h1560 (by simp)) h9
    · exact (In.ne hD1546 h128 h1564 (by simp)) h9
  have n1616 : v220 ∉ [mo, ka] := by
    intro h9; simp only [List.mem_cons, List.not_mem_nil, or_false] at h9
    rcases h9 with h9 | h9
    · exact (In.ne hD1546 h233 h1560 (by simp)) h9
    · exact (In.ne hD1546 h233 h1564 (by simp)) h9
  have n1617 : v329 ∉ [mo, ka] := by
    intro h9; simp only [List.mem_cons, List.not_mem_nil, or_false] at h9
    rcases h9 with h9 | h9
    · exact (In.ne hD1546 h343 h1560 (by simp)) h9
    · exact (In.ne hD1546 h343 h1564 (by simp)) h9
  have n1618 : v443 ∉ [mo, ka] := by
    intro h9; simp only [List.mem_cons, List.not_mem_nil, or_false] at h9
    rcases h9 with h9 | h9
    · exact (In.ne hD1546 h458 h1560 (by simp)) h9
    · exact (In.ne hD1546 h458 h1564 (by simp)) h9
  have n1619 : v562 ∉ [mo, ka] := by
    intro h9; simp only [List.mem_cons, List.not_mem_nil, or_false] at h9
    rcases h9 with h9 | h9
    · exact (In.ne hD1546 h578 h1560 (by simp)) h9
    · exact (In.ne hD1546 h578 h1564 (by simp)) h9
  have n1620 : v686 ∉ [mo, ka] := by
    intro h9; simp only [List.mem_cons, List.not_mem_nil, or_false] at h9
    rcases h9 with h9 | h9
    · exact (In.ne hD1546 h703 h1560 (by simp)) h9
    · exact (In.ne hD1546 h703 h1564 (by simp)) h9
  have n1621 : v815 ∉ [mo, ka] := by
    intro h9; simp only [List.mem_cons, List.not_mem_nil, or_false] at h9
    rcases h9 with h9 | h9
    · exact (In.ne hD1546 h833 h1560 (by simp)) h9
    · exact (In.ne hD1546 h833 h1564 (by simp)) h9
  have n1622 : v949 ∉ [mo, ka] := by
    intro h9; simp only [List.mem_cons, List.not_mem_nil, or_false] at h9
    rcases h9 with h9 | h9
    · exact (In.ne hD1546 h968 h1560 (by simp)) h9
    · exact (In.ne hD1546 h968 h1564 (by simp)) h9
  have n1623 : v1088 ∉ [mo, ka] := by
    intro h9; simp only [List.mem_cons, List.not_mem_nil, or_false] at h9
    rcases h9 with h9 | h9
    · exact (In.ne hD1546 h1108 h1560 (by simp)) h9
    · exact (In.ne hD1546 h1108 h1564 (by simp)) h9
  have n1624 : v1544 ∉ [mo, ka] := by
    intro h9; simp only [List.mem_cons, List.not_mem_nil, or_false] at h9
    rcases h9 with h9 | h9
    · exact (In.ne hD1546 h1566 h1560 (by simp)) h9
    · exact (In.ne hD1546 h1566 h1564 (by simp)) h9
  have h28 := hp1613k _ _ n1614 h28
  have h128 := hp1613k _ _ n1615 h128
  have h233 := hp1613k _ _ n1616 h233
  have h343 := hp1613k _ _ n1617 h343
  have h458 := hp1613k _ _ n1618 h458
  have h578 := hp1613k _ _ n1619 h578
  have h703 := hp1613k _ _ n1620 h703
  have h833 := hp1613k _ _ n1621 h833
  have h968 := hp1613k _ _ n1622 h968
  have h1108 := hp1613k _ _ n1623 h1108
  have h1566 := hp1613k _ _ n1624 h1566
  obtain ⟨pl1625, pe1625, f1625, kn1625, tf1625, o1625_0, o1625_1, o1625_2, o1625_3, o1625_4, o1625_5, o1625_6, o1625_7⟩ := id hp1613m
  have h1626 : (mo, (.inr (8, [.int 0, .ref pl1625, .ref ka, .ref ta]) : va_E)) ∈ M1611 := o1625_0
  have h1627 : (pl1625, (.inr (10, [.int 10, .ref pe1625, .int 10]) : va_E)) ∈ M1611 := o1625_1
  have h1628 : (pe1625, (.inl (G.cO, 10, .inr (.inr (.inr (.inr f1625)))) : va_E)) ∈ M1611 := o1625_2
  have h1629 : (ta, (.inl (G.Z.cI, 8, .inl tf1625) : va_E)) ∈ M1611 := o1625_4
  have h1630 : (ka, (.inl (G.cR, 10, .inr (.inr (.inr (.inr kn1625)))) : va_E)) ∈ M1611 := o1625_6
  have hDo1631 := hD1612
  have h51632 := h1566
  have F1633 := S.1.at 582 2091 (Nat.le_of_ble_eq_true rfl) (Nat.le_of_ble_eq_true rfl)
  refine j_i2l F1633 0 dX8_digest_240 (by decide) ?_
  refine m_cSl S (n1 := 2) (rest := []) (r_X8_add X.l G X.A M1611 (-8966224776888037892) 0) ⟨_, _, _, _, rfl, (gBS kB_X8_add (by decide +kernel)), rfl, rfl, (by decide +kernel), ⟨(Nat.le_of_ble_eq_true rfl), (Nat.le_of_ble_eq_true rfl)⟩⟩ rfl (Nat.le_of_ble_eq_true rfl) (Nat.le_of_ble_eq_true rfl) (Nat.le_of_ble_eq_true rfl) rfl dX8_digest_241 (fun v1634 M1635 hD1636 hp1637 => ?_)
  obtain ⟨hp1637v, hp1637m⟩ := hp1637
  have hp1637v : (-1251806977885900412 : Int64) = v1634 := (by decide : (-1251806977885900412 : Int64) = (-8966224776888037892) * 31 + 0).trans hp1637v
  subst hp1637v
  subst hp1637m
  refine j_aload_n F1633 dX8_digest_244 rfl ?_
  refine j_iconst F1633 3 dX8_digest_245 (by decide) ?_
  have hKm1639 : Kp M1611 [] M1611 := by
    intro b x hb hx
    exact hx
  have hMo1638 := Mo.mono hp1613m hKm1639
  refine m_cVi S (n1 := 1) (rest := [.long (-1251806977885900412)]) (r_X8_floatsOf X.l G X.A M1611 3 hMo1638) ⟨_, _, _, _, rfl, (gBV kB_X8_floatsOf (by decide +kernel)), rfl, rfl, (by decide +kernel), ⟨(Nat.le_of_ble_eq_true rfl), (Nat.le_of_ble_eq_true rfl)⟩⟩ h1626 rfl rfl (Nat.le_of_ble_eq_true rfl) (Nat.le_of_ble_eq_true rfl) (Nat.le_of_ble_eq_true rfl) rfl dX8_digest_246 (fun v1640 M1641 hD1642 hp1643 => ?_)
  obtain ⟨hp1643m, hp1643k, hp1643v⟩ := hp1643
  subst hp1643v
  have n1644 : v17 ∉ [mo, ka] := by
    intro h9; simp only [List.mem_cons, List.not_mem_nil, or_false] at h9
    rcases h9 with h9 | h9
    · exact (In.ne hD1612 h28 h1626 (by simp)) h9
    · exact (In.ne hD1612 h28 h1630 (by simp)) h9
  have n1645 : v116 ∉ [mo, ka] := by
    intro h9; simp only [List.mem_cons, List.not_mem_nil, or_false] at h9
    rcases h9 with h9 | h9
    · exact (In.ne hD1612 h128 h1626 (by simp)) h9
    · exact (In.ne hD1612 h128 h1630 (by simp)) h9
  have n1646 : v220 ∉ [mo, ka] := by
    intro h9; simp only [List.mem_cons, List.not_mem_nil, or_false] at h9
    rcases h9 with h9 | h9
    · exact (In.ne hD1612 h233 h1626 (by simp)) h9
    · exact (In.ne hD1612 h233 h1630 (by simp)) h9
  have n1647 : v329 ∉ [mo, ka] := by
    intro h9; simp only [List.mem_cons, List.not_mem_nil, or_false] at h9
    rcases h9 with h9 | h9
    · exact (In.ne hD1612 h343 h1626 (by simp)) h9
    · exact (In.ne hD1612 h343 h1630 (by simp)) h9
  have n1648 : v443 ∉ [mo, ka] := by
    intro h9; simp only [List.mem_cons, List.not_mem_nil, or_false] at h9
    rcases h9 with h9 | h9
    · exact (In.ne hD1612 h458 h1626 (by simp)) h9
    · exact (In.ne hD1612 h458 h1630 (by simp)) h9
  have n1649 : v562 ∉ [mo, ka] := by
    intro h9; simp only [List.mem_cons, List.not_mem_nil, or_false] at h9
    rcases h9 with h9 | h9
    · exact (In.ne hD1612 h578 h1626 (by simp)) h9
    · exact (In.ne hD1612 h578 h1630 (by simp)) h9
  have n1650 : v686 ∉ [mo, ka] := by
    intro h9; simp only [List.mem_cons, List.not_mem_nil, or_false] at h9
    rcases h9 with h9 | h9
    · exact (In.ne hD1612 h703 h1626 (by simp)) h9
    · exact (In.ne hD1612 h703 h1630 (by simp)) h9
  have n1651 : v815 ∉ [mo, ka] := by
    intro h9; simp only [List.mem_cons, List.not_mem_nil, or_false] at h9
    rcases h9 with h9 | h9
    · exact (In.ne hD1612 h833 h1626 (by simp)) h9
    · exact (In.ne hD1612 h833 h1630 (by simp)) h9
  have n1652 : v949 ∉ [mo, ka] := by
    intro h9; simp only [List.mem_cons, List.not_mem_nil, or_false] at h9
    rcases h9 with h9 | h9
    · exact (In.ne hD1612 h968 h1626 (by simp)) h9
    · exact (In.ne hD1612 h968 h1630 (by simp)) h9
  have n1653 : v1088 ∉ [mo, ka] := by
    intro h9; simp only [List.mem_cons, List.not_mem_nil, or_false] at h9
    rcases h9 with h9 | h9
    · exact (In.ne hD1612 h1108 h1626 (by simp)) h9
    · exact (In.ne hD1612 h1108 h1630 (by simp)) h9
  have n1654 : v1544 ∉ [mo, ka] := by
    intro h9; simp only [List.mem_cons, List.not_mem_nil, or_false] at h9
    rcases h9 with h9 | h9
    · exact (In.ne hD1612 h1566 h1626 (by simp)) h9
    · exact (In.ne hD1612 h1566 h1630 (by simp)) h9
  have h28 := hp1643k _ _ n1644 h28
  have h128 := hp1643k _ _ n1645 h128
  have h233 := hp1643k _ _ n1646 h233
  have h343 := hp1643k _ _ n1647 h343
  have h458 := hp1643k _ _ n1648 h458
  have h578 := hp1643k _ _ n1649 h578
  have h703 := hp1643k _ _ n1650 h703
  have h833 := hp1643k _ _ n1651 h833
  have h968 := hp1643k _ _ n1652 h968
  have h1108 := hp1643k _ _ n1653 h1108
  have h1566 := hp1643k _ _ n1654 h1566
  obtain ⟨pl1655, pe1655, f1655, kn1655, tf1655, o1655_0, o1655_1, o1655_2, o1655_3, o1655_4, o1655_5, o1655_6, o1655_7⟩ := id hp1643m
  have h1656 : (mo, (.inr (8, [.int 0, .ref pl1655, .ref ka, .ref ta]) : va_E)) ∈ M1641 := o1655_0
  have h1657 : (pl1655, (.inr (10, [.int 10, .ref pe1655, .int 10]) : va_E)) ∈ M1641 := o1655_1
  have h1658 : (pe1655, (.inl (G.cO, 10, .inr (.inr (.inr (.inr f1655)))) : va_E)) ∈ M1641 := o1655_2
  have h1659 : (ta, (.inl (G.Z.cI, 8, .inl tf1655) : va_E)) ∈ M1641 := o1655_4
  have h1660 : (ka, (.inl (G.cR, 10, .inr (.inr (.inr (.inr kn1655)))) : va_E)) ∈ M1641 := o1655_6
  have hDo1661 := hD1642
  have h51662 := h1566
  have F1663 := S.1.at 610 2185 (Nat.le_of_ble_eq_true rfl) (Nat.le_of_ble_eq_true rfl)
  refine j_i2l F1663 0 dX8_digest_249 (by decide) ?_
  refine m_cSl S (n1 := 2) (rest := []) (r_X8_add X.l G X.A M1641 (-1251806977885900412) 0) ⟨_, _, _, _, rfl, (gBS kB_X8_add (by decide +kernel)), rfl, rfl, (by decide +kernel), ⟨(Nat.le_of_ble_eq_true rfl), (Nat.le_of_ble_eq_true rfl)⟩⟩ rfl (Nat.le_of_ble_eq_true rfl) (Nat.le_of_ble_eq_true rfl) (Nat.le_of_ble_eq_true rfl) rfl dX8_digest_250 (fun v1664 M1665 hD1666 hp1667 => ?_)
  obtain ⟨hp1667v, hp1667m⟩ := hp1667
  have hp1667v : (-1912528167043809540 : Int64) = v1664 := (by decide : (-1912528167043809540 : Int64) = (-1251806977885900412) * 31 + 0).trans hp1667v
  subst hp1667v
  subst hp1667m
  refine j_aload_n F1663 dX8_digest_253 rfl ?_
  refine j_iconst F1663 5 dX8_digest_254 (by decide) ?_
  have hKm1669 : Kp M1641 [] M1641 := by
    intro b x hb hx
    exact hx
  have hMo1668 := Mo.mono hp1643m hKm1669
  refine m_cVi S (n1 := 1) (rest := [.long (-1912528167043809540)]) (r_X8_floatsOf X.l G X.A M1641 5 hMo1668) ⟨_, _, _, _, rfl, (gBV kB_X8_floatsOf (by decide +kernel)), rfl, rfl, (by decide +kernel), ⟨(Nat.le_of_ble_eq_true rfl), (Nat.le_of_ble_eq_true rfl)⟩⟩ h1656 rfl rfl (Nat.le_of_ble_eq_true rfl) (Nat.le_of_ble_eq_true rfl) (Nat.le_of_ble_eq_true rfl) rfl dX8_digest_255 (fun v1670 M1671 hD1672 hp1673 => ?_)
  obtain ⟨hp1673m, hp1673k, hp1673v⟩ := hp1673
  subst hp1673v
  have n1674 : v17 ∉ [mo, ka] := by
    intro h9; simp only [List.mem_cons, List.not_mem_nil, or_false] at h9
    rcases h9 with h9 | h9
    · exact (In.ne hD1642 h28 h1656 (by simp)) h9
    · exact (In.ne hD1642 h28 h1660 (by simp)) h9
  have n1675 : v116 ∉ [mo, ka] := by
    intro h9; simp only [List.mem_cons, List.not_mem_nil, or_false] at h9
    rcases h9 with h9 | h9
    · exact (In.ne hD1642 h128 h1656 (by simp)) h9
    · exact (In.ne hD1642 h128 h1660 (by simp)) h9
  have n1676 : v220 ∉ [mo, ka] := by
    intro h9; simp only [List.mem_cons, List.not_mem_nil, or_false] at h9
    rcases h9 with h9 | h9
    · exact (In.ne hD1642 h233 h1656 (by simp)) h9
    · exact (In.ne hD1642 h233 h1660 (by simp)) h9
  have n1677 : v329 ∉ [mo, ka] := by
    intro h9; simp only [List.mem_cons, List.not_mem_nil, or_false] at h9
    rcases h9 with h9 | h9
    · exact (In.ne hD1642 h343 h1656 (by simp)) h9
    · exact (In.ne hD1642 h343 h1660 (by simp)) h9
  have n1678 : v443 ∉ [mo, ka] := by
    intro h9; simp only [List.mem_cons, List.not_mem_nil, or_false] at h9
    rcases h9 with h9 | h9
    · exact (In.ne hD1642 h458 h1656 (by simp)) h9
    · exact (In.ne hD1642 h458 h1660 (by simp)) h9
  have n1679 : v562 ∉ [mo, ka] := by
    intro h9; simp only [List.mem_cons, List.not_mem_nil, or_false] at h9
    rcases h9 with h9 | h9
    · exact (In.ne hD1642 h578 h1656 (by simp)) h9
    · exact (In.ne hD1642 h578 h1660 (by simp)) h9
  have n1680 : v686 ∉ [mo, ka] := by
    intro h9; simp only [List.mem_cons, List.not_mem_nil, or_false] at h9
    rcases h9 with h9 | h9
    · exact (In.ne hD1642 h703 h1656 (by simp)) h9
    · exact (In.ne hD1642 h703 h1660 (by simp)) h9
  have n1681 : v815 ∉ [mo, ka] := by
    intro h9; simp only [List.mem_cons, List.not_mem_nil, or_false] at h9
    rcases h9 with h9 | h9
    · exact (In.ne hD1642 h833 h1656 (by simp)) h9
    · exact (In.ne hD1642 h833 h1660 (by simp)) h9
  have n1682 : v949 ∉ [mo, ka] := by
    intro h9; simp only [List.mem_cons, List.not_mem_nil, or_false] at h9
    rcases h9 with h9 | h9
    · exact (In.ne hD1642 h968 h1656 (by simp)) h9
    · exact (In.ne hD1642 h968 h1660 (by simp)) h9
  have n1683 : v1088 ∉ [mo, ka] := by
    intro h9; simp only [List.mem_cons, List.not_mem_nil, or_false] at h9
    rcases h9 with h9 | h9
    · exact (In.ne hD1642 h1108 h1656 (by simp)) h9
    · exact (In.ne hD1642 h1108 h1660 (by simp)) h9
  have n1684 : v1544 ∉ [mo, ka] := by
    intro h9; simp only [List.mem_cons, List.not_mem_nil, or_false] at h9
    rcases h9 with h9 | h9
    · exact (In.ne hD1642 h1566 h1656 (by simp)) h9
    · exact (In.ne hD1642 h1566 h1660 (by simp)) h9
  have h28 := hp1673k _ _ n1674 h28
  have h128 := hp1673k _ _ n1675 h128
  have h233 := hp1673k _ _ n1676 h233
  have h343 := hp1673k _ _ n1677 h343
  have h458 := hp1673k _ _ n1678 h458
  have h578 := hp1673k _ _ n1679 h578
  have h703 := hp1673k _ _ n1680 h703
  have h833 := hp1673k _ _ n1681 h833
  have h968 := hp1673k _ _ n1682 h968
  have h1108 := hp1673k _ _ n1683 h1108
  have h1566 := hp1673k _ _ n1684 h1566
  obtain ⟨pl1685, pe1685, f1685, kn1685, tf1685, o1685_0, o1685_1, o1685_2, o1685_3, o1685_4, o1685_5, o1685_6, o1685_7⟩ := id hp1673m
  have h1686 : (mo, (.inr (8, [.int 0, .ref pl1685, .ref ka, .ref ta]) : va_E)) ∈ M1671 := o1685_0
  have h1687 : (pl1685, (.inr (10, [.int 10, .ref pe1685, .int 10]) : va_E)) ∈ M1671 := o1685_1
  have h1688 : (pe1685, (.inl (G.cO, 10, .inr (.inr (.inr (.inr f1685)))) : va_E)) ∈ M1671 := o1685_2
  have h1689 : (ta, (.inl (G.Z.cI, 8, .inl tf1685) : va_E)) ∈ M1671 := o1685_4
  have h1690 : (ka, (.inl (G.cR, 10, .inr (.inr (.inr (.inr kn1685)))) : va_E)) ∈ M1671 := o1685_6
  have hDo1691 := hD1672
  have h51692 := h1566
  have F1693 := S.1.at 638 2279 (Nat.le_of_ble_eq_true rfl) (Nat.le_of_ble_eq_true rfl)
  refine j_i2l F1693 0 dX8_digest_258 (by decide) ?_
  refine m_cSl S (n1 := 2) (rest := []) (r_X8_add X.l G X.A M1671 (-1912528167043809540) 0) ⟨_, _, _, _, rfl, (gBS kB_X8_add (by decide +kernel)), rfl, rfl, (by decide +kernel), ⟨(Nat.le_of_ble_eq_true rfl), (Nat.le_of_ble_eq_true rfl)⟩⟩ rfl (Nat.le_of_ble_eq_true rfl) (Nat.le_of_ble_eq_true rfl) (Nat.le_of_ble_eq_true rfl) rfl dX8_digest_259 (fun v1694 M1695 hD1696 hp1697 => ?_)
  obtain ⟨hp1697v, hp1697m⟩ := hp1697
  have hp1697v : (-3948140957229440892 : Int64) = v1694 := (by decide : (-3948140957229440892 : Int64) = (-1912528167043809540) * 31 + 0).trans hp1697v
  subst hp1697v
  subst hp1697m
  refine j_lstore_n F1693 [some (.ref mo), some (.long (-3948140957229440892)), none, some (.ref v1544), some (.int 8), some (.int 8), some (.int 128), some (.int 0), none] dX8_digest_262 (by decide) rfl rfl ?_
  refine j_iconst F1693 0 dX8_digest_263 (by decide) ?_
  refine j_istore F1693 [some (.ref mo), some (.long (-3948140957229440892)), none, some (.ref v1544), some (.int 0), some (.int 8), some (.int 128), some (.int 0), none] dX8_digest_264 (by decide) rfl rfl ?_
  refine j_iload F1693 dX8_digest_266 rfl ?_
  refine j_iconst F1693 4 dX8_digest_268 (by decide) ?_
  refine j_icmp_ge F1693 290 dX8_digest_269 (by decide) (fun h9 => absurd h9 (by decide)) (fun _ => ?_)
  refine j_lload_n F1693 dX8_digest_272 rfl ?_
  refine j_aload_n F1693 dX8_digest_273 rfl ?_
  refine j_iload F1693 dX8_digest_274 rfl ?_
  have hKm1699 : Kp M1671 [] M1671 := by
    intro b x hb hx
    exact hx
  have hMo1698 := Mo.mono hp1673m hKm1699
  refine m_cVi S (n1 := 1) (rest := [.long (-3948140957229440892)]) (r_X8_seenOf X.l G X.A M1671 0 hMo1698) ⟨_, _, _, _, rfl, (gBV kB_X8_seenOf (by decide +kernel)), rfl, rfl, (by decide +kernel), ⟨(Nat.le_of_ble_eq_true rfl), (Nat.le_of_ble_eq_true rfl)⟩⟩ h1686 rfl rfl (Nat.le_of_ble_eq_true rfl) (Nat.le_of_ble_eq_true rfl) (Nat.le_of_ble_eq_true rfl) rfl dX8_digest_276 (fun v1700 M1701 hD1702 hp1703 => ?_)
  obtain ⟨hp1703m, hp1703k, hp1703v⟩ := hp1703
  subst hp1703v
  have n1704 : v17 ∉ [mo, ka] := by
    intro h9; simp only [List.mem_cons, List.not_mem_nil, or_false] at h9
    rcases h9 with h9 | h9
    · exact (In.ne hD1672 h28 h1686 (by simp)) h9
    · exact (In.ne hD1672 h28 h1690 (by simp)) h9
  have n1705 : v116 ∉ [mo, ka] := by
    intro h9; simp only [List.mem_cons, List.not_mem_nil, or_false] at h9
    rcases h9 with h9 | h9
    · exact (In.ne hD1672 h128 h1686 (by simp)) h9
    · exact (In.ne hD1672 h128 h1690 (by simp)) h9
  have n1706 : v220 ∉ [mo, ka] := by
    intro h9; simp only [List.mem_cons, List.not_mem_nil, or_false] at h9
    rcases h9 with h9 | h9
    · exact (In.ne hD1672 h233 h1686 (by simp)) h9
    · exact (In.ne hD1672 h233 h1690 (by simp)) h9
  have n1707 : v329 ∉ [mo, ka] := by
    intro h9; simp only [List.mem_cons, List.not_mem_nil, or_false] at h9
    rcases h9 with h9 | h9
    · exact (In.ne hD1672 h343 h1686 (by simp)) h9
    · exact (In.ne hD1672 h343 h1690 (by simp)) h9
  have n1708 : v443 ∉ [mo, ka] := by
    intro h9; simp only [List.mem_cons, List.not_mem_nil, or_false] at h9
    rcases h9 with h9 | h9
    · exact (In.ne hD1672 h458 h1686 (by simp)) h9
    · exact (In.ne hD1672 h458 h1690 (by simp)) h9
  have n1709 : v562 ∉ [mo, ka] := by
    intro h9; simp only [List.mem_cons, List.not_mem_nil, or_false] at h9
    rcases h9 with h9 | h9
    · exact (In.ne hD1672 h578 h1686 (by simp)) h9
    · exact (In.ne hD1672 h578 h1690 (by simp)) h9
  have n1710 : v686 ∉ [mo, ka] := by
    intro h9; simp only [List.mem_cons, List.not_mem_nil, or_false] at h9
    rcases h9 with h9 | h9
    · exact (In.ne hD1672 h703 h1686 (by simp)) h9
    · exact (In.ne hD1672 h703 h1690 (by simp)) h9
  have n1711 : v815 ∉ [mo, ka] := by
    intro h9; simp only [List.mem_cons, List.not_mem_nil, or_false] at h9
    rcases h9 with h9 | h9
    · exact (In.ne hD1672 h833 h1686 (by simp)) h9
    · exact (In.ne hD1672 h833 h1690 (by simp)) h9
  have n1712 : v949 ∉ [mo, ka] := by
    intro h9; simp only [List.mem_cons, List.not_mem_nil, or_false] at h9
    rcases h9 with h9 | h9
    · exact (In.ne hD1672 h968 h1686 (by simp)) h9
    · exact (In.ne hD1672 h968 h1690 (by simp)) h9
  have n1713 : v1088 ∉ [mo, ka] := by
    intro h9; simp only [List.mem_cons, List.not_mem_nil, or_false] at h9
    rcases h9 with h9 | h9
    · exact (In.ne hD1672 h1108 h1686 (by simp)) h9
    · exact (In.ne hD1672 h1108 h1690 (by simp)) h9
  have n1714 : v1544 ∉ [mo, ka] := by
    intro h9; simp only [List.mem_cons, List.not_mem_nil, or_false] at h9
    rcases h9 with h9 | h9
    · exact (In.ne hD1672 h1566 h1686 (by simp)) h9
    · exact (In.ne hD1672 h1566 h1690 (by simp)) h9
  have h28 := hp1703k _ _ n1704 h28
  have h128 := hp1703k _ _ n1705 h128
  have h233 := hp1703k _ _ n1706 h233
  have h343 := hp1703k _ _ n1707 h343
  have h458 := hp1703k _ _ n1708 h458
  have h578 := hp1703k _ _ n1709 h578
  have h703 := hp1703k _ _ n1710 h703
  have h833 := hp1703k _ _ n1711 h833
  have h968 := hp1703k _ _ n1712 h968
  have h1108 := hp1703k _ _ n1713 h1108
  have h1566 := hp1703k _ _ n1714 h1566
  obtain ⟨pl1715, pe1715, f1715, kn1715, tf1715, o1715_0, o1715_1, o1715_2, o1715_3, o1715_4, o1715_5, o1715_6, o1715_7⟩ := id hp1703m
  have h1716 : (mo, (.inr (8, [.int 0, .ref pl1715, .ref ka, .ref ta]) : va_E)) ∈ M1701 := o1715_0
  have h1717 : (pl1715, (.inr (10, [.int 10, .ref pe1715, .int 10]) : va_E)) ∈ M1701 := o1715_1
  have h1718 : (pe1715, (.inl (G.cO, 10, .inr (.inr (.inr (.inr f1715)))) : va_E)) ∈ M1701 := o1715_2
  have h1719 : (ta, (.inl (G.Z.cI, 8, .inl tf1715) : va_E)) ∈ M1701 := o1715_4
  have h1720 : (ka, (.inl (G.cR, 10, .inr (.inr (.inr (.inr kn1715)))) : va_E)) ∈ M1701 := o1715_6
  have hDo1721 := hD1702
  have h51722 := h1566
  have F1723 := S.1.at 652 2326 (Nat.le_of_ble_eq_true rfl) (Nat.le_of_ble_eq_true rfl)
  refine j_i2l F1723 0 dX8_digest_279 (by decide) ?_
  refine m_cSl S (n1 := 2) (rest := []) (r_X8_add X.l G X.A M1701 (-3948140957229440892) 0) ⟨_, _, _, _, rfl, (gBS kB_X8_add (by decide +kernel)), rfl, rfl, (by decide +kernel), ⟨(Nat.le_of_ble_eq_true rfl), (Nat.le_of_ble_eq_true rfl)⟩⟩ rfl (Nat.le_of_ble_eq_true rfl) (Nat.le_of_ble_eq_true rfl) (Nat.le_of_ble_eq_true rfl) rfl dX8_digest_280 (fun v1724 M1725 hD1726 hp1727 => ?_)
  obtain ⟨hp1727v, hp1727m⟩ := hp1727
  have hp1727v : (6734838841854193660 : Int64) = v1724 := (by decide : (6734838841854193660 : Int64) = (-3948140957229440892) * 31 + 0).trans hp1727v
  subst hp1727v
  subst hp1727m
  refine j_lstore_n F1723 [some (.ref mo), some (.long 6734838841854193660), none, some (.ref v1544), some (.int 0), some (.int 8), some (.int 128), some (.int 0), none] dX8_digest_283 (by decide) rfl rfl ?_
  refine j_iinc F1723 1 [some (.ref mo), some (.long 6734838841854193660), none, some (.ref v1544), some (.int 1), some (.int 8), some (.int 128), some (.int 0), none] dX8_digest_284 rfl (by decide) (by decide) rfl rfl ?_
  refine j_goto F1723 266 dX8_digest_287 (by decide) ?_
  refine j_iload F1723 dX8_digest_266 rfl ?_
  refine j_iconst F1723 4 dX8_digest_268 (by decide) ?_
  refine j_icmp_ge F1723 290 dX8_digest_269 (by decide) (fun h9 => absurd h9 (by decide)) (fun _ => ?_)
  refine j_lload_n F1723 dX8_digest_272 rfl ?_
  refine j_aload_n F1723 dX8_digest_273 rfl ?_
  refine j_iload F1723 dX8_digest_274 rfl ?_
  have hKm1729 : Kp M1701 [] M1701 := by
    intro b x hb hx
    exact hx
  have hMo1728 := Mo.mono hp1703m hKm1729
  refine m_cVi S (n1 := 1) (rest := [.long 6734838841854193660]) (r_X8_seenOf X.l G X.A M1701 1 hMo1728) ⟨_, _, _, _, rfl, (gBV kB_X8_seenOf (by decide +kernel)), rfl, rfl, (by decide +kernel), ⟨(Nat.le_of_ble_eq_true rfl), (Nat.le_of_ble_eq_true rfl)⟩⟩ h1716 rfl rfl (Nat.le_of_ble_eq_true rfl) (Nat.le_of_ble_eq_true rfl) (Nat.le_of_ble_eq_true rfl) rfl dX8_digest_276 (fun v1730 M1731 hD1732 hp1733 => ?_)
  obtain ⟨hp1733m, hp1733k, hp1733v⟩ := hp1733
  subst hp1733v
  have n1734 : v17 ∉ [mo, ka] := by
    intro h9; simp only [List.mem_cons, List.not_mem_nil, or_false] at h9
    rcases h9 with h9 | h9
    · exact (In.ne hD1702 h28 h1716 (by simp)) h9
    · exact (In.ne hD1702 h28 h1720 (by simp)) h9
  have n1735 : v116 ∉ [mo, ka] := by
    intro h9; simp only [List.mem_cons, List.not_mem_nil, or_false] at h9
    rcases h9 with h9 | h9
    · exact (In.ne hD1702 h128 h1716 (by simp)) h9
    · exact (In.ne hD1702 h128 h1720 (by simp)) h9
  have n1736 : v220 ∉ [mo, ka] := by
    intro h9; simp only [List.mem_cons, List.not_mem_nil, or_false] at h9
    rcases h9 with h9 | h9
    · exact (In.ne hD1702 h233 h1716 (by simp)) h9
    · exact (In.ne hD1702 h233 h1720 (by simp)) h9
  have n1737 : v329 ∉ [mo, ka] := by
    intro h9; simp only [List.mem_cons, List.not_mem_nil, or_false] at h9
    rcases h9 with h9 | h9
    · exact (In.ne hD1702 h343 h1716 (by simp)) h9
    · exact (In.ne hD1702 h343 h1720 (by simp)) h9
  have n1738 : v443 ∉ [mo, ka] := by
    intro h9; simp only [List.mem_cons, List.not_mem_nil, or_false] at h9
    rcases h9 with h9 | h9
    · exact (In.ne hD1702 h458 h1716 (by simp)) h9
    · exact (In.ne hD1702 h458 h1720 (by simp)) h9
  have n1739 : v562 ∉ [mo, ka] := by
    intro h9; simp only [List.mem_cons, List.not_mem_nil, or_false] at h9
    rcases h9 with h9 | h9
    · exact (In.ne hD1702 h578 h1716 (by simp)) h9
    · exact (In.ne hD1702 h578 h1720 (by simp)) h9
  have n1740 : v686 ∉ [mo, ka] := by
    intro h9; simp only [List.mem_cons, List.not_mem_nil, or_false] at h9
    rcases h9 with h9 | h9
    · exact (In.ne hD1702 h703 h1716 (by simp)) h9
    · exact (In.ne hD1702 h703 h1720 (by simp)) h9
  have n1741 : v815 ∉ [mo, ka] := by
    intro h9; simp only [List.mem_cons, List.not_mem_nil, or_false] at h9
    rcases h9 with h9 | h9
    · exact (In.ne hD1702 h833 h1716 (by simp)) h9
    · exact (In.ne hD1702 h833 h1720 (by simp)) h9
  have n1742 : v949 ∉ [mo, ka] := by
    intro h9; simp only [List.mem_cons, List.not_mem_nil, or_false] at h9
    rcases h9 with h9 | h9
    · exact (In.ne hD1702 h968 h1716 (by simp)) h9
    · exact (In.ne hD1702 h968 h1720 (by simp)) h9
  have n1743 : v1088 ∉ [mo, ka] := by
    intro h9; simp only [List.mem_cons, List.not_mem_nil, or_false] at h9
    rcases h9 with h9 | h9
    · exact (In.ne hD1702 h1108 h1716 (by simp)) h9
    · exact (In.ne hD1702 h1108 h1720 (by simp)) h9
  have n1744 : v1544 ∉ [mo, ka] := by
    intro h9; simp only [List.mem_cons, List.not_mem_nil, or_false] at h9
    rcases h9 with h9 | h9
    · exact (In.ne hD1702 h1566 h1716 (by simp)) h9
    · exact (In.ne hD1702 h1566 h1720 (by simp)) h9
  have h28 := hp1733k _ _ n1734 h28
  have h128 := hp1733k _ _ n1735 h128
  have h233 := hp1733k _ _ n1736 h233
  have h343 := hp1733k _ _ n1737 h343
  have h458 := hp1733k _ _ n1738 h458
  have h578 := hp1733k _ _ n1739 h578
  have h703 := hp1733k _ _ n1740 h703
  have h833 := hp1733k _ _ n1741 h833
  have h968 := hp1733k _ _ n1742 h968
  have h1108 := hp1733k _ _ n1743 h1108
  have h1566 := hp1733k _ _ n1744 h1566
  obtain ⟨pl1745, pe1745, f1745, kn1745, tf1745, o1745_0, o1745_1, o1745_2, o1745_3, o1745_4, o1745_5, o1745_6, o1745_7⟩ := id hp1733m
  have h1746 : (mo, (.inr (8, [.int 0, .ref pl1745, .ref ka, .ref ta]) : va_E)) ∈ M1731 := o1745_0
  have h1747 : (pl1745, (.inr (10, [.int 10, .ref pe1745, .int 10]) : va_E)) ∈ M1731 := o1745_1
  have h1748 : (pe1745, (.inl (G.cO, 10, .inr (.inr (.inr (.inr f1745)))) : va_E)) ∈ M1731 := o1745_2
  have h1749 : (ta, (.inl (G.Z.cI, 8, .inl tf1745) : va_E)) ∈ M1731 := o1745_4
  have h1750 : (ka, (.inl (G.cR, 10, .inr (.inr (.inr (.inr kn1745)))) : va_E)) ∈ M1731 := o1745_6
  have hDo1751 := hD1732
  have h51752 := h1566
  have F1753 := S.1.at 666 2373 (Nat.le_of_ble_eq_true rfl) (Nat.le_of_ble_eq_true rfl)
  refine j_i2l F1753 0 dX8_digest_279 (by decide) ?_
  refine m_cSl S (n1 := 2) (rest := []) (r_X8_add X.l G X.A M1731 6734838841854193660 0) ⟨_, _, _, _, rfl, (gBS kB_X8_add (by decide +kernel)), rfl, rfl, (by decide +kernel), ⟨(Nat.le_of_ble_eq_true rfl), (Nat.le_of_ble_eq_true rfl)⟩⟩ rfl (Nat.le_of_ble_eq_true rfl) (Nat.le_of_ble_eq_true rfl) (Nat.le_of_ble_eq_true rfl) rfl dX8_digest_280 (fun v1754 M1755 hD1756 hp1757 => ?_)
  obtain ⟨hp1757v, hp1757m⟩ := hp1757
  have hp1757v : (5865819286674935684 : Int64) = v1754 := (by decide : (5865819286674935684 : Int64) = 6734838841854193660 * 31 + 0).trans hp1757v
  subst hp1757v
  subst hp1757m
  refine j_lstore_n F1753 [some (.ref mo), some (.long 5865819286674935684), none, some (.ref v1544), some (.int 1), some (.int 8), some (.int 128), some (.int 0), none] dX8_digest_283 (by decide) rfl rfl ?_
  refine j_iinc F1753 2 [some (.ref mo), some (.long 5865819286674935684), none, some (.ref v1544), some (.int 2), some (.int 8), some (.int 128), some (.int 0), none] dX8_digest_284 rfl (by decide) (by decide) rfl rfl ?_
  refine j_goto F1753 266 dX8_digest_287 (by decide) ?_
  refine j_iload F1753 dX8_digest_266 rfl ?_
  refine j_iconst F1753 4 dX8_digest_268 (by decide) ?_
  refine j_icmp_ge F1753 290 dX8_digest_269 (by decide) (fun h9 => absurd h9 (by decide)) (fun _ => ?_)
  refine j_lload_n F1753 dX8_digest_272 rfl ?_
  refine j_aload_n F1753 dX8_digest_273 rfl ?_
  refine j_iload F1753 dX8_digest_274 rfl ?_
  have hKm1759 : Kp M1731 [] M1731 := by
    intro b x hb hx
    exact hx
  have hMo1758 := Mo.mono hp1733m hKm1759
  refine m_cVi S (n1 := 1) (rest := [.long 5865819286674935684]) (r_X8_seenOf X.l G X.A M1731 2 hMo1758) ⟨_, _, _, _, rfl, (gBV kB_X8_seenOf (by decide +kernel)), rfl, rfl, (by decide +kernel), ⟨(Nat.le_of_ble_eq_true rfl), (Nat.le_of_ble_eq_true rfl)⟩⟩ h1746 rfl rfl (Nat.le_of_ble_eq_true rfl) (Nat.le_of_ble_eq_true rfl) (Nat.le_of_ble_eq_true rfl) rfl dX8_digest_276 (fun v1760 M1761 hD1762 hp1763 => ?_)
  obtain ⟨hp1763m, hp1763k, hp1763v⟩ := hp1763
  subst hp1763v
  have n1764 : v17 ∉ [mo, ka] := by
    intro h9; simp only [List.mem_cons, List.not_mem_nil, or_false] at h9
    rcases h9 with h9 | h9
    · exact (In.ne hD1732 h28 h1746 (by simp)) h9
    · exact (In.ne hD1732 h28 h1750 (by simp)) h9
  have n1765 : v116 ∉ [mo, ka] := by
    intro h9; simp only [List.mem_cons, List.not_mem_nil, or_false] at h9
    rcases h9 with h9 | h9
    · exact (In.ne hD1732 h128 h1746 (by simp)) h9
    · exact (In.ne hD1732 h128 h1750 (by simp)) h9
  have n1766 : v220 ∉ [mo, ka] := by
    intro h9; simp only [List.mem_cons, List.not_mem_nil, or_false] at h9
    rcases h9 with h9 | h9
    · exact (In.ne hD1732 h233 h1746 (by simp)) h9
    · exact (In.ne hD1732 h233 h1750 (by simp)) h9
  have n1767 : v329 ∉ [mo, ka] := by
    intro h9; simp only [List.mem_cons, List.not_mem_nil, or_false] at h9
    rcases h9 with h9 | h9
    · exact (In.ne hD1732 h343 h1746 (by simp)) h9
    · exact (In.ne hD1732 h343 h1750 (by simp)) h9
  have n1768 : v443 ∉ [mo, ka] := by
    intro h9; simp only [List.mem_cons, List.not_mem_nil, or_false] at h9
    rcases h9 with h9 | h9
    · exact (In.ne hD1732 h458 h1746 (by simp)) h9
    · exact (In.ne hD1732 h458 h1750 (by simp)) h9
  have n1769 : v562 ∉ [mo, ka] := by
    intro h9; simp only [List.mem_cons, List.not_mem_nil, or_false] at h9
    rcases h9 with h9 | h9
    · exact (In.ne hD1732 h578 h1746 (by simp)) h9
    · exact (In.ne hD1732 h578 h1750 (by simp)) h9
  have n1770 : v686 ∉ [mo, ka] := by
    intro h9; simp only [List.mem_cons, List.not_mem_nil, or_false] at h9
    rcases h9 with h9 | h9
    · exact (In.ne hD1732 h703 h1746 (by simp)) h9
    · exact (In.ne hD1732 h703 h1750 (by simp)) h9
  have n1771 : v815 ∉ [mo, ka] := by
    intro h9; simp only [List.mem_cons, List.not_mem_nil, or_false] at h9
    rcases h9 with h9 | h9
    · exact (In.ne hD1732 h833 h1746 (by simp)) h9
    · exact (In.ne hD1732 h833 h1750 (by simp)) h9
  have n1772 : v949 ∉ [mo, ka] := by
    intro h9; simp only [List.mem_cons, List.not_mem_nil, or_false] at h9
    rcases h9 with h9 | h9
    · exact (In.ne hD1732 h968 h1746 (by simp)) h9
    · exact (In.ne hD1732 h968 h1750 (by simp)) h9
  have n1773 : v1088 ∉ [mo, ka] := by
    intro h9; simp only [List.mem_cons, List.not_mem_nil, or_false] at h9
    rcases h9 with h9 | h9
    · exact (In.ne hD1732 h1108 h1746 (by simp)) h9
    · exact (In.ne hD1732 h1108 h1750 (by simp)) h9
  have n1774 : v1544 ∉ [mo, ka] := by
    intro h9; simp only [List.mem_cons, List.not_mem_nil, or_false] at h9
    rcases h9 with h9 | h9
    · exact (In.ne hD1732 h1566 h1746 (by simp)) h9
    · exact (In.ne hD1732 h1566 h1750 (by simp)) h9
  have h28 := hp1763k _ _ n1764 h28
  have h128 := hp1763k _ _ n1765 h128
  have h233 := hp1763k _ _ n1766 h233
  have h343 := hp1763k _ _ n1767 h343
  have h458 := hp1763k _ _ n1768 h458
  have h578 := hp1763k _ _ n1769 h578
  have h703 := hp1763k _ _ n1770 h703
  have h833 := hp1763k _ _ n1771 h833
  have h968 := hp1763k _ _ n1772 h968
  have h1108 := hp1763k _ _ n1773 h1108
  have h1566 := hp1763k _ _ n1774 h1566
  obtain ⟨pl1775, pe1775, f1775, kn1775, tf1775, o1775_0, o1775_1, o1775_2, o1775_3, o1775_4, o1775_5, o1775_6, o1775_7⟩ := id hp1763m
  have h1776 : (mo, (.inr (8, [.int 0, .ref pl1775, .ref ka, .ref ta]) : va_E)) ∈ M1761 := o1775_0
  have h1777 : (pl1775, (.inr (10, [.int 10, .ref pe1775, .int 10]) : va_E)) ∈ M1761 := o1775_1
  have h1778 : (pe1775, (.inl (G.cO, 10, .inr (.inr (.inr (.inr f1775)))) : va_E)) ∈ M1761 := o1775_2
  have h1779 : (ta, (.inl (G.Z.cI, 8, .inl tf1775) : va_E)) ∈ M1761 := o1775_4
  have h1780 : (ka, (.inl (G.cR, 10, .inr (.inr (.inr (.inr kn1775)))) : va_E)) ∈ M1761 := o1775_6
  have hDo1781 := hD1762
  have h51782 := h1566
  have F1783 := S.1.at 680 2420 (Nat.le_of_ble_eq_true rfl) (Nat.le_of_ble_eq_true rfl)
  refine j_i2l F1783 0 dX8_digest_279 (by decide) ?_
  refine m_cSl S (n1 := 2) (rest := []) (r_X8_add X.l G X.A M1761 5865819286674935684 0) ⟨_, _, _, _, rfl, (gBS kB_X8_add (by decide +kernel)), rfl, rfl, (by decide +kernel), ⟨(Nat.le_of_ble_eq_true rfl), (Nat.le_of_ble_eq_true rfl)⟩⟩ rfl (Nat.le_of_ble_eq_true rfl) (Nat.le_of_ble_eq_true rfl) (Nat.le_of_ble_eq_true rfl) rfl dX8_digest_280 (fun v1784 M1785 hD1786 hp1787 => ?_)
  obtain ⟨hp1787v, hp1787m⟩ := hp1787
  have hp1787v : (-2627042850172509956 : Int64) = v1784 := (by decide : (-2627042850172509956 : Int64) = 5865819286674935684 * 31 + 0).trans hp1787v
  subst hp1787v
  subst hp1787m
  refine j_lstore_n F1783 [some (.ref mo), some (.long (-2627042850172509956)), none, some (.ref v1544), some (.int 2), some (.int 8), some (.int 128), some (.int 0), none] dX8_digest_283 (by decide) rfl rfl ?_
  refine j_iinc F1783 3 [some (.ref mo), some (.long (-2627042850172509956)), none, some (.ref v1544), some (.int 3), some (.int 8), some (.int 128), some (.int 0), none] dX8_digest_284 rfl (by decide) (by decide) rfl rfl ?_
  refine j_goto F1783 266 dX8_digest_287 (by decide) ?_
  refine j_iload F1783 dX8_digest_266 rfl ?_
  refine j_iconst F1783 4 dX8_digest_268 (by decide) ?_
  refine j_icmp_ge F1783 290 dX8_digest_269 (by decide) (fun h9 => absurd h9 (by decide)) (fun _ => ?_)
  refine j_lload_n F1783 dX8_digest_272 rfl ?_
  refine j_aload_n F1783 dX8_digest_273 rfl ?_
  refine j_iload F1783 dX8_digest_274 rfl ?_
  have hKm1789 : Kp M1761 [] M1761 := by
    intro b x hb hx
    exact hx
  have hMo1788 := Mo.mono hp1763m hKm1789
  refine m_cVi S (n1 := 1) (rest := [.long (-2627042850172509956)]) (r_X8_seenOf X.l G X.A M1761 3 hMo1788) ⟨_, _, _, _, rfl, (gBV kB_X8_seenOf (by decide +kernel)), rfl, rfl, (by decide +kernel), ⟨(Nat.le_of_ble_eq_true rfl), (Nat.le_of_ble_eq_true rfl)⟩⟩ h1776 rfl rfl (Nat.le_of_ble_eq_true rfl) (Nat.le_of_ble_eq_true rfl) (Nat.le_of_ble_eq_true rfl) rfl dX8_digest_276 (fun v1790 M1791 hD1792 hp1793 => ?_)
  obtain ⟨hp1793m, hp1793k, hp1793v⟩ := hp1793
  subst hp1793v
  have n1794 : v17 ∉ [mo, ka] := by
    intro h9; simp only [List.mem_cons, List.not_mem_nil, or_false] at h9
    rcases h9 with h9 | h9
    · exact (In.ne hD1762 h28 h1776 (by simp)) h9
    · exact (In.ne hD1762 h28 h1780 (by simp)) h9
  have n1795 : v116 ∉ [mo, ka] := by
    intro h9; simp only [List.mem_cons, List.not_mem_nil, or_false] at h9
    rcases h9 with h9 | h9
    · exact (In.ne hD1762 h128 h1776 (by simp)) h9
    · exact (In.ne hD1762 h128 h1780 (by simp)) h9
  have n1796 : v220 ∉ [mo, ka] := by
    intro h9; simp only [List.mem_cons, List.not_mem_nil, or_false] at h9
    rcases h9 with h9 | h9
    · exact (In.ne hD1762 h233 h1776 (by simp)) h9
    · exact (In.ne hD1762 h233 h1780 (by simp)) h9
  have n1797 : v329 ∉ [mo, ka] := by
    intro h9; simp only [List.mem_cons, List.not_mem_nil, or_false] at h9
    rcases h9 with h9 | h9
    · exact (In.ne hD1762 h343 h1776 (by simp)) h9
    · exact (In.ne hD1762 h343 h1780 (by simp)) h9
  have n1798 : v443 ∉ [mo, ka] := by
    intro h9; simp only [List.mem_cons, List.not_mem_nil, or_false] at h9
    rcases h9 with h9 | h9
    · exact (In.ne hD1762 h458 h1776 (by simp)) h9
    · exact (In.ne hD1762 h458 h1780 (by simp)) h9
  have n1799 : v562 ∉ [mo, ka] := by
    intro h9; simp only [List.mem_cons, List.not_mem_nil, or_false] at h9
    rcases h9 with h9 | h9
    · exact (In.ne hD1762 h578 h1776 (by simp)) h9
    · exact (In.ne hD1762 h578 h1780 (by simp)) h9
  have n1800 : v686 ∉ [mo, ka] := by
    intro h9; simp only [List.mem_cons, List.not_mem_nil, or_false] at h9
    rcases h9 with h9 | h9
    · exact (In.ne hD1762 h703 h1776 (by simp)) h9
    · exact (In.ne hD1762 h703 h1780 (by simp)) h9
  have n1801 : v815 ∉ [mo, ka] := by
    intro h9; simp only [List.mem_cons, List.not_mem_nil, or_false] at h9
    rcases h9 with h9 | h9
    · exact (In.ne hD1762 h833 h1776 (by simp)) h9
    · exact (In.ne hD1762 h833 h1780 (by simp)) h9
  have n1802 : v949 ∉ [mo, ka] := by
    intro h9; simp only [List.mem_cons, List.not_mem_nil, or_false] at h9
    rcases h9 with h9 | h9
    · exact (In.ne hD1762 h968 h1776 (by simp)) h9
    · exact (In.ne hD1762 h968 h1780 (by simp)) h9
  have n1803 : v1088 ∉ [mo, ka] := by
    intro h9; simp only [List.mem_cons, List.not_mem_nil, or_false] at h9
    rcases h9 with h9 | h9
    · exact (In.ne hD1762 h1108 h1776 (by simp)) h9
    · exact (In.ne hD1762 h1108 h1780 (by simp)) h9
  have n1804 : v1544 ∉ [mo, ka] := by
    intro h9; simp only [List.mem_cons, List.not_mem_nil, or_false] at h9
    rcases h9 with h9 | h9
    · exact (In.ne hD1762 h1566 h1776 (by simp)) h9
    · exact (In.ne hD1762 h1566 h1780 (by simp)) h9
  have h28 := hp1793k _ _ n1794 h28
  have h128 := hp1793k _ _ n1795 h128
  have h233 := hp1793k _ _ n1796 h233
  have h343 := hp1793k _ _ n1797 h343
  have h458 := hp1793k _ _ n1798 h458
  have h578 := hp1793k _ _ n1799 h578
  have h703 := hp1793k _ _ n1800 h703
  have h833 := hp1793k _ _ n1801 h833
  have h968 := hp1793k _ _ n1802 h968
  have h1108 := hp1793k _ _ n1803 h1108
  have h1566 := hp1793k _ _ n1804 h1566
  obtain ⟨pl1805, pe1805, f1805, kn1805, tf1805, o1805_0, o1805_1, o1805_2, o1805_3, o1805_4, o1805_5, o1805_6, o1805_7⟩ := id hp1793m
  have h1806 : (mo, (.inr (8, [.int 0, .ref pl1805, .ref ka, .ref ta]) : va_E)) ∈ M1791 := o1805_0
  have h1807 : (pl1805, (.inr (10, [.int 10, .ref pe1805, .int 10]) : va_E)) ∈ M1791 := o1805_1
  have h1808 : (pe1805, (.inl (G.cO, 10, .inr (.inr (.inr (.inr f1805)))) : va_E)) ∈ M1791 := o1805_2
  have h1809 : (ta, (.inl (G.Z.cI, 8, .inl tf1805) : va_E)) ∈ M1791 := o1805_4
  have h1810 : (ka, (.inl (G.cR, 10, .inr (.inr (.inr (.inr kn1805)))) : va_E)) ∈ M1791 := o1805_6
  have hDo1811 := hD1792
  have h51812 := h1566
  have F1813 := S.1.at 694 2467 (Nat.le_of_ble_eq_true rfl) (Nat.le_of_ble_eq_true rfl)
  refine j_i2l F1813 0 dX8_digest_279 (by decide) ?_
  refine m_cSl S (n1 := 2) (rest := []) (r_X8_add X.l G X.A M1791 (-2627042850172509956) 0) ⟨_, _, _, _, rfl, (gBS kB_X8_add (by decide +kernel)), rfl, rfl, (by decide +kernel), ⟨(Nat.le_of_ble_eq_true rfl), (Nat.le_of_ble_eq_true rfl)⟩⟩ rfl (Nat.le_of_ble_eq_true rfl) (Nat.le_of_ble_eq_true rfl) (Nat.le_of_ble_eq_true rfl) rfl dX8_digest_280 (fun v1814 M1815 hD1816 hp1817 => ?_)
  obtain ⟨hp1817v, hp1817m⟩ := hp1817
  have hp1817v : (-7651352060509602172 : Int64) = v1814 := (by decide : (-7651352060509602172 : Int64) = (-2627042850172509956) * 31 + 0).trans hp1817v
  subst hp1817v
  subst hp1817m
  refine j_lstore_n F1813 [some (.ref mo), some (.long (-7651352060509602172)), none, some (.ref v1544), some (.int 3), some (.int 8), some (.int 128), some (.int 0), none] dX8_digest_283 (by decide) rfl rfl ?_
  refine j_iinc F1813 4 [some (.ref mo), some (.long (-7651352060509602172)), none, some (.ref v1544), some (.int 4), some (.int 8), some (.int 128), some (.int 0), none] dX8_digest_284 rfl (by decide) (by decide) rfl rfl ?_
  refine j_goto F1813 266 dX8_digest_287 (by decide) ?_
  refine j_iload F1813 dX8_digest_266 rfl ?_
  refine j_iconst F1813 4 dX8_digest_268 (by decide) ?_
  refine j_icmp_ge F1813 290 dX8_digest_269 (by decide) (fun _ => ?_) (fun h9 => absurd (by decide) h9)
  refine j_lload_n F1813 dX8_digest_290 rfl ?_
  have hKp : Kp M [mo, ka] M1791 := by
    intro b x hb hx
    have hx := hU8.2 _ _ (fun c => hb (by rw [c]; simp)) hx
    have n1818 : b ∉ [mo, ka] := by
      intro h9; simp only [List.mem_cons, List.not_mem_nil, or_false] at h9
      rcases h9 with h9 | h9
      · exact (fun c => hb (by rw [c]; simp)) h9
      · exact (fun c => hb (by rw [c]; simp)) h9
    have hx := hp20k b x n1818 hx
    have n1819 : b ∉ [mo, ka] := by
      intro h9; simp only [List.mem_cons, List.not_mem_nil, or_false] at h9
      rcases h9 with h9 | h9
      · exact (fun c => hb (by rw [c]; simp)) h9
      · exact (fun c => hb (by rw [c]; simp)) h9
    have hx := hp35k b x n1819 hx
    have n1820 : b ∉ [mo, ka] := by
      intro h9; simp only [List.mem_cons, List.not_mem_nil, or_false] at h9
      rcases h9 with h9 | h9
      · exact (fun c => hb (by rw [c]; simp)) h9
      · exact (fun c => hb (by rw [c]; simp)) h9
    have hx := hp54k b x n1820 hx
    have n1821 : b ∉ [mo, ka] := by
      intro h9; simp only [List.mem_cons, List.not_mem_nil, or_false] at h9
      rcases h9 with h9 | h9
      · exact (fun c => hb (by rw [c]; simp)) h9
      · exact (fun c => hb (by rw [c]; simp)) h9
    have hx := hp73k b x n1821 hx
    have n1822 : b ∉ [mo, ka] := by
      intro h9; simp only [List.mem_cons, List.not_mem_nil, or_false] at h9
      rcases h9 with h9 | h9
      · exact (fun c => hb (by rw [c]; simp)) h9
      · exact (fun c => hb (by rw [c]; simp)) h9
    have hx := hp92k b x n1822 hx
    have n1823 : b ∉ [mo, ka] := by
      intro h9; simp only [List.mem_cons, List.not_mem_nil, or_false] at h9
      rcases h9 with h9 | h9
      · exact (fun c => hb (by rw [c]; simp)) h9
      · exact (fun c => hb (by rw [c]; simp)) h9
    have hx := hp119k b x n1823 hx
    have n1824 : b ∉ [mo, ka] := by
      intro h9; simp only [List.mem_cons, List.not_mem_nil, or_false] at h9
      rcases h9 with h9 | h9
      · exact (fun c => hb (by rw [c]; simp)) h9
      · exact (fun c => hb (by rw [c]; simp)) h9
    have hx := hp135k b x n1824 hx
    have n1825 : b ∉ [mo, ka] := by
      intro h9; simp only [List.mem_cons, List.not_mem_nil, or_false] at h9
      rcases h9 with h9 | h9
      · exact (fun c => hb (by rw [c]; simp)) h9
      · exact (fun c => hb (by rw [c]; simp)) h9
    have hx := hp155k b x n1825 hx
    have n1826 : b ∉ [mo, ka] := by
      intro h9; simp only [List.mem_cons, List.not_mem_nil, or_false] at h9
      rcases h9 with h9 | h9
      · exact (fun c => hb (by rw [c]; simp)) h9
      · exact (fun c => hb (by rw [c]; simp)) h9
    have hx := hp175k b x n1826 hx
    have n1827 : b ∉ [mo, ka] := by
      intro h9; simp only [List.mem_cons, List.not_mem_nil, or_false] at h9
      rcases h9 with h9 | h9
      · exact (fun c => hb (by rw [c]; simp)) h9
      · exact (fun c => hb (by rw [c]; simp)) h9
    have hx := hp195k b x n1827 hx
    have n1828 : b ∉ [mo, ka] := by
      intro h9; simp only [List.mem_cons, List.not_mem_nil, or_false] at h9
      rcases h9 with h9 | h9
      · exact (fun c => hb (by rw [c]; simp)) h9
      · exact (fun c => hb (by rw [c]; simp)) h9
    have hx := hp223k b x n1828 hx
    have n1829 : b ∉ [mo, ka] := by
      intro h9; simp only [List.mem_cons, List.not_mem_nil, or_false] at h9
      rcases h9 with h9 | h9
      · exact (fun c => hb (by rw [c]; simp)) h9
      · exact (fun c => hb (by rw [c]; simp)) h9
    have hx := hp240k b x n1829 hx
    have n1830 : b ∉ [mo, ka] := by
      intro h9; simp only [List.mem_cons, List.not_mem_nil, or_false] at h9
      rcases h9 with h9 | h9
      · exact (fun c => hb (by rw [c]; simp)) h9
      · exact (fun c => hb (by rw [c]; simp)) h9
    have hx := hp261k b x n1830 hx
    have n1831 : b ∉ [mo, ka] := by
      intro h9; simp only [List.mem_cons, List.not_mem_nil, or_false] at h9
      rcases h9 with h9 | h9
      · exact (fun c => hb (by rw [c]; simp)) h9
      · exact (fun c => hb (by rw [c]; simp)) h9
    have hx := hp282k b x n1831 hx
    have n1832 : b ∉ [mo, ka] := by
      intro h9; simp only [List.mem_cons, List.not_mem_nil, or_false] at h9
      rcases h9 with h9 | h9
      · exact (fun c => hb (by rw [c]; simp)) h9
      · exact (fun c => hb (by rw [c]; simp)) h9
    have hx := hp303k b x n1832 hx
    have n1833 : b ∉ [mo, ka] := by
      intro h9; simp only [List.mem_cons, List.not_mem_nil, or_false] at h9
      rcases h9 with h9 | h9
      · exact (fun c => hb (by rw [c]; simp)) h9
      · exact (fun c => hb (by rw [c]; simp)) h9
    have hx := hp332k b x n1833 hx
    have n1834 : b ∉ [mo, ka] := by
      intro h9; simp only [List.mem_cons, List.not_mem_nil, or_false] at h9
      rcases h9 with h9 | h9
      · exact (fun c => hb (by rw [c]; simp)) h9
      · exact (fun c => hb (by rw [c]; simp)) h9
    have hx := hp350k b x n1834 hx
    have n1835 : b ∉ [mo, ka] := by
      intro h9; simp only [List.mem_cons, List.not_mem_nil, or_false] at h9
      rcases h9 with h9 | h9
      · exact (fun c => hb (by rw [c]; simp)) h9
      · exact (fun c => hb (by rw [c]; simp)) h9
    have hx := hp372k b x n1835 hx
    have n1836 : b ∉ [mo, ka] := by
      intro h9; simp only [List.mem_cons, List.not_mem_nil, or_false] at h9
      rcases h9 with h9 | h9
      · exact (fun c => hb (by rw [c]; simp)) h9
      · exact (fun c => hb (by rw [c]; simp)) h9
    have hx := hp394k b x n1836 hx
    have n1837 : b ∉ [mo, ka] := by
      intro h9; simp only [List.mem_cons, List.not_mem_nil, or_false] at h9
      rcases h9 with h9 | h9
      · exact (fun c => hb (by rw [c]; simp)) h9
      · exact (fun c => hb (by rw [c]; simp)) h9
    have hx := hp416k b x n1837 hx
    have n1838 : b ∉ [mo, ka] := by
      intro h9; simp only [List.mem_cons, List.not_mem_nil, or_false] at h9
      rcases h9 with h9 | h9
      · exact (fun c => hb (by rw [c]; simp)) h9
      · exact (fun c => hb (by rw [c]; simp)) h9
    have hx := hp446k b x n1838 hx
    have n1839 : b ∉ [mo, ka] := by
      intro h9; simp only [List.mem_cons, List.not_mem_nil, or_false] at h9
      rcases h9 with h9 | h9
      · exact (fun c => hb (by rw [c]; simp)) h9
      · exact (fun c => hb (by rw [c]; simp)) h9
    have hx := hp465k b x n1839 hx
    have n1840 : b ∉ [mo, ka] := by
      intro h9; simp only [List.mem_cons, List.not_mem_nil, or_false] at h9
      rcases h9 with h9 | h9
      · exact (fun c => hb (by rw [c]; simp)) h9
      · exact (fun c => hb (by rw [c]; simp)) h9
    have hx := hp488k b x n1840 hx
    have n1841 : b ∉ [mo, ka] := by
      intro h9; simp only [List.mem_cons, List.not_mem_nil, or_false] at h9
      rcases h9 with h9 | h9
      · exact (fun c => hb (by rw [c]; simp)) h9
      · exact (fun c => hb (by rw [c]; simp)) h9
    have hx := hp511k b x n1841 hx
    have n1842 : b ∉ [mo, ka] := by
      intro h9; simp only [List.mem_cons, List.not_mem_nil, or_false] at h9
      rcases h9 with h9 | h9
      · exact (fun c => hb (by rw [c]; simp)) h9
      · exact (fun c => hb (by rw [c]; simp)) h9
    have hx := hp534k b x n1842 hx
    have n1843 : b ∉ [mo, ka] := by
      intro h9; simp only [List.mem_cons, List.not_mem_nil, or_false] at h9
      rcases h9 with h9 | h9
      · exact (fun c => hb (by rw [c]; simp)) h9
      · exact (fun c => hb (by rw [c]; simp)) h9
    have hx := hp565k b x n1843 hx
    have n1844 : b ∉ [mo, ka] := by
      intro h9; simp only [List.mem_cons, List.not_mem_nil, or_false] at h9
      rcases h9 with h9 | h9
      · exact (fun c => hb (by rw [c]; simp)) h9
      · exact (fun c => hb (by rw [c]; simp)) h9
    have hx := hp585k b x n1844 hx
    have n1845 : b ∉ [mo, ka] := by
      intro h9; simp only [List.mem_cons, List.not_mem_nil, or_false] at h9
      rcases h9 with h9 | h9
      · exact (fun c => hb (by rw [c]; simp)) h9
      · exact (fun c => hb (by rw [c]; simp)) h9
    have hx := hp609k b x n1845 hx
    have n1846 : b ∉ [mo, ka] := by
      intro h9; simp only [List.mem_cons, List.not_mem_nil, or_false] at h9
      rcases h9 with h9 | h9
      · exact (fun c => hb (by rw [c]; simp)) h9
      · exact (fun c => hb (by rw [c]; simp)) h9
    have hx := hp633k b x n1846 hx
    have n1847 : b ∉ [mo, ka] := by
      intro h9; simp only [List.mem_cons, List.not_mem_nil, or_false] at h9
      rcases h9 with h9 | h9
      · exact (fun c => hb (by rw [c]; simp)) h9
      · exact (fun c => hb (by rw [c]; simp)) h9
    have hx := hp657k b x n1847 hx
    have n1848 : b ∉ [mo, ka] := by
      intro h9; simp only [List.mem_cons, List.not_mem_nil, or_false] at h9
      rcases h9 with h9 | h9
      · exact (fun c => hb (by rw [c]; simp)) h9
      · exact (fun c => hb (by rw [c]; simp)) h9
    have hx := hp689k b x n1848 hx
    have n1849 : b ∉ [mo, ka] := by
      intro h9; simp only [List.mem_cons, List.not_mem_nil, or_false] at h9
      rcases h9 with h9 | h9
      · exact (fun c => hb (by rw [c]; simp)) h9
      · exact (fun c => hb (by rw [c]; simp)) h9
    have hx := hp710k b x n1849 hx
    have n1850 : b ∉ [mo, ka] := by
      intro h9; simp only [List.mem_cons, List.not_mem_nil, or_false] at h9
      rcases h9 with h9 | h9
      · exact (fun c => hb (by rw [c]; simp)) h9
      · exact (fun c => hb (by rw [c]; simp)) h9
    have hx := hp735k b x n1850 hx
    have n1851 : b ∉ [mo, ka] := by
      intro h9; simp only [List.mem_cons, List.not_mem_nil, or_false] at h9
      rcases h9 with h9 | h9
      · exact (fun c => hb (by rw [c]; simp)) h9
      · exact (fun c => hb (by rw [c]; simp)) h9
    have hx := hp760k b x n1851 hx
    have n1852 : b ∉ [mo, ka] := by
      intro h9; simp only [List.mem_cons, List.not_mem_nil, or_false] at h9
      rcases h9 with h9 | h9
      · exact (fun c => hb (by rw [c]; simp)) h9
      · exact (fun c => hb (by rw [c]; simp)) h9
    have hx := hp785k b x n1852 hx
    have n1853 : b ∉ [mo, ka] := by
      intro h9; simp only [List.mem_cons, List.not_mem_nil, or_false] at h9
      rcases h9 with h9 | h9
      · exact (fun c => hb (by rw [c]; simp)) h9
      · exact (fun c => hb (by rw [c]; simp)) h9
    have hx := hp818k b x n1853 hx
    have n1854 : b ∉ [mo, ka] := by
      intro h9; simp only [List.mem_cons, List.not_mem_nil, or_false] at h9
      rcases h9 with h9 | h9
      · exact (fun c => hb (by rw [c]; simp)) h9
      · exact (fun c => hb (by rw [c]; simp)) h9
    have hx := hp840k b x n1854 hx
    have n1855 : b ∉ [mo, ka] := by
      intro h9; simp only [List.mem_cons, List.not_mem_nil, or_false] at h9
      rcases h9 with h9 | h9
      · exact (fun c => hb (by rw [c]; simp)) h9
      · exact (fun c => hb (by rw [c]; simp)) h9
    have hx := hp866k b x n1855 hx
    have n1856 : b ∉ [mo, ka] := by
      intro h9; simp only [List.mem_cons, List.not_mem_nil, or_false] at h9
      rcases h9 with h9 | h9
      · exact (fun c => hb (by rw [c]; simp)) h9
      · exact (fun c => hb (by rw [c]; simp)) h9
    have hx := hp892k b x n1856 hx
    have n1857 : b ∉ [mo, ka] := by
      intro h9; simp only [List.mem_cons, List.not_mem_nil, or_false] at h9
      rcases h9 with h9 | h9
      · exact (fun c => hb (by rw [c]; simp)) h9
      · exact (fun c => hb (by rw [c]; simp)) h9
    have hx := hp918k b x n1857 hx
    have n1858 : b ∉ [mo, ka] := by
      intro h9; simp only [List.mem_cons, List.not_mem_nil, or_false] at h9
      rcases h9 with h9 | h9
      · exact (fun c => hb (by rw [c]; simp)) h9
      · exact (fun c => hb (by rw [c]; simp)) h9
    have hx := hp952k b x n1858 hx
    have n1859 : b ∉ [mo, ka] := by
      intro h9; simp only [List.mem_cons, List.not_mem_nil, or_false] at h9
      rcases h9 with h9 | h9
      · exact (fun c => hb (by rw [c]; simp)) h9
      · exact (fun c => hb (by rw [c]; simp)) h9
    have hx := hp975k b x n1859 hx
    have n1860 : b ∉ [mo, ka] := by
      intro h9; simp only [List.mem_cons, List.not_mem_nil, or_false] at h9
      rcases h9 with h9 | h9
      · exact (fun c => hb (by rw [c]; simp)) h9
      · exact (fun c => hb (by rw [c]; simp)) h9
    have hx := hp1002k b x n1860 hx
    have n1861 : b ∉ [mo, ka] := by
      intro h9; simp only [List.mem_cons, List.not_mem_nil, or_false] at h9
      rcases h9 with h9 | h9
      · exact (fun c => hb (by rw [c]; simp)) h9
      · exact (fun c => hb (by rw [c]; simp)) h9
    have hx := hp1029k b x n1861 hx
    have n1862 : b ∉ [mo, ka] := by
      intro h9; simp only [List.mem_cons, List.not_mem_nil, or_false] at h9
      rcases h9 with h9 | h9
      · exact (fun c => hb (by rw [c]; simp)) h9
      · exact (fun c => hb (by rw [c]; simp)) h9
    have hx := hp1056k b x n1862 hx
    have n1863 : b ∉ [mo, ka] := by
      intro h9; simp only [List.mem_cons, List.not_mem_nil, or_false] at h9
      rcases h9 with h9 | h9
      · exact (fun c => hb (by rw [c]; simp)) h9
      · exact (fun c => hb (by rw [c]; simp)) h9
    have hx := hp1091k b x n1863 hx
    have n1864 : b ∉ [mo, ka] := by
      intro h9; simp only [List.mem_cons, List.not_mem_nil, or_false] at h9
      rcases h9 with h9 | h9
      · exact (fun c => hb (by rw [c]; simp)) h9
      · exact (fun c => hb (by rw [c]; simp)) h9
    have hx := hp1115k b x n1864 hx
    have n1865 : b ∉ [mo, ka] := by
      intro h9; simp only [List.mem_cons, List.not_mem_nil, or_false] at h9
      rcases h9 with h9 | h9
      · exact (fun c => hb (by rw [c]; simp)) h9
      · exact (fun c => hb (by rw [c]; simp)) h9
    have hx := hp1143k b x n1865 hx
    have n1866 : b ∉ [mo, ka] := by
      intro h9; simp only [List.mem_cons, List.not_mem_nil, or_false] at h9
      rcases h9 with h9 | h9
      · exact (fun c => hb (by rw [c]; simp)) h9
      · exact (fun c => hb (by rw [c]; simp)) h9
    have hx := hp1171k b x n1866 hx
    have n1867 : b ∉ [mo, ka] := by
      intro h9; simp only [List.mem_cons, List.not_mem_nil, or_false] at h9
      rcases h9 with h9 | h9
      · exact (fun c => hb (by rw [c]; simp)) h9
      · exact (fun c => hb (by rw [c]; simp)) h9
    have hx := hp1199k b x n1867 hx
    have n1868 : b ∉ [mo, ka] := by
      intro h9; simp only [List.mem_cons, List.not_mem_nil, or_false] at h9
      rcases h9 with h9 | h9
      · exact (fun c => hb (by rw [c]; simp)) h9
      · exact (fun c => hb (by rw [c]; simp)) h9
    have hx := hp1267k b x n1868 hx
    have n1869 : b ∉ [mo, ka] := by
      intro h9; simp only [List.mem_cons, List.not_mem_nil, or_false] at h9
      rcases h9 with h9 | h9
      · exact (fun c => hb (by rw [c]; simp)) h9
      · exact (fun c => hb (by rw [c]; simp)) h9
    have hx := hp1295k b x n1869 hx
    have n1870 : b ∉ [mo, ka] := by
      intro h9; simp only [List.mem_cons, List.not_mem_nil, or_false] at h9
      rcases h9 with h9 | h9
      · exact (fun c => hb (by rw [c]; simp)) h9
      · exact (fun c => hb (by rw [c]; simp)) h9
    have hx := hp1323k b x n1870 hx
    have n1871 : b ∉ [mo, ka] := by
      intro h9; simp only [List.mem_cons, List.not_mem_nil, or_false] at h9
      rcases h9 with h9 | h9
      · exact (fun c => hb (by rw [c]; simp)) h9
      · exact (fun c => hb (by rw [c]; simp)) h9
    have hx := hp1351k b x n1871 hx
    have n1872 : b ∉ [mo, ka] := by
      intro h9; simp only [List.mem_cons, List.not_mem_nil, or_false] at h9
      rcases h9 with h9 | h9
      · exact (fun c => hb (by rw [c]; simp)) h9
      · exact (fun c => hb (by rw [c]; simp)) h9
    have hx := hp1379k b x n1872 hx
    have n1873 : b ∉ [mo, ka] := by
      intro h9; simp only [List.mem_cons, List.not_mem_nil, or_false] at h9
      rcases h9 with h9 | h9
      · exact (fun c => hb (by rw [c]; simp)) h9
      · exact (fun c => hb (by rw [c]; simp)) h9
    have hx := hp1407k b x n1873 hx
    have n1874 : b ∉ [mo, ka] := by
      intro h9; simp only [List.mem_cons, List.not_mem_nil, or_false] at h9
      rcases h9 with h9 | h9
      · exact (fun c => hb (by rw [c]; simp)) h9
      · exact (fun c => hb (by rw [c]; simp)) h9
    have hx := hp1435k b x n1874 hx
    have n1875 : b ∉ [mo, ka] := by
      intro h9; simp only [List.mem_cons, List.not_mem_nil, or_false] at h9
      rcases h9 with h9 | h9
      · exact (fun c => hb (by rw [c]; simp)) h9
      · exact (fun c => hb (by rw [c]; simp)) h9
    have hx := hp1463k b x n1875 hx
    have n1876 : b ∉ [mo, ka] := by
      intro h9; simp only [List.mem_cons, List.not_mem_nil, or_false] at h9
      rcases h9 with h9 | h9
      · exact (fun c => hb (by rw [c]; simp)) h9
      · exact (fun c => hb (by rw [c]; simp)) h9
    have hx := hp1491k b x n1876 hx
    have n1877 : b ∉ [mo, ka] := by
      intro h9; simp only [List.mem_cons, List.not_mem_nil, or_false] at h9
      rcases h9 with h9 | h9
      · exact (fun c => hb (by rw [c]; simp)) h9
      · exact (fun c => hb (by rw [c]; simp)) h9
    have hx := hp1519k b x n1877 hx
    have n1878 : b ∉ [mo, ka] := by
      intro h9; simp only [List.mem_cons, List.not_mem_nil, or_false] at h9
      rcases h9 with h9 | h9
      · exact (fun c => hb (by rw [c]; simp)) h9
      · exact (fun c => hb (by rw [c]; simp)) h9
    have hx := hp1547k b x n1878 hx
    have n1879 : b ∉ [mo, ka] := by
      intro h9; simp only [List.mem_cons, List.not_mem_nil, or_false] at h9
      rcases h9 with h9 | h9
      · exact (fun c => hb (by rw [c]; simp)) h9
      · exact (fun c => hb (by rw [c]; simp)) h9
    have hx := hp1613k b x n1879 hx
    have n1880 : b ∉ [mo, ka] := by
      intro h9; simp only [List.mem_cons, List.not_mem_nil, or_false] at h9
      rcases h9 with h9 | h9
      · exact (fun c => hb (by rw [c]; simp)) h9
      · exact (fun c => hb (by rw [c]; simp)) h9
    have hx := hp1643k b x n1880 hx
    have n1881 : b ∉ [mo, ka] := by
      intro h9; simp only [List.mem_cons, List.not_mem_nil, or_false] at h9
      rcases h9 with h9 | h9
      · exact (fun c => hb (by rw [c]; simp)) h9
      · exact (fun c => hb (by rw [c]; simp)) h9
    have hx := hp1673k b x n1881 hx
    have n1882 : b ∉ [mo, ka] := by
      intro h9; simp only [List.mem_cons, List.not_mem_nil, or_false] at h9
      rcases h9 with h9 | h9
      · exact (fun c => hb (by rw [c]; simp)) h9
      · exact (fun c => hb (by rw [c]; simp)) h9
    have hx := hp1703k b x n1882 hx
    have n1883 : b ∉ [mo, ka] := by
      intro h9; simp only [List.mem_cons, List.not_mem_nil, or_false] at h9
      rcases h9 with h9 | h9
      · exact (fun c => hb (by rw [c]; simp)) h9
      · exact (fun c => hb (by rw [c]; simp)) h9
    have hx := hp1733k b x n1883 hx
    have n1884 : b ∉ [mo, ka] := by
      intro h9; simp only [List.mem_cons, List.not_mem_nil, or_false] at h9
      rcases h9 with h9 | h9
      · exact (fun c => hb (by rw [c]; simp)) h9
      · exact (fun c => hb (by rw [c]; simp)) h9
    have hx := hp1763k b x n1884 hx
    have n1885 : b ∉ [mo, ka] := by
      intro h9; simp only [List.mem_cons, List.not_mem_nil, or_false] at h9
      rcases h9 with h9 | h9
      · exact (fun c => hb (by rw [c]; simp)) h9
      · exact (fun c => hb (by rw [c]; simp)) h9
    have hx := hp1793k b x n1885 hx
    exact hx
  have hKL : KL G M M1791 := fun o n f ho => hKp _ _ (by
    intro h9; simp only [List.mem_cons, List.not_mem_nil, or_false] at h9
    rcases h9 with h9 | h9
    · exact In.ne hD ho o1_0 (by simp) h9
    · exact In.ne hD ho o1_6 (by simp) h9
    ) ho
  exact m_lreturn S hRT rfl hQ (Nat.le_of_ble_eq_true rfl) (Nat.le_of_ble_eq_true rfl) dX8_digest_291 ⟨_, _, _, h1806, hKL, rfl⟩

set_option maxRecDepth 100000 in
set_option maxHeartbeats 4000000 in
theorem r_X8_with (l : Launch) (G : RG) (A : Nat → Prop) (M : Wl) {mo ka ta : Nat} {tv : Int32} (i j : Nat) (hi : i < 8) (hj : j < 8) (hM : Mo G mo ka ta tv M) : Kr l G A yX8_with wbX8_with { frames := 9, cells := 15, slots := 55, locals := 195 } M [.ref mo, .int (nI i), .int (nI j)] (Gr G A (fun v N => Mo G mo ka ta tv N ∧ Kp M [mo, ka] N ∧ ∃ z : Nat, (v, (.inr (5, [.int 0, .int 0, .ref z]) : va_E)) ∈ N)) 15 55 := by
  refine Kr.of (cc := cX8_with) (maxL := 4) (ret := (some (.object "TreadleLoomModel$Cloth"))) (by decide) rfl (Nat.le_of_ble_eq_true rfl) ?_
  intro X hXl S hRT hIN hXA hQ hD
  subst hXl
  subst hXA
  show J (X.at 0 0) 4 (PL G.Z X.A M) 0 [some (.ref mo), some (.int (nI i)), some (.int (nI j)), none] []
  have F0 := S.1.at 0 0 (Nat.le_of_ble_eq_true rfl) (Nat.le_of_ble_eq_true rfl)
  have hOR := S.2.1.or
  obtain ⟨pl1, pe1, f1, kn1, tf1, o1_0, o1_1, o1_2, o1_3, o1_4, o1_5, o1_6, o1_7⟩ := id hM
  have h2 : (mo, (.inr (8, [.int tv, .ref pl1, .ref ka, .ref ta]) : va_E)) ∈ M := o1_0
  have h3 : (pl1, (.inr (10, [.int 10, .ref pe1, .int 10]) : va_E)) ∈ M := o1_1
  have h4 : (pe1, (.inl (G.cO, 10, .inr (.inr (.inr (.inr f1)))) : va_E)) ∈ M := o1_2
  have h5 : (ta, (.inl (G.Z.cI, 8, .inl tf1) : va_E)) ∈ M := o1_4
  have h6 : (ka, (.inl (G.cR, 10, .inr (.inr (.inr (.inr kn1)))) : va_E)) ∈ M := o1_6
  have hDo7 := hD
  refine j_aload_n F0 dX8_with_0 rfl ?_
  refine m_get S (C := RX8) (T := TX8) (N := 4) (by decide +kernel) h2 rfl (v := .ref ta) 3 (by decide) (by decide +kernel) (fun _ h9 => h9) rfl dX8_with_1 ?_
  refine m_clone S (by decide +kernel) (by decide +kernel) (by decide +kernel) (by decide +kernel) (by decide +kernel) h5 (Nat.le_of_ble_eq_true rfl) (Nat.le_of_ble_eq_true rfl) (Nat.le_of_ble_eq_true rfl) (Nat.le_of_ble_eq_true rfl) dX8_with_4 (fun q8 M10 hD11 hN9 => ?_)
  have n12 := (hN9.2 _ _ h2).2
  have h2 := (hN9.2 _ _ h2).1
  have n13 := (hN9.2 _ _ h3).2
  have h3 := (hN9.2 _ _ h3).1
  have n14 := (hN9.2 _ _ h4).2
  have h4 := (hN9.2 _ _ h4).1
  have n15 := (hN9.2 _ _ h5).2
  have h5 := (hN9.2 _ _ h5).1
  have n16 := (hN9.2 _ _ h6).2
  have h6 := (hN9.2 _ _ h6).1
  have h17 := hN9.1
  have F18 := S.1.at 1 8 (Nat.le_of_ble_eq_true rfl) (Nat.le_of_ble_eq_true rfl)
  refine m_castA S h17 (by decide +kernel) dX8_with_7 ?_
  refine j_astore_n F18 [some (.ref mo), some (.int (nI i)), some (.int (nI j)), some (.ref q8)] dX8_with_10 (by decide) rfl rfl ?_
  refine j_aload_n F18 dX8_with_11 rfl ?_
  refine j_iload_n F18 dX8_with_12 rfl ?_
  refine j_dup2 F18 dX8_with_13 rfl rfl ?_
  refine m_iaload S (v := tf1 i) h17 (vp_in_nI hi (by decide)) (by rw [nI_clamp (by omega)]) dX8_with_14 ?_
  refine j_iconst F18 1 dX8_with_15 (by decide) ?_
  refine j_iload_n F18 dX8_with_16 rfl ?_
  refine j_ishl F18 ((1 : Int32) <<< (nI j &&& 31)) dX8_with_17 rfl ?_
  refine j_ixor F18 (tf1 i ^^^ ((1 : Int32) <<< (nI j &&& 31))) dX8_with_18 rfl ?_
  refine m_iastore S (k0 := i) h17 (vp_in_nI hi (by decide)) (nI_clamp (by omega)) dX8_with_19 (fun M20 hD21 hU19 => ?_)
  have n22 : mo ≠ q8 := n12
  have n23 : pl1 ≠ q8 := n13
  have n24 : pe1 ≠ q8 := n14
  have n25 : ta ≠ q8 := n15
  have n26 : ka ≠ q8 := n16
  have h2 := hU19.2 _ _ n22 h2
  have h3 := hU19.2 _ _ n23 h3
  have h4 := hU19.2 _ _ n24 h4
  have h5 := hU19.2 _ _ n25 h5
  have h6 := hU19.2 _ _ n26 h6
  have h17 := hU19.1
  refine j_aload_n F18 dX8_with_20 rfl ?_
  refine j_aload_n F18 dX8_with_21 rfl ?_
  have hKm28 : Kp M [] M20 := by
    intro b x hb hx
    have n29 := (hN9.2 _ _ hx).2
    have hx := (hN9.2 _ _ hx).1
    have hx := hU19.2 _ _ n29 hx
    exact hx
  have hMo27 := Mo.mono hM hKm28
  refine m_cVr S (n1 := 1) (rest := []) (r_X8_cloth X.l G X.A M20 (t := q8) hMo27) ⟨_, _, _, _, rfl, (gBV kB_X8_cloth (by decide +kernel)), rfl, rfl, (by decide +kernel), ⟨(Nat.le_of_ble_eq_true rfl), (Nat.le_of_ble_eq_true rfl)⟩⟩ h2 rfl rfl (Nat.le_of_ble_eq_true rfl) (Nat.le_of_ble_eq_true rfl) (Nat.le_of_ble_eq_true rfl) rfl dX8_with_22 (fun v30 M31 hD32 hp33 => ?_)
  obtain ⟨hp33m, hp33k, z34, hp33a⟩ := hp33
  have n35 : q8 ∉ [mo, ka] := by
    intro h9; simp only [List.mem_cons, List.not_mem_nil, or_false] at h9
    rcases h9 with h9 | h9
    · exact (Ne.symm n22) h9
    · exact (Ne.symm n26) h9
  have h17 := hp33k _ _ n35 h17
  obtain ⟨pl36, pe36, f36, kn36, tf36, o36_0, o36_1, o36_2, o36_3, o36_4, o36_5, o36_6, o36_7⟩ := id hp33m
  have h37 : (mo, (.inr (8, [.int tv, .ref pl36, .ref ka, .ref ta]) : va_E)) ∈ M31 := o36_0
  have h38 : (pl36, (.inr (10, [.int 10, .ref pe36, .int 10]) : va_E)) ∈ M31 := o36_1
  have h39 : (pe36, (.inl (G.cO, 10, .inr (.inr (.inr (.inr f36)))) : va_E)) ∈ M31 := o36_2
  have h40 : (ta, (.inl (G.Z.cI, 8, .inl tf36) : va_E)) ∈ M31 := o36_4
  have h41 : (ka, (.inl (G.cR, 10, .inr (.inr (.inr (.inr kn36)))) : va_E)) ∈ M31 := o36_6
  have hDo42 := hD32
  have h43 := hp33a
  have F44 := S.1.at 15 55 (Nat.le_of_ble_eq_true rfl) (Nat.le_of_ble_eq_true rfl)
  have hKm45 : Kp M31 [] M31 := by
    intro b x hb hx
    exact hx
  have hMoN := Mo.mono hp33m hKm45
  have hKp : Kp M [mo, ka] M31 := by
    intro b x hb hx
    have n46 := (hN9.2 _ _ hx).2
    have hx := (hN9.2 _ _ hx).1
    have hx := hU19.2 _ _ n46 hx
    have n47 : b ∉ [mo, ka] := by
      intro h9; simp only [List.mem_cons, List.not_mem_nil, or_false] at h9
      rcases h9 with h9 | h9
      · exact (fun c => hb (by rw [c]; simp)) h9
      · exact (fun c => hb (by rw [c]; simp)) h9
    have hx := hp33k b x n47 hx
    exact hx
  exact m_areturn S hRT (by first | exact Or.inl ⟨_, rfl⟩ | exact Or.inr ⟨_, rfl⟩) rfl hQ (Nat.le_of_ble_eq_true rfl) (Nat.le_of_ble_eq_true rfl) dX8_with_25 ⟨hMoN, hKp, z34, h43⟩

set_option maxRecDepth 100000 in
set_option maxHeartbeats 4000000 in
theorem r_X8_floatWith (l : Launch) (G : RG) (A : Nat → Prop) (M : Wl) {mo ka ta : Nat} {tv : Int32} (i j : Nat) (hi : i < 8) (hj : j < 8) (hM : Mo G mo ka ta tv M) : Kr l G A yX8_floatWith wbX8_floatWith { frames := 10, cells := 15, slots := 55, locals := 218 } M [.ref mo, .int (nI i), .int (nI j)] (Gi G A (fun v N => ∃ pl k9 t9 : Nat, (mo, (.inr (8, [.int 0, .ref pl, .ref k9, .ref t9]) : va_E)) ∈ N ∧ KL G M N ∧ (0 : Int32) = v)) 15 55 := by
  refine Kr.of (cc := cX8_floatWith) (maxL := 3) (ret := (some .int)) (by decide) rfl (Nat.le_of_ble_eq_true rfl) ?_
  intro X hXl S hRT hIN hXA hQ hD
  subst hXl
  subst hXA
  show J (X.at 0 0) 3 (PL G.Z X.A M) 0 [some (.ref mo), some (.int (nI i)), some (.int (nI j))] []
  have F0 := S.1.at 0 0 (Nat.le_of_ble_eq_true rfl) (Nat.le_of_ble_eq_true rfl)
  have hOR := S.2.1.or
  obtain ⟨pl1, pe1, f1, kn1, tf1, o1_0, o1_1, o1_2, o1_3, o1_4, o1_5, o1_6, o1_7⟩ := id hM
  have h2 : (mo, (.inr (8, [.int tv, .ref pl1, .ref ka, .ref ta]) : va_E)) ∈ M := o1_0
  have h3 : (pl1, (.inr (10, [.int 10, .ref pe1, .int 10]) : va_E)) ∈ M := o1_1
  have h4 : (pe1, (.inl (G.cO, 10, .inr (.inr (.inr (.inr f1)))) : va_E)) ∈ M := o1_2
  have h5 : (ta, (.inl (G.Z.cI, 8, .inl tf1) : va_E)) ∈ M := o1_4
  have h6 : (ka, (.inl (G.cR, 10, .inr (.inr (.inr (.inr kn1)))) : va_E)) ∈ M := o1_6
  have hDo7 := hD
  refine j_aload_n F0 dX8_floatWith_0 rfl ?_
  refine j_iload_n F0 dX8_floatWith_1 rfl ?_
  refine m_cSi S (n1 := 1) (rest := [.ref mo]) (r_X8_isNoEight X.l G X.A M (nI i)) ⟨_, _, _, _, rfl, (gBS kB_X8_isNoEight (by decide +kernel)), rfl, rfl, (by decide +kernel), ⟨(Nat.le_of_ble_eq_true rfl), (Nat.le_of_ble_eq_true rfl)⟩⟩ rfl (Nat.le_of_ble_eq_true rfl) (Nat.le_of_ble_eq_true rfl) (Nat.le_of_ble_eq_true rfl) rfl dX8_floatWith_2 (fun v8 M9 hD10 hp11 => ?_)
  obtain ⟨hp11a, hp11b⟩ := hp11
  subst hp11a
  subst hp11b
  refine j_if_ne F0 15 dX8_floatWith_5 (by decide) (fun h9 => absurd (if0.mpr (eig_ok hi)) h9) (fun _ => ?_)
  refine j_iload_n F0 dX8_floatWith_8 rfl ?_
  refine m_cSi S (n1 := 1) (rest := [.ref mo]) (r_X8_isNoEight X.l G X.A M (nI j)) ⟨_, _, _, _, rfl, (gBS kB_X8_isNoEight (by decide +kernel)), rfl, rfl, (by decide +kernel), ⟨(Nat.le_of_ble_eq_true rfl), (Nat.le_of_ble_eq_true rfl)⟩⟩ rfl (Nat.le_of_ble_eq_true rfl) (Nat.le_of_ble_eq_true rfl) (Nat.le_of_ble_eq_true rfl) rfl dX8_floatWith_9 (fun v12 M13 hD14 hp15 => ?_)
  obtain ⟨hp15a, hp15b⟩ := hp15
  subst hp15a
  subst hp15b
  refine j_if_eq F0 19 dX8_floatWith_12 (by decide) (fun _ => ?_) (fun h9 => absurd (if0.mpr (eig_ok hj)) h9)
  refine j_iconst F0 0 dX8_floatWith_19 (by decide) ?_
  refine j_iconst F0 1 dX8_floatWith_20 (by decide) ?_
  refine m_cVi S (n1 := 2) (rest := []) (r_X8_start X.l G X.A M (c := False) 1 (by decide) h2) ⟨_, _, _, _, rfl, (gBV kB_X8_start (by decide +kernel)), rfl, rfl, (by decide +kernel), ⟨(Nat.le_of_ble_eq_true rfl), (Nat.le_of_ble_eq_true rfl)⟩⟩ h2 rfl rfl (Nat.le_of_ble_eq_true rfl) (Nat.le_of_ble_eq_true rfl) (Nat.le_of_ble_eq_true rfl) rfl dX8_floatWith_21 (fun v16 M17 hD18 hp19 => ?_)
  obtain ⟨hp19v, hp19a, hp19k⟩ := hp19
  have hp19v : (0 : Int32) = v16 := hp19v
  subst hp19v
  have n20 : pl1 ∉ [mo] := by
    intro h9; simp only [List.mem_cons, List.not_mem_nil, or_false] at h9
    · exact (In.ne hD h3 h2 (by simp)) h9
  have n21 : pe1 ∉ [mo] := by
    intro h9; simp only [List.mem_cons, List.not_mem_nil, or_false] at h9
    · exact (In.ne hD h4 h2 (by simp)) h9
  have n22 : ta ∉ [mo] := by
    intro h9; simp only [List.mem_cons, List.not_mem_nil, or_false] at h9
    · exact (In.ne hD h5 h2 (by simp)) h9
  have n23 : ka ∉ [mo] := by
    intro h9; simp only [List.mem_cons, List.not_mem_nil, or_false] at h9
    · exact (In.ne hD h6 h2 (by simp)) h9
  have h3 := hp19k _ _ n20 h3
  have h4 := hp19k _ _ n21 h4
  have h5 := hp19k _ _ n22 h5
  have h6 := hp19k _ _ n23 h6
  have h24 : (mo, (.inr (8, [.int 0, .ref pl1, .ref ka, .ref ta]) : va_E)) ∈ M17 := hp19a
  refine j_if_eq F0 31 dX8_floatWith_24 (by decide) (fun _ => ?_) (fun h9 => absurd (by decide) h9)
  have hKr25 : Kp M [mo, ka] M17 := by
    intro b x hb hx
    have n26 : b ∉ [mo] := by
      intro h9; simp only [List.mem_cons, List.not_mem_nil, or_false] at h9
      · exact (fun c => hb (by rw [c]; simp)) h9
    have hx := hp19k b x n26 hx
    exact hx
  have hMz27 : Mo G mo ka ta 0 M17 := Mo.keep hOR hDo7 o1_0 o1_1 o1_2 o1_3 o1_4 o1_5 o1_6 hKr25 h24 h6 (fun p q hp hq => Rd.keep hOR hDo7 o1_0 o1_6 (o1_7 p q hp hq) hKr25)
  obtain ⟨pl28, pe28, f28, kn28, tf28, o28_0, o28_1, o28_2, o28_3, o28_4, o28_5, o28_6, o28_7⟩ := id hMz27
  have h29 : (mo, (.inr (8, [.int 0, .ref pl28, .ref ka, .ref ta]) : va_E)) ∈ M17 := o28_0
  have h30 : (pl28, (.inr (10, [.int 10, .ref pe28, .int 10]) : va_E)) ∈ M17 := o28_1
  have h31 : (pe28, (.inl (G.cO, 10, .inr (.inr (.inr (.inr f28)))) : va_E)) ∈ M17 := o28_2
  have h32 : (ta, (.inl (G.Z.cI, 8, .inl tf28) : va_E)) ∈ M17 := o28_4
  have h33 : (ka, (.inl (G.cR, 10, .inr (.inr (.inr (.inr kn28)))) : va_E)) ∈ M17 := o28_6
  have hDo34 := hD18
  refine j_aload_n F0 dX8_floatWith_31 rfl ?_
  refine j_iload_n F0 dX8_floatWith_32 rfl ?_
  refine j_iload_n F0 dX8_floatWith_33 rfl ?_
  have hKm36 : Kp M17 [] M17 := by
    intro b x hb hx
    exact hx
  have hMo35 := Mo.mono hMz27 hKm36
  refine m_cVr S (n1 := 2) (rest := []) (r_X8_with X.l G X.A M17 i j hi hj hMo35) ⟨_, _, _, _, rfl, (gBV kB_X8_with (by decide +kernel)), rfl, rfl, (by decide +kernel), ⟨(Nat.le_of_ble_eq_true rfl), (Nat.le_of_ble_eq_true rfl)⟩⟩ h29 rfl rfl (Nat.le_of_ble_eq_true rfl) (Nat.le_of_ble_eq_true rfl) (Nat.le_of_ble_eq_true rfl) rfl dX8_floatWith_34 (fun v37 M38 hD39 hp40 => ?_)
  obtain ⟨hp40m, hp40k, z41, hp40a⟩ := hp40
  obtain ⟨pl42, pe42, f42, kn42, tf42, o42_0, o42_1, o42_2, o42_3, o42_4, o42_5, o42_6, o42_7⟩ := id hp40m
  have h43 : (mo, (.inr (8, [.int 0, .ref pl42, .ref ka, .ref ta]) : va_E)) ∈ M38 := o42_0
  have h44 : (pl42, (.inr (10, [.int 10, .ref pe42, .int 10]) : va_E)) ∈ M38 := o42_1
  have h45 : (pe42, (.inl (G.cO, 10, .inr (.inr (.inr (.inr f42)))) : va_E)) ∈ M38 := o42_2
  have h46 : (ta, (.inl (G.Z.cI, 8, .inl tf42) : va_E)) ∈ M38 := o42_4
  have h47 : (ka, (.inl (G.cR, 10, .inr (.inr (.inr (.inr kn42)))) : va_E)) ∈ M38 := o42_6
  have hDo48 := hD39
  have h49 := hp40a
  have F50 := S.1.at 15 55 (Nat.le_of_ble_eq_true rfl) (Nat.le_of_ble_eq_true rfl)
  refine m_cVi S (n1 := 0) (rest := []) (r_X5_longest X.l G X.A M38 h49) ⟨_, _, _, _, rfl, (gBV kB_X5_longest (by decide +kernel)), rfl, rfl, (by decide +kernel), ⟨(Nat.le_of_ble_eq_true rfl), (Nat.le_of_ble_eq_true rfl)⟩⟩ h49 rfl rfl (Nat.le_of_ble_eq_true rfl) (Nat.le_of_ble_eq_true rfl) (Nat.le_of_ble_eq_true rfl) rfl dX8_floatWith_37 (fun v51 M52 hD53 hp54 => ?_)
  obtain ⟨hp54a, hp54b⟩ := hp54
  subst hp54a
  subst hp54b
  have hKp : Kp M [mo, ka] M38 := by
    intro b x hb hx
    have n55 : b ∉ [mo] := by
      intro h9; simp only [List.mem_cons, List.not_mem_nil, or_false] at h9
      · exact (fun c => hb (by rw [c]; simp)) h9
    have hx := hp19k b x n55 hx
    have n56 : b ∉ [mo, ka] := by
      intro h9; simp only [List.mem_cons, List.not_mem_nil, or_false] at h9
      rcases h9 with h9 | h9
      · exact (fun c => hb (by rw [c]; simp)) h9
      · exact (fun c => hb (by rw [c]; simp)) h9
    have hx := hp40k b x n56 hx
    exact hx
  have hKL : KL G M M38 := fun o n f ho => hKp _ _ (by
    intro h9; simp only [List.mem_cons, List.not_mem_nil, or_false] at h9
    rcases h9 with h9 | h9
    · exact In.ne hD ho o1_0 (by simp) h9
    · exact In.ne hD ho o1_6 (by simp) h9
    ) ho
  exact m_ireturn S hRT rfl hQ (Nat.le_of_ble_eq_true rfl) (Nat.le_of_ble_eq_true rfl) dX8_floatWith_40 rfl ⟨_, _, _, h43, hKL, rfl⟩

set_option maxRecDepth 100000 in
set_option maxHeartbeats 4000000 in
theorem r_X8_hangsWith (l : Launch) (G : RG) (A : Nat → Prop) (M : Wl) {mo ka ta : Nat} {tv : Int32} (i j : Nat) (hi : i < 8) (hj : j < 8) (hM : Mo G mo ka ta tv M) : Kr l G A yX8_hangsWith wbX8_hangsWith { frames := 10, cells := 15, slots := 55, locals := 218 } M [.ref mo, .int (nI i), .int (nI j)] (Gi G A (fun v N => ∃ pl k9 t9 : Nat, (mo, (.inr (8, [.int 0, .ref pl, .ref k9, .ref t9]) : va_E)) ∈ N ∧ KL G M N ∧ (0 : Int32) = v)) 15 55 := by
  refine Kr.of (cc := cX8_hangsWith) (maxL := 3) (ret := (some .boolean)) (by decide) rfl (Nat.le_of_ble_eq_true rfl) ?_
  intro X hXl S hRT hIN hXA hQ hD
  subst hXl
  subst hXA
  show J (X.at 0 0) 3 (PL G.Z X.A M) 0 [some (.ref mo), some (.int (nI i)), some (.int (nI j))] []
  have F0 := S.1.at 0 0 (Nat.le_of_ble_eq_true rfl) (Nat.le_of_ble_eq_true rfl)
  have hOR := S.2.1.or
  obtain ⟨pl1, pe1, f1, kn1, tf1, o1_0, o1_1, o1_2, o1_3, o1_4, o1_5, o1_6, o1_7⟩ := id hM
  have h2 : (mo, (.inr (8, [.int tv, .ref pl1, .ref ka, .ref ta]) : va_E)) ∈ M := o1_0
  have h3 : (pl1, (.inr (10, [.int 10, .ref pe1, .int 10]) : va_E)) ∈ M := o1_1
  have h4 : (pe1, (.inl (G.cO, 10, .inr (.inr (.inr (.inr f1)))) : va_E)) ∈ M := o1_2
  have h5 : (ta, (.inl (G.Z.cI, 8, .inl tf1) : va_E)) ∈ M := o1_4
  have h6 : (ka, (.inl (G.cR, 10, .inr (.inr (.inr (.inr kn1)))) : va_E)) ∈ M := o1_6
  have hDo7 := hD
  refine j_aload_n F0 dX8_hangsWith_0 rfl ?_
  refine j_iload_n F0 dX8_hangsWith_1 rfl ?_
  refine m_cSi S (n1 := 1) (rest := [.ref mo]) (r_X8_isNoEight X.l G X.A M (nI i)) ⟨_, _, _, _, rfl, (gBS kB_X8_isNoEight (by decide +kernel)), rfl, rfl, (by decide +kernel), ⟨(Nat.le_of_ble_eq_true rfl), (Nat.le_of_ble_eq_true rfl)⟩⟩ rfl (Nat.le_of_ble_eq_true rfl) (Nat.le_of_ble_eq_true rfl) (Nat.le_of_ble_eq_true rfl) rfl dX8_hangsWith_2 (fun v8 M9 hD10 hp11 => ?_)
  obtain ⟨hp11a, hp11b⟩ := hp11
  subst hp11a
  subst hp11b
  refine j_if_ne F0 15 dX8_hangsWith_5 (by decide) (fun h9 => absurd (if0.mpr (eig_ok hi)) h9) (fun _ => ?_)
  refine j_iload_n F0 dX8_hangsWith_8 rfl ?_
  refine m_cSi S (n1 := 1) (rest := [.ref mo]) (r_X8_isNoEight X.l G X.A M (nI j)) ⟨_, _, _, _, rfl, (gBS kB_X8_isNoEight (by decide +kernel)), rfl, rfl, (by decide +kernel), ⟨(Nat.le_of_ble_eq_true rfl), (Nat.le_of_ble_eq_true rfl)⟩⟩ rfl (Nat.le_of_ble_eq_true rfl) (Nat.le_of_ble_eq_true rfl) (Nat.le_of_ble_eq_true rfl) rfl dX8_hangsWith_9 (fun v12 M13 hD14 hp15 => ?_)
  obtain ⟨hp15a, hp15b⟩ := hp15
  subst hp15a
  subst hp15b
  refine j_if_eq F0 19 dX8_hangsWith_12 (by decide) (fun _ => ?_) (fun h9 => absurd (if0.mpr (eig_ok hj)) h9)
  refine j_iconst F0 0 dX8_hangsWith_19 (by decide) ?_
  refine j_iconst F0 1 dX8_hangsWith_20 (by decide) ?_
  refine m_cVi S (n1 := 2) (rest := []) (r_X8_start X.l G X.A M (c := False) 1 (by decide) h2) ⟨_, _, _, _, rfl, (gBV kB_X8_start (by decide +kernel)), rfl, rfl, (by decide +kernel), ⟨(Nat.le_of_ble_eq_true rfl), (Nat.le_of_ble_eq_true rfl)⟩⟩ h2 rfl rfl (Nat.le_of_ble_eq_true rfl) (Nat.le_of_ble_eq_true rfl) (Nat.le_of_ble_eq_true rfl) rfl dX8_hangsWith_21 (fun v16 M17 hD18 hp19 => ?_)
  obtain ⟨hp19v, hp19a, hp19k⟩ := hp19
  have hp19v : (0 : Int32) = v16 := hp19v
  subst hp19v
  have n20 : pl1 ∉ [mo] := by
    intro h9; simp only [List.mem_cons, List.not_mem_nil, or_false] at h9
    · exact (In.ne hD h3 h2 (by simp)) h9
  have n21 : pe1 ∉ [mo] := by
    intro h9; simp only [List.mem_cons, List.not_mem_nil, or_false] at h9
    · exact (In.ne hD h4 h2 (by simp)) h9
  have n22 : ta ∉ [mo] := by
    intro h9; simp only [List.mem_cons, List.not_mem_nil, or_false] at h9
    · exact (In.ne hD h5 h2 (by simp)) h9
  have n23 : ka ∉ [mo] := by
    intro h9; simp only [List.mem_cons, List.not_mem_nil, or_false] at h9
    · exact (In.ne hD h6 h2 (by simp)) h9
  have h3 := hp19k _ _ n20 h3
  have h4 := hp19k _ _ n21 h4
  have h5 := hp19k _ _ n22 h5
  have h6 := hp19k _ _ n23 h6
  have h24 : (mo, (.inr (8, [.int 0, .ref pl1, .ref ka, .ref ta]) : va_E)) ∈ M17 := hp19a
  refine j_if_ne F0 43 dX8_hangsWith_24 (by decide) (fun h9 => absurd (by decide) h9) (fun _ => ?_)
  have hKr25 : Kp M [mo, ka] M17 := by
    intro b x hb hx
    have n26 : b ∉ [mo] := by
      intro h9; simp only [List.mem_cons, List.not_mem_nil, or_false] at h9
      · exact (fun c => hb (by rw [c]; simp)) h9
    have hx := hp19k b x n26 hx
    exact hx
  have hMz27 : Mo G mo ka ta 0 M17 := Mo.keep hOR hDo7 o1_0 o1_1 o1_2 o1_3 o1_4 o1_5 o1_6 hKr25 h24 h6 (fun p q hp hq => Rd.keep hOR hDo7 o1_0 o1_6 (o1_7 p q hp hq) hKr25)
  obtain ⟨pl28, pe28, f28, kn28, tf28, o28_0, o28_1, o28_2, o28_3, o28_4, o28_5, o28_6, o28_7⟩ := id hMz27
  have h29 : (mo, (.inr (8, [.int 0, .ref pl28, .ref ka, .ref ta]) : va_E)) ∈ M17 := o28_0
  have h30 : (pl28, (.inr (10, [.int 10, .ref pe28, .int 10]) : va_E)) ∈ M17 := o28_1
  have h31 : (pe28, (.inl (G.cO, 10, .inr (.inr (.inr (.inr f28)))) : va_E)) ∈ M17 := o28_2
  have h32 : (ta, (.inl (G.Z.cI, 8, .inl tf28) : va_E)) ∈ M17 := o28_4
  have h33 : (ka, (.inl (G.cR, 10, .inr (.inr (.inr (.inr kn28)))) : va_E)) ∈ M17 := o28_6
  have hDo34 := hD18
  refine j_aload_n F0 dX8_hangsWith_27 rfl ?_
  refine j_iload_n F0 dX8_hangsWith_28 rfl ?_
  refine j_iload_n F0 dX8_hangsWith_29 rfl ?_
  have hKm36 : Kp M17 [] M17 := by
    intro b x hb hx
    exact hx
  have hMo35 := Mo.mono hMz27 hKm36
  refine m_cVr S (n1 := 2) (rest := []) (r_X8_with X.l G X.A M17 i j hi hj hMo35) ⟨_, _, _, _, rfl, (gBV kB_X8_with (by decide +kernel)), rfl, rfl, (by decide +kernel), ⟨(Nat.le_of_ble_eq_true rfl), (Nat.le_of_ble_eq_true rfl)⟩⟩ h29 rfl rfl (Nat.le_of_ble_eq_true rfl) (Nat.le_of_ble_eq_true rfl) (Nat.le_of_ble_eq_true rfl) rfl dX8_hangsWith_30 (fun v37 M38 hD39 hp40 => ?_)
  obtain ⟨hp40m, hp40k, z41, hp40a⟩ := hp40
  obtain ⟨pl42, pe42, f42, kn42, tf42, o42_0, o42_1, o42_2, o42_3, o42_4, o42_5, o42_6, o42_7⟩ := id hp40m
  have h43 : (mo, (.inr (8, [.int 0, .ref pl42, .ref ka, .ref ta]) : va_E)) ∈ M38 := o42_0
  have h44 : (pl42, (.inr (10, [.int 10, .ref pe42, .int 10]) : va_E)) ∈ M38 := o42_1
  have h45 : (pe42, (.inl (G.cO, 10, .inr (.inr (.inr (.inr f42)))) : va_E)) ∈ M38 := o42_2
  have h46 : (ta, (.inl (G.Z.cI, 8, .inl tf42) : va_E)) ∈ M38 := o42_4
  have h47 : (ka, (.inl (G.cR, 10, .inr (.inr (.inr (.inr kn42)))) : va_E)) ∈ M38 := o42_6
  have hDo48 := hD39
  have h49 := hp40a
  have F50 := S.1.at 15 55 (Nat.le_of_ble_eq_true rfl) (Nat.le_of_ble_eq_true rfl)
  refine m_cVi S (n1 := 0) (rest := []) (r_X5_hangs X.l G X.A M38 h49) ⟨_, _, _, _, rfl, (gBV kB_X5_hangs (by decide +kernel)), rfl, rfl, (by decide +kernel), ⟨(Nat.le_of_ble_eq_true rfl), (Nat.le_of_ble_eq_true rfl)⟩⟩ h49 rfl rfl (Nat.le_of_ble_eq_true rfl) (Nat.le_of_ble_eq_true rfl) (Nat.le_of_ble_eq_true rfl) rfl dX8_hangsWith_33 (fun v51 M52 hD53 hp54 => ?_)
  obtain ⟨hp54a, hp54b⟩ := hp54
  subst hp54a
  subst hp54b
  refine j_if_eq F50 43 dX8_hangsWith_36 (by decide) (fun _ => ?_) (fun h9 => absurd (by decide) h9)
  refine j_iconst F50 0 dX8_hangsWith_43 (by decide) ?_
  have hKp : Kp M [mo, ka] M38 := by
    intro b x hb hx
    have n55 : b ∉ [mo] := by
      intro h9; simp only [List.mem_cons, List.not_mem_nil, or_false] at h9
      · exact (fun c => hb (by rw [c]; simp)) h9
    have hx := hp19k b x n55 hx
    have n56 : b ∉ [mo, ka] := by
      intro h9; simp only [List.mem_cons, List.not_mem_nil, or_false] at h9
      rcases h9 with h9 | h9
      · exact (fun c => hb (by rw [c]; simp)) h9
      · exact (fun c => hb (by rw [c]; simp)) h9
    have hx := hp40k b x n56 hx
    exact hx
  have hKL : KL G M M38 := fun o n f ho => hKp _ _ (by
    intro h9; simp only [List.mem_cons, List.not_mem_nil, or_false] at h9
    rcases h9 with h9 | h9
    · exact In.ne hD ho o1_0 (by simp) h9
    · exact In.ne hD ho o1_6 (by simp) h9
    ) ho
  exact m_ireturn S hRT rfl hQ (Nat.le_of_ble_eq_true rfl) (Nat.le_of_ble_eq_true rfl) dX8_hangsWith_44 rfl ⟨_, _, _, h43, hKL, rfl⟩
