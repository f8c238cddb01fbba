set_option maxRecDepth 100000 in
set_option maxHeartbeats 4000000 in
theorem r_X8_lengthWithA (l : Launch) (G : RG) (A : Nat → Prop) (M : Wl) {mo ka ta : Nat} {tv : Int32} (p : Nat) (hp : p < 10) (k9 : Nat) (hk9 : k9 < 256) (hy : TokP (vb_c k9)) (j : Nat) (hj : j < 8) (hv : vb_c k9 = nI j) (hM : Mo G mo ka ta tv M) : Kr l G A yX8_lengthWith wbX8_lengthWith { frames := 8, cells := 14, slots := 39, locals := 191 } M [.ref mo, .int (nI p), .int (vb_c k9)] (Gi G A (fun v N => ∃ pl k9 t9 : Nat, (mo, (.inr (8, [.int 0, .ref pl, .ref k9, .ref t9]) : va_E)) ∈ N ∧ KL G M N ∧ (1 : Int32) = v)) 14 39 := by
  refine Kr.of (cc := cX8_lengthWith) (maxL := 5) (ret := (some .int)) (by decide) rfl (Nat.le_of_ble_eq_true rfl) ?_
  intro X hXl S hRT hIN hXA hQ hD
  subst hXl
  subst hXA
  show J (X.at 0 0) 5 (PL G.Z X.A M) 0 [some (.ref mo), some (.int (nI p)), some (.int (vb_c k9)), none, none] []
  have F0 := S.1.at 0 0 (Nat.le_of_ble_eq_true rfl) (Nat.le_of_ble_eq_true rfl)
  have hOR := S.2.1.or
  obtain ⟨pl1, pe1, f1, kn1, tf1, o1_0, o1_1, o1_2, o1_3, o1_4, o1_5, o1_6, o1_7⟩ := id hM
  have h2 : (mo, (.inr (8, [.int tv, .ref pl1, .ref ka, .ref ta]) : va_E)) ∈ M := o1_0
  have h3 : (pl1, (.inr (10, [.int 10, .ref pe1, .int 10]) : va_E)) ∈ M := o1_1
  have h4 : (pe1, (.inl (G.cO, 10, .inr (.inr (.inr (.inr f1)))) : va_E)) ∈ M := o1_2
  have h5 : (ta, (.inl (G.Z.cI, 8, .inl tf1) : va_E)) ∈ M := o1_4
  have h6 : (ka, (.inl (G.cR, 10, .inr (.inr (.inr (.inr kn1)))) : va_E)) ∈ M := o1_6
  have hDo7 := hD
  obtain ⟨t9, ht9, ht8⟩ := o1_3 p hp
  have h8 : (t9, (.inr (10, [.int 0, .ref G.e0, .int 0]) : va_E)) ∈ M := ht8
  refine j_aload_n F0 dX8_lengthWith_0 rfl ?_
  refine j_iload_n F0 dX8_lengthWith_1 rfl ?_
  refine m_cVi S (n1 := 1) (rest := []) (r_X8_isNoProgram X.l G X.A M (nI p) h2) ⟨_, _, _, _, rfl, (gLW gX8_lengthWith_X8_isNoProgram), rfl, rfl, (by decide +kernel), ⟨(Nat.le_of_ble_eq_true rfl), (Nat.le_of_ble_eq_true rfl)⟩⟩ h2 rfl rfl (Nat.le_of_ble_eq_true rfl) (Nat.le_of_ble_eq_true rfl) (Nat.le_of_ble_eq_true rfl) rfl dX8_lengthWith_2 (fun v9 M10 hD11 hp12 => ?_)
  obtain ⟨hp12v, hp12a, hp12k⟩ := hp12
  subst hp12v
  have n13 : pl1 ∉ [mo] := by
    intro h9; simp only [List.mem_cons, List.not_mem_nil, or_false] at h9
    · exact (In.ne hD h3 h2 (by simp)) h9
  have n14 : pe1 ∉ [mo] := by
    intro h9; simp only [List.mem_cons, List.not_mem_nil, or_false] at h9
    · exact (In.ne hD h4 h2 (by simp)) h9
  have n15 : ta ∉ [mo] := by
    intro h9; simp only [List.mem_cons, List.not_mem_nil, or_false] at h9
    · exact (In.ne hD h5 h2 (by simp)) h9
  have n16 : ka ∉ [mo] := by
    intro h9; simp only [List.mem_cons, List.not_mem_nil, or_false] at h9
    · exact (In.ne hD h6 h2 (by simp)) h9
  have n17 : t9 ∉ [mo] := by
    intro h9; simp only [List.mem_cons, List.not_mem_nil, or_false] at h9
    · exact (In.ne hD h8 h2 (by simp)) h9
  have h3 := hp12k _ _ n13 h3
  have h4 := hp12k _ _ n14 h4
  have h5 := hp12k _ _ n15 h5
  have h6 := hp12k _ _ n16 h6
  have h8 := hp12k _ _ n17 h8
  have h18 : (mo, (.inr (8, [.int (if ProP (nI p) then (1 : Int32) else 0), .ref pl1, .ref ka, .ref ta]) : va_E)) ∈ M10 := hp12a
  refine j_if_ne F0 60 dX8_lengthWith_5 (by decide) (fun h9 => absurd (if0.mpr (pro_ok hp)) h9) (fun _ => ?_)
  have h19 : (mo, (.inr (8, [.int 0, .ref pl1, .ref ka, .ref ta]) : va_E)) ∈ M10 := by have h9 := h18; rw [if_neg (pro_ok hp)] at h9; exact h9
  refine j_aload_n F0 dX8_lengthWith_8 rfl ?_
  refine j_iload_n F0 dX8_lengthWith_9 rfl ?_
  refine m_cSi S (n1 := 1) (rest := [.ref mo]) (r_X8_isToken X.l G X.A M10 (vb_c k9)) ⟨_, _, _, _, rfl, (gLW gX8_lengthWith_X8_isToken), rfl, rfl, (by decide +kernel), ⟨(Nat.le_of_ble_eq_true rfl), (Nat.le_of_ble_eq_true rfl)⟩⟩ rfl (Nat.le_of_ble_eq_true rfl) (Nat.le_of_ble_eq_true rfl) (Nat.le_of_ble_eq_true rfl) rfl dX8_lengthWith_10 (fun v20 M21 hD22 hp23 => ?_)
  obtain ⟨hp23a, hp23b⟩ := hp23
  subst hp23a
  subst hp23b
  refine j_if_ne F0 20 dX8_lengthWith_13 (by decide) (fun _ => ?_) (fun h9 => absurd h9 (if1.mpr hy))
  refine j_iconst F0 0 dX8_lengthWith_20 (by decide) ?_
  refine j_iconst F0 2 dX8_lengthWith_21 (by decide) ?_
  refine m_cVi S (n1 := 2) (rest := []) (r_X8_refuse X.l G X.A M10 (c := False) 2 (by decide) h19) ⟨_, _, _, _, rfl, (gLW gX8_lengthWith_X8_refuse), rfl, rfl, (by decide +kernel), ⟨(Nat.le_of_ble_eq_true rfl), (Nat.le_of_ble_eq_true rfl)⟩⟩ h19 rfl rfl (Nat.le_of_ble_eq_true rfl) (Nat.le_of_ble_eq_true rfl) (Nat.le_of_ble_eq_true rfl) rfl dX8_lengthWith_22 (fun v24 M25 hD26 hp27 => ?_)
  obtain ⟨hp27v, hp27a, hp27k⟩ := hp27
  have hp27v : (0 : Int32) = v24 := hp27v
  subst hp27v
  have n28 : pl1 ∉ [mo] := by
    intro h9; simp only [List.mem_cons, List.not_mem_nil, or_false] at h9
    · exact (In.ne hD11 h3 h19 (by simp)) h9
  have n29 : pe1 ∉ [mo] := by
    intro h9; simp only [List.mem_cons, List.not_mem_nil, or_false] at h9
    · exact (In.ne hD11 h4 h19 (by simp)) h9
  have n30 : ta ∉ [mo] := by
    intro h9; simp only [List.mem_cons, List.not_mem_nil, or_false] at h9
    · exact (In.ne hD11 h5 h19 (by simp)) h9
  have n31 : ka ∉ [mo] := by
    intro h9; simp only [List.mem_cons, List.not_mem_nil, or_false] at h9
    · exact (In.ne hD11 h6 h19 (by simp)) h9
  have n32 : t9 ∉ [mo] := by
    intro h9; simp only [List.mem_cons, List.not_mem_nil, or_false] at h9
    · exact (In.ne hD11 h8 h19 (by simp)) h9
  have h3 := hp27k _ _ n28 h3
  have h4 := hp27k _ _ n29 h4
  have h5 := hp27k _ _ n30 h5
  have h6 := hp27k _ _ n31 h6
  have h8 := hp27k _ _ n32 h8
  have h33 : (mo, (.inr (8, [.int 0, .ref pl1, .ref ka, .ref ta]) : va_E)) ∈ M25 := hp27a
  refine j_if_ne F0 60 dX8_lengthWith_25 (by decide) (fun h9 => absurd (by decide) h9) (fun _ => ?_)
  refine j_aload_n F0 dX8_lengthWith_28 rfl ?_
  refine j_aload_n F0 dX8_lengthWith_29 rfl ?_
  refine m_get S (C := RX8) (T := TX8) (N := 4) (by decide +kernel) h33 rfl (v := .ref pl1) 1 (by decide) (by decide +kernel) (fun _ h9 => h9) rfl dX8_lengthWith_30 ?_
  refine j_iload_n F0 dX8_lengthWith_33 rfl ?_
  refine m_cVr S (n1 := 1) (rest := [.ref mo]) (r_Jx4a65c_get_915e3 X.l G X.A M25 (nI p) t9 (nI_pos (by omega)) (by rw [show (10 : Int32) = nI 10 from rfl, nI_ltI (by omega) (by omega)]; exact hp) (vp_in_nI hp (by decide)) (by rw [nI_clamp (by omega)]; exact ht9) h3 h4) ⟨_, _, _, _, rfl, (gLW gX8_lengthWith_Jx4a65c_get_915e3), rfl, rfl, (by decide +kernel), ⟨(Nat.le_of_ble_eq_true rfl), (Nat.le_of_ble_eq_true rfl)⟩⟩ h3 rfl rfl (Nat.le_of_ble_eq_true rfl) (Nat.le_of_ble_eq_true rfl) (Nat.le_of_ble_eq_true rfl) rfl dX8_lengthWith_34 (fun v34 M35 hD36 hp37 => ?_)
  obtain ⟨hp37a, hp37b⟩ := hp37
  subst hp37a
  subst hp37b
  refine m_cast S (C := "java/util/ArrayList") h8 rfl (by decide +kernel) dX8_lengthWith_37 ?_
  refine m_cVi S (n1 := 0) (rest := [.ref mo]) (r_Jx4a65c_size_8abf5 X.l G X.A M25 h8) ⟨_, _, _, _, rfl, (gLW gX8_lengthWith_Jx4a65c_size_8abf5), rfl, rfl, (by decide +kernel), ⟨(Nat.le_of_ble_eq_true rfl), (Nat.le_of_ble_eq_true rfl)⟩⟩ h8 rfl rfl (Nat.le_of_ble_eq_true rfl) (Nat.le_of_ble_eq_true rfl) (Nat.le_of_ble_eq_true rfl) rfl dX8_lengthWith_40 (fun v38 M39 hD40 hp41 => ?_)
  obtain ⟨hp41a, hp41b⟩ := hp41
  subst hp41a
  subst hp41b
  refine j_bipush F0 40 dX8_lengthWith_43 (by decide) ?_
  refine j_icmp_ne F0 52 dX8_lengthWith_45 (by decide) (fun _ => ?_) (fun h9 => absurd h9 (by decide))
  refine j_iconst F0 0 dX8_lengthWith_52 (by decide) ?_
  refine j_iconst F0 3 dX8_lengthWith_53 (by decide) ?_
  refine m_cVi S (n1 := 2) (rest := []) (r_X8_refuse X.l G X.A M25 (c := False) 3 (by decide) h33) ⟨_, _, _, _, rfl, (gLW gX8_lengthWith_X8_refuse), rfl, rfl, (by decide +kernel), ⟨(Nat.le_of_ble_eq_true rfl), (Nat.le_of_ble_eq_true rfl)⟩⟩ h33 rfl rfl (Nat.le_of_ble_eq_true rfl) (Nat.le_of_ble_eq_true rfl) (Nat.le_of_ble_eq_true rfl) rfl dX8_lengthWith_54 (fun v42 M43 hD44 hp45 => ?_)
  obtain ⟨hp45v, hp45a, hp45k⟩ := hp45
  have hp45v : (0 : Int32) = v42 := hp45v
  subst hp45v
  have n46 : pl1 ∉ [mo] := by
    intro h9; simp only [List.mem_cons, List.not_mem_nil, or_false] at h9
    · exact (In.ne hD26 h3 h33 (by simp)) h9
  have n47 : pe1 ∉ [mo] := by
    intro h9; simp only [List.mem_cons, List.not_mem_nil, or_false] at h9
    · exact (In.ne hD26 h4 h33 (by simp)) h9
  have n48 : ta ∉ [mo] := by
    intro h9; simp only [List.mem_cons, List.not_mem_nil, or_false] at h9
    · exact (In.ne hD26 h5 h33 (by simp)) h9
  have n49 : ka ∉ [mo] := by
    intro h9; simp only [List.mem_cons, List.not_mem_nil, or_false] at h9
    · exact (In.ne hD26 h6 h33 (by simp)) h9
  have n50 : t9 ∉ [mo] := by
    intro h9; simp only [List.mem_cons, List.not_mem_nil, or_false] at h9
    · exact (In.ne hD26 h8 h33 (by simp)) h9
  have h3 := hp45k _ _ n46 h3
  have h4 := hp45k _ _ n47 h4
  have h5 := hp45k _ _ n48 h5
  have h6 := hp45k _ _ n49 h6
  have h8 := hp45k _ _ n50 h8
  have h51 : (mo, (.inr (8, [.int 0, .ref pl1, .ref ka, .ref ta]) : va_E)) ∈ M43 := hp45a
  refine j_if_eq F0 62 dX8_lengthWith_57 (by decide) (fun _ => ?_) (fun h9 => absurd (by decide) h9)
  refine m_new S (C := RJx4a65c) (T := TJx4a65c) (N := 3) (ci := 10) (fs := [.int 0, .null, .int 0]) (by decide +kernel) tyJx4a65c tyJx4a65c_ok (by decide +kernel) (by decide +kernel) (by decide +kernel) rfl (fun j hj => by rcases (show j = 0 ∨ j = 1 ∨ j = 2 by omega) with rfl | rfl | rfl <;> rfl) (Nat.le_of_ble_eq_true rfl) (Nat.le_of_ble_eq_true rfl) dX8_lengthWith_62 (fun q52 M54 hD55 hN53 => ?_)
  have n56 := (hN53.2 _ _ h3).2
  have h3 := (hN53.2 _ _ h3).1
  have n57 := (hN53.2 _ _ h4).2
  have h4 := (hN53.2 _ _ h4).1
  have n58 := (hN53.2 _ _ h5).2
  have h5 := (hN53.2 _ _ h5).1
  have n59 := (hN53.2 _ _ h6).2
  have h6 := (hN53.2 _ _ h6).1
  have n60 := (hN53.2 _ _ h8).2
  have h8 := (hN53.2 _ _ h8).1
  have n61 := (hN53.2 _ _ h51).2
  have h51 := (hN53.2 _ _ h51).1
  have h62 := hN53.1
  have F63 := S.1.at 1 3 (Nat.le_of_ble_eq_true rfl) (Nat.le_of_ble_eq_true rfl)
  refine j_dup F63 dX8_lengthWith_65 rfl ?_
  refine j_aload_n F63 dX8_lengthWith_66 rfl ?_
  refine m_get S (C := RX8) (T := TX8) (N := 4) (by decide +kernel) h51 rfl (v := .ref pl1) 1 (by decide) (by decide +kernel) (fun _ h9 => h9) rfl dX8_lengthWith_67 ?_
  refine j_iload_n F63 dX8_lengthWith_70 rfl ?_
  refine m_cVr S (n1 := 1) (rest := [.ref q52, .ref q52]) (r_Jx4a65c_get_915e3 X.l G X.A M54 (nI p) t9 (nI_pos (by omega)) (by rw [show (10 : Int32) = nI 10 from rfl, nI_ltI (by omega) (by omega)]; exact hp) (vp_in_nI hp (by decide)) (by rw [nI_clamp (by omega)]; exact ht9) h3 h4) ⟨_, _, _, _, rfl, (gLW gX8_lengthWith_Jx4a65c_get_915e3), rfl, rfl, (by decide +kernel), ⟨(Nat.le_of_ble_eq_true rfl), (Nat.le_of_ble_eq_true rfl)⟩⟩ h3 rfl rfl (Nat.le_of_ble_eq_true rfl) (Nat.le_of_ble_eq_true rfl) (Nat.le_of_ble_eq_true rfl) rfl dX8_lengthWith_71 (fun v64 M65 hD66 hp67 => ?_)
  obtain ⟨hp67a, hp67b⟩ := hp67
  subst hp67a
  subst hp67b
  refine m_castY S h8 rfl (by decide +kernel) (S.2.1.2.2.2.2.2.1 (sAL, "java/util/Collection") (by simp)) dX8_lengthWith_74 ?_
  refine m_cIv S (n1 := 1) (rest := [.ref q52]) (r_Jx4a65c_init_4bcb3 X.l G X.A M54 h62 h8) ⟨_, _, _, rfl, (gLW gX8_lengthWith_Jx4a65c_init_4bcb3), rfl, rfl, (by decide +kernel), (by decide +kernel), (by decide +kernel), rfl, (by decide +kernel), ⟨(Nat.le_of_ble_eq_true rfl), (Nat.le_of_ble_eq_true rfl)⟩⟩ rfl (Nat.le_of_ble_eq_true rfl) (Nat.le_of_ble_eq_true rfl) (Nat.le_of_ble_eq_true rfl) rfl dX8_lengthWith_77 (fun M69 hD70 hp71 => ?_)
  obtain ⟨hp71a, hp71k⟩ := hp71
  have n72 : pl1 ∉ [q52] := by
    intro h9; simp only [List.mem_cons, List.not_mem_nil, or_false] at h9
    · exact n56 h9
  have n73 : pe1 ∉ [q52] := by
    intro h9; simp only [List.mem_cons, List.not_mem_nil, or_false] at h9
    · exact n57 h9
  have n74 : ta ∉ [q52] := by
    intro h9; simp only [List.mem_cons, List.not_mem_nil, or_false] at h9
    · exact n58 h9
  have n75 : ka ∉ [q52] := by
    intro h9; simp only [List.mem_cons, List.not_mem_nil, or_false] at h9
    · exact n59 h9
  have n76 : t9 ∉ [q52] := by
    intro h9; simp only [List.mem_cons, List.not_mem_nil, or_false] at h9
    · exact n60 h9
  have n77 : mo ∉ [q52] := by
    intro h9; simp only [List.mem_cons, List.not_mem_nil, or_false] at h9
    · exact n61 h9
  have h3 := hp71k _ _ n72 h3
  have h4 := hp71k _ _ n73 h4
  have h5 := hp71k _ _ n74 h5
  have h6 := hp71k _ _ n75 h6
  have h8 := hp71k _ _ n76 h8
  have h51 := hp71k _ _ n77 h51
  have h78 : (q52, (.inr (10, [.int 0, .ref G.e1, .int 0]) : va_E)) ∈ M69 := hp71a
  have F79 := S.1.at 2 3 (Nat.le_of_ble_eq_true rfl) (Nat.le_of_ble_eq_true rfl)
  refine j_astore_n F79 [some (.ref mo), some (.int (nI p)), some (.int (vb_c k9)), some (.ref q52), none] dX8_lengthWith_80 (by decide) rfl rfl ?_
  refine j_aload_n F79 dX8_lengthWith_81 rfl ?_
  refine j_iload_n F79 dX8_lengthWith_82 rfl ?_
  refine m_cSr S (n1 := 1) (rest := [.ref q52]) (r_J6_valueOf_2dffe X.l G X.A M69 k9 hk9) ⟨_, _, _, _, rfl, (gLW gX8_lengthWith_J6_valueOf_2dffe), rfl, rfl, (by decide +kernel), ⟨(Nat.le_of_ble_eq_true rfl), (Nat.le_of_ble_eq_true rfl)⟩⟩ rfl (Nat.le_of_ble_eq_true rfl) (Nat.le_of_ble_eq_true rfl) (Nat.le_of_ble_eq_true rfl) rfl dX8_lengthWith_83 (fun v80 M81 hD82 hp83 => ?_)
  obtain ⟨hp83a, hp83b⟩ := hp83
  subst hp83a
  subst hp83b
  refine m_cVi S (n1 := 1) (rest := []) (r_Jx4a65c_add_9ea2dE X.l G X.A M69 (G.bx k9) (Or.inr (Or.inr ⟨k9, hk9, rfl⟩)) (fun c => bx_out S hk9 (c ▸ In.a hD70 h78)) h78) ⟨_, _, _, _, rfl, (gLW gX8_lengthWith_Jx4a65c_add_9ea2d), rfl, rfl, (by decide +kernel), ⟨(Nat.le_of_ble_eq_true rfl), (Nat.le_of_ble_eq_true rfl)⟩⟩ h78 rfl rfl (Nat.le_of_ble_eq_true rfl) (Nat.le_of_ble_eq_true rfl) (Nat.le_of_ble_eq_true rfl) rfl dX8_lengthWith_86 (fun v84 M85 hD86 hp87 => ?_)
  obtain ⟨hp87v, hp87⟩ := hp87
  subst hp87v
  rw [show (0 : Int32) + 1 = 1 from by decide] at hp87
  obtain ⟨q88, hp87a, hp87b, hp87k, hp87f⟩ := hp87
  have n89 := hp87f _ _ h3
  have n90 := hp87f _ _ h4
  have n91 := hp87f _ _ h5
  have n92 := hp87f _ _ h6
  have n93 := hp87f _ _ h8
  have n94 := hp87f _ _ h51
  have n95 := hp87f _ _ h78
  have n96 : pl1 ∉ [q52] := by
    intro h9; simp only [List.mem_cons, List.not_mem_nil, or_false] at h9
    · exact n56 h9
  have n97 : pe1 ∉ [q52] := by
    intro h9; simp only [List.mem_cons, List.not_mem_nil, or_false] at h9
    · exact n57 h9
  have n98 : ta ∉ [q52] := by
    intro h9; simp only [List.mem_cons, List.not_mem_nil, or_false] at h9
    · exact n58 h9
  have n99 : ka ∉ [q52] := by
    intro h9; simp only [List.mem_cons, List.not_mem_nil, or_false] at h9
    · exact n59 h9
  have n100 : t9 ∉ [q52] := by
    intro h9; simp only [List.mem_cons, List.not_mem_nil, or_false] at h9
    · exact n60 h9
  have n101 : mo ∉ [q52] := by
    intro h9; simp only [List.mem_cons, List.not_mem_nil, or_false] at h9
    · exact n61 h9
  have h3 := hp87k _ _ n96 h3
  have h4 := hp87k _ _ n97 h4
  have h5 := hp87k _ _ n98 h5
  have h6 := hp87k _ _ n99 h6
  have h8 := hp87k _ _ n100 h8
  have h51 := hp87k _ _ n101 h51
  have h102 : (q52, (.inr (10, [.int 1, .ref q88, .int 1]) : va_E)) ∈ M85 := hp87a
  have h103 : (q88, (.inl (G.cO, 1, .inr (.inr (.inr (.inr (va_up (fun _ => none) 0 (some (G.bx k9))))))) : va_E)) ∈ M85 := hp87b
  have F104 := S.1.at 3 4 (Nat.le_of_ble_eq_true rfl) (Nat.le_of_ble_eq_true rfl)
  refine j_pop F104 dX8_lengthWith_89 rfl ?_
  refine m_new S (C := RX7) (T := TX7) (N := 5) (ci := 7) (fs := [.int 0, .null, .int 0, .int 0, .null]) (by decide +kernel) tyX7 tyX7_ok (by decide +kernel) (by decide +kernel) (by decide +kernel) rfl (fun j hj => by rcases (show j = 0 ∨ j = 1 ∨ j = 2 ∨ j = 3 ∨ j = 4 by omega) with rfl | rfl | rfl | rfl | rfl <;> rfl) (Nat.le_of_ble_eq_true rfl) (Nat.le_of_ble_eq_true rfl) dX8_lengthWith_90 (fun q105 M107 hD108 hN106 => ?_)
  have n109 := (hN106.2 _ _ h3).2
  have h3 := (hN106.2 _ _ h3).1
  have n110 := (hN106.2 _ _ h4).2
  have h4 := (hN106.2 _ _ h4).1
  have n111 := (hN106.2 _ _ h5).2
  have h5 := (hN106.2 _ _ h5).1
  have n112 := (hN106.2 _ _ h6).2
  have h6 := (hN106.2 _ _ h6).1
  have n113 := (hN106.2 _ _ h8).2
  have h8 := (hN106.2 _ _ h8).1
  have n114 := (hN106.2 _ _ h51).2
  have h51 := (hN106.2 _ _ h51).1
  have n115 := (hN106.2 _ _ h102).2
  have h102 := (hN106.2 _ _ h102).1
  have n116 := (hN106.2 _ _ h103).2
  have h103 := (hN106.2 _ _ h103).1
  have h117 := hN106.1
  have F118 := S.1.at 4 9 (Nat.le_of_ble_eq_true rfl) (Nat.le_of_ble_eq_true rfl)
  refine j_dup F118 dX8_lengthWith_93 rfl ?_
  refine j_aload_n F118 dX8_lengthWith_94 rfl ?_
  refine j_iload_n F118 dX8_lengthWith_95 rfl ?_
  refine j_aload_n F118 dX8_lengthWith_96 rfl ?_
  refine m_cIv S (n1 := 3) (rest := [.ref q105]) (r_X7_initA X.l G X.A M107 p k9 hk9 j hj hv h117 h102 h103) ⟨_, _, _, rfl, (gLI kB_X7_initW), rfl, rfl, (by decide +kernel), (by decide +kernel), (by decide +kernel), rfl, (by decide +kernel), ⟨(Nat.le_of_ble_eq_true rfl), (Nat.le_of_ble_eq_true rfl)⟩⟩ rfl (Nat.le_of_ble_eq_true rfl) (Nat.le_of_ble_eq_true rfl) (Nat.le_of_ble_eq_true rfl) rfl dX8_lengthWith_97 (fun M120 hD121 hp122 => ?_)
  obtain ⟨⟨z1231, z1232, z1233, z1234, z1235, z1236, y124, z123a, z123b, z123c, z123d, z123e, z123f, z123g⟩, hp122k⟩ := hp122
  have n125 : pl1 ∉ [q105] := by
    intro h9; simp only [List.mem_cons, List.not_mem_nil, or_false] at h9
    · exact n109 h9
  have n126 : pe1 ∉ [q105] := by
    intro h9; simp only [List.mem_cons, List.not_mem_nil, or_false] at h9
    · exact n110 h9
  have n127 : ta ∉ [q105] := by
    intro h9; simp only [List.mem_cons, List.not_mem_nil, or_false] at h9
    · exact n111 h9
  have n128 : ka ∉ [q105] := by
    intro h9; simp only [List.mem_cons, List.not_mem_nil, or_false] at h9
    · exact n112 h9
  have n129 : t9 ∉ [q105] := by
    intro h9; simp only [List.mem_cons, List.not_mem_nil, or_false] at h9
    · exact n113 h9
  have n130 : mo ∉ [q105] := by
    intro h9; simp only [List.mem_cons, List.not_mem_nil, or_false] at h9
    · exact n114 h9
  have n131 : q52 ∉ [q105] := by
    intro h9; simp only [List.mem_cons, List.not_mem_nil, or_false] at h9
    · exact n115 h9
  have n132 : q88 ∉ [q105] := by
    intro h9; simp only [List.mem_cons, List.not_mem_nil, or_false] at h9
    · exact n116 h9
  have h3 := hp122k _ _ n125 h3
  have h4 := hp122k _ _ n126 h4
  have h5 := hp122k _ _ n127 h5
  have h6 := hp122k _ _ n128 h6
  have h8 := hp122k _ _ n129 h8
  have h51 := hp122k _ _ n130 h51
  have h102 := hp122k _ _ n131 h102
  have h103 := hp122k _ _ n132 h103
  have h133 : (q105, (.inr (7, [.int (nI p), .ref z1231, .int 0, .int (-1), .ref mo]) : va_E)) ∈ M120 := z123a
  have h134 : (z1231, (.inr (10, [.int 1, .ref z1232, .int 1]) : va_E)) ∈ M120 := z123b
  have h135 : (z1232, (.inl (G.cO, 10, .inr (.inr (.inr (.inr (va_up (fun _ => none) 0 (some z1233)))))) : va_E)) ∈ M120 := z123c
  have h136 : (z1233, (.inr (6, [.ref z1234]) : va_E)) ∈ M120 := z123d
  have h137 : (z1234, (.inr (10, [.int 1, .ref z1235, .int 1]) : va_E)) ∈ M120 := z123e
  have h138 : (z1235, (.inl (G.cO, 10, .inr (.inr (.inr (.inr (va_up (fun _ => none) 0 (some z1236)))))) : va_E)) ∈ M120 := z123f
  have h139 : (z1236, (.inl (G.Z.cI, 1, .inl y124) : va_E)) ∈ M120 := z123g
  have F140 := S.1.at 12 38 (Nat.le_of_ble_eq_true rfl) (Nat.le_of_ble_eq_true rfl)
  refine j_astore F140 [some (.ref mo), some (.int (nI p)), some (.int (vb_c k9)), some (.ref q52), some (.ref q105)] dX8_lengthWith_100 (by decide) rfl rfl ?_
  refine j_aload F140 dX8_lengthWith_102 rfl ?_
  refine m_get S (C := RX7) (T := TX7) (N := 5) (by decide +kernel) h133 rfl (v := .int 0) 2 (by decide) (by decide +kernel) (fun _ h9 => h9) rfl dX8_lengthWith_104 ?_
  refine j_if_le F140 114 dX8_lengthWith_107 (by decide) (fun _ => ?_) (fun h9 => absurd (by decide) h9)
  refine j_aload F140 dX8_lengthWith_114 rfl ?_
  refine m_cVr S (n1 := 0) (rest := []) (r_X7_numbersK1 X.l G X.A M120 h133 h134 h135 h136 h137 h138 h139) ⟨_, _, _, _, rfl, (gLW gX8_lengthWith_X7_numbers), rfl, rfl, (by decide +kernel), ⟨(Nat.le_of_ble_eq_true rfl), (Nat.le_of_ble_eq_true rfl)⟩⟩ h133 rfl rfl (Nat.le_of_ble_eq_true rfl) (Nat.le_of_ble_eq_true rfl) (Nat.le_of_ble_eq_true rfl) rfl dX8_lengthWith_116 (fun v141 M142 hD143 hp144 => ?_)
  obtain ⟨y145, hp144a, hp144k, hp144f⟩ := hp144
  have n146 := hp144f _ _ h3
  have n147 := hp144f _ _ h4
  have n148 := hp144f _ _ h5
  have n149 := hp144f _ _ h6
  have n150 := hp144f _ _ h8
  have n151 := hp144f _ _ h51
  have n152 := hp144f _ _ h102
  have n153 := hp144f _ _ h103
  have n154 := hp144f _ _ h133
  have n155 := hp144f _ _ h134
  have n156 := hp144f _ _ h135
  have n157 := hp144f _ _ h136
  have n158 := hp144f _ _ h137
  have n159 := hp144f _ _ h138
  have n160 := hp144f _ _ h139
  have n161 : pl1 ∉ ([] : List Nat) := List.not_mem_nil
  have n162 : pe1 ∉ ([] : List Nat) := List.not_mem_nil
  have n163 : ta ∉ ([] : List Nat) := List.not_mem_nil
  have n164 : ka ∉ ([] : List Nat) := List.not_mem_nil
  have n165 : t9 ∉ ([] : List Nat) := List.not_mem_nil
  have n166 : mo ∉ ([] : List Nat) := List.not_mem_nil
  have n167 : q52 ∉ ([] : List Nat) := List.not_mem_nil
  have n168 : q88 ∉ ([] : List Nat) := List.not_mem_nil
  have n169 : q105 ∉ ([] : List Nat) := List.not_mem_nil
  have n170 : z1231 ∉ ([] : List Nat) := List.not_mem_nil
  have n171 : z1232 ∉ ([] : List Nat) := List.not_mem_nil
  have n172 : z1233 ∉ ([] : List Nat) := List.not_mem_nil
  have n173 : z1234 ∉ ([] : List Nat) := List.not_mem_nil
  have n174 : z1235 ∉ ([] : List Nat) := List.not_mem_nil
  have n175 : z1236 ∉ ([] : List Nat) := List.not_mem_nil
  have h3 := hp144k _ _ n161 h3
  have h4 := hp144k _ _ n162 h4
  have h5 := hp144k _ _ n163 h5
  have h6 := hp144k _ _ n164 h6
  have h8 := hp144k _ _ n165 h8
  have h51 := hp144k _ _ n166 h51
  have h102 := hp144k _ _ n167 h102
  have h103 := hp144k _ _ n168 h103
  have h133 := hp144k _ _ n169 h133
  have h134 := hp144k _ _ n170 h134
  have h135 := hp144k _ _ n171 h135
  have h136 := hp144k _ _ n172 h136
  have h137 := hp144k _ _ n173 h137
  have h138 := hp144k _ _ n174 h138
  have h139 := hp144k _ _ n175 h139
  have h176 : (v141, (.inl (G.Z.cI, 1, .inl y145) : va_E)) ∈ M142 := hp144a
  have F177 := S.1.at 14 39 (Nat.le_of_ble_eq_true rfl) (Nat.le_of_ble_eq_true rfl)
  refine m_alen S (t0 := 0) (v := 1) h176 rfl (by first | decide | rfl) dX8_lengthWith_119 ?_
  have hKp : Kp M [mo, ka] M142 := by
    intro b x hb hx
    have n178 : b ∉ [mo] := by
      intro h9; simp only [List.mem_cons, List.not_mem_nil, or_false] at h9
      · exact (fun c => hb (by rw [c]; simp)) h9
    have hx := hp12k b x n178 hx
    have n179 : b ∉ [mo] := by
      intro h9; simp only [List.mem_cons, List.not_mem_nil, or_false] at h9
      · exact (fun c => hb (by rw [c]; simp)) h9
    have hx := hp27k b x n179 hx
    have n180 : b ∉ [mo] := by
      intro h9; simp only [List.mem_cons, List.not_mem_nil, or_false] at h9
      · exact (fun c => hb (by rw [c]; simp)) h9
    have hx := hp45k b x n180 hx
    have n181 := (hN53.2 _ _ hx).2
    have hx := (hN53.2 _ _ hx).1
    have n182 : b ∉ [q52] := by
      intro h9; simp only [List.mem_cons, List.not_mem_nil, or_false] at h9
      · exact n181 h9
    have hx := hp71k b x n182 hx
    have n183 := hp87f _ _ hx
    have n184 : b ∉ [q52] := by
      intro h9; simp only [List.mem_cons, List.not_mem_nil, or_false] at h9
      · exact n181 h9
    have hx := hp87k b x n184 hx
    have n185 := (hN106.2 _ _ hx).2
    have hx := (hN106.2 _ _ hx).1
    have n186 : b ∉ [q105] := by
      intro h9; simp only [List.mem_cons, List.not_mem_nil, or_false] at h9
      · exact n185 h9
    have hx := hp122k b x n186 hx
    have n187 := hp144f _ _ hx
    have n188 : b ∉ ([] : List Nat) := List.not_mem_nil
    have hx := hp144k b x n188 hx
    exact hx
  have hKL : KL G M M142 := fun o n f ho => hKp _ _ (by
    intro h9; simp only [List.mem_cons, List.not_mem_nil, or_false] at h9
    rcases h9 with h9 | h9
    · exact In.ne hD ho o1_0 (by simp) h9
    · exact In.ne hD ho o1_6 (by simp) h9
    ) ho
  exact m_ireturn S hRT rfl hQ (Nat.le_of_ble_eq_true rfl) (Nat.le_of_ble_eq_true rfl) dX8_lengthWith_120 rfl ⟨_, _, _, h51, hKL, rfl⟩

set_option maxRecDepth 100000 in
set_option maxHeartbeats 4000000 in
theorem r_X8_lengthWithB (l : Launch) (G : RG) (A : Nat → Prop) (M : Wl) {mo ka ta : Nat} {tv : Int32} (p : Nat) (hp : p < 10) (k9 : Nat) (hk9 : k9 < 256) (hy : TokP (vb_c k9)) (hv : vb_c k9 = 10) (hM : Mo G mo ka ta tv M) : Kr l G A yX8_lengthWith wbX8_lengthWith { frames := 7, cells := 10, slots := 30, locals := 191 } M [.ref mo, .int (nI p), .int (vb_c k9)] (Gi G A (fun v N => ∃ pl k9 t9 : Nat, (mo, (.inr (8, [.int 0, .ref pl, .ref k9, .ref t9]) : va_E)) ∈ N ∧ KL G M N ∧ ((-1) : Int32) = v)) 10 30 := by
  refine Kr.of (cc := cX8_lengthWith) (maxL := 5) (ret := (some .int)) (by decide) rfl (Nat.le_of_ble_eq_true rfl) ?_
  intro X hXl S hRT hIN hXA hQ hD
  subst hXl
  subst hXA
  show J (X.at 0 0) 5 (PL G.Z X.A M) 0 [some (.ref mo), some (.int (nI p)), some (.int (vb_c k9)), none, none] []
  have F0 := S.1.at 0 0 (Nat.le_of_ble_eq_true rfl) (Nat.le_of_ble_eq_true rfl)
  have hOR := S.2.1.or
  obtain ⟨pl1, pe1, f1, kn1, tf1, o1_0, o1_1, o1_2, o1_3, o1_4, o1_5, o1_6, o1_7⟩ := id hM
  have h2 : (mo, (.inr (8, [.int tv, .ref pl1, .ref ka, .ref ta]) : va_E)) ∈ M := o1_0
  have h3 : (pl1, (.inr (10, [.int 10, .ref pe1, .int 10]) : va_E)) ∈ M := o1_1
  have h4 : (pe1, (.inl (G.cO, 10, .inr (.inr (.inr (.inr f1)))) : va_E)) ∈ M := o1_2
  have h5 : (ta, (.inl (G.Z.cI, 8, .inl tf1) : va_E)) ∈ M := o1_4
  have h6 : (ka, (.inl (G.cR, 10, .inr (.inr (.inr (.inr kn1)))) : va_E)) ∈ M := o1_6
  have hDo7 := hD
  obtain ⟨t9, ht9, ht8⟩ := o1_3 p hp
  have h8 : (t9, (.inr (10, [.int 0, .ref G.e0, .int 0]) : va_E)) ∈ M := ht8
  refine j_aload_n F0 dX8_lengthWith_0 rfl ?_
  refine j_iload_n F0 dX8_lengthWith_1 rfl ?_
  refine m_cVi S (n1 := 1) (rest := []) (r_X8_isNoProgram X.l G X.A M (nI p) h2) ⟨_, _, _, _, rfl, (gLW gX8_lengthWith_X8_isNoProgram), rfl, rfl, (by decide +kernel), ⟨(Nat.le_of_ble_eq_true rfl), (Nat.le_of_ble_eq_true rfl)⟩⟩ h2 rfl rfl (Nat.le_of_ble_eq_true rfl) (Nat.le_of_ble_eq_true rfl) (Nat.le_of_ble_eq_true rfl) rfl dX8_lengthWith_2 (fun v9 M10 hD11 hp12 => ?_)
  obtain ⟨hp12v, hp12a, hp12k⟩ := hp12
  subst hp12v
  have n13 : pl1 ∉ [mo] := by
    intro h9; simp only [List.mem_cons, List.not_mem_nil, or_false] at h9
    · exact (In.ne hD h3 h2 (by simp)) h9
  have n14 : pe1 ∉ [mo] := by
    intro h9; simp only [List.mem_cons, List.not_mem_nil, or_false] at h9
    · exact (In.ne hD h4 h2 (by simp)) h9
  have n15 : ta ∉ [mo] := by
    intro h9; simp only [List.mem_cons, List.not_mem_nil, or_false] at h9
    · exact (In.ne hD h5 h2 (by simp)) h9
  have n16 : ka ∉ [mo] := by
    intro h9; simp only [List.mem_cons, List.not_mem_nil, or_false] at h9
    · exact (In.ne hD h6 h2 (by simp)) h9
  have n17 : t9 ∉ [mo] := by
    intro h9; simp only [List.mem_cons, List.not_mem_nil, or_false] at h9
    · exact (In.ne hD h8 h2 (by simp)) h9
  have h3 := hp12k _ _ n13 h3
  have h4 := hp12k _ _ n14 h4
  have h5 := hp12k _ _ n15 h5
  have h6 := hp12k _ _ n16 h6
  have h8 := hp12k _ _ n17 h8
  have h18 : (mo, (.inr (8, [.int (if ProP (nI p) then (1 : Int32) else 0), .ref pl1, .ref ka, .ref ta]) : va_E)) ∈ M10 := hp12a
  refine j_if_ne F0 60 dX8_lengthWith_5 (by decide) (fun h9 => absurd (if0.mpr (pro_ok hp)) h9) (fun _ => ?_)
  have h19 : (mo, (.inr (8, [.int 0, .ref pl1, .ref ka, .ref ta]) : va_E)) ∈ M10 := by have h9 := h18; rw [if_neg (pro_ok hp)] at h9; exact h9
  refine j_aload_n F0 dX8_lengthWith_8 rfl ?_
  refine j_iload_n F0 dX8_lengthWith_9 rfl ?_
  refine m_cSi S (n1 := 1) (rest := [.ref mo]) (r_X8_isToken X.l G X.A M10 (vb_c k9)) ⟨_, _, _, _, rfl, (gLW gX8_lengthWith_X8_isToken), rfl, rfl, (by decide +kernel), ⟨(Nat.le_of_ble_eq_true rfl), (Nat.le_of_ble_eq_true rfl)⟩⟩ rfl (Nat.le_of_ble_eq_true rfl) (Nat.le_of_ble_eq_true rfl) (Nat.le_of_ble_eq_true rfl) rfl dX8_lengthWith_10 (fun v20 M21 hD22 hp23 => ?_)
  obtain ⟨hp23a, hp23b⟩ := hp23
  subst hp23a
  subst hp23b
  refine j_if_ne F0 20 dX8_lengthWith_13 (by decide) (fun _ => ?_) (fun h9 => absurd h9 (if1.mpr hy))
  refine j_iconst F0 0 dX8_lengthWith_20 (by decide) ?_
  refine j_iconst F0 2 dX8_lengthWith_21 (by decide) ?_
  refine m_cVi S (n1 := 2) (rest := []) (r_X8_refuse X.l G X.A M10 (c := False) 2 (by decide) h19) ⟨_, _, _, _, rfl, (gLW gX8_lengthWith_X8_refuse), rfl, rfl, (by decide +kernel), ⟨(Nat.le_of_ble_eq_true rfl), (Nat.le_of_ble_eq_true rfl)⟩⟩ h19 rfl rfl (Nat.le_of_ble_eq_true rfl) (Nat.le_of_ble_eq_true rfl) (Nat.le_of_ble_eq_true rfl) rfl dX8_lengthWith_22 (fun v24 M25 hD26 hp27 => ?_)
  obtain ⟨hp27v, hp27a, hp27k⟩ := hp27
  have hp27v : (0 : Int32) = v24 := hp27v
  subst hp27v
  have n28 : pl1 ∉ [mo] := by
    intro h9; simp only [List.mem_cons, List.not_mem_nil, or_false] at h9
    · exact (In.ne hD11 h3 h19 (by simp)) h9
  have n29 : pe1 ∉ [mo] := by
    intro h9; simp only [List.mem_cons, List.not_mem_nil, or_false] at h9
    · exact (In.ne hD11 h4 h19 (by simp)) h9
  have n30 : ta ∉ [mo] := by
    intro h9; simp only [List.mem_cons, List.not_mem_nil, or_false] at h9
    · exact (In.ne hD11 h5 h19 (by simp)) h9
  have n31 : ka ∉ [mo] := by
    intro h9; simp only [List.mem_cons, List.not_mem_nil, or_false] at h9
    · exact (In.ne hD11 h6 h19 (by simp)) h9
  have n32 : t9 ∉ [mo] := by
    intro h9; simp only [List.mem_cons, List.not_mem_nil, or_false] at h9
    · exact (In.ne hD11 h8 h19 (by simp)) h9
  have h3 := hp27k _ _ n28 h3
  have h4 := hp27k _ _ n29 h4
  have h5 := hp27k _ _ n30 h5
  have h6 := hp27k _ _ n31 h6
  have h8 := hp27k _ _ n32 h8
  have h33 : (mo, (.inr (8, [.int 0, .ref pl1, .ref ka, .ref ta]) : va_E)) ∈ M25 := hp27a
  refine j_if_ne F0 60 dX8_lengthWith_25 (by decide) (fun h9 => absurd (by decide) h9) (fun _ => ?_)
  refine j_aload_n F0 dX8_lengthWith_28 rfl ?_
  refine j_aload_n F0 dX8_lengthWith_29 rfl ?_
  refine m_get S (C := RX8) (T := TX8) (N := 4) (by decide +kernel) h33 rfl (v := .ref pl1) 1 (by decide) (by decide +kernel) (fun _ h9 => h9) rfl dX8_lengthWith_30 ?_
  refine j_iload_n F0 dX8_lengthWith_33 rfl ?_
  refine m_cVr S (n1 := 1) (rest := [.ref mo]) (r_Jx4a65c_get_915e3 X.l G X.A M25 (nI p) t9 (nI_pos (by omega)) (by rw [show (10 : Int32) = nI 10 from rfl, nI_ltI (by omega) (by omega)]; exact hp) (vp_in_nI hp (by decide)) (by rw [nI_clamp (by omega)]; exact ht9) h3 h4) ⟨_, _, _, _, rfl, (gLW gX8_lengthWith_Jx4a65c_get_915e3), rfl, rfl, (by decide +kernel), ⟨(Nat.le_of_ble_eq_true rfl), (Nat.le_of_ble_eq_true rfl)⟩⟩ h3 rfl rfl (Nat.le_of_ble_eq_true rfl) (Nat.le_of_ble_eq_true rfl) (Nat.le_of_ble_eq_true rfl) rfl dX8_lengthWith_34 (fun v34 M35 hD36 hp37 => ?_)
  obtain ⟨hp37a, hp37b⟩ := hp37
  subst hp37a
  subst hp37b
  refine m_cast S (C := "java/util/ArrayList") h8 rfl (by decide +kernel) dX8_lengthWith_37 ?_
  refine m_cVi S (n1 := 0) (rest := [.ref mo]) (r_Jx4a65c_size_8abf5 X.l G X.A M25 h8) ⟨_, _, _, _, rfl, (gLW gX8_lengthWith_Jx4a65c_size_8abf5), rfl, rfl, (by decide +kernel), ⟨(Nat.le_of_ble_eq_true rfl), (Nat.le_of_ble_eq_true rfl)⟩⟩ h8 rfl rfl (Nat.le_of_ble_eq_true rfl) (Nat.le_of_ble_eq_true rfl) (Nat.le_of_ble_eq_true rfl) rfl dX8_lengthWith_40 (fun v38 M39 hD40 hp41 => ?_)
  obtain ⟨hp41a, hp41b⟩ := hp41
  subst hp41a
  subst hp41b
  refine j_bipush F0 40 dX8_lengthWith_43 (by decide) ?_
  refine j_icmp_ne F0 52 dX8_lengthWith_45 (by decide) (fun _ => ?_) (fun h9 => absurd h9 (by decide))
  refine j_iconst F0 0 dX8_lengthWith_52 (by decide) ?_
  refine j_iconst F0 3 dX8_lengthWith_53 (by decide) ?_
  refine m_cVi S (n1 := 2) (rest := []) (r_X8_refuse X.l G X.A M25 (c := False) 3 (by decide) h33) ⟨_, _, _, _, rfl, (gLW gX8_lengthWith_X8_refuse), rfl, rfl, (by decide +kernel), ⟨(Nat.le_of_ble_eq_true rfl), (Nat.le_of_ble_eq_true rfl)⟩⟩ h33 rfl rfl (Nat.le_of_ble_eq_true rfl) (Nat.le_of_ble_eq_true rfl) (Nat.le_of_ble_eq_true rfl) rfl dX8_lengthWith_54 (fun v42 M43 hD44 hp45 => ?_)
  obtain ⟨hp45v, hp45a, hp45k⟩ := hp45
  have hp45v : (0 : Int32) = v42 := hp45v
  subst hp45v
  have n46 : pl1 ∉ [mo] := by
    intro h9; simp only [List.mem_cons, List.not_mem_nil, or_false] at h9
    · exact (In.ne hD26 h3 h33 (by simp)) h9
  have n47 : pe1 ∉ [mo] := by
    intro h9; simp only [List.mem_cons, List.not_mem_nil, or_false] at h9
    · exact (In.ne hD26 h4 h33 (by simp)) h9
  have n48 : ta ∉ [mo] := by
    intro h9; simp only [List.mem_cons, List.not_mem_nil, or_false] at h9
    · exact (In.ne hD26 h5 h33 (by simp)) h9
  have n49 : ka ∉ [mo] := by
    intro h9; simp only [List.mem_cons, List.not_mem_nil, or_false] at h9
    · exact (In.ne hD26 h6 h33 (by simp)) h9
  have n50 : t9 ∉ [mo] := by
    intro h9; simp only [List.mem_cons, List.not_mem_nil, or_false] at h9
    · exact (In.ne hD26 h8 h33 (by simp)) h9
  have h3 := hp45k _ _ n46 h3
  have h4 := hp45k _ _ n47 h4
  have h5 := hp45k _ _ n48 h5
  have h6 := hp45k _ _ n49 h6
  have h8 := hp45k _ _ n50 h8
  have h51 : (mo, (.inr (8, [.int 0, .ref pl1, .ref ka, .ref ta]) : va_E)) ∈ M43 := hp45a
  refine j_if_eq F0 62 dX8_lengthWith_57 (by decide) (fun _ => ?_) (fun h9 => absurd (by decide) h9)
  refine m_new S (C := RJx4a65c) (T := TJx4a65c) (N := 3) (ci := 10) (fs := [.int 0, .null, .int 0]) (by decide +kernel) tyJx4a65c tyJx4a65c_ok (by decide +kernel) (by decide +kernel) (by decide +kernel) rfl (fun j hj => by rcases (show j = 0 ∨ j = 1 ∨ j = 2 by omega) with rfl | rfl | rfl <;> rfl) (Nat.le_of_ble_eq_true rfl) (Nat.le_of_ble_eq_true rfl) dX8_lengthWith_62 (fun q52 M54 hD55 hN53 => ?_)
  have n56 := (hN53.2 _ _ h3).2
  have h3 := (hN53.2 _ _ h3).1
  have n57 := (hN53.2 _ _ h4).2
  have h4 := (hN53.2 _ _ h4).1
  have n58 := (hN53.2 _ _ h5).2
  have h5 := (hN53.2 _ _ h5).1
  have n59 := (hN53.2 _ _ h6).2
  have h6 := (hN53.2 _ _ h6).1
  have n60 := (hN53.2 _ _ h8).2
  have h8 := (hN53.2 _ _ h8).1
  have n61 := (hN53.2 _ _ h51).2
  have h51 := (hN53.2 _ _ h51).1
  have h62 := hN53.1
  have F63 := S.1.at 1 3 (Nat.le_of_ble_eq_true rfl) (Nat.le_of_ble_eq_true rfl)
  refine j_dup F63 dX8_lengthWith_65 rfl ?_
  refine j_aload_n F63 dX8_lengthWith_66 rfl ?_
  refine m_get S (C := RX8) (T := TX8) (N := 4) (by decide +kernel) h51 rfl (v := .ref pl1) 1 (by decide) (by decide +kernel) (fun _ h9 => h9) rfl dX8_lengthWith_67 ?_
  refine j_iload_n F63 dX8_lengthWith_70 rfl ?_
  refine m_cVr S (n1 := 1) (rest := [.ref q52, .ref q52]) (r_Jx4a65c_get_915e3 X.l G X.A M54 (nI p) t9 (nI_pos (by omega)) (by rw [show (10 : Int32) = nI 10 from rfl, nI_ltI (by omega) (by omega)]; exact hp) (vp_in_nI hp (by decide)) (by rw [nI_clamp (by omega)]; exact ht9) h3 h4) ⟨_, _, _, _, rfl, (gLW gX8_lengthWith_Jx4a65c_get_915e3), rfl, rfl, (by decide +kernel), ⟨(Nat.le_of_ble_eq_true rfl), (Nat.le_of_ble_eq_true rfl)⟩⟩ h3 rfl rfl (Nat.le_of_ble_eq_true rfl) (Nat.le_of_ble_eq_true rfl) (Nat.le_of_ble_eq_true rfl) rfl dX8_lengthWith_71 (fun v64 M65 hD66 hp67 => ?_)
  obtain ⟨hp67a, hp67b⟩ := hp67
  subst hp67a
  subst hp67b
  refine m_castY S h8 rfl (by decide +kernel) (S.2.1.2.2.2.2.2.1 (sAL, "java/util/Collection") (by simp)) dX8_lengthWith_74 ?_
  refine m_cIv S (n1 := 1) (rest := [.ref q52]) (r_Jx4a65c_init_4bcb3 X.l G X.A M54 h62 h8) ⟨_, _, _, rfl, (gLW gX8_lengthWith_Jx4a65c_init_4bcb3), rfl, rfl, (by decide +kernel), (by decide +kernel), (by decide +kernel), rfl, (by decide +kernel), ⟨(Nat.le_of_ble_eq_true rfl), (Nat.le_of_ble_eq_true rfl)⟩⟩ rfl (Nat.le_of_ble_eq_true rfl) (Nat.le_of_ble_eq_true rfl) (Nat.le_of_ble_eq_true rfl) rfl dX8_lengthWith_77 (fun M69 hD70 hp71 => ?_)
  obtain ⟨hp71a, hp71k⟩ := hp71
  have n72 : pl1 ∉ [q52] := by
    intro h9; simp only [List.mem_cons, List.not_mem_nil, or_false] at h9
    · exact n56 h9
  have n73 : pe1 ∉ [q52] := by
    intro h9; simp only [List.mem_cons, List.not_mem_nil, or_false] at h9
    · exact n57 h9
  have n74 : ta ∉ [q52] := by
    intro h9; simp only [List.mem_cons, List.not_mem_nil, or_false] at h9
    · exact n58 h9
  have n75 : ka ∉ [q52] := by
    intro h9; simp only [List.mem_cons, List.not_mem_nil, or_false] at h9
    · exact n59 h9
  have n76 : t9 ∉ [q52] := by
    intro h9; simp only [List.mem_cons, List.not_mem_nil, or_false] at h9
    · exact n60 h9
  have n77 : mo ∉ [q52] := by
    intro h9; simp only [List.mem_cons, List.not_mem_nil, or_false] at h9
    · exact n61 h9
  have h3 := hp71k _ _ n72 h3
  have h4 := hp71k _ _ n73 h4
  have h5 := hp71k _ _ n74 h5
  have h6 := hp71k _ _ n75 h6
  have h8 := hp71k _ _ n76 h8
  have h51 := hp71k _ _ n77 h51
  have h78 : (q52, (.inr (10, [.int 0, .ref G.e1, .int 0]) : va_E)) ∈ M69 := hp71a
  have F79 := S.1.at 2 3 (Nat.le_of_ble_eq_true rfl) (Nat.le_of_ble_eq_true rfl)
  refine j_astore_n F79 [some (.ref mo), some (.int (nI p)), some (.int (vb_c k9)), some (.ref q52), none] dX8_lengthWith_80 (by decide) rfl rfl ?_
  refine j_aload_n F79 dX8_lengthWith_81 rfl ?_
  refine j_iload_n F79 dX8_lengthWith_82 rfl ?_
  refine m_cSr S (n1 := 1) (rest := [.ref q52]) (r_J6_valueOf_2dffe X.l G X.A M69 k9 hk9) ⟨_, _, _, _, rfl, (gLW gX8_lengthWith_J6_valueOf_2dffe), rfl, rfl, (by decide +kernel), ⟨(Nat.le_of_ble_eq_true rfl), (Nat.le_of_ble_eq_true rfl)⟩⟩ rfl (Nat.le_of_ble_eq_true rfl) (Nat.le_of_ble_eq_true rfl) (Nat.le_of_ble_eq_true rfl) rfl dX8_lengthWith_83 (fun v80 M81 hD82 hp83 => ?_)
  obtain ⟨hp83a, hp83b⟩ := hp83
  subst hp83a
  subst hp83b
  refine m_cVi S (n1 := 1) (rest := []) (r_Jx4a65c_add_9ea2dE X.l G X.A M69 (G.bx k9) (Or.inr (Or.inr ⟨k9, hk9, rfl⟩)) (fun c => bx_out S hk9 (c ▸ In.a hD70 h78)) h78) ⟨_, _, _, _, rfl, (gLW gX8_lengthWith_Jx4a65c_add_9ea2d), rfl, rfl, (by decide +kernel), ⟨(Nat.le_of_ble_eq_true rfl), (Nat.le_of_ble_eq_true rfl)⟩⟩ h78 rfl rfl (Nat.le_of_ble_eq_true rfl) (Nat.le_of_ble_eq_true rfl) (Nat.le_of_ble_eq_true rfl) rfl dX8_lengthWith_86 (fun v84 M85 hD86 hp87 => ?_)
  obtain ⟨hp87v, hp87⟩ := hp87
  subst hp87v
  rw [show (0 : Int32) + 1 = 1 from by decide] at hp87
  obtain ⟨q88, hp87a, hp87b, hp87k, hp87f⟩ := hp87
  have n89 := hp87f _ _ h3
  have n90 := hp87f _ _ h4
  have n91 := hp87f _ _ h5
  have n92 := hp87f _ _ h6
  have n93 := hp87f _ _ h8
  have n94 := hp87f _ _ h51
  have n95 := hp87f _ _ h78
  have n96 : pl1 ∉ [q52] := by
    intro h9; simp only [List.mem_cons, List.not_mem_nil, or_false] at h9
    · exact n56 h9
  have n97 : pe1 ∉ [q52] := by
    intro h9; simp only [List.mem_cons, List.not_mem_nil, or_false] at h9
    · exact n57 h9
  have n98 : ta ∉ [q52] := by
    intro h9; simp only [List.mem_cons, List.not_mem_nil, or_false] at h9
    · exact n58 h9
  have n99 : ka ∉ [q52] := by
    intro h9; simp only [List.mem_cons, List.not_mem_nil, or_false] at h9
    · exact n59 h9
  have n100 : t9 ∉ [q52] := by
    intro h9; simp only [List.mem_cons, List.not_mem_nil, or_false] at h9
    · exact n60 h9
  have n101 : mo ∉ [q52] := by
    intro h9; simp only [List.mem_cons, List.not_mem_nil, or_false] at h9
    · exact n61 h9
  have h3 := hp87k _ _ n96 h3
  have h4 := hp87k _ _ n97 h4
  have h5 := hp87k _ _ n98 h5
  have h6 := hp87k _ _ n99 h6
  have h8 := hp87k _ _ n100 h8
  have h51 := hp87k _ _ n101 h51
  have h102 : (q52, (.inr (10, [.int 1, .ref q88, .int 1]) : va_E)) ∈ M85 := hp87a
  have h103 : (q88, (.inl (G.cO, 1, .inr (.inr (.inr (.inr (va_up (fun _ => none) 0 (some (G.bx k9))))))) : va_E)) ∈ M85 := hp87b
  have F104 := S.1.at 3 4 (Nat.le_of_ble_eq_true rfl) (Nat.le_of_ble_eq_true rfl)
  refine j_pop F104 dX8_lengthWith_89 rfl ?_
  refine m_new S (C := RX7) (T := TX7) (N := 5) (ci := 7) (fs := [.int 0, .null, .int 0, .int 0, .null]) (by decide +kernel) tyX7 tyX7_ok (by decide +kernel) (by decide +kernel) (by decide +kernel) rfl (fun j hj => by rcases (show j = 0 ∨ j = 1 ∨ j = 2 ∨ j = 3 ∨ j = 4 by omega) with rfl | rfl | rfl | rfl | rfl <;> rfl) (Nat.le_of_ble_eq_true rfl) (Nat.le_of_ble_eq_true rfl) dX8_lengthWith_90 (fun q105 M107 hD108 hN106 => ?_)
  have n109 := (hN106.2 _ _ h3).2
  have h3 := (hN106.2 _ _ h3).1
  have n110 := (hN106.2 _ _ h4).2
  have h4 := (hN106.2 _ _ h4).1
  have n111 := (hN106.2 _ _ h5).2
  have h5 := (hN106.2 _ _ h5).1
  have n112 := (hN106.2 _ _ h6).2
  have h6 := (hN106.2 _ _ h6).1
  have n113 := (hN106.2 _ _ h8).2
  have h8 := (hN106.2 _ _ h8).1
  have n114 := (hN106.2 _ _ h51).2
  have h51 := (hN106.2 _ _ h51).1
  have n115 := (hN106.2 _ _ h102).2
  have h102 := (hN106.2 _ _ h102).1
  have n116 := (hN106.2 _ _ h103).2
  have h103 := (hN106.2 _ _ h103).1
  have h117 := hN106.1
  have F118 := S.1.at 4 9 (Nat.le_of_ble_eq_true rfl) (Nat.le_of_ble_eq_true rfl)
  refine j_dup F118 dX8_lengthWith_93 rfl ?_
  refine j_aload_n F118 dX8_lengthWith_94 rfl ?_
  refine j_iload_n F118 dX8_lengthWith_95 rfl ?_
  refine j_aload_n F118 dX8_lengthWith_96 rfl ?_
  refine m_cIv S (n1 := 3) (rest := [.ref q105]) (r_X7_initB X.l G X.A M107 p k9 hk9 hv h117 h102 h103) ⟨_, _, _, rfl, (gLI kB_X7_initW), rfl, rfl, (by decide +kernel), (by decide +kernel), (by decide +kernel), rfl, (by decide +kernel), ⟨(Nat.le_of_ble_eq_true rfl), (Nat.le_of_ble_eq_true rfl)⟩⟩ rfl (Nat.le_of_ble_eq_true rfl) (Nat.le_of_ble_eq_true rfl) (Nat.le_of_ble_eq_true rfl) rfl dX8_lengthWith_97 (fun M120 hD121 hp122 => ?_)
  obtain ⟨g123, hp122a, hp122k⟩ := hp122
  have n124 : pl1 ∉ [q105] := by
    intro h9; simp only [List.mem_cons, List.not_mem_nil, or_false] at h9
    · exact n109 h9
  have n125 : pe1 ∉ [q105] := by
    intro h9; simp only [List.mem_cons, List.not_mem_nil, or_false] at h9
    · exact n110 h9
  have n126 : ta ∉ [q105] := by
    intro h9; simp only [List.mem_cons, List.not_mem_nil, or_false] at h9
    · exact n111 h9
  have n127 : ka ∉ [q105] := by
    intro h9; simp only [List.mem_cons, List.not_mem_nil, or_false] at h9
    · exact n112 h9
  have n128 : t9 ∉ [q105] := by
    intro h9; simp only [List.mem_cons, List.not_mem_nil, or_false] at h9
    · exact n113 h9
  have n129 : mo ∉ [q105] := by
    intro h9; simp only [List.mem_cons, List.not_mem_nil, or_false] at h9
    · exact n114 h9
  have n130 : q52 ∉ [q105] := by
    intro h9; simp only [List.mem_cons, List.not_mem_nil, or_false] at h9
    · exact n115 h9
  have n131 : q88 ∉ [q105] := by
    intro h9; simp only [List.mem_cons, List.not_mem_nil, or_false] at h9
    · exact n116 h9
  have h3 := hp122k _ _ n124 h3
  have h4 := hp122k _ _ n125 h4
  have h5 := hp122k _ _ n126 h5
  have h6 := hp122k _ _ n127 h6
  have h8 := hp122k _ _ n128 h8
  have h51 := hp122k _ _ n129 h51
  have h102 := hp122k _ _ n130 h102
  have h103 := hp122k _ _ n131 h103
  have h132 : (q105, (.inr (7, [.int (nI p), .ref g123, .int 3, .int 1, .ref mo]) : va_E)) ∈ M120 := hp122a
  have F133 := S.1.at 10 30 (Nat.le_of_ble_eq_true rfl) (Nat.le_of_ble_eq_true rfl)
  refine j_astore F133 [some (.ref mo), some (.int (nI p)), some (.int (vb_c k9)), some (.ref q52), some (.ref q105)] dX8_lengthWith_100 (by decide) rfl rfl ?_
  refine j_aload F133 dX8_lengthWith_102 rfl ?_
  refine m_get S (C := RX7) (T := TX7) (N := 5) (by decide +kernel) h132 rfl (v := .int 3) 2 (by decide) (by decide +kernel) (fun _ h9 => h9) rfl dX8_lengthWith_104 ?_
  refine j_if_le F133 114 dX8_lengthWith_107 (by decide) (fun h9 => absurd h9 (by decide)) (fun _ => ?_)
  refine j_iconst F133 (-1) dX8_lengthWith_110 (by decide) ?_
  refine j_goto F133 120 dX8_lengthWith_111 (by decide) ?_
  have hKp : Kp M [mo, ka] M120 := by
    intro b x hb hx
    have n134 : b ∉ [mo] := by
      intro h9; simp only [List.mem_cons, List.not_mem_nil, or_false] at h9
      · exact (fun c => hb (by rw [c]; simp)) h9
    have hx := hp12k b x n134 hx
    have n135 : b ∉ [mo] := by
      intro h9; simp only [List.mem_cons, List.not_mem_nil, or_false] at h9
      · exact (fun c => hb (by rw [c]; simp)) h9
    have hx := hp27k b x n135 hx
    have n136 : b ∉ [mo] := by
      intro h9; simp only [List.mem_cons, List.not_mem_nil, or_false] at h9
      · exact (fun c => hb (by rw [c]; simp)) h9
    have hx := hp45k b x n136 hx
    have n137 := (hN53.2 _ _ hx).2
    have hx := (hN53.2 _ _ hx).1
    have n138 : b ∉ [q52] := by
      intro h9; simp only [List.mem_cons, List.not_mem_nil, or_false] at h9
      · exact n137 h9
    have hx := hp71k b x n138 hx
    have n139 := hp87f _ _ hx
    have n140 : b ∉ [q52] := by
      intro h9; simp only [List.mem_cons, List.not_mem_nil, or_false] at h9
      · exact n137 h9
    have hx := hp87k b x n140 hx
    have n141 := (hN106.2 _ _ hx).2
    have hx := (hN106.2 _ _ hx).1
    have n142 : b ∉ [q105] := by
      intro h9; simp only [List.mem_cons, List.not_mem_nil, or_false] at h9
      · exact n141 h9
    have hx := hp122k b x n142 hx
    exact hx
  have hKL : KL G M M120 := fun o n f ho => hKp _ _ (by
    intro h9; simp only [List.mem_cons, List.not_mem_nil, or_false] at h9
    rcases h9 with h9 | h9
    · exact In.ne hD ho o1_0 (by simp) h9
    · exact In.ne hD ho o1_6 (by simp) h9
    ) ho
  exact m_ireturn S hRT rfl hQ (Nat.le_of_ble_eq_true rfl) (Nat.le_of_ble_eq_true rfl) dX8_lengthWith_120 rfl ⟨_, _, _, h51, hKL, rfl⟩

set_option maxRecDepth 100000 in
set_option maxHeartbeats 4000000 in
theorem r_X8_lengthWithC (l : Launch) (G : RG) (A : Nat → Prop) (M : Wl) {mo ka ta : Nat} {tv : Int32} (p : Nat) (hp : p < 10) (k9 : Nat) (hk9 : k9 < 256) (hy : TokP (vb_c k9)) (hv : vb_c k9 = 11) (hM : Mo G mo ka ta tv M) : Kr l G A yX8_lengthWith wbX8_lengthWith { frames := 7, cells := 8, slots := 26, locals := 191 } M [.ref mo, .int (nI p), .int (vb_c k9)] (Gi G A (fun v N => ∃ pl k9 t9 : Nat, (mo, (.inr (8, [.int 0, .ref pl, .ref k9, .ref t9]) : va_E)) ∈ N ∧ KL G M N ∧ ((-1) : Int32) = v)) 8 26 := by
  refine Kr.of (cc := cX8_lengthWith) (maxL := 5) (ret := (some .int)) (by decide) rfl (Nat.le_of_ble_eq_true rfl) ?_
  intro X hXl S hRT hIN hXA hQ hD
  subst hXl
  subst hXA
  show J (X.at 0 0) 5 (PL G.Z X.A M) 0 [some (.ref mo), some (.int (nI p)), some (.int (vb_c k9)), none, none] []
  have F0 := S.1.at 0 0 (Nat.le_of_ble_eq_true rfl) (Nat.le_of_ble_eq_true rfl)
  have hOR := S.2.1.or
  obtain ⟨pl1, pe1, f1, kn1, tf1, o1_0, o1_1, o1_2, o1_3, o1_4, o1_5, o1_6, o1_7⟩ := id hM
  have h2 : (mo, (.inr (8, [.int tv, .ref pl1, .ref ka, .ref ta]) : va_E)) ∈ M := o1_0
  have h3 : (pl1, (.inr (10, [.int 10, .ref pe1, .int 10]) : va_E)) ∈ M := o1_1
  have h4 : (pe1, (.inl (G.cO, 10, .inr (.inr (.inr (.inr f1)))) : va_E)) ∈ M := o1_2
  have h5 : (ta, (.inl (G.Z.cI, 8, .inl tf1) : va_E)) ∈ M := o1_4
  have h6 : (ka, (.inl (G.cR, 10, .inr (.inr (.inr (.inr kn1)))) : va_E)) ∈ M := o1_6
  have hDo7 := hD
  obtain ⟨t9, ht9, ht8⟩ := o1_3 p hp
  have h8 : (t9, (.inr (10, [.int 0, .ref G.e0, .int 0]) : va_E)) ∈ M := ht8
  refine j_aload_n F0 dX8_lengthWith_0 rfl ?_
  refine j_iload_n F0 dX8_lengthWith_1 rfl ?_
  refine m_cVi S (n1 := 1) (rest := []) (r_X8_isNoProgram X.l G X.A M (nI p) h2) ⟨_, _, _, _, rfl, (gLW gX8_lengthWith_X8_isNoProgram), rfl, rfl, (by decide +kernel), ⟨(Nat.le_of_ble_eq_true rfl), (Nat.le_of_ble_eq_true rfl)⟩⟩ h2 rfl rfl (Nat.le_of_ble_eq_true rfl) (Nat.le_of_ble_eq_true rfl) (Nat.le_of_ble_eq_true rfl) rfl dX8_lengthWith_2 (fun v9 M10 hD11 hp12 => ?_)
  obtain ⟨hp12v, hp12a, hp12k⟩ := hp12
  subst hp12v
  have n13 : pl1 ∉ [mo] := by
    intro h9; simp only [List.mem_cons, List.not_mem_nil, or_false] at h9
    · exact (In.ne hD h3 h2 (by simp)) h9
  have n14 : pe1 ∉ [mo] := by
    intro h9; simp only [List.mem_cons, List.not_mem_nil, or_false] at h9
    · exact (In.ne hD h4 h2 (by simp)) h9
  have n15 : ta ∉ [mo] := by
    intro h9; simp only [List.mem_cons, List.not_mem_nil, or_false] at h9
    · exact (In.ne hD h5 h2 (by simp)) h9
  have n16 : ka ∉ [mo] := by
    intro h9; simp only [List.mem_cons, List.not_mem_nil, or_false] at h9
    · exact (In.ne hD h6 h2 (by simp)) h9
  have n17 : t9 ∉ [mo] := by
    intro h9; simp only [List.mem_cons, List.not_mem_nil, or_false] at h9
    · exact (In.ne hD h8 h2 (by simp)) h9
  have h3 := hp12k _ _ n13 h3
  have h4 := hp12k _ _ n14 h4
  have h5 := hp12k _ _ n15 h5
  have h6 := hp12k _ _ n16 h6
  have h8 := hp12k _ _ n17 h8
  have h18 : (mo, (.inr (8, [.int (if ProP (nI p) then (1 : Int32) else 0), .ref pl1, .ref ka, .ref ta]) : va_E)) ∈ M10 := hp12a
  refine j_if_ne F0 60 dX8_lengthWith_5 (by decide) (fun h9 => absurd (if0.mpr (pro_ok hp)) h9) (fun _ => ?_)
  have h19 : (mo, (.inr (8, [.int 0, .ref pl1, .ref ka, .ref ta]) : va_E)) ∈ M10 := by have h9 := h18; rw [if_neg (pro_ok hp)] at h9; exact h9
  refine j_aload_n F0 dX8_lengthWith_8 rfl ?_
  refine j_iload_n F0 dX8_lengthWith_9 rfl ?_
  refine m_cSi S (n1 := 1) (rest := [.ref mo]) (r_X8_isToken X.l G X.A M10 (vb_c k9)) ⟨_, _, _, _, rfl, (gLW gX8_lengthWith_X8_isToken), rfl, rfl, (by decide +kernel), ⟨(Nat.le_of_ble_eq_true rfl), (Nat.le_of_ble_eq_true rfl)⟩⟩ rfl (Nat.le_of_ble_eq_true rfl) (Nat.le_of_ble_eq_true rfl) (Nat.le_of_ble_eq_true rfl) rfl dX8_lengthWith_10 (fun v20 M21 hD22 hp23 => ?_)
  obtain ⟨hp23a, hp23b⟩ := hp23
  subst hp23a
  subst hp23b
  refine j_if_ne F0 20 dX8_lengthWith_13 (by decide) (fun _ => ?_) (fun h9 => absurd h9 (if1.mpr hy))
  refine j_iconst F0 0 dX8_lengthWith_20 (by decide) ?_
  refine j_iconst F0 2 dX8_lengthWith_21 (by decide) ?_
  refine m_cVi S (n1 := 2) (rest := []) (r_X8_refuse X.l G X.A M10 (c := False) 2 (by decide) h19) ⟨_, _, _, _, rfl, (gLW gX8_lengthWith_X8_refuse), rfl, rfl, (by decide +kernel), ⟨(Nat.le_of_ble_eq_true rfl), (Nat.le_of_ble_eq_true rfl)⟩⟩ h19 rfl rfl (Nat.le_of_ble_eq_true rfl) (Nat.le_of_ble_eq_true rfl) (Nat.le_of_ble_eq_true rfl) rfl dX8_lengthWith_22 (fun v24 M25 hD26 hp27 => ?_)
  obtain ⟨hp27v, hp27a, hp27k⟩ := hp27
  have hp27v : (0 : Int32) = v24 := hp27v
  subst hp27v
  have n28 : pl1 ∉ [mo] := by
    intro h9; simp only [List.mem_cons, List.not_mem_nil, or_false] at h9
    · exact (In.ne hD11 h3 h19 (by simp)) h9
  have n29 : pe1 ∉ [mo] := by
    intro h9; simp only [List.mem_cons, List.not_mem_nil, or_false] at h9
    · exact (In.ne hD11 h4 h19 (by simp)) h9
  have n30 : ta ∉ [mo] := by
    intro h9; simp only [List.mem_cons, List.not_mem_nil, or_false] at h9
    · exact (In.ne hD11 h5 h19 (by simp)) h9
  have n31 : ka ∉ [mo] := by
    intro h9; simp only [List.mem_cons, List.not_mem_nil, or_false] at h9
    · exact (In.ne hD11 h6 h19 (by simp)) h9
  have n32 : t9 ∉ [mo] := by
    intro h9; simp only [List.mem_cons, List.not_mem_nil, or_false] at h9
    · exact (In.ne hD11 h8 h19 (by simp)) h9
  have h3 := hp27k _ _ n28 h3
  have h4 := hp27k _ _ n29 h4
  have h5 := hp27k _ _ n30 h5
  have h6 := hp27k _ _ n31 h6
  have h8 := hp27k _ _ n32 h8
  have h33 : (mo, (.inr (8, [.int 0, .ref pl1, .ref ka, .ref ta]) : va_E)) ∈ M25 := hp27a
  refine j_if_ne F0 60 dX8_lengthWith_25 (by decide) (fun h9 => absurd (by decide) h9) (fun _ => ?_)
  refine j_aload_n F0 dX8_lengthWith_28 rfl ?_
  refine j_aload_n F0 dX8_lengthWith_29 rfl ?_
  refine m_get S (C := RX8) (T := TX8) (N := 4) (by decide +kernel) h33 rfl (v := .ref pl1) 1 (by decide) (by decide +kernel) (fun _ h9 => h9) rfl dX8_lengthWith_30 ?_
  refine j_iload_n F0 dX8_lengthWith_33 rfl ?_
  refine m_cVr S (n1 := 1) (rest := [.ref mo]) (r_Jx4a65c_get_915e3 X.l G X.A M25 (nI p) t9 (nI_pos (by omega)) (by rw [show (10 : Int32) = nI 10 from rfl, nI_ltI (by omega) (by omega)]; exact hp) (vp_in_nI hp (by decide)) (by rw [nI_clamp (by omega)]; exact ht9) h3 h4) ⟨_, _, _, _, rfl, (gLW gX8_lengthWith_Jx4a65c_get_915e3), rfl, rfl, (by decide +kernel), ⟨(Nat.le_of_ble_eq_true rfl), (Nat.le_of_ble_eq_true rfl)⟩⟩ h3 rfl rfl (Nat.le_of_ble_eq_true rfl) (Nat.le_of_ble_eq_true rfl) (Nat.le_of_ble_eq_true rfl) rfl dX8_lengthWith_34 (fun v34 M35 hD36 hp37 => ?_)
  obtain ⟨hp37a, hp37b⟩ := hp37
  subst hp37a
  subst hp37b
  refine m_cast S (C := "java/util/ArrayList") h8 rfl (by decide +kernel) dX8_lengthWith_37 ?_
  refine m_cVi S (n1 := 0) (rest := [.ref mo]) (r_Jx4a65c_size_8abf5 X.l G X.A M25 h8) ⟨_, _, _, _, rfl, (gLW gX8_lengthWith_Jx4a65c_size_8abf5), rfl, rfl, (by decide +kernel), ⟨(Nat.le_of_ble_eq_true rfl), (Nat.le_of_ble_eq_true rfl)⟩⟩ h8 rfl rfl (Nat.le_of_ble_eq_true rfl) (Nat.le_of_ble_eq_true rfl) (Nat.le_of_ble_eq_true rfl) rfl dX8_lengthWith_40 (fun v38 M39 hD40 hp41 => ?_)
  obtain ⟨hp41a, hp41b⟩ := hp41
  subst hp41a
  subst hp41b
  refine j_bipush F0 40 dX8_lengthWith_43 (by decide) ?_
  refine j_icmp_ne F0 52 dX8_lengthWith_45 (by decide) (fun _ => ?_) (fun h9 => absurd h9 (by decide))
  refine j_iconst F0 0 dX8_lengthWith_52 (by decide) ?_
  refine j_iconst F0 3 dX8_lengthWith_53 (by decide) ?_
  refine m_cVi S (n1 := 2) (rest := []) (r_X8_refuse X.l G X.A M25 (c := False) 3 (by decide) h33) ⟨_, _, _, _, rfl, (gLW gX8_lengthWith_X8_refuse), rfl, rfl, (by decide +kernel), ⟨(Nat.le_of_ble_eq_true rfl), (Nat.le_of_ble_eq_true rfl)⟩⟩ h33 rfl rfl (Nat.le_of_ble_eq_true rfl) (Nat.le_of_ble_eq_true rfl) (Nat.le_of_ble_eq_true rfl) rfl dX8_lengthWith_54 (fun v42 M43 hD44 hp45 => ?_)
  obtain ⟨hp45v, hp45a, hp45k⟩ := hp45
  have hp45v : (0 : Int32) = v42 := hp45v
  subst hp45v
  have n46 : pl1 ∉ [mo] := by
    intro h9; simp only [List.mem_cons, List.not_mem_nil, or_false] at h9
    · exact (In.ne hD26 h3 h33 (by simp)) h9
  have n47 : pe1 ∉ [mo] := by
    intro h9; simp only [List.mem_cons, List.not_mem_nil, or_false] at h9
    · exact (In.ne hD26 h4 h33 (by simp)) h9
  have n48 : ta ∉ [mo] := by
    intro h9; simp only [List.mem_cons, List.not_mem_nil, or_false] at h9
    · exact (In.ne hD26 h5 h33 (by simp)) h9
  have n49 : ka ∉ [mo] := by
    intro h9; simp only [List.mem_cons, List.not_mem_nil, or_false] at h9
    · exact (In.ne hD26 h6 h33 (by simp)) h9
  have n50 : t9 ∉ [mo] := by
    intro h9; simp only [List.mem_cons, List.not_mem_nil, or_false] at h9
    · exact (In.ne hD26 h8 h33 (by simp)) h9
  have h3 := hp45k _ _ n46 h3
  have h4 := hp45k _ _ n47 h4
  have h5 := hp45k _ _ n48 h5
  have h6 := hp45k _ _ n49 h6
  have h8 := hp45k _ _ n50 h8
  have h51 : (mo, (.inr (8, [.int 0, .ref pl1, .ref ka, .ref ta]) : va_E)) ∈ M43 := hp45a
  refine j_if_eq F0 62 dX8_lengthWith_57 (by decide) (fun _ => ?_) (fun h9 => absurd (by decide) h9)
  refine m_new S (C := RJx4a65c) (T := TJx4a65c) (N := 3) (ci := 10) (fs := [.int 0, .null, .int 0]) (by decide +kernel) tyJx4a65c tyJx4a65c_ok (by decide +kernel) (by decide +kernel) (by decide +kernel) rfl (fun j hj => by rcases (show j = 0 ∨ j = 1 ∨ j = 2 by omega) with rfl | rfl | rfl <;> rfl) (Nat.le_of_ble_eq_true rfl) (Nat.le_of_ble_eq_true rfl) dX8_lengthWith_62 (fun q52 M54 hD55 hN53 => ?_)
  have n56 := (hN53.2 _ _ h3).2
  have h3 := (hN53.2 _ _ h3).1
  have n57 := (hN53.2 _ _ h4).2
  have h4 := (hN53.2 _ _ h4).1
  have n58 := (hN53.2 _ _ h5).2
  have h5 := (hN53.2 _ _ h5).1
  have n59 := (hN53.2 _ _ h6).2
  have h6 := (hN53.2 _ _ h6).1
  have n60 := (hN53.2 _ _ h8).2
  have h8 := (hN53.2 _ _ h8).1
  have n61 := (hN53.2 _ _ h51).2
  have h51 := (hN53.2 _ _ h51).1
  have h62 := hN53.1
  have F63 := S.1.at 1 3 (Nat.le_of_ble_eq_true rfl) (Nat.le_of_ble_eq_true rfl)
  refine j_dup F63 dX8_lengthWith_65 rfl ?_
  refine j_aload_n F63 dX8_lengthWith_66 rfl ?_
  refine m_get S (C := RX8) (T := TX8) (N := 4) (by decide +kernel) h51 rfl (v := .ref pl1) 1 (by decide) (by decide +kernel) (fun _ h9 => h9) rfl dX8_lengthWith_67 ?_
  refine j_iload_n F63 dX8_lengthWith_70 rfl ?_
  refine m_cVr S (n1 := 1) (rest := [.ref q52, .ref q52]) (r_Jx4a65c_get_915e3 X.l G X.A M54 (nI p) t9 (nI_pos (by omega)) (by rw [show (10 : Int32) = nI 10 from rfl, nI_ltI (by omega) (by omega)]; exact hp) (vp_in_nI hp (by decide)) (by rw [nI_clamp (by omega)]; exact ht9) h3 h4) ⟨_, _, _, _, rfl, (gLW gX8_lengthWith_Jx4a65c_get_915e3), rfl, rfl, (by decide +kernel), ⟨(Nat.le_of_ble_eq_true rfl), (Nat.le_of_ble_eq_true rfl)⟩⟩ h3 rfl rfl (Nat.le_of_ble_eq_true rfl) (Nat.le_of_ble_eq_true rfl) (Nat.le_of_ble_eq_true rfl) rfl dX8_lengthWith_71 (fun v64 M65 hD66 hp67 => ?_)
  obtain ⟨hp67a, hp67b⟩ := hp67
  subst hp67a
  subst hp67b
  refine m_castY S h8 rfl (by decide +kernel) (S.2.1.2.2.2.2.2.1 (sAL, "java/util/Collection") (by simp)) dX8_lengthWith_74 ?_
  refine m_cIv S (n1 := 1) (rest := [.ref q52]) (r_Jx4a65c_init_4bcb3 X.l G X.A M54 h62 h8) ⟨_, _, _, rfl, (gLW gX8_lengthWith_Jx4a65c_init_4bcb3), rfl, rfl, (by decide +kernel), (by decide +kernel), (by decide +kernel), rfl, (by decide +kernel), ⟨(Nat.le_of_ble_eq_true rfl), (Nat.le_of_ble_eq_true rfl)⟩⟩ rfl (Nat.le_of_ble_eq_true rfl) (Nat.le_of_ble_eq_true rfl) (Nat.le_of_ble_eq_true rfl) rfl dX8_lengthWith_77 (fun M69 hD70 hp71 => ?_)
  obtain ⟨hp71a, hp71k⟩ := hp71
  have n72 : pl1 ∉ [q52] := by
    intro h9; simp only [List.mem_cons, List.not_mem_nil, or_false] at h9
    · exact n56 h9
  have n73 : pe1 ∉ [q52] := by
    intro h9; simp only [List.mem_cons, List.not_mem_nil, or_false] at h9
    · exact n57 h9
  have n74 : ta ∉ [q52] := by
    intro h9; simp only [List.mem_cons, List.not_mem_nil, or_false] at h9
    · exact n58 h9
  have n75 : ka ∉ [q52] := by
    intro h9; simp only [List.mem_cons, List.not_mem_nil, or_false] at h9
    · exact n59 h9
  have n76 : t9 ∉ [q52] := by
    intro h9; simp only [List.mem_cons, List.not_mem_nil, or_false] at h9
    · exact n60 h9
  have n77 : mo ∉ [q52] := by
    intro h9; simp only [List.mem_cons, List.not_mem_nil, or_false] at h9
    · exact n61 h9
  have h3 := hp71k _ _ n72 h3
  have h4 := hp71k _ _ n73 h4
  have h5 := hp71k _ _ n74 h5
  have h6 := hp71k _ _ n75 h6
  have h8 := hp71k _ _ n76 h8
  have h51 := hp71k _ _ n77 h51
  have h78 : (q52, (.inr (10, [.int 0, .ref G.e1, .int 0]) : va_E)) ∈ M69 := hp71a
  have F79 := S.1.at 2 3 (Nat.le_of_ble_eq_true rfl) (Nat.le_of_ble_eq_true rfl)
  refine j_astore_n F79 [some (.ref mo), some (.int (nI p)), some (.int (vb_c k9)), some (.ref q52), none] dX8_lengthWith_80 (by decide) rfl rfl ?_
  refine j_aload_n F79 dX8_lengthWith_81 rfl ?_
  refine j_iload_n F79 dX8_lengthWith_82 rfl ?_
  refine m_cSr S (n1 := 1) (rest := [.ref q52]) (r_J6_valueOf_2dffe X.l G X.A M69 k9 hk9) ⟨_, _, _, _, rfl, (gLW gX8_lengthWith_J6_valueOf_2dffe), rfl, rfl, (by decide +kernel), ⟨(Nat.le_of_ble_eq_true rfl), (Nat.le_of_ble_eq_true rfl)⟩⟩ rfl (Nat.le_of_ble_eq_true rfl) (Nat.le_of_ble_eq_true rfl) (Nat.le_of_ble_eq_true rfl) rfl dX8_lengthWith_83 (fun v80 M81 hD82 hp83 => ?_)
  obtain ⟨hp83a, hp83b⟩ := hp83
  subst hp83a
  subst hp83b
  refine m_cVi S (n1 := 1) (rest := []) (r_Jx4a65c_add_9ea2dE X.l G X.A M69 (G.bx k9) (Or.inr (Or.inr ⟨k9, hk9, rfl⟩)) (fun c => bx_out S hk9 (c ▸ In.a hD70 h78)) h78) ⟨_, _, _, _, rfl, (gLW gX8_lengthWith_Jx4a65c_add_9ea2d), rfl, rfl, (by decide +kernel), ⟨(Nat.le_of_ble_eq_true rfl), (Nat.le_of_ble_eq_true rfl)⟩⟩ h78 rfl rfl (Nat.le_of_ble_eq_true rfl) (Nat.le_of_ble_eq_true rfl) (Nat.le_of_ble_eq_true rfl) rfl dX8_lengthWith_86 (fun v84 M85 hD86 hp87 => ?_)
  obtain ⟨hp87v, hp87⟩ := hp87
  subst hp87v
  rw [show (0 : Int32) + 1 = 1 from by decide] at hp87
  obtain ⟨q88, hp87a, hp87b, hp87k, hp87f⟩ := hp87
  have n89 := hp87f _ _ h3
  have n90 := hp87f _ _ h4
  have n91 := hp87f _ _ h5
  have n92 := hp87f _ _ h6
  have n93 := hp87f _ _ h8
  have n94 := hp87f _ _ h51
  have n95 := hp87f _ _ h78
  have n96 : pl1 ∉ [q52] := by
    intro h9; simp only [List.mem_cons, List.not_mem_nil, or_false] at h9
    · exact n56 h9
  have n97 : pe1 ∉ [q52] := by
    intro h9; simp only [List.mem_cons, List.not_mem_nil, or_false] at h9
    · exact n57 h9
  have n98 : ta ∉ [q52] := by
    intro h9; simp only [List.mem_cons, List.not_mem_nil, or_false] at h9
    · exact n58 h9
  have n99 : ka ∉ [q52] := by
    intro h9; simp only [List.mem_cons, List.not_mem_nil, or_false] at h9
    · exact n59 h9
  have n100 : t9 ∉ [q52] := by
    intro h9; simp only [List.mem_cons, List.not_mem_nil, or_false] at h9
    · exact n60 h9
  have n101 : mo ∉ [q52] := by
    intro h9; simp only [List.mem_cons, List.not_mem_nil, or_false] at h9
    · exact n61 h9
  have h3 := hp87k _ _ n96 h3
  have h4 := hp87k _ _ n97 h4
  have h5 := hp87k _ _ n98 h5
  have h6 := hp87k _ _ n99 h6
  have h8 := hp87k _ _ n100 h8
  have h51 := hp87k _ _ n101 h51
  have h102 : (q52, (.inr (10, [.int 1, .ref q88, .int 1]) : va_E)) ∈ M85 := hp87a
  have h103 : (q88, (.inl (G.cO, 1, .inr (.inr (.inr (.inr (va_up (fun _ => none) 0 (some (G.bx k9))))))) : va_E)) ∈ M85 := hp87b
  have F104 := S.1.at 3 4 (Nat.le_of_ble_eq_true rfl) (Nat.le_of_ble_eq_true rfl)
  refine j_pop F104 dX8_lengthWith_89 rfl ?_
  refine m_new S (C := RX7) (T := TX7) (N := 5) (ci := 7) (fs := [.int 0, .null, .int 0, .int 0, .null]) (by decide +kernel) tyX7 tyX7_ok (by decide +kernel) (by decide +kernel) (by decide +kernel) rfl (fun j hj => by rcases (show j = 0 ∨ j = 1 ∨ j = 2 ∨ j = 3 ∨ j = 4 by omega) with rfl | rfl | rfl | rfl | rfl <;> rfl) (Nat.le_of_ble_eq_true rfl) (Nat.le_of_ble_eq_true rfl) dX8_lengthWith_90 (fun q105 M107 hD108 hN106 => ?_)
  have n109 := (hN106.2 _ _ h3).2
  have h3 := (hN106.2 _ _ h3).1
  have n110 := (hN106.2 _ _ h4).2
  have h4 := (hN106.2 _ _ h4).1
  have n111 := (hN106.2 _ _ h5).2
  have h5 := (hN106.2 _ _ h5).1
  have n112 := (hN106.2 _ _ h6).2
  have h6 := (hN106.2 _ _ h6).1
  have n113 := (hN106.2 _ _ h8).2
  have h8 := (hN106.2 _ _ h8).1
  have n114 := (hN106.2 _ _ h51).2
  have h51 := (hN106.2 _ _ h51).1
  have n115 := (hN106.2 _ _ h102).2
  have h102 := (hN106.2 _ _ h102).1
  have n116 := (hN106.2 _ _ h103).2
  have h103 := (hN106.2 _ _ h103).1
  have h117 := hN106.1
  have F118 := S.1.at 4 9 (Nat.le_of_ble_eq_true rfl) (Nat.le_of_ble_eq_true rfl)
  refine j_dup F118 dX8_lengthWith_93 rfl ?_
  refine j_aload_n F118 dX8_lengthWith_94 rfl ?_
  refine j_iload_n F118 dX8_lengthWith_95 rfl ?_
  refine j_aload_n F118 dX8_lengthWith_96 rfl ?_
  refine m_cIv S (n1 := 3) (rest := [.ref q105]) (r_X7_initC X.l G X.A M107 p k9 hk9 hv h117 h102 h103) ⟨_, _, _, rfl, (gLI kB_X7_initW), rfl, rfl, (by decide +kernel), (by decide +kernel), (by decide +kernel), rfl, (by decide +kernel), ⟨(Nat.le_of_ble_eq_true rfl), (Nat.le_of_ble_eq_true rfl)⟩⟩ rfl (Nat.le_of_ble_eq_true rfl) (Nat.le_of_ble_eq_true rfl) (Nat.le_of_ble_eq_true rfl) rfl dX8_lengthWith_97 (fun M120 hD121 hp122 => ?_)
  obtain ⟨g123, hp122a, hp122k⟩ := hp122
  have n124 : pl1 ∉ [q105] := by
    intro h9; simp only [List.mem_cons, List.not_mem_nil, or_false] at h9
    · exact n109 h9
  have n125 : pe1 ∉ [q105] := by
    intro h9; simp only [List.mem_cons, List.not_mem_nil, or_false] at h9
    · exact n110 h9
  have n126 : ta ∉ [q105] := by
    intro h9; simp only [List.mem_cons, List.not_mem_nil, or_false] at h9
    · exact n111 h9
  have n127 : ka ∉ [q105] := by
    intro h9; simp only [List.mem_cons, List.not_mem_nil, or_false] at h9
    · exact n112 h9
  have n128 : t9 ∉ [q105] := by
    intro h9; simp only [List.mem_cons, List.not_mem_nil, or_false] at h9
    · exact n113 h9
  have n129 : mo ∉ [q105] := by
    intro h9; simp only [List.mem_cons, List.not_mem_nil, or_false] at h9
    · exact n114 h9
  have n130 : q52 ∉ [q105] := by
    intro h9; simp only [List.mem_cons, List.not_mem_nil, or_false] at h9
    · exact n115 h9
  have n131 : q88 ∉ [q105] := by
    intro h9; simp only [List.mem_cons, List.not_mem_nil, or_false] at h9
    · exact n116 h9
  have h3 := hp122k _ _ n124 h3
  have h4 := hp122k _ _ n125 h4
  have h5 := hp122k _ _ n126 h5
  have h6 := hp122k _ _ n127 h6
  have h8 := hp122k _ _ n128 h8
  have h51 := hp122k _ _ n129 h51
  have h102 := hp122k _ _ n130 h102
  have h103 := hp122k _ _ n131 h103
  have h132 : (q105, (.inr (7, [.int (nI p), .ref g123, .int 2, .int 0, .ref mo]) : va_E)) ∈ M120 := hp122a
  have F133 := S.1.at 8 26 (Nat.le_of_ble_eq_true rfl) (Nat.le_of_ble_eq_true rfl)
  refine j_astore F133 [some (.ref mo), some (.int (nI p)), some (.int (vb_c k9)), some (.ref q52), some (.ref q105)] dX8_lengthWith_100 (by decide) rfl rfl ?_
  refine j_aload F133 dX8_lengthWith_102 rfl ?_
  refine m_get S (C := RX7) (T := TX7) (N := 5) (by decide +kernel) h132 rfl (v := .int 2) 2 (by decide) (by decide +kernel) (fun _ h9 => h9) rfl dX8_lengthWith_104 ?_
  refine j_if_le F133 114 dX8_lengthWith_107 (by decide) (fun h9 => absurd h9 (by decide)) (fun _ => ?_)
  refine j_iconst F133 (-1) dX8_lengthWith_110 (by decide) ?_
  refine j_goto F133 120 dX8_lengthWith_111 (by decide) ?_
  have hKp : Kp M [mo, ka] M120 := by
    intro b x hb hx
    have n134 : b ∉ [mo] := by
      intro h9; simp only [List.mem_cons, List.not_mem_nil, or_false] at h9
      · exact (fun c => hb (by rw [c]; simp)) h9
    have hx := hp12k b x n134 hx
    have n135 : b ∉ [mo] := by
      intro h9; simp only [List.mem_cons, List.not_mem_nil, or_false] at h9
      · exact (fun c => hb (by rw [c]; simp)) h9
    have hx := hp27k b x n135 hx
    have n136 : b ∉ [mo] := by
      intro h9; simp only [List.mem_cons, List.not_mem_nil, or_false] at h9
      · exact (fun c => hb (by rw [c]; simp)) h9
    have hx := hp45k b x n136 hx
    have n137 := (hN53.2 _ _ hx).2
    have hx := (hN53.2 _ _ hx).1
    have n138 : b ∉ [q52] := by
      intro h9; simp only [List.mem_cons, List.not_mem_nil, or_false] at h9
      · exact n137 h9
    have hx := hp71k b x n138 hx
    have n139 := hp87f _ _ hx
    have n140 : b ∉ [q52] := by
      intro h9; simp only [List.mem_cons, List.not_mem_nil, or_false] at h9
      · exact n137 h9
    have hx := hp87k b x n140 hx
    have n141 := (hN106.2 _ _ hx).2
    have hx := (hN106.2 _ _ hx).1
    have n142 : b ∉ [q105] := by
      intro h9; simp only [List.mem_cons, List.not_mem_nil, or_false] at h9
      · exact n141 h9
    have hx := hp122k b x n142 hx
    exact hx
  have hKL : KL G M M120 := fun o n f ho => hKp _ _ (by
    intro h9; simp only [List.mem_cons, List.not_mem_nil, or_false] at h9
    rcases h9 with h9 | h9
    · exact In.ne hD ho o1_0 (by simp) h9
    · exact In.ne hD ho o1_6 (by simp) h9
    ) ho
  exact m_ireturn S hRT rfl hQ (Nat.le_of_ble_eq_true rfl) (Nat.le_of_ble_eq_true rfl) dX8_lengthWith_120 rfl ⟨_, _, _, h51, hKL, rfl⟩

set_option maxRecDepth 100000 in
set_option maxHeartbeats 4000000 in
theorem r_X8_lengthWithD (l : Launch) (G : RG) (A : Nat → Prop) (M : Wl) {mo ka ta : Nat} {tv : Int32} (p : Nat) (hp : p < 10) (k9 : Nat) (hk9 : k9 < 256) (hy : TokP (vb_c k9)) (j : Nat) (hj1 : 22 ≤ j) (hj2 : j ≤ 33) (hv : vb_c k9 = nI j) (hM : Mo G mo ka ta tv M) : Kr l G A yX8_lengthWith wbX8_lengthWith { frames := 7, cells := 8, slots := 26, locals := 191 } M [.ref mo, .int (nI p), .int (vb_c k9)] (Gi G A (fun v N => ∃ pl k9 t9 : Nat, (mo, (.inr (8, [.int 0, .ref pl, .ref k9, .ref t9]) : va_E)) ∈ N ∧ KL G M N ∧ ((-1) : Int32) = v)) 8 26 := by
  refine Kr.of (cc := cX8_lengthWith) (maxL := 5) (ret := (some .int)) (by decide) rfl (Nat.le_of_ble_eq_true rfl) ?_
  intro X hXl S hRT hIN hXA hQ hD
  subst hXl
  subst hXA
  show J (X.at 0 0) 5 (PL G.Z X.A M) 0 [some (.ref mo), some (.int (nI p)), some (.int (vb_c k9)), none, none] []
  have F0 := S.1.at 0 0 (Nat.le_of_ble_eq_true rfl) (Nat.le_of_ble_eq_true rfl)
  have hOR := S.2.1.or
  obtain ⟨pl1, pe1, f1, kn1, tf1, o1_0, o1_1, o1_2, o1_3, o1_4, o1_5, o1_6, o1_7⟩ := id hM
  have h2 : (mo, (.inr (8, [.int tv, .ref pl1, .ref ka, .ref ta]) : va_E)) ∈ M := o1_0
  have h3 : (pl1, (.inr (10, [.int 10, .ref pe1, .int 10]) : va_E)) ∈ M := o1_1
  have h4 : (pe1, (.inl (G.cO, 10, .inr (.inr (.inr (.inr f1)))) : va_E)) ∈ M := o1_2
  have h5 : (ta, (.inl (G.Z.cI, 8, .inl tf1) : va_E)) ∈ M := o1_4
  have h6 : (ka, (.inl (G.cR, 10, .inr (.inr (.inr (.inr kn1)))) : va_E)) ∈ M := o1_6
  have hDo7 := hD
  obtain ⟨t9, ht9, ht8⟩ := o1_3 p hp
  have h8 : (t9, (.inr (10, [.int 0, .ref G.e0, .int 0]) : va_E)) ∈ M := ht8
  refine j_aload_n F0 dX8_lengthWith_0 rfl ?_
  refine j_iload_n F0 dX8_lengthWith_1 rfl ?_
  refine m_cVi S (n1 := 1) (rest := []) (r_X8_isNoProgram X.l G X.A M (nI p) h2) ⟨_, _, _, _, rfl, (gLW gX8_lengthWith_X8_isNoProgram), rfl, rfl, (by decide +kernel), ⟨(Nat.le_of_ble_eq_true rfl), (Nat.le_of_ble_eq_true rfl)⟩⟩ h2 rfl rfl (Nat.le_of_ble_eq_true rfl) (Nat.le_of_ble_eq_true rfl) (Nat.le_of_ble_eq_true rfl) rfl dX8_lengthWith_2 (fun v9 M10 hD11 hp12 => ?_)
  obtain ⟨hp12v, hp12a, hp12k⟩ := hp12
  subst hp12v
  have n13 : pl1 ∉ [mo] := by
    intro h9; simp only [List.mem_cons, List.not_mem_nil, or_false] at h9
    · exact (In.ne hD h3 h2 (by simp)) h9
  have n14 : pe1 ∉ [mo] := by
    intro h9; simp only [List.mem_cons, List.not_mem_nil, or_false] at h9
    · exact (In.ne hD h4 h2 (by simp)) h9
  have n15 : ta ∉ [mo] := by
    intro h9; simp only [List.mem_cons, List.not_mem_nil, or_false] at h9
    · exact (In.ne hD h5 h2 (by simp)) h9
  have n16 : ka ∉ [mo] := by
    intro h9; simp only [List.mem_cons, List.not_mem_nil, or_false] at h9
    · exact (In.ne hD h6 h2 (by simp)) h9
  have n17 : t9 ∉ [mo] := by
    intro h9; simp only [List.mem_cons, List.not_mem_nil, or_false] at h9
    · exact (In.ne hD h8 h2 (by simp)) h9
  have h3 := hp12k _ _ n13 h3
  have h4 := hp12k _ _ n14 h4
  have h5 := hp12k _ _ n15 h5
  have h6 := hp12k _ _ n16 h6
  have h8 := hp12k _ _ n17 h8
  have h18 : (mo, (.inr (8, [.int (if ProP (nI p) then (1 : Int32) else 0), .ref pl1, .ref ka, .ref ta]) : va_E)) ∈ M10 := hp12a
  refine j_if_ne F0 60 dX8_lengthWith_5 (by decide) (fun h9 => absurd (if0.mpr (pro_ok hp)) h9) (fun _ => ?_)
  have h19 : (mo, (.inr (8, [.int 0, .ref pl1, .ref ka, .ref ta]) : va_E)) ∈ M10 := by have h9 := h18; rw [if_neg (pro_ok hp)] at h9; exact h9
  refine j_aload_n F0 dX8_lengthWith_8 rfl ?_
  refine j_iload_n F0 dX8_lengthWith_9 rfl ?_
  refine m_cSi S (n1 := 1) (rest := [.ref mo]) (r_X8_isToken X.l G X.A M10 (vb_c k9)) ⟨_, _, _, _, rfl, (gLW gX8_lengthWith_X8_isToken), rfl, rfl, (by decide +kernel), ⟨(Nat.le_of_ble_eq_true rfl), (Nat.le_of_ble_eq_true rfl)⟩⟩ rfl (Nat.le_of_ble_eq_true rfl) (Nat.le_of_ble_eq_true rfl) (Nat.le_of_ble_eq_true rfl) rfl dX8_lengthWith_10 (fun v20 M21 hD22 hp23 => ?_)
  obtain ⟨hp23a, hp23b⟩ := hp23
  subst hp23a
  subst hp23b
  refine j_if_ne F0 20 dX8_lengthWith_13 (by decide) (fun _ => ?_) (fun h9 => absurd h9 (if1.mpr hy))
  refine j_iconst F0 0 dX8_lengthWith_20 (by decide) ?_
  refine j_iconst F0 2 dX8_lengthWith_21 (by decide) ?_
  refine m_cVi S (n1 := 2) (rest := []) (r_X8_refuse X.l G X.A M10 (c := False) 2 (by decide) h19) ⟨_, _, _, _, rfl, (gLW gX8_lengthWith_X8_refuse), rfl, rfl, (by decide +kernel), ⟨(Nat.le_of_ble_eq_true rfl), (Nat.le_of_ble_eq_true rfl)⟩⟩ h19 rfl rfl (Nat.le_of_ble_eq_true rfl) (Nat.le_of_ble_eq_true rfl) (Nat.le_of_ble_eq_true rfl) rfl dX8_lengthWith_22 (fun v24 M25 hD26 hp27 => ?_)
  obtain ⟨hp27v, hp27a, hp27k⟩ := hp27
  have hp27v : (0 : Int32) = v24 := hp27v
  subst hp27v
  have n28 : pl1 ∉ [mo] := by
    intro h9; simp only [List.mem_cons, List.not_mem_nil, or_false] at h9
    · exact (In.ne hD11 h3 h19 (by simp)) h9
  have n29 : pe1 ∉ [mo] := by
    intro h9; simp only [List.mem_cons, List.not_mem_nil, or_false] at h9
    · exact (In.ne hD11 h4 h19 (by simp)) h9
  have n30 : ta ∉ [mo] := by
    intro h9; simp only [List.mem_cons, List.not_mem_nil, or_false] at h9
    · exact (In.ne hD11 h5 h19 (by simp)) h9
  have n31 : ka ∉ [mo] := by
    intro h9; simp only [List.mem_cons, List.not_mem_nil, or_false] at h9
    · exact (In.ne hD11 h6 h19 (by simp)) h9
  have n32 : t9 ∉ [mo] := by
    intro h9; simp only [List.mem_cons, List.not_mem_nil, or_false] at h9
    · exact (In.ne hD11 h8 h19 (by simp)) h9
  have h3 := hp27k _ _ n28 h3
  have h4 := hp27k _ _ n29 h4
  have h5 := hp27k _ _ n30 h5
  have h6 := hp27k _ _ n31 h6
  have h8 := hp27k _ _ n32 h8
  have h33 : (mo, (.inr (8, [.int 0, .ref pl1, .ref ka, .ref ta]) : va_E)) ∈ M25 := hp27a
  refine j_if_ne F0 60 dX8_lengthWith_25 (by decide) (fun h9 => absurd (by decide) h9) (fun _ => ?_)
  refine j_aload_n F0 dX8_lengthWith_28 rfl ?_
  refine j_aload_n F0 dX8_lengthWith_29 rfl ?_
  refine m_get S (C := RX8) (T := TX8) (N := 4) (by decide +kernel) h33 rfl (v := .ref pl1) 1 (by decide) (by decide +kernel) (fun _ h9 => h9) rfl dX8_lengthWith_30 ?_
  refine j_iload_n F0 dX8_lengthWith_33 rfl ?_
  refine m_cVr S (n1 := 1) (rest := [.ref mo]) (r_Jx4a65c_get_915e3 X.l G X.A M25 (nI p) t9 (nI_pos (by omega)) (by rw [show (10 : Int32) = nI 10 from rfl, nI_ltI (by omega) (by omega)]; exact hp) (vp_in_nI hp (by decide)) (by rw [nI_clamp (by omega)]; exact ht9) h3 h4) ⟨_, _, _, _, rfl, (gLW gX8_lengthWith_Jx4a65c_get_915e3), rfl, rfl, (by decide +kernel), ⟨(Nat.le_of_ble_eq_true rfl), (Nat.le_of_ble_eq_true rfl)⟩⟩ h3 rfl rfl (Nat.le_of_ble_eq_true rfl) (Nat.le_of_ble_eq_true rfl) (Nat.le_of_ble_eq_true rfl) rfl dX8_lengthWith_34 (fun v34 M35 hD36 hp37 => ?_)
  obtain ⟨hp37a, hp37b⟩ := hp37
  subst hp37a
  subst hp37b
  refine m_cast S (C := "java/util/ArrayList") h8 rfl (by decide +kernel) dX8_lengthWith_37 ?_
  refine m_cVi S (n1 := 0) (rest := [.ref mo]) (r_Jx4a65c_size_8abf5 X.l G X.A M25 h8) ⟨_, _, _, _, rfl, (gLW gX8_lengthWith_Jx4a65c_size_8abf5), rfl, rfl, (by decide +kernel), ⟨(Nat.le_of_ble_eq_true rfl), (Nat.le_of_ble_eq_true rfl)⟩⟩ h8 rfl rfl (Nat.le_of_ble_eq_true rfl) (Nat.le_of_ble_eq_true rfl) (Nat.le_of_ble_eq_true rfl) rfl dX8_lengthWith_40 (fun v38 M39 hD40 hp41 => ?_)
  obtain ⟨hp41a, hp41b⟩ := hp41
  subst hp41a
  subst hp41b
  refine j_bipush F0 40 dX8_lengthWith_43 (by decide) ?_
  refine j_icmp_ne F0 52 dX8_lengthWith_45 (by decide) (fun _ => ?_) (fun h9 => absurd h9 (by decide))
  refine j_iconst F0 0 dX8_lengthWith_52 (by decide) ?_
  refine j_iconst F0 3 dX8_lengthWith_53 (by decide) ?_
  refine m_cVi S (n1 := 2) (rest := []) (r_X8_refuse X.l G X.A M25 (c := False) 3 (by decide) h33) ⟨_, _, _, _, rfl, (gLW gX8_lengthWith_X8_refuse), rfl, rfl, (by decide +kernel), ⟨(Nat.le_of_ble_eq_true rfl), (Nat.le_of_ble_eq_true rfl)⟩⟩ h33 rfl rfl (Nat.le_of_ble_eq_true rfl) (Nat.le_of_ble_eq_true rfl) (Nat.le_of_ble_eq_true rfl) rfl dX8_lengthWith_54 (fun v42 M43 hD44 hp45 => ?_)
  obtain ⟨hp45v, hp45a, hp45k⟩ := hp45
  have hp45v : (0 : Int32) = v42 := hp45v
  subst hp45v
  have n46 : pl1 ∉ [mo] := by
    intro h9; simp only [List.mem_cons, List.not_mem_nil, or_false] at h9
    · exact (In.ne hD26 h3 h33 (by simp)) h9
  have n47 : pe1 ∉ [mo] := by
    intro h9; simp only [List.mem_cons, List.not_mem_nil, or_false] at h9
    · exact (In.ne hD26 h4 h33 (by simp)) h9
  have n48 : ta ∉ [mo] := by
    intro h9; simp only [List.mem_cons, List.not_mem_nil, or_false] at h9
    · exact (In.ne hD26 h5 h33 (by simp)) h9
  have n49 : ka ∉ [mo] := by
    intro h9; simp only [List.mem_cons, List.not_mem_nil, or_false] at h9
    · exact (In.ne hD26 h6 h33 (by simp)) h9
  have n50 : t9 ∉ [mo] := by
    intro h9; simp only [List.mem_cons, List.not_mem_nil, or_false] at h9
    · exact (In.ne hD26 h8 h33 (by simp)) h9
  have h3 := hp45k _ _ n46 h3
  have h4 := hp45k _ _ n47 h4
  have h5 := hp45k _ _ n48 h5
  have h6 := hp45k _ _ n49 h6
  have h8 := hp45k _ _ n50 h8
  have h51 : (mo, (.inr (8, [.int 0, .ref pl1, .ref ka, .ref ta]) : va_E)) ∈ M43 := hp45a
  refine j_if_eq F0 62 dX8_lengthWith_57 (by decide) (fun _ => ?_) (fun h9 => absurd (by decide) h9)
  refine m_new S (C := RJx4a65c) (T := TJx4a65c) (N := 3) (ci := 10) (fs := [.int 0, .null, .int 0]) (by decide +kernel) tyJx4a65c tyJx4a65c_ok (by decide +kernel) (by decide +kernel) (by decide +kernel) rfl (fun j hj => by rcases (show j = 0 ∨ j = 1 ∨ j = 2 by omega) with rfl | rfl | rfl <;> rfl) (Nat.le_of_ble_eq_true rfl) (Nat.le_of_ble_eq_true rfl) dX8_lengthWith_62 (fun q52 M54 hD55 hN53 => ?_)
  have n56 := (hN53.2 _ _ h3).2
  have h3 := (hN53.2 _ _ h3).1
  have n57 := (hN53.2 _ _ h4).2
  have h4 := (hN53.2 _ _ h4).1
  have n58 := (hN53.2 _ _ h5).2
  have h5 := (hN53.2 _ _ h5).1
  have n59 := (hN53.2 _ _ h6).2
  have h6 := (hN53.2 _ _ h6).1
  have n60 := (hN53.2 _ _ h8).2
  have h8 := (hN53.2 _ _ h8).1
  have n61 := (hN53.2 _ _ h51).2
  have h51 := (hN53.2 _ _ h51).1
  have h62 := hN53.1
  have F63 := S.1.at 1 3 (Nat.le_of_ble_eq_true rfl) (Nat.le_of_ble_eq_true rfl)
  refine j_dup F63 dX8_lengthWith_65 rfl ?_
  refine j_aload_n F63 dX8_lengthWith_66 rfl ?_
  refine m_get S (C := RX8) (T := TX8) (N := 4) (by decide +kernel) h51 rfl (v := .ref pl1) 1 (by decide) (by decide +kernel) (fun _ h9 => h9) rfl dX8_lengthWith_67 ?_
  refine j_iload_n F63 dX8_lengthWith_70 rfl ?_
  refine m_cVr S (n1 := 1) (rest := [.ref q52, .ref q52]) (r_Jx4a65c_get_915e3 X.l G X.A M54 (nI p) t9 (nI_pos (by omega)) (by rw [show (10 : Int32) = nI 10 from rfl, nI_ltI (by omega) (by omega)]; exact hp) (vp_in_nI hp (by decide)) (by rw [nI_clamp (by omega)]; exact ht9) h3 h4) ⟨_, _, _, _, rfl, (gLW gX8_lengthWith_Jx4a65c_get_915e3), rfl, rfl, (by decide +kernel), ⟨(Nat.le_of_ble_eq_true rfl), (Nat.le_of_ble_eq_true rfl)⟩⟩ h3 rfl rfl (Nat.le_of_ble_eq_true rfl) (Nat.le_of_ble_eq_true rfl) (Nat.le_of_ble_eq_true rfl) rfl dX8_lengthWith_71 (fun v64 M65 hD66 hp67 => ?_)
  obtain ⟨hp67a, hp67b⟩ := hp67
  subst hp67a
  subst hp67b
  refine m_castY S h8 rfl (by decide +kernel) (S.2.1.2.2.2.2.2.1 (sAL, "java/util/Collection") (by simp)) dX8_lengthWith_74 ?_
  refine m_cIv S (n1 := 1) (rest := [.ref q52]) (r_Jx4a65c_init_4bcb3 X.l G X.A M54 h62 h8) ⟨_, _, _, rfl, (gLW gX8_lengthWith_Jx4a65c_init_4bcb3), rfl, rfl, (by decide +kernel), (by decide +kernel), (by decide +kernel), rfl, (by decide +kernel), ⟨(Nat.le_of_ble_eq_true rfl), (Nat.le_of_ble_eq_true rfl)⟩⟩ rfl (Nat.le_of_ble_eq_true rfl) (Nat.le_of_ble_eq_true rfl) (Nat.le_of_ble_eq_true rfl) rfl dX8_lengthWith_77 (fun M69 hD70 hp71 => ?_)
  obtain ⟨hp71a, hp71k⟩ := hp71
  have n72 : pl1 ∉ [q52] := by
    intro h9; simp only [List.mem_cons, List.not_mem_nil, or_false] at h9
    · exact n56 h9
  have n73 : pe1 ∉ [q52] := by
    intro h9; simp only [List.mem_cons, List.not_mem_nil, or_false] at h9
    · exact n57 h9
  have n74 : ta ∉ [q52] := by
    intro h9; simp only [List.mem_cons, List.not_mem_nil, or_false] at h9
    · exact n58 h9
  have n75 : ka ∉ [q52] := by
    intro h9; simp only [List.mem_cons, List.not_mem_nil, or_false] at h9
    · exact n59 h9
  have n76 : t9 ∉ [q52] := by
    intro h9; simp only [List.mem_cons, List.not_mem_nil, or_false] at h9
    · exact n60 h9
  have n77 : mo ∉ [q52] := by
    intro h9; simp only [List.mem_cons, List.not_mem_nil, or_false] at h9
    · exact n61 h9
  have h3 := hp71k _ _ n72 h3
  have h4 := hp71k _ _ n73 h4
  have h5 := hp71k _ _ n74 h5
  have h6 := hp71k _ _ n75 h6
  have h8 := hp71k _ _ n76 h8
  have h51 := hp71k _ _ n77 h51
  have h78 : (q52, (.inr (10, [.int 0, .ref G.e1, .int 0]) : va_E)) ∈ M69 := hp71a
  have F79 := S.1.at 2 3 (Nat.le_of_ble_eq_true rfl) (Nat.le_of_ble_eq_true rfl)
  refine j_astore_n F79 [some (.ref mo), some (.int (nI p)), some (.int (vb_c k9)), some (.ref q52), none] dX8_lengthWith_80 (by decide) rfl rfl ?_
  refine j_aload_n F79 dX8_lengthWith_81 rfl ?_
  refine j_iload_n F79 dX8_lengthWith_82 rfl ?_
  refine m_cSr S (n1 := 1) (rest := [.ref q52]) (r_J6_valueOf_2dffe X.l G X.A M69 k9 hk9) ⟨_, _, _, _, rfl, (gLW gX8_lengthWith_J6_valueOf_2dffe), rfl, rfl, (by decide +kernel), ⟨(Nat.le_of_ble_eq_true rfl), (Nat.le_of_ble_eq_true rfl)⟩⟩ rfl (Nat.le_of_ble_eq_true rfl) (Nat.le_of_ble_eq_true rfl) (Nat.le_of_ble_eq_true rfl) rfl dX8_lengthWith_83 (fun v80 M81 hD82 hp83 => ?_)
  obtain ⟨hp83a, hp83b⟩ := hp83
  subst hp83a
  subst hp83b
  refine m_cVi S (n1 := 1) (rest := []) (r_Jx4a65c_add_9ea2dE X.l G X.A M69 (G.bx k9) (Or.inr (Or.inr ⟨k9, hk9, rfl⟩)) (fun c => bx_out S hk9 (c ▸ In.a hD70 h78)) h78) ⟨_, _, _, _, rfl, (gLW gX8_lengthWith_Jx4a65c_add_9ea2d), rfl, rfl, (by decide +kernel), ⟨(Nat.le_of_ble_eq_true rfl), (Nat.le_of_ble_eq_true rfl)⟩⟩ h78 rfl rfl (Nat.le_of_ble_eq_true rfl) (Nat.le_of_ble_eq_true rfl) (Nat.le_of_ble_eq_true rfl) rfl dX8_lengthWith_86 (fun v84 M85 hD86 hp87 => ?_)
  obtain ⟨hp87v, hp87⟩ := hp87
  subst hp87v
  rw [show (0 : Int32) + 1 = 1 from by decide] at hp87
  obtain ⟨q88, hp87a, hp87b, hp87k, hp87f⟩ := hp87
  have n89 := hp87f _ _ h3
  have n90 := hp87f _ _ h4
  have n91 := hp87f _ _ h5
  have n92 := hp87f _ _ h6
  have n93 := hp87f _ _ h8
  have n94 := hp87f _ _ h51
  have n95 := hp87f _ _ h78
  have n96 : pl1 ∉ [q52] := by
    intro h9; simp only [List.mem_cons, List.not_mem_nil, or_false] at h9
    · exact n56 h9
  have n97 : pe1 ∉ [q52] := by
    intro h9; simp only [List.mem_cons, List.not_mem_nil, or_false] at h9
    · exact n57 h9
  have n98 : ta ∉ [q52] := by
    intro h9; simp only [List.mem_cons, List.not_mem_nil, or_false] at h9
    · exact n58 h9
  have n99 : ka ∉ [q52] := by
    intro h9; simp only [List.mem_cons, List.not_mem_nil, or_false] at h9
    · exact n59 h9
  have n100 : t9 ∉ [q52] := by
    intro h9; simp only [List.mem_cons, List.not_mem_nil, or_false] at h9
    · exact n60 h9
  have n101 : mo ∉ [q52] := by
    intro h9; simp only [List.mem_cons, List.not_mem_nil, or_false] at h9
    · exact n61 h9
  have h3 := hp87k _ _ n96 h3
  have h4 := hp87k _ _ n97 h4
  have h5 := hp87k _ _ n98 h5
  have h6 := hp87k _ _ n99 h6
  have h8 := hp87k _ _ n100 h8
  have h51 := hp87k _ _ n101 h51
  have h102 : (q52, (.inr (10, [.int 1, .ref q88, .int 1]) : va_E)) ∈ M85 := hp87a
  have h103 : (q88, (.inl (G.cO, 1, .inr (.inr (.inr (.inr (va_up (fun _ => none) 0 (some (G.bx k9))))))) : va_E)) ∈ M85 := hp87b
  have F104 := S.1.at 3 4 (Nat.le_of_ble_eq_true rfl) (Nat.le_of_ble_eq_true rfl)
  refine j_pop F104 dX8_lengthWith_89 rfl ?_
  refine m_new S (C := RX7) (T := TX7) (N := 5) (ci := 7) (fs := [.int 0, .null, .int 0, .int 0, .null]) (by decide +kernel) tyX7 tyX7_ok (by decide +kernel) (by decide +kernel) (by decide +kernel) rfl (fun j hj => by rcases (show j = 0 ∨ j = 1 ∨ j = 2 ∨ j = 3 ∨ j = 4 by omega) with rfl | rfl | rfl | rfl | rfl <;> rfl) (Nat.le_of_ble_eq_true rfl) (Nat.le_of_ble_eq_true rfl) dX8_lengthWith_90 (fun q105 M107 hD108 hN106 => ?_)
  have n109 := (hN106.2 _ _ h3).2
  have h3 := (hN106.2 _ _ h3).1
  have n110 := (hN106.2 _ _ h4).2
  have h4 := (hN106.2 _ _ h4).1
  have n111 := (hN106.2 _ _ h5).2
  have h5 := (hN106.2 _ _ h5).1
  have n112 := (hN106.2 _ _ h6).2
  have h6 := (hN106.2 _ _ h6).1
  have n113 := (hN106.2 _ _ h8).2
  have h8 := (hN106.2 _ _ h8).1
  have n114 := (hN106.2 _ _ h51).2
  have h51 := (hN106.2 _ _ h51).1
  have n115 := (hN106.2 _ _ h102).2
  have h102 := (hN106.2 _ _ h102).1
  have n116 := (hN106.2 _ _ h103).2
  have h103 := (hN106.2 _ _ h103).1
  have h117 := hN106.1
  have F118 := S.1.at 4 9 (Nat.le_of_ble_eq_true rfl) (Nat.le_of_ble_eq_true rfl)
  refine j_dup F118 dX8_lengthWith_93 rfl ?_
  refine j_aload_n F118 dX8_lengthWith_94 rfl ?_
  refine j_iload_n F118 dX8_lengthWith_95 rfl ?_
  refine j_aload_n F118 dX8_lengthWith_96 rfl ?_
  refine m_cIv S (n1 := 3) (rest := [.ref q105]) (r_X7_initD X.l G X.A M107 p k9 hk9 j hj1 hj2 hv h117 h102 h103) ⟨_, _, _, rfl, (gLI kB_X7_initW), rfl, rfl, (by decide +kernel), (by decide +kernel), (by decide +kernel), rfl, (by decide +kernel), ⟨(Nat.le_of_ble_eq_true rfl), (Nat.le_of_ble_eq_true rfl)⟩⟩ rfl (Nat.le_of_ble_eq_true rfl) (Nat.le_of_ble_eq_true rfl) (Nat.le_of_ble_eq_true rfl) rfl dX8_lengthWith_97 (fun M120 hD121 hp122 => ?_)
  obtain ⟨g123, hp122a, hp122k⟩ := hp122
  have n124 : pl1 ∉ [q105] := by
    intro h9; simp only [List.mem_cons, List.not_mem_nil, or_false] at h9
    · exact n109 h9
  have n125 : pe1 ∉ [q105] := by
    intro h9; simp only [List.mem_cons, List.not_mem_nil, or_false] at h9
    · exact n110 h9
  have n126 : ta ∉ [q105] := by
    intro h9; simp only [List.mem_cons, List.not_mem_nil, or_false] at h9
    · exact n111 h9
  have n127 : ka ∉ [q105] := by
    intro h9; simp only [List.mem_cons, List.not_mem_nil, or_false] at h9
    · exact n112 h9
  have n128 : t9 ∉ [q105] := by
    intro h9; simp only [List.mem_cons, List.not_mem_nil, or_false] at h9
    · exact n113 h9
  have n129 : mo ∉ [q105] := by
    intro h9; simp only [List.mem_cons, List.not_mem_nil, or_false] at h9
    · exact n114 h9
  have n130 : q52 ∉ [q105] := by
    intro h9; simp only [List.mem_cons, List.not_mem_nil, or_false] at h9
    · exact n115 h9
  have n131 : q88 ∉ [q105] := by
    intro h9; simp only [List.mem_cons, List.not_mem_nil, or_false] at h9
    · exact n116 h9
  have h3 := hp122k _ _ n124 h3
  have h4 := hp122k _ _ n125 h4
  have h5 := hp122k _ _ n126 h5
  have h6 := hp122k _ _ n127 h6
  have h8 := hp122k _ _ n128 h8
  have h51 := hp122k _ _ n129 h51
  have h102 := hp122k _ _ n130 h102
  have h103 := hp122k _ _ n131 h103
  have h132 : (q105, (.inr (7, [.int (nI p), .ref g123, .int 1, .int 0, .ref mo]) : va_E)) ∈ M120 := hp122a
  have F133 := S.1.at 8 26 (Nat.le_of_ble_eq_true rfl) (Nat.le_of_ble_eq_true rfl)
  refine j_astore F133 [some (.ref mo), some (.int (nI p)), some (.int (vb_c k9)), some (.ref q52), some (.ref q105)] dX8_lengthWith_100 (by decide) rfl rfl ?_
  refine j_aload F133 dX8_lengthWith_102 rfl ?_
  refine m_get S (C := RX7) (T := TX7) (N := 5) (by decide +kernel) h132 rfl (v := .int 1) 2 (by decide) (by decide +kernel) (fun _ h9 => h9) rfl dX8_lengthWith_104 ?_
  refine j_if_le F133 114 dX8_lengthWith_107 (by decide) (fun h9 => absurd h9 (by decide)) (fun _ => ?_)
  refine j_iconst F133 (-1) dX8_lengthWith_110 (by decide) ?_
  refine j_goto F133 120 dX8_lengthWith_111 (by decide) ?_
  have hKp : Kp M [mo, ka] M120 := by
    intro b x hb hx
    have n134 : b ∉ [mo] := by
      intro h9; simp only [List.mem_cons, List.not_mem_nil, or_false] at h9
      · exact (fun c => hb (by rw [c]; simp)) h9
    have hx := hp12k b x n134 hx
    have n135 : b ∉ [mo] := by
      intro h9; simp only [List.mem_cons, List.not_mem_nil, or_false] at h9
      · exact (fun c => hb (by rw [c]; simp)) h9
    have hx := hp27k b x n135 hx
    have n136 : b ∉ [mo] := by
      intro h9; simp only [List.mem_cons, List.not_mem_nil, or_false] at h9
      · exact (fun c => hb (by rw [c]; simp)) h9
    have hx := hp45k b x n136 hx
    have n137 := (hN53.2 _ _ hx).2
    have hx := (hN53.2 _ _ hx).1
    have n138 : b ∉ [q52] := by
      intro h9; simp only [List.mem_cons, List.not_mem_nil, or_false] at h9
      · exact n137 h9
    have hx := hp71k b x n138 hx
    have n139 := hp87f _ _ hx
    have n140 : b ∉ [q52] := by
      intro h9; simp only [List.mem_cons, List.not_mem_nil, or_false] at h9
      · exact n137 h9
    have hx := hp87k b x n140 hx
    have n141 := (hN106.2 _ _ hx).2
    have hx := (hN106.2 _ _ hx).1
    have n142 : b ∉ [q105] := by
      intro h9; simp only [List.mem_cons, List.not_mem_nil, or_false] at h9
      · exact n141 h9
    have hx := hp122k b x n142 hx
    exact hx
  have hKL : KL G M M120 := fun o n f ho => hKp _ _ (by
    intro h9; simp only [List.mem_cons, List.not_mem_nil, or_false] at h9
    rcases h9 with h9 | h9
    · exact In.ne hD ho o1_0 (by simp) h9
    · exact In.ne hD ho o1_6 (by simp) h9
    ) ho
  exact m_ireturn S hRT rfl hQ (Nat.le_of_ble_eq_true rfl) (Nat.le_of_ble_eq_true rfl) dX8_lengthWith_120 rfl ⟨_, _, _, h51, hKL, rfl⟩

set_option maxRecDepth 100000 in
set_option maxHeartbeats 4000000 in
theorem r_X8_lengthWithN (l : Launch) (G : RG) (A : Nat → Prop) (M : Wl) {mo ka ta : Nat} {tv : Int32} (p : Nat) (hp : p < 10) (k9 : Nat) (hk9 : k9 < 256) (hy : TokP (vb_c k9)) (j : Nat) (hp4 : 4 ≤ p) (hpj : p ≤ j - 40) (hj1 : 44 ≤ j) (hj2 : j ≤ 49) (hv : vb_c k9 = nI j) (hM : Mo G mo ka ta tv M) : Kr l G A yX8_lengthWith wbX8_lengthWith { frames := 7, cells := 8, slots := 26, locals := 191 } M [.ref mo, .int (nI p), .int (vb_c k9)] (Gi G A (fun v N => ∃ pl k9 t9 : Nat, (mo, (.inr (8, [.int 0, .ref pl, .ref k9, .ref t9]) : va_E)) ∈ N ∧ KL G M N ∧ ((-1) : Int32) = v)) 8 26 := by
  refine Kr.of (cc := cX8_lengthWith) (maxL := 5) (ret := (some .int)) (by decide) rfl (Nat.le_of_ble_eq_true rfl) ?_
  intro X hXl S hRT hIN hXA hQ hD
  subst hXl
  subst hXA
  show J (X.at 0 0) 5 (PL G.Z X.A M) 0 [some (.ref mo), some (.int (nI p)), some (.int (vb_c k9)), none, none] []
  have F0 := S.1.at 0 0 (Nat.le_of_ble_eq_true rfl) (Nat.le_of_ble_eq_true rfl)
  have hOR := S.2.1.or
  obtain ⟨pl1, pe1, f1, kn1, tf1, o1_0, o1_1, o1_2, o1_3, o1_4, o1_5, o1_6, o1_7⟩ := id hM
  have h2 : (mo, (.inr (8, [.int tv, .ref pl1, .ref ka, .ref ta]) : va_E)) ∈ M := o1_0
  have h3 : (pl1, (.inr (10, [.int 10, .ref pe1, .int 10]) : va_E)) ∈ M := o1_1
  have h4 : (pe1, (.inl (G.cO, 10, .inr (.inr (.inr (.inr f1)))) : va_E)) ∈ M := o1_2
  have h5 : (ta, (.inl (G.Z.cI, 8, .inl tf1) : va_E)) ∈ M := o1_4
  have h6 : (ka, (.inl (G.cR, 10, .inr (.inr (.inr (.inr kn1)))) : va_E)) ∈ M := o1_6
  have hDo7 := hD
  obtain ⟨t9, ht9, ht8⟩ := o1_3 p hp
  have h8 : (t9, (.inr (10, [.int 0, .ref G.e0, .int 0]) : va_E)) ∈ M := ht8
  refine j_aload_n F0 dX8_lengthWith_0 rfl ?_
  refine j_iload_n F0 dX8_lengthWith_1 rfl ?_
  refine m_cVi S (n1 := 1) (rest := []) (r_X8_isNoProgram X.l G X.A M (nI p) h2) ⟨_, _, _, _, rfl, (gLW gX8_lengthWith_X8_isNoProgram), rfl, rfl, (by decide +kernel), ⟨(Nat.le_of_ble_eq_true rfl), (Nat.le_of_ble_eq_true rfl)⟩⟩ h2 rfl rfl (Nat.le_of_ble_eq_true rfl) (Nat.le_of_ble_eq_true rfl) (Nat.le_of_ble_eq_true rfl) rfl dX8_lengthWith_2 (fun v9 M10 hD11 hp12 => ?_)
  obtain ⟨hp12v, hp12a, hp12k⟩ := hp12
  subst hp12v
  have n13 : pl1 ∉ [mo] := by
    intro h9; simp only [List.mem_cons, List.not_mem_nil, or_false] at h9
    · exact (In.ne hD h3 h2 (by simp)) h9
  have n14 : pe1 ∉ [mo] := by
    intro h9; simp only [List.mem_cons, List.not_mem_nil, or_false] at h9
    · exact (In.ne hD h4 h2 (by simp)) h9
  have n15 : ta ∉ [mo] := by
    intro h9; simp only [List.mem_cons, List.not_mem_nil, or_false] at h9
    · exact (In.ne hD h5 h2 (by simp)) h9
  have n16 : ka ∉ [mo] := by
    intro h9; simp only [List.mem_cons, List.not_mem_nil, or_false] at h9
    · exact (In.ne hD h6 h2 (by simp)) h9
  have n17 : t9 ∉ [mo] := by
    intro h9; simp only [List.mem_cons, List.not_mem_nil, or_false] at h9
    · exact (In.ne hD h8 h2 (by simp)) h9
  have h3 := hp12k _ _ n13 h3
  have h4 := hp12k _ _ n14 h4
  have h5 := hp12k _ _ n15 h5
  have h6 := hp12k _ _ n16 h6
  have h8 := hp12k _ _ n17 h8
  have h18 : (mo, (.inr (8, [.int (if ProP (nI p) then (1 : Int32) else 0), .ref pl1, .ref ka, .ref ta]) : va_E)) ∈ M10 := hp12a
  refine j_if_ne F0 60 dX8_lengthWith_5 (by decide) (fun h9 => absurd (if0.mpr (pro_ok hp)) h9) (fun _ => ?_)
  have h19 : (mo, (.inr (8, [.int 0, .ref pl1, .ref ka, .ref ta]) : va_E)) ∈ M10 := by have h9 := h18; rw [if_neg (pro_ok hp)] at h9; exact h9
  refine j_aload_n F0 dX8_lengthWith_8 rfl ?_
  refine j_iload_n F0 dX8_lengthWith_9 rfl ?_
  refine m_cSi S (n1 := 1) (rest := [.ref mo]) (r_X8_isToken X.l G X.A M10 (vb_c k9)) ⟨_, _, _, _, rfl, (gLW gX8_lengthWith_X8_isToken), rfl, rfl, (by decide +kernel), ⟨(Nat.le_of_ble_eq_true rfl), (Nat.le_of_ble_eq_true rfl)⟩⟩ rfl (Nat.le_of_ble_eq_true rfl) (Nat.le_of_ble_eq_true rfl) (Nat.le_of_ble_eq_true rfl) rfl dX8_lengthWith_10 (fun v20 M21 hD22 hp23 => ?_)
  obtain ⟨hp23a, hp23b⟩ := hp23
  subst hp23a
  subst hp23b
  refine j_if_ne F0 20 dX8_lengthWith_13 (by decide) (fun _ => ?_) (fun h9 => absurd h9 (if1.mpr hy))
  refine j_iconst F0 0 dX8_lengthWith_20 (by decide) ?_
  refine j_iconst F0 2 dX8_lengthWith_21 (by decide) ?_
  refine m_cVi S (n1 := 2) (rest := []) (r_X8_refuse X.l G X.A M10 (c := False) 2 (by decide) h19) ⟨_, _, _, _, rfl, (gLW gX8_lengthWith_X8_refuse), rfl, rfl, (by decide +kernel), ⟨(Nat.le_of_ble_eq_true rfl), (Nat.le_of_ble_eq_true rfl)⟩⟩ h19 rfl rfl (Nat.le_of_ble_eq_true rfl) (Nat.le_of_ble_eq_true rfl) (Nat.le_of_ble_eq_true rfl) rfl dX8_lengthWith_22 (fun v24 M25 hD26 hp27 => ?_)
  obtain ⟨hp27v, hp27a, hp27k⟩ := hp27
  have hp27v : (0 : Int32) = v24 := hp27v
  subst hp27v
  have n28 : pl1 ∉ [mo] := by
    intro h9; simp only [List.mem_cons, List.not_mem_nil, or_false] at h9
    · exact (In.ne hD11 h3 h19 (by simp)) h9
  have n29 : pe1 ∉ [mo] := by
    intro h9; simp only [List.mem_cons, List.not_mem_nil, or_false] at h9
    · exact (In.ne hD11 h4 h19 (by simp)) h9
  have n30 : ta ∉ [mo] := by
    intro h9; simp only [List.mem_cons, List.not_mem_nil, or_false] at h9
    · exact (In.ne hD11 h5 h19 (by simp)) h9
  have n31 : ka ∉ [mo] := by
    intro h9; simp only [List.mem_cons, List.not_mem_nil, or_false] at h9
    · exact (In.ne hD11 h6 h19 (by simp)) h9
  have n32 : t9 ∉ [mo] := by
    intro h9; simp only [List.mem_cons, List.not_mem_nil, or_false] at h9
    · exact (In.ne hD11 h8 h19 (by simp)) h9
  have h3 := hp27k _ _ n28 h3
  have h4 := hp27k _ _ n29 h4
  have h5 := hp27k _ _ n30 h5
  have h6 := hp27k _ _ n31 h6
  have h8 := hp27k _ _ n32 h8
  have h33 : (mo, (.inr (8, [.int 0, .ref pl1, .ref ka, .ref ta]) : va_E)) ∈ M25 := hp27a
  refine j_if_ne F0 60 dX8_lengthWith_25 (by decide) (fun h9 => absurd (by decide) h9) (fun _ => ?_)
  refine j_aload_n F0 dX8_lengthWith_28 rfl ?_
  refine j_aload_n F0 dX8_lengthWith_29 rfl ?_
  refine m_get S (C := RX8) (T := TX8) (N := 4) (by decide +kernel) h33 rfl (v := .ref pl1) 1 (by decide) (by decide +kernel) (fun _ h9 => h9) rfl dX8_lengthWith_30 ?_
  refine j_iload_n F0 dX8_lengthWith_33 rfl ?_
  refine m_cVr S (n1 := 1) (rest := [.ref mo]) (r_Jx4a65c_get_915e3 X.l G X.A M25 (nI p) t9 (nI_pos (by omega)) (by rw [show (10 : Int32) = nI 10 from rfl, nI_ltI (by omega) (by omega)]; exact hp) (vp_in_nI hp (by decide)) (by rw [nI_clamp (by omega)]; exact ht9) h3 h4) ⟨_, _, _, _, rfl, (gLW gX8_lengthWith_Jx4a65c_get_915e3), rfl, rfl, (by decide +kernel), ⟨(Nat.le_of_ble_eq_true rfl), (Nat.le_of_ble_eq_true rfl)⟩⟩ h3 rfl rfl (Nat.le_of_ble_eq_true rfl) (Nat.le_of_ble_eq_true rfl) (Nat.le_of_ble_eq_true rfl) rfl dX8_lengthWith_34 (fun v34 M35 hD36 hp37 => ?_)
  obtain ⟨hp37a, hp37b⟩ := hp37
  subst hp37a
  subst hp37b
  refine m_cast S (C := "java/util/ArrayList") h8 rfl (by decide +kernel) dX8_lengthWith_37 ?_
  refine m_cVi S (n1 := 0) (rest := [.ref mo]) (r_Jx4a65c_size_8abf5 X.l G X.A M25 h8) ⟨_, _, _, _, rfl, (gLW gX8_lengthWith_Jx4a65c_size_8abf5), rfl, rfl, (by decide +kernel), ⟨(Nat.le_of_ble_eq_true rfl), (Nat.le_of_ble_eq_true rfl)⟩⟩ h8 rfl rfl (Nat.le_of_ble_eq_true rfl) (Nat.le_of_ble_eq_true rfl) (Nat.le_of_ble_eq_true rfl) rfl dX8_lengthWith_40 (fun v38 M39 hD40 hp41 => ?_)
  obtain ⟨hp41a, hp41b⟩ := hp41
  subst hp41a
  subst hp41b
  refine j_bipush F0 40 dX8_lengthWith_43 (by decide) ?_
  refine j_icmp_ne F0 52 dX8_lengthWith_45 (by decide) (fun _ => ?_) (fun h9 => absurd h9 (by decide))
  refine j_iconst F0 0 dX8_lengthWith_52 (by decide) ?_
  refine j_iconst F0 3 dX8_lengthWith_53 (by decide) ?_
  refine m_cVi S (n1 := 2) (rest := []) (r_X8_refuse X.l G X.A M25 (c := False) 3 (by decide) h33) ⟨_, _, _, _, rfl, (gLW gX8_lengthWith_X8_refuse), rfl, rfl, (by decide +kernel), ⟨(Nat.le_of_ble_eq_true rfl), (Nat.le_of_ble_eq_true rfl)⟩⟩ h33 rfl rfl (Nat.le_of_ble_eq_true rfl) (Nat.le_of_ble_eq_true rfl) (Nat.le_of_ble_eq_true rfl) rfl dX8_lengthWith_54 (fun v42 M43 hD44 hp45 => ?_)
  obtain ⟨hp45v, hp45a, hp45k⟩ := hp45
  have hp45v : (0 : Int32) = v42 := hp45v
  subst hp45v
  have n46 : pl1 ∉ [mo] := by
    intro h9; simp only [List.mem_cons, List.not_mem_nil, or_false] at h9
    · exact (In.ne hD26 h3 h33 (by simp)) h9
  have n47 : pe1 ∉ [mo] := by
    intro h9; simp only [List.mem_cons, List.not_mem_nil, or_false] at h9
    · exact (In.ne hD26 h4 h33 (by simp)) h9
  have n48 : ta ∉ [mo] := by
    intro h9; simp only [List.mem_cons, List.not_mem_nil, or_false] at h9
    · exact (In.ne hD26 h5 h33 (by simp)) h9
  have n49 : ka ∉ [mo] := by
    intro h9; simp only [List.mem_cons, List.not_mem_nil, or_false] at h9
    · exact (In.ne hD26 h6 h33 (by simp)) h9
  have n50 : t9 ∉ [mo] := by
    intro h9; simp only [List.mem_cons, List.not_mem_nil, or_false] at h9
    · exact (In.ne hD26 h8 h33 (by simp)) h9
  have h3 := hp45k _ _ n46 h3
  have h4 := hp45k _ _ n47 h4
  have h5 := hp45k _ _ n48 h5
  have h6 := hp45k _ _ n49 h6
  have h8 := hp45k _ _ n50 h8
  have h51 : (mo, (.inr (8, [.int 0, .ref pl1, .ref ka, .ref ta]) : va_E)) ∈ M43 := hp45a
  refine j_if_eq F0 62 dX8_lengthWith_57 (by decide) (fun _ => ?_) (fun h9 => absurd (by decide) h9)
  refine m_new S (C := RJx4a65c) (T := TJx4a65c) (N := 3) (ci := 10) (fs := [.int 0, .null, .int 0]) (by decide +kernel) tyJx4a65c tyJx4a65c_ok (by decide +kernel) (by decide +kernel) (by decide +kernel) rfl (fun j hj => by rcases (show j = 0 ∨ j = 1 ∨ j = 2 by omega) with rfl | rfl | rfl <;> rfl) (Nat.le_of_ble_eq_true rfl) (Nat.le_of_ble_eq_true rfl) dX8_lengthWith_62 (fun q52 M54 hD55 hN53 => ?_)
  have n56 := (hN53.2 _ _ h3).2
  have h3 := (hN53.2 _ _ h3).1
  have n57 := (hN53.2 _ _ h4).2
  have h4 := (hN53.2 _ _ h4).1
  have n58 := (hN53.2 _ _ h5).2
  have h5 := (hN53.2 _ _ h5).1
  have n59 := (hN53.2 _ _ h6).2
  have h6 := (hN53.2 _ _ h6).1
  have n60 := (hN53.2 _ _ h8).2
  have h8 := (hN53.2 _ _ h8).1
  have n61 := (hN53.2 _ _ h51).2
  have h51 := (hN53.2 _ _ h51).1
  have h62 := hN53.1
  have F63 := S.1.at 1 3 (Nat.le_of_ble_eq_true rfl) (Nat.le_of_ble_eq_true rfl)
  refine j_dup F63 dX8_lengthWith_65 rfl ?_
  refine j_aload_n F63 dX8_lengthWith_66 rfl ?_
  refine m_get S (C := RX8) (T := TX8) (N := 4) (by decide +kernel) h51 rfl (v := .ref pl1) 1 (by decide) (by decide +kernel) (fun _ h9 => h9) rfl dX8_lengthWith_67 ?_
  refine j_iload_n F63 dX8_lengthWith_70 rfl ?_
  refine m_cVr S (n1 := 1) (rest := [.ref q52, .ref q52]) (r_Jx4a65c_get_915e3 X.l G X.A M54 (nI p) t9 (nI_pos (by omega)) (by rw [show (10 : Int32) = nI 10 from rfl, nI_ltI (by omega) (by omega)]; exact hp) (vp_in_nI hp (by decide)) (by rw [nI_clamp (by omega)]; exact ht9) h3 h4) ⟨_, _, _, _, rfl, (gLW gX8_lengthWith_Jx4a65c_get_915e3), rfl, rfl, (by decide +kernel), ⟨(Nat.le_of_ble_eq_true rfl), (Nat.le_of_ble_eq_true rfl)⟩⟩ h3 rfl rfl (Nat.le_of_ble_eq_true rfl) (Nat.le_of_ble_eq_true rfl) (Nat.le_of_ble_eq_true rfl) rfl dX8_lengthWith_71 (fun v64 M65 hD66 hp67 => ?_)
  obtain ⟨hp67a, hp67b⟩ := hp67
  subst hp67a
  subst hp67b
  refine m_castY S h8 rfl (by decide +kernel) (S.2.1.2.2.2.2.2.1 (sAL, "java/util/Collection") (by simp)) dX8_lengthWith_74 ?_
  refine m_cIv S (n1 := 1) (rest := [.ref q52]) (r_Jx4a65c_init_4bcb3 X.l G X.A M54 h62 h8) ⟨_, _, _, rfl, (gLW gX8_lengthWith_Jx4a65c_init_4bcb3), rfl, rfl, (by decide +kernel), (by decide +kernel), (by decide +kernel), rfl, (by decide +kernel), ⟨(Nat.le_of_ble_eq_true rfl), (Nat.le_of_ble_eq_true rfl)⟩⟩ rfl (Nat.le_of_ble_eq_true rfl) (Nat.le_of_ble_eq_true rfl) (Nat.le_of_ble_eq_true rfl) rfl dX8_lengthWith_77 (fun M69 hD70 hp71 => ?_)
  obtain ⟨hp71a, hp71k⟩ := hp71
  have n72 : pl1 ∉ [q52] := by
    intro h9; simp only [List.mem_cons, List.not_mem_nil, or_false] at h9
    · exact n56 h9
  have n73 : pe1 ∉ [q52] := by
    intro h9; simp only [List.mem_cons, List.not_mem_nil, or_false] at h9
    · exact n57 h9
  have n74 : ta ∉ [q52] := by
    intro h9; simp only [List.mem_cons, List.not_mem_nil, or_false] at h9
    · exact n58 h9
  have n75 : ka ∉ [q52] := by
    intro h9; simp only [List.mem_cons, List.not_mem_nil, or_false] at h9
    · exact n59 h9
  have n76 : t9 ∉ [q52] := by
    intro h9; simp only [List.mem_cons, List.not_mem_nil, or_false] at h9
    · exact n60 h9
  have n77 : mo ∉ [q52] := by
    intro h9; simp only [List.mem_cons, List.not_mem_nil, or_false] at h9
    · exact n61 h9
  have h3 := hp71k _ _ n72 h3
  have h4 := hp71k _ _ n73 h4
  have h5 := hp71k _ _ n74 h5
  have h6 := hp71k _ _ n75 h6
  have h8 := hp71k _ _ n76 h8
  have h51 := hp71k _ _ n77 h51
  have h78 : (q52, (.inr (10, [.int 0, .ref G.e1, .int 0]) : va_E)) ∈ M69 := hp71a
  have F79 := S.1.at 2 3 (Nat.le_of_ble_eq_true rfl) (Nat.le_of_ble_eq_true rfl)
  refine j_astore_n F79 [some (.ref mo), some (.int (nI p)), some (.int (vb_c k9)), some (.ref q52), none] dX8_lengthWith_80 (by decide) rfl rfl ?_
  refine j_aload_n F79 dX8_lengthWith_81 rfl ?_
  refine j_iload_n F79 dX8_lengthWith_82 rfl ?_
  refine m_cSr S (n1 := 1) (rest := [.ref q52]) (r_J6_valueOf_2dffe X.l G X.A M69 k9 hk9) ⟨_, _, _, _, rfl, (gLW gX8_lengthWith_J6_valueOf_2dffe), rfl, rfl, (by decide +kernel), ⟨(Nat.le_of_ble_eq_true rfl), (Nat.le_of_ble_eq_true rfl)⟩⟩ rfl (Nat.le_of_ble_eq_true rfl) (Nat.le_of_ble_eq_true rfl) (Nat.le_of_ble_eq_true rfl) rfl dX8_lengthWith_83 (fun v80 M81 hD82 hp83 => ?_)
  obtain ⟨hp83a, hp83b⟩ := hp83
  subst hp83a
  subst hp83b
  refine m_cVi S (n1 := 1) (rest := []) (r_Jx4a65c_add_9ea2dE X.l G X.A M69 (G.bx k9) (Or.inr (Or.inr ⟨k9, hk9, rfl⟩)) (fun c => bx_out S hk9 (c ▸ In.a hD70 h78)) h78) ⟨_, _, _, _, rfl, (gLW gX8_lengthWith_Jx4a65c_add_9ea2d), rfl, rfl, (by decide +kernel), ⟨(Nat.le_of_ble_eq_true rfl), (Nat.le_of_ble_eq_true rfl)⟩⟩ h78 rfl rfl (Nat.le_of_ble_eq_true rfl) (Nat.le_of_ble_eq_true rfl) (Nat.le_of_ble_eq_true rfl) rfl dX8_lengthWith_86 (fun v84 M85 hD86 hp87 => ?_)
  obtain ⟨hp87v, hp87⟩ := hp87
  subst hp87v
  rw [show (0 : Int32) + 1 = 1 from by decide] at hp87
  obtain ⟨q88, hp87a, hp87b, hp87k, hp87f⟩ := hp87
  have n89 := hp87f _ _ h3
  have n90 := hp87f _ _ h4
  have n91 := hp87f _ _ h5
  have n92 := hp87f _ _ h6
  have n93 := hp87f _ _ h8
  have n94 := hp87f _ _ h51
  have n95 := hp87f _ _ h78
  have n96 : pl1 ∉ [q52] := by
    intro h9; simp only [List.mem_cons, List.not_mem_nil, or_false] at h9
    · exact n56 h9
  have n97 : pe1 ∉ [q52] := by
    intro h9; simp only [List.mem_cons, List.not_mem_nil, or_false] at h9
    · exact n57 h9
  have n98 : ta ∉ [q52] := by
    intro h9; simp only [List.mem_cons, List.not_mem_nil, or_false] at h9
    · exact n58 h9
  have n99 : ka ∉ [q52] := by
    intro h9; simp only [List.mem_cons, List.not_mem_nil, or_false] at h9
    · exact n59 h9
  have n100 : t9 ∉ [q52] := by
    intro h9; simp only [List.mem_cons, List.not_mem_nil, or_false] at h9
    · exact n60 h9
  have n101 : mo ∉ [q52] := by
    intro h9; simp only [List.mem_cons, List.not_mem_nil, or_false] at h9
    · exact n61 h9
  have h3 := hp87k _ _ n96 h3
  have h4 := hp87k _ _ n97 h4
  have h5 := hp87k _ _ n98 h5
  have h6 := hp87k _ _ n99 h6
  have h8 := hp87k _ _ n100 h8
  have h51 := hp87k _ _ n101 h51
  have h102 : (q52, (.inr (10, [.int 1, .ref q88, .int 1]) : va_E)) ∈ M85 := hp87a
  have h103 : (q88, (.inl (G.cO, 1, .inr (.inr (.inr (.inr (va_up (fun _ => none) 0 (some (G.bx k9))))))) : va_E)) ∈ M85 := hp87b
  have F104 := S.1.at 3 4 (Nat.le_of_ble_eq_true rfl) (Nat.le_of_ble_eq_true rfl)
  refine j_pop F104 dX8_lengthWith_89 rfl ?_
  refine m_new S (C := RX7) (T := TX7) (N := 5) (ci := 7) (fs := [.int 0, .null, .int 0, .int 0, .null]) (by decide +kernel) tyX7 tyX7_ok (by decide +kernel) (by decide +kernel) (by decide +kernel) rfl (fun j hj => by rcases (show j = 0 ∨ j = 1 ∨ j = 2 ∨ j = 3 ∨ j = 4 by omega) with rfl | rfl | rfl | rfl | rfl <;> rfl) (Nat.le_of_ble_eq_true rfl) (Nat.le_of_ble_eq_true rfl) dX8_lengthWith_90 (fun q105 M107 hD108 hN106 => ?_)
  have n109 := (hN106.2 _ _ h3).2
  have h3 := (hN106.2 _ _ h3).1
  have n110 := (hN106.2 _ _ h4).2
  have h4 := (hN106.2 _ _ h4).1
  have n111 := (hN106.2 _ _ h5).2
  have h5 := (hN106.2 _ _ h5).1
  have n112 := (hN106.2 _ _ h6).2
  have h6 := (hN106.2 _ _ h6).1
  have n113 := (hN106.2 _ _ h8).2
  have h8 := (hN106.2 _ _ h8).1
  have n114 := (hN106.2 _ _ h51).2
  have h51 := (hN106.2 _ _ h51).1
  have n115 := (hN106.2 _ _ h102).2
  have h102 := (hN106.2 _ _ h102).1
  have n116 := (hN106.2 _ _ h103).2
  have h103 := (hN106.2 _ _ h103).1
  have h117 := hN106.1
  have F118 := S.1.at 4 9 (Nat.le_of_ble_eq_true rfl) (Nat.le_of_ble_eq_true rfl)
  refine j_dup F118 dX8_lengthWith_93 rfl ?_
  refine j_aload_n F118 dX8_lengthWith_94 rfl ?_
  refine j_iload_n F118 dX8_lengthWith_95 rfl ?_
  refine j_aload_n F118 dX8_lengthWith_96 rfl ?_
  refine m_cIv S (n1 := 3) (rest := [.ref q105]) (r_X7_initN X.l G X.A M107 p k9 hk9 j hp4 hp hpj hj1 hj2 hv h117 h102 h103) ⟨_, _, _, rfl, (gLI kB_X7_initW), rfl, rfl, (by decide +kernel), (by decide +kernel), (by decide +kernel), rfl, (by decide +kernel), ⟨(Nat.le_of_ble_eq_true rfl), (Nat.le_of_ble_eq_true rfl)⟩⟩ rfl (Nat.le_of_ble_eq_true rfl) (Nat.le_of_ble_eq_true rfl) (Nat.le_of_ble_eq_true rfl) rfl dX8_lengthWith_97 (fun M120 hD121 hp122 => ?_)
  obtain ⟨g123, hp122a, hp122k⟩ := hp122
  have n124 : pl1 ∉ [q105] := by
    intro h9; simp only [List.mem_cons, List.not_mem_nil, or_false] at h9
    · exact n109 h9
  have n125 : pe1 ∉ [q105] := by
    intro h9; simp only [List.mem_cons, List.not_mem_nil, or_false] at h9
    · exact n110 h9
  have n126 : ta ∉ [q105] := by
    intro h9; simp only [List.mem_cons, List.not_mem_nil, or_false] at h9
    · exact n111 h9
  have n127 : ka ∉ [q105] := by
    intro h9; simp only [List.mem_cons, List.not_mem_nil, or_false] at h9
    · exact n112 h9
  have n128 : t9 ∉ [q105] := by
    intro h9; simp only [List.mem_cons, List.not_mem_nil, or_false] at h9
    · exact n113 h9
  have n129 : mo ∉ [q105] := by
    intro h9; simp only [List.mem_cons, List.not_mem_nil, or_false] at h9
    · exact n114 h9
  have n130 : q52 ∉ [q105] := by
    intro h9; simp only [List.mem_cons, List.not_mem_nil, or_false] at h9
    · exact n115 h9
  have n131 : q88 ∉ [q105] := by
    intro h9; simp only [List.mem_cons, List.not_mem_nil, or_false] at h9
    · exact n116 h9
  have h3 := hp122k _ _ n124 h3
  have h4 := hp122k _ _ n125 h4
  have h5 := hp122k _ _ n126 h5
  have h6 := hp122k _ _ n127 h6
  have h8 := hp122k _ _ n128 h8
  have h51 := hp122k _ _ n129 h51
  have h102 := hp122k _ _ n130 h102
  have h103 := hp122k _ _ n131 h103
  have h132 : (q105, (.inr (7, [.int (nI p), .ref g123, .int 4, .int 0, .ref mo]) : va_E)) ∈ M120 := hp122a
  have F133 := S.1.at 8 26 (Nat.le_of_ble_eq_true rfl) (Nat.le_of_ble_eq_true rfl)
  refine j_astore F133 [some (.ref mo), some (.int (nI p)), some (.int (vb_c k9)), some (.ref q52), some (.ref q105)] dX8_lengthWith_100 (by decide) rfl rfl ?_
  refine j_aload F133 dX8_lengthWith_102 rfl ?_
  refine m_get S (C := RX7) (T := TX7) (N := 5) (by decide +kernel) h132 rfl (v := .int 4) 2 (by decide) (by decide +kernel) (fun _ h9 => h9) rfl dX8_lengthWith_104 ?_
  refine j_if_le F133 114 dX8_lengthWith_107 (by decide) (fun h9 => absurd h9 (by decide)) (fun _ => ?_)
  refine j_iconst F133 (-1) dX8_lengthWith_110 (by decide) ?_
  refine j_goto F133 120 dX8_lengthWith_111 (by decide) ?_
  have hKp : Kp M [mo, ka] M120 := by
    intro b x hb hx
    have n134 : b ∉ [mo] := by
      intro h9; simp only [List.mem_cons, List.not_mem_nil, or_false] at h9
      · exact (fun c => hb (by rw [c]; simp)) h9
    have hx := hp12k b x n134 hx
    have n135 : b ∉ [mo] := by
      intro h9; simp only [List.mem_cons, List.not_mem_nil, or_false] at h9
      · exact (fun c => hb (by rw [c]; simp)) h9
    have hx := hp27k b x n135 hx
    have n136 : b ∉ [mo] := by
      intro h9; simp only [List.mem_cons, List.not_mem_nil, or_false] at h9
      · exact (fun c => hb (by rw [c]; simp)) h9
    have hx := hp45k b x n136 hx
    have n137 := (hN53.2 _ _ hx).2
    have hx := (hN53.2 _ _ hx).1
    have n138 : b ∉ [q52] := by
      intro h9; simp only [List.mem_cons, List.not_mem_nil, or_false] at h9
      · exact n137 h9
    have hx := hp71k b x n138 hx
    have n139 := hp87f _ _ hx
    have n140 : b ∉ [q52] := by
      intro h9; simp only [List.mem_cons, List.not_mem_nil, or_false] at h9
      · exact n137 h9
    have hx := hp87k b x n140 hx
    have n141 := (hN106.2 _ _ hx).2
    have hx := (hN106.2 _ _ hx).1
    have n142 : b ∉ [q105] := by
      intro h9; simp only [List.mem_cons, List.not_mem_nil, or_false] at h9
      · exact n141 h9
    have hx := hp122k b x n142 hx
    exact hx
  have hKL : KL G M M120 := fun o n f ho => hKp _ _ (by
    intro h9; simp only [List.mem_cons, List.not_mem_nil, or_false] at h9
    rcases h9 with h9 | h9
    · exact In.ne hD ho o1_0 (by simp) h9
    · exact In.ne hD ho o1_6 (by simp) h9
    ) ho
  exact m_ireturn S hRT rfl hQ (Nat.le_of_ble_eq_true rfl) (Nat.le_of_ble_eq_true rfl) dX8_lengthWith_120 rfl ⟨_, _, _, h51, hKL, rfl⟩

set_option maxRecDepth 100000 in
set_option maxHeartbeats 4000000 in
theorem r_X8_lengthWithE (l : Launch) (G : RG) (A : Nat → Prop) (M : Wl) {mo ka ta : Nat} {tv : Int32} (p : Nat) (hp : p < 10) (k9 : Nat) (hk9 : k9 < 256) (hy : TokP (vb_c k9)) (j : Nat) (hp4 : p < 4) (hj1 : 44 ≤ j) (hj2 : j ≤ 49) (hv : vb_c k9 = nI j) (hM : Mo G mo ka ta tv M) : Kr l G A yX8_lengthWith wbX8_lengthWith { frames := 10, cells := 19, slots := 58, locals := 220 } M [.ref mo, .int (nI p), .int (vb_c k9)] (Gi G A (fun v N => ∃ pl k9 t9 : Nat, (mo, (.inr (8, [.int 0, .ref pl, .ref k9, .ref t9]) : va_E)) ∈ N ∧ KL G M N ∧ (0 : Int32) = v)) 19 58 := by
  refine Kr.of (cc := cX8_lengthWith) (maxL := 5) (ret := (some .int)) (by decide) rfl (Nat.le_of_ble_eq_true rfl) ?_
  intro X hXl S hRT hIN hXA hQ hD
  subst hXl
  subst hXA
  show J (X.at 0 0) 5 (PL G.Z X.A M) 0 [some (.ref mo), some (.int (nI p)), some (.int (vb_c k9)), none, none] []
  have F0 := S.1.at 0 0 (Nat.le_of_ble_eq_true rfl) (Nat.le_of_ble_eq_true rfl)
  have hOR := S.2.1.or
  obtain ⟨pl1, pe1, f1, kn1, tf1, o1_0, o1_1, o1_2, o1_3, o1_4, o1_5, o1_6, o1_7⟩ := id hM
  have h2 : (mo, (.inr (8, [.int tv, .ref pl1, .ref ka, .ref ta]) : va_E)) ∈ M := o1_0
  have h3 : (pl1, (.inr (10, [.int 10, .ref pe1, .int 10]) : va_E)) ∈ M := o1_1
  have h4 : (pe1, (.inl (G.cO, 10, .inr (.inr (.inr (.inr f1)))) : va_E)) ∈ M := o1_2
  have h5 : (ta, (.inl (G.Z.cI, 8, .inl tf1) : va_E)) ∈ M := o1_4
  have h6 : (ka, (.inl (G.cR, 10, .inr (.inr (.inr (.inr kn1)))) : va_E)) ∈ M := o1_6
  have hDo7 := hD
  obtain ⟨t9, ht9, ht8⟩ := o1_3 p hp
  have h8 : (t9, (.inr (10, [.int 0, .ref G.e0, .int 0]) : va_E)) ∈ M := ht8
  refine j_aload_n F0 dX8_lengthWith_0 rfl ?_
  refine j_iload_n F0 dX8_lengthWith_1 rfl ?_
  refine m_cVi S (n1 := 1) (rest := []) (r_X8_isNoProgram X.l G X.A M (nI p) h2) ⟨_, _, _, _, rfl, (gLW gX8_lengthWith_X8_isNoProgram), rfl, rfl, (by decide +kernel), ⟨(Nat.le_of_ble_eq_true rfl), (Nat.le_of_ble_eq_true rfl)⟩⟩ h2 rfl rfl (Nat.le_of_ble_eq_true rfl) (Nat.le_of_ble_eq_true rfl) (Nat.le_of_ble_eq_true rfl) rfl dX8_lengthWith_2 (fun v9 M10 hD11 hp12 => ?_)
  obtain ⟨hp12v, hp12a, hp12k⟩ := hp12
  subst hp12v
  have n13 : pl1 ∉ [mo] := by
    intro h9; simp only [List.mem_cons, List.not_mem_nil, or_false] at h9
    · exact (In.ne hD h3 h2 (by simp)) h9
  have n14 : pe1 ∉ [mo] := by
    intro h9; simp only [List.mem_cons, List.not_mem_nil, or_false] at h9
    · exact (In.ne hD h4 h2 (by simp)) h9
  have n15 : ta ∉ [mo] := by
    intro h9; simp only [List.mem_cons, List.not_mem_nil, or_false] at h9
    · exact (In.ne hD h5 h2 (by simp)) h9
  have n16 : ka ∉ [mo] := by
    intro h9; simp only [List.mem_cons, List.not_mem_nil, or_false] at h9
    · exact (In.ne hD h6 h2 (by simp)) h9
  have n17 : t9 ∉ [mo] := by
    intro h9; simp only [List.mem_cons, List.not_mem_nil, or_false] at h9
    · exact (In.ne hD h8 h2 (by simp)) h9
  have h3 := hp12k _ _ n13 h3
  have h4 := hp12k _ _ n14 h4
  have h5 := hp12k _ _ n15 h5
  have h6 := hp12k _ _ n16 h6
  have h8 := hp12k _ _ n17 h8
  have h18 : (mo, (.inr (8, [.int (if ProP (nI p) then (1 : Int32) else 0), .ref pl1, .ref ka, .ref ta]) : va_E)) ∈ M10 := hp12a
  refine j_if_ne F0 60 dX8_lengthWith_5 (by decide) (fun h9 => absurd (if0.mpr (pro_ok hp)) h9) (fun _ => ?_)
  have h19 : (mo, (.inr (8, [.int 0, .ref pl1, .ref ka, .ref ta]) : va_E)) ∈ M10 := by have h9 := h18; rw [if_neg (pro_ok hp)] at h9; exact h9
  refine j_aload_n F0 dX8_lengthWith_8 rfl ?_
  refine j_iload_n F0 dX8_lengthWith_9 rfl ?_
  refine m_cSi S (n1 := 1) (rest := [.ref mo]) (r_X8_isToken X.l G X.A M10 (vb_c k9)) ⟨_, _, _, _, rfl, (gLW gX8_lengthWith_X8_isToken), rfl, rfl, (by decide +kernel), ⟨(Nat.le_of_ble_eq_true rfl), (Nat.le_of_ble_eq_true rfl)⟩⟩ rfl (Nat.le_of_ble_eq_true rfl) (Nat.le_of_ble_eq_true rfl) (Nat.le_of_ble_eq_true rfl) rfl dX8_lengthWith_10 (fun v20 M21 hD22 hp23 => ?_)
  obtain ⟨hp23a, hp23b⟩ := hp23
  subst hp23a
  subst hp23b
  refine j_if_ne F0 20 dX8_lengthWith_13 (by decide) (fun _ => ?_) (fun h9 => absurd h9 (if1.mpr hy))
  refine j_iconst F0 0 dX8_lengthWith_20 (by decide) ?_
  refine j_iconst F0 2 dX8_lengthWith_21 (by decide) ?_
  refine m_cVi S (n1 := 2) (rest := []) (r_X8_refuse X.l G X.A M10 (c := False) 2 (by decide) h19) ⟨_, _, _, _, rfl, (gLW gX8_lengthWith_X8_refuse), rfl, rfl, (by decide +kernel), ⟨(Nat.le_of_ble_eq_true rfl), (Nat.le_of_ble_eq_true rfl)⟩⟩ h19 rfl rfl (Nat.le_of_ble_eq_true rfl) (Nat.le_of_ble_eq_true rfl) (Nat.le_of_ble_eq_true rfl) rfl dX8_lengthWith_22 (fun v24 M25 hD26 hp27 => ?_)
  obtain ⟨hp27v, hp27a, hp27k⟩ := hp27
  have hp27v : (0 : Int32) = v24 := hp27v
  subst hp27v
  have n28 : pl1 ∉ [mo] := by
    intro h9; simp only [List.mem_cons, List.not_mem_nil, or_false] at h9
    · exact (In.ne hD11 h3 h19 (by simp)) h9
  have n29 : pe1 ∉ [mo] := by
    intro h9; simp only [List.mem_cons, List.not_mem_nil, or_false] at h9
    · exact (In.ne hD11 h4 h19 (by simp)) h9
  have n30 : ta ∉ [mo] := by
    intro h9; simp only [List.mem_cons, List.not_mem_nil, or_false] at h9
    · exact (In.ne hD11 h5 h19 (by simp)) h9
  have n31 : ka ∉ [mo] := by
    intro h9; simp only [List.mem_cons, List.not_mem_nil, or_false] at h9
    · exact (In.ne hD11 h6 h19 (by simp)) h9
  have n32 : t9 ∉ [mo] := by
    intro h9; simp only [List.mem_cons, List.not_mem_nil, or_false] at h9
    · exact (In.ne hD11 h8 h19 (by simp)) h9
  have h3 := hp27k _ _ n28 h3
  have h4 := hp27k _ _ n29 h4
  have h5 := hp27k _ _ n30 h5
  have h6 := hp27k _ _ n31 h6
  have h8 := hp27k _ _ n32 h8
  have h33 : (mo, (.inr (8, [.int 0, .ref pl1, .ref ka, .ref ta]) : va_E)) ∈ M25 := hp27a
  refine j_if_ne F0 60 dX8_lengthWith_25 (by decide) (fun h9 => absurd (by decide) h9) (fun _ => ?_)
  refine j_aload_n F0 dX8_lengthWith_28 rfl ?_
  refine j_aload_n F0 dX8_lengthWith_29 rfl ?_
  refine m_get S (C := RX8) (T := TX8) (N := 4) (by decide +kernel) h33 rfl (v := .ref pl1) 1 (by decide) (by decide +kernel) (fun _ h9 => h9) rfl dX8_lengthWith_30 ?_
  refine j_iload_n F0 dX8_lengthWith_33 rfl ?_
  refine m_cVr S (n1 := 1) (rest := [.ref mo]) (r_Jx4a65c_get_915e3 X.l G X.A M25 (nI p) t9 (nI_pos (by omega)) (by rw [show (10 : Int32) = nI 10 from rfl, nI_ltI (by omega) (by omega)]; exact hp) (vp_in_nI hp (by decide)) (by rw [nI_clamp (by omega)]; exact ht9) h3 h4) ⟨_, _, _, _, rfl, (gLW gX8_lengthWith_Jx4a65c_get_915e3), rfl, rfl, (by decide +kernel), ⟨(Nat.le_of_ble_eq_true rfl), (Nat.le_of_ble_eq_true rfl)⟩⟩ h3 rfl rfl (Nat.le_of_ble_eq_true rfl) (Nat.le_of_ble_eq_true rfl) (Nat.le_of_ble_eq_true rfl) rfl dX8_lengthWith_34 (fun v34 M35 hD36 hp37 => ?_)
  obtain ⟨hp37a, hp37b⟩ := hp37
  subst hp37a
  subst hp37b
  refine m_cast S (C := "java/util/ArrayList") h8 rfl (by decide +kernel) dX8_lengthWith_37 ?_
  refine m_cVi S (n1 := 0) (rest := [.ref mo]) (r_Jx4a65c_size_8abf5 X.l G X.A M25 h8) ⟨_, _, _, _, rfl, (gLW gX8_lengthWith_Jx4a65c_size_8abf5), rfl, rfl, (by decide +kernel), ⟨(Nat.le_of_ble_eq_true rfl), (Nat.le_of_ble_eq_true rfl)⟩⟩ h8 rfl rfl (Nat.le_of_ble_eq_true rfl) (Nat.le_of_ble_eq_true rfl) (Nat.le_of_ble_eq_true rfl) rfl dX8_lengthWith_40 (fun v38 M39 hD40 hp41 => ?_)
  obtain ⟨hp41a, hp41b⟩ := hp41
  subst hp41a
  subst hp41b
  refine j_bipush F0 40 dX8_lengthWith_43 (by decide) ?_
  refine j_icmp_ne F0 52 dX8_lengthWith_45 (by decide) (fun _ => ?_) (fun h9 => absurd h9 (by decide))
  refine j_iconst F0 0 dX8_lengthWith_52 (by decide) ?_
  refine j_iconst F0 3 dX8_lengthWith_53 (by decide) ?_
  refine m_cVi S (n1 := 2) (rest := []) (r_X8_refuse X.l G X.A M25 (c := False) 3 (by decide) h33) ⟨_, _, _, _, rfl, (gLW gX8_lengthWith_X8_refuse), rfl, rfl, (by decide +kernel), ⟨(Nat.le_of_ble_eq_true rfl), (Nat.le_of_ble_eq_true rfl)⟩⟩ h33 rfl rfl (Nat.le_of_ble_eq_true rfl) (Nat.le_of_ble_eq_true rfl) (Nat.le_of_ble_eq_true rfl) rfl dX8_lengthWith_54 (fun v42 M43 hD44 hp45 => ?_)
  obtain ⟨hp45v, hp45a, hp45k⟩ := hp45
  have hp45v : (0 : Int32) = v42 := hp45v
  subst hp45v
  have n46 : pl1 ∉ [mo] := by
    intro h9; simp only [List.mem_cons, List.not_mem_nil, or_false] at h9
    · exact (In.ne hD26 h3 h33 (by simp)) h9
  have n47 : pe1 ∉ [mo] := by
    intro h9; simp only [List.mem_cons, List.not_mem_nil, or_false] at h9
    · exact (In.ne hD26 h4 h33 (by simp)) h9
  have n48 : ta ∉ [mo] := by
    intro h9; simp only [List.mem_cons, List.not_mem_nil, or_false] at h9
    · exact (In.ne hD26 h5 h33 (by simp)) h9
  have n49 : ka ∉ [mo] := by
    intro h9; simp only [List.mem_cons, List.not_mem_nil, or_false] at h9
    · exact (In.ne hD26 h6 h33 (by simp)) h9
  have n50 : t9 ∉ [mo] := by
    intro h9; simp only [List.mem_cons, List.not_mem_nil, or_false] at h9
    · exact (In.ne hD26 h8 h33 (by simp)) h9
  have h3 := hp45k _ _ n46 h3
  have h4 := hp45k _ _ n47 h4
  have h5 := hp45k _ _ n48 h5
  have h6 := hp45k _ _ n49 h6
  have h8 := hp45k _ _ n50 h8
  have h51 : (mo, (.inr (8, [.int 0, .ref pl1, .ref ka, .ref ta]) : va_E)) ∈ M43 := hp45a
  refine j_if_eq F0 62 dX8_lengthWith_57 (by decide) (fun _ => ?_) (fun h9 => absurd (by decide) h9)
  refine m_new S (C := RJx4a65c) (T := TJx4a65c) (N := 3) (ci := 10) (fs := [.int 0, .null, .int 0]) (by decide +kernel) tyJx4a65c tyJx4a65c_ok (by decide +kernel) (by decide +kernel) (by decide +kernel) rfl (fun j hj => by rcases (show j = 0 ∨ j = 1 ∨ j = 2 by omega) with rfl | rfl | rfl <;> rfl) (Nat.le_of_ble_eq_true rfl) (Nat.le_of_ble_eq_true rfl) dX8_lengthWith_62 (fun q52 M54 hD55 hN53 => ?_)
  have n56 := (hN53.2 _ _ h3).2
  have h3 := (hN53.2 _ _ h3).1
  have n57 := (hN53.2 _ _ h4).2
  have h4 := (hN53.2 _ _ h4).1
  have n58 := (hN53.2 _ _ h5).2
  have h5 := (hN53.2 _ _ h5).1
  have n59 := (hN53.2 _ _ h6).2
  have h6 := (hN53.2 _ _ h6).1
  have n60 := (hN53.2 _ _ h8).2
  have h8 := (hN53.2 _ _ h8).1
  have n61 := (hN53.2 _ _ h51).2
  have h51 := (hN53.2 _ _ h51).1
  have h62 := hN53.1
  have F63 := S.1.at 1 3 (Nat.le_of_ble_eq_true rfl) (Nat.le_of_ble_eq_true rfl)
  refine j_dup F63 dX8_lengthWith_65 rfl ?_
  refine j_aload_n F63 dX8_lengthWith_66 rfl ?_
  refine m_get S (C := RX8) (T := TX8) (N := 4) (by decide +kernel) h51 rfl (v := .ref pl1) 1 (by decide) (by decide +kernel) (fun _ h9 => h9) rfl dX8_lengthWith_67 ?_
  refine j_iload_n F63 dX8_lengthWith_70 rfl ?_
  refine m_cVr S (n1 := 1) (rest := [.ref q52, .ref q52]) (r_Jx4a65c_get_915e3 X.l G X.A M54 (nI p) t9 (nI_pos (by omega)) (by rw [show (10 : Int32) = nI 10 from rfl, nI_ltI (by omega) (by omega)]; exact hp) (vp_in_nI hp (by decide)) (by rw [nI_clamp (by omega)]; exact ht9) h3 h4) ⟨_, _, _, _, rfl, (gLW gX8_lengthWith_Jx4a65c_get_915e3), rfl, rfl, (by decide +kernel), ⟨(Nat.le_of_ble_eq_true rfl), (Nat.le_of_ble_eq_true rfl)⟩⟩ h3 rfl rfl (Nat.le_of_ble_eq_true rfl) (Nat.le_of_ble_eq_true rfl) (Nat.le_of_ble_eq_true rfl) rfl dX8_lengthWith_71 (fun v64 M65 hD66 hp67 => ?_)
  obtain ⟨hp67a, hp67b⟩ := hp67
  subst hp67a
  subst hp67b
  refine m_castY S h8 rfl (by decide +kernel) (S.2.1.2.2.2.2.2.1 (sAL, "java/util/Collection") (by simp)) dX8_lengthWith_74 ?_
  refine m_cIv S (n1 := 1) (rest := [.ref q52]) (r_Jx4a65c_init_4bcb3 X.l G X.A M54 h62 h8) ⟨_, _, _, rfl, (gLW gX8_lengthWith_Jx4a65c_init_4bcb3), rfl, rfl, (by decide +kernel), (by decide +kernel), (by decide +kernel), rfl, (by decide +kernel), ⟨(Nat.le_of_ble_eq_true rfl), (Nat.le_of_ble_eq_true rfl)⟩⟩ rfl (Nat.le_of_ble_eq_true rfl) (Nat.le_of_ble_eq_true rfl) (Nat.le_of_ble_eq_true rfl) rfl dX8_lengthWith_77 (fun M69 hD70 hp71 => ?_)
  obtain ⟨hp71a, hp71k⟩ := hp71
  have n72 : pl1 ∉ [q52] := by
    intro h9; simp only [List.mem_cons, List.not_mem_nil, or_false] at h9
    · exact n56 h9
  have n73 : pe1 ∉ [q52] := by
    intro h9; simp only [List.mem_cons, List.not_mem_nil, or_false] at h9
    · exact n57 h9
  have n74 : ta ∉ [q52] := by
    intro h9; simp only [List.mem_cons, List.not_mem_nil, or_false] at h9
    · exact n58 h9
  have n75 : ka ∉ [q52] := by
    intro h9; simp only [List.mem_cons, List.not_mem_nil, or_false] at h9
    · exact n59 h9
  have n76 : t9 ∉ [q52] := by
    intro h9; simp only [List.mem_cons, List.not_mem_nil, or_false] at h9
    · exact n60 h9
  have n77 : mo ∉ [q52] := by
    intro h9; simp only [List.mem_cons, List.not_mem_nil, or_false] at h9
    · exact n61 h9
  have h3 := hp71k _ _ n72 h3
  have h4 := hp71k _ _ n73 h4
  have h5 := hp71k _ _ n74 h5
  have h6 := hp71k _ _ n75 h6
  have h8 := hp71k _ _ n76 h8
  have h51 := hp71k _ _ n77 h51
  have h78 : (q52, (.inr (10, [.int 0, .ref G.e1, .int 0]) : va_E)) ∈ M69 := hp71a
  have F79 := S.1.at 2 3 (Nat.le_of_ble_eq_true rfl) (Nat.le_of_ble_eq_true rfl)
  refine j_astore_n F79 [some (.ref mo), some (.int (nI p)), some (.int (vb_c k9)), some (.ref q52), none] dX8_lengthWith_80 (by decide) rfl rfl ?_
  refine j_aload_n F79 dX8_lengthWith_81 rfl ?_
  refine j_iload_n F79 dX8_lengthWith_82 rfl ?_
  refine m_cSr S (n1 := 1) (rest := [.ref q52]) (r_J6_valueOf_2dffe X.l G X.A M69 k9 hk9) ⟨_, _, _, _, rfl, (gLW gX8_lengthWith_J6_valueOf_2dffe), rfl, rfl, (by decide +kernel), ⟨(Nat.le_of_ble_eq_true rfl), (Nat.le_of_ble_eq_true rfl)⟩⟩ rfl (Nat.le_of_ble_eq_true rfl) (Nat.le_of_ble_eq_true rfl) (Nat.le_of_ble_eq_true rfl) rfl dX8_lengthWith_83 (fun v80 M81 hD82 hp83 => ?_)
  obtain ⟨hp83a, hp83b⟩ := hp83
  subst hp83a
  subst hp83b
  refine m_cVi S (n1 := 1) (rest := []) (r_Jx4a65c_add_9ea2dE X.l G X.A M69 (G.bx k9) (Or.inr (Or.inr ⟨k9, hk9, rfl⟩)) (fun c => bx_out S hk9 (c ▸ In.a hD70 h78)) h78) ⟨_, _, _, _, rfl, (gLW gX8_lengthWith_Jx4a65c_add_9ea2d), rfl, rfl, (by decide +kernel), ⟨(Nat.le_of_ble_eq_true rfl), (Nat.le_of_ble_eq_true rfl)⟩⟩ h78 rfl rfl (Nat.le_of_ble_eq_true rfl) (Nat.le_of_ble_eq_true rfl) (Nat.le_of_ble_eq_true rfl) rfl dX8_lengthWith_86 (fun v84 M85 hD86 hp87 => ?_)
  obtain ⟨hp87v, hp87⟩ := hp87
  subst hp87v
  rw [show (0 : Int32) + 1 = 1 from by decide] at hp87
  obtain ⟨q88, hp87a, hp87b, hp87k, hp87f⟩ := hp87
  have n89 := hp87f _ _ h3
  have n90 := hp87f _ _ h4
  have n91 := hp87f _ _ h5
  have n92 := hp87f _ _ h6
  have n93 := hp87f _ _ h8
  have n94 := hp87f _ _ h51
  have n95 := hp87f _ _ h78
  have n96 : pl1 ∉ [q52] := by
    intro h9; simp only [List.mem_cons, List.not_mem_nil, or_false] at h9
    · exact n56 h9
  have n97 : pe1 ∉ [q52] := by
    intro h9; simp only [List.mem_cons, List.not_mem_nil, or_false] at h9
    · exact n57 h9
  have n98 : ta ∉ [q52] := by
    intro h9; simp only [List.mem_cons, List.not_mem_nil, or_false] at h9
    · exact n58 h9
  have n99 : ka ∉ [q52] := by
    intro h9; simp only [List.mem_cons, List.not_mem_nil, or_false] at h9
    · exact n59 h9
  have n100 : t9 ∉ [q52] := by
    intro h9; simp only [List.mem_cons, List.not_mem_nil, or_false] at h9
    · exact n60 h9
  have n101 : mo ∉ [q52] := by
    intro h9; simp only [List.mem_cons, List.not_mem_nil, or_false] at h9
    · exact n61 h9
  have h3 := hp87k _ _ n96 h3
  have h4 := hp87k _ _ n97 h4
  have h5 := hp87k _ _ n98 h5
  have h6 := hp87k _ _ n99 h6
  have h8 := hp87k _ _ n100 h8
  have h51 := hp87k _ _ n101 h51
  have h102 : (q52, (.inr (10, [.int 1, .ref q88, .int 1]) : va_E)) ∈ M85 := hp87a
  have h103 : (q88, (.inl (G.cO, 1, .inr (.inr (.inr (.inr (va_up (fun _ => none) 0 (some (G.bx k9))))))) : va_E)) ∈ M85 := hp87b
  have F104 := S.1.at 3 4 (Nat.le_of_ble_eq_true rfl) (Nat.le_of_ble_eq_true rfl)
  refine j_pop F104 dX8_lengthWith_89 rfl ?_
  refine m_new S (C := RX7) (T := TX7) (N := 5) (ci := 7) (fs := [.int 0, .null, .int 0, .int 0, .null]) (by decide +kernel) tyX7 tyX7_ok (by decide +kernel) (by decide +kernel) (by decide +kernel) rfl (fun j hj => by rcases (show j = 0 ∨ j = 1 ∨ j = 2 ∨ j = 3 ∨ j = 4 by omega) with rfl | rfl | rfl | rfl | rfl <;> rfl) (Nat.le_of_ble_eq_true rfl) (Nat.le_of_ble_eq_true rfl) dX8_lengthWith_90 (fun q105 M107 hD108 hN106 => ?_)
  have n109 := (hN106.2 _ _ h3).2
  have h3 := (hN106.2 _ _ h3).1
  have n110 := (hN106.2 _ _ h4).2
  have h4 := (hN106.2 _ _ h4).1
  have n111 := (hN106.2 _ _ h5).2
  have h5 := (hN106.2 _ _ h5).1
  have n112 := (hN106.2 _ _ h6).2
  have h6 := (hN106.2 _ _ h6).1
  have n113 := (hN106.2 _ _ h8).2
  have h8 := (hN106.2 _ _ h8).1
  have n114 := (hN106.2 _ _ h51).2
  have h51 := (hN106.2 _ _ h51).1
  have n115 := (hN106.2 _ _ h102).2
  have h102 := (hN106.2 _ _ h102).1
  have n116 := (hN106.2 _ _ h103).2
  have h103 := (hN106.2 _ _ h103).1
  have h117 := hN106.1
  have F118 := S.1.at 4 9 (Nat.le_of_ble_eq_true rfl) (Nat.le_of_ble_eq_true rfl)
  refine j_dup F118 dX8_lengthWith_93 rfl ?_
  refine j_aload_n F118 dX8_lengthWith_94 rfl ?_
  refine j_iload_n F118 dX8_lengthWith_95 rfl ?_
  refine j_aload_n F118 dX8_lengthWith_96 rfl ?_
  have hKm119 : Kp M [mo] M107 := by
    intro b x hb hx
    have n120 : b ∉ [mo] := by
      intro h9; simp only [List.mem_cons, List.not_mem_nil, or_false] at h9
      · exact (fun c => hb (by rw [c]; simp)) h9
    have hx := hp12k b x n120 hx
    have n121 : b ∉ [mo] := by
      intro h9; simp only [List.mem_cons, List.not_mem_nil, or_false] at h9
      · exact (fun c => hb (by rw [c]; simp)) h9
    have hx := hp27k b x n121 hx
    have n122 : b ∉ [mo] := by
      intro h9; simp only [List.mem_cons, List.not_mem_nil, or_false] at h9
      · exact (fun c => hb (by rw [c]; simp)) h9
    have hx := hp45k b x n122 hx
    have n123 := (hN53.2 _ _ hx).2
    have hx := (hN53.2 _ _ hx).1
    have n124 : b ∉ [q52] := by
      intro h9; simp only [List.mem_cons, List.not_mem_nil, or_false] at h9
      · exact n123 h9
    have hx := hp71k b x n124 hx
    have n125 := hp87f _ _ hx
    have n126 : b ∉ [q52] := by
      intro h9; simp only [List.mem_cons, List.not_mem_nil, or_false] at h9
      · exact n123 h9
    have hx := hp87k b x n126 hx
    have n127 := (hN106.2 _ _ hx).2
    have hx := (hN106.2 _ _ hx).1
    exact hx
  have hMo9 := Mo.thr hOR hDo7 o1_0 o1_1 o1_2 o1_3 o1_4 o1_5 o1_6 o1_7 hKm119 h51
  refine m_cIv S (n1 := 3) (rest := [.ref q105]) (r_X7_initE X.l G X.A M107 p k9 hk9 j hp4 hj1 hj2 hv hMo9 h117 h102 h103) ⟨_, _, _, rfl, (gLI kB_X7_initW), rfl, rfl, (by decide +kernel), (by decide +kernel), (by decide +kernel), rfl, (by decide +kernel), ⟨(Nat.le_of_ble_eq_true rfl), (Nat.le_of_ble_eq_true rfl)⟩⟩ rfl (Nat.le_of_ble_eq_true rfl) (Nat.le_of_ble_eq_true rfl) (Nat.le_of_ble_eq_true rfl) rfl dX8_lengthWith_97 (fun M129 hD130 hp131 => ?_)
  obtain ⟨⟨z1321, z1322, z1323, z1324, z1325, z1326, y133, z132a, z132b, z132c, z132d, z132e, z132f, z132g⟩, ⟨pl134, hp131m⟩, hp131k⟩ := hp131
  have n135 : q52 ∉ [q105, mo, ka] := by
    intro h9; simp only [List.mem_cons, List.not_mem_nil, or_false] at h9
    rcases h9 with h9 | h9 | h9
    · exact n115 h9
    · exact (Ne.symm n61) h9
    · exact (Ne.symm n59) h9
  have n136 : q88 ∉ [q105, mo, ka] := by
    intro h9; simp only [List.mem_cons, List.not_mem_nil, or_false] at h9
    rcases h9 with h9 | h9 | h9
    · exact n116 h9
    · exact (Ne.symm n94) h9
    · exact (Ne.symm n92) h9
  have h102 := hp131k _ _ n135 h102
  have h103 := hp131k _ _ n136 h103
  have h137 : (q105, (.inr (7, [.int (nI p), .ref z1321, .int 0, .int (-1), .ref mo]) : va_E)) ∈ M129 := z132a
  have h138 : (z1321, (.inr (10, [.int 1, .ref z1322, .int 1]) : va_E)) ∈ M129 := z132b
  have h139 : (z1322, (.inl (G.cO, 10, .inr (.inr (.inr (.inr (va_up (fun _ => none) 0 (some z1323)))))) : va_E)) ∈ M129 := z132c
  have h140 : (z1323, (.inr (6, [.ref z1324]) : va_E)) ∈ M129 := z132d
  have h141 : (z1324, (.inr (10, [.int 1, .ref z1325, .int 1]) : va_E)) ∈ M129 := z132e
  have h142 : (z1325, (.inl (G.cO, 10, .inr (.inr (.inr (.inr (va_up (fun _ => none) 0 (some z1326)))))) : va_E)) ∈ M129 := z132f
  have h143 : (z1326, (.inl (G.Z.cI, 0, .inl y133) : va_E)) ∈ M129 := z132g
  have h144 : (mo, (.inr (8, [.int 0, .ref pl134, .ref ka, .ref ta]) : va_E)) ∈ M129 := hp131m
  have F145 := S.1.at 17 58 (Nat.le_of_ble_eq_true rfl) (Nat.le_of_ble_eq_true rfl)
  refine j_astore F145 [some (.ref mo), some (.int (nI p)), some (.int (vb_c k9)), some (.ref q52), some (.ref q105)] dX8_lengthWith_100 (by decide) rfl rfl ?_
  refine j_aload F145 dX8_lengthWith_102 rfl ?_
  refine m_get S (C := RX7) (T := TX7) (N := 5) (by decide +kernel) h137 rfl (v := .int 0) 2 (by decide) (by decide +kernel) (fun _ h9 => h9) rfl dX8_lengthWith_104 ?_
  refine j_if_le F145 114 dX8_lengthWith_107 (by decide) (fun _ => ?_) (fun h9 => absurd (by decide) h9)
  refine j_aload F145 dX8_lengthWith_114 rfl ?_
  refine m_cVr S (n1 := 0) (rest := []) (r_X7_numbersK0 X.l G X.A M129 h137 h138 h139 h140 h141 h142 h143) ⟨_, _, _, _, rfl, (gLW gX8_lengthWith_X7_numbers), rfl, rfl, (by decide +kernel), ⟨(Nat.le_of_ble_eq_true rfl), (Nat.le_of_ble_eq_true rfl)⟩⟩ h137 rfl rfl (Nat.le_of_ble_eq_true rfl) (Nat.le_of_ble_eq_true rfl) (Nat.le_of_ble_eq_true rfl) rfl dX8_lengthWith_116 (fun v146 M147 hD148 hp149 => ?_)
  obtain ⟨y150, hp149a, hp149k, hp149f⟩ := hp149
  have n151 := hp149f _ _ h102
  have n152 := hp149f _ _ h103
  have n153 := hp149f _ _ h137
  have n154 := hp149f _ _ h138
  have n155 := hp149f _ _ h139
  have n156 := hp149f _ _ h140
  have n157 := hp149f _ _ h141
  have n158 := hp149f _ _ h142
  have n159 := hp149f _ _ h143
  have n160 := hp149f _ _ h144
  have n161 : q52 ∉ ([] : List Nat) := List.not_mem_nil
  have n162 : q88 ∉ ([] : List Nat) := List.not_mem_nil
  have n163 : q105 ∉ ([] : List Nat) := List.not_mem_nil
  have n164 : z1321 ∉ ([] : List Nat) := List.not_mem_nil
  have n165 : z1322 ∉ ([] : List Nat) := List.not_mem_nil
  have n166 : z1323 ∉ ([] : List Nat) := List.not_mem_nil
  have n167 : z1324 ∉ ([] : List Nat) := List.not_mem_nil
  have n168 : z1325 ∉ ([] : List Nat) := List.not_mem_nil
  have n169 : z1326 ∉ ([] : List Nat) := List.not_mem_nil
  have n170 : mo ∉ ([] : List Nat) := List.not_mem_nil
  have h102 := hp149k _ _ n161 h102
  have h103 := hp149k _ _ n162 h103
  have h137 := hp149k _ _ n163 h137
  have h138 := hp149k _ _ n164 h138
  have h139 := hp149k _ _ n165 h139
  have h140 := hp149k _ _ n166 h140
  have h141 := hp149k _ _ n167 h141
  have h142 := hp149k _ _ n168 h142
  have h143 := hp149k _ _ n169 h143
  have h144 := hp149k _ _ n170 h144
  have h171 : (v146, (.inl (G.Z.cI, 0, .inl y150) : va_E)) ∈ M147 := hp149a
  have F172 := S.1.at 19 58 (Nat.le_of_ble_eq_true rfl) (Nat.le_of_ble_eq_true rfl)
  refine m_alen S (t0 := 0) (v := 0) h171 rfl (by first | decide | rfl) dX8_lengthWith_119 ?_
  have hKp : Kp M [mo, ka] M147 := by
    intro b x hb hx
    have n173 : b ∉ [mo] := by
      intro h9; simp only [List.mem_cons, List.not_mem_nil, or_false] at h9
      · exact (fun c => hb (by rw [c]; simp)) h9
    have hx := hp12k b x n173 hx
    have n174 : b ∉ [mo] := by
      intro h9; simp only [List.mem_cons, List.not_mem_nil, or_false] at h9
      · exact (fun c => hb (by rw [c]; simp)) h9
    have hx := hp27k b x n174 hx
    have n175 : b ∉ [mo] := by
      intro h9; simp only [List.mem_cons, List.not_mem_nil, or_false] at h9
      · exact (fun c => hb (by rw [c]; simp)) h9
    have hx := hp45k b x n175 hx
    have n176 := (hN53.2 _ _ hx).2
    have hx := (hN53.2 _ _ hx).1
    have n177 : b ∉ [q52] := by
      intro h9; simp only [List.mem_cons, List.not_mem_nil, or_false] at h9
      · exact n176 h9
    have hx := hp71k b x n177 hx
    have n178 := hp87f _ _ hx
    have n179 : b ∉ [q52] := by
      intro h9; simp only [List.mem_cons, List.not_mem_nil, or_false] at h9
      · exact n176 h9
    have hx := hp87k b x n179 hx
    have n180 := (hN106.2 _ _ hx).2
    have hx := (hN106.2 _ _ hx).1
    have n181 : b ∉ [q105, mo, ka] := by
      intro h9; simp only [List.mem_cons, List.not_mem_nil, or_false] at h9
      rcases h9 with h9 | h9 | h9
      · exact n180 h9
      · exact (fun c => hb (by rw [c]; simp)) h9
      · exact (fun c => hb (by rw [c]; simp)) h9
    have hx := hp131k b x n181 hx
    have n182 := hp149f _ _ hx
    have n183 : b ∉ ([] : List Nat) := List.not_mem_nil
    have hx := hp149k b x n183 hx
    exact hx
  have hKL : KL G M M147 := fun o n f ho => hKp _ _ (by
    intro h9; simp only [List.mem_cons, List.not_mem_nil, or_false] at h9
    rcases h9 with h9 | h9
    · exact In.ne hD ho o1_0 (by simp) h9
    · exact In.ne hD ho o1_6 (by simp) h9
    ) ho
  exact m_ireturn S hRT rfl hQ (Nat.le_of_ble_eq_true rfl) (Nat.le_of_ble_eq_true rfl) dX8_lengthWith_120 rfl ⟨_, _, _, h144, hKL, rfl⟩

set_option maxRecDepth 100000 in
set_option maxHeartbeats 4000000 in
theorem r_X8_lengthWithF (l : Launch) (G : RG) (A : Nat → Prop) (M : Wl) {mo ka ta : Nat} {tv : Int32} (p : Nat) (hp : p < 10) (k9 : Nat) (hk9 : k9 < 256) (hy : TokP (vb_c k9)) (j : Nat) (hp4 : 4 ≤ p) (hpj : j - 40 < p) (hj1 : 44 ≤ j) (hj2 : j ≤ 49) (hv : vb_c k9 = nI j) (hM : Mo G mo ka ta tv M) : Kr l G A yX8_lengthWith wbX8_lengthWith { frames := 10, cells := 19, slots := 58, locals := 220 } M [.ref mo, .int (nI p), .int (vb_c k9)] (Gi G A (fun v N => ∃ pl k9 t9 : Nat, (mo, (.inr (8, [.int 0, .ref pl, .ref k9, .ref t9]) : va_E)) ∈ N ∧ KL G M N ∧ (0 : Int32) = v)) 19 58 := by
  refine Kr.of (cc := cX8_lengthWith) (maxL := 5) (ret := (some .int)) (by decide) rfl (Nat.le_of_ble_eq_true rfl) ?_
  intro X hXl S hRT hIN hXA hQ hD
  subst hXl
  subst hXA
  show J (X.at 0 0) 5 (PL G.Z X.A M) 0 [some (.ref mo), some (.int (nI p)), some (.int (vb_c k9)), none, none] []
  have F0 := S.1.at 0 0 (Nat.le_of_ble_eq_true rfl) (Nat.le_of_ble_eq_true rfl)
  have hOR := S.2.1.or
  obtain ⟨pl1, pe1, f1, kn1, tf1, o1_0, o1_1, o1_2, o1_3, o1_4, o1_5, o1_6, o1_7⟩ := id hM
  have h2 : (mo, (.inr (8, [.int tv, .ref pl1, .ref ka, .ref ta]) : va_E)) ∈ M := o1_0
  have h3 : (pl1, (.inr (10, [.int 10, .ref pe1, .int 10]) : va_E)) ∈ M := o1_1
  have h4 : (pe1, (.inl (G.cO, 10, .inr (.inr (.inr (.inr f1)))) : va_E)) ∈ M := o1_2
  have h5 : (ta, (.inl (G.Z.cI, 8, .inl tf1) : va_E)) ∈ M := o1_4
  have h6 : (ka, (.inl (G.cR, 10, .inr (.inr (.inr (.inr kn1)))) : va_E)) ∈ M := o1_6
  have hDo7 := hD
  obtain ⟨t9, ht9, ht8⟩ := o1_3 p hp
  have h8 : (t9, (.inr (10, [.int 0, .ref G.e0, .int 0]) : va_E)) ∈ M := ht8
  refine j_aload_n F0 dX8_lengthWith_0 rfl ?_
  refine j_iload_n F0 dX8_lengthWith_1 rfl ?_
  refine m_cVi S (n1 := 1) (rest := []) (r_X8_isNoProgram X.l G X.A M (nI p) h2) ⟨_, _, _, _, rfl, (gLW gX8_lengthWith_X8_isNoProgram), rfl, rfl, (by decide +kernel), ⟨(Nat.le_of_ble_eq_true rfl), (Nat.le_of_ble_eq_true rfl)⟩⟩ h2 rfl rfl (Nat.le_of_ble_eq_true rfl) (Nat.le_of_ble_eq_true rfl) (Nat.le_of_ble_eq_true rfl) rfl dX8_lengthWith_2 (fun v9 M10 hD11 hp12 => ?_)
  obtain ⟨hp12v, hp12a, hp12k⟩ := hp12
  subst hp12v
  have n13 : pl1 ∉ [mo] := by
    intro h9; simp only [List.mem_cons, List.not_mem_nil, or_false] at h9
    · exact (In.ne hD h3 h2 (by simp)) h9
  have n14 : pe1 ∉ [mo] := by
    intro h9; simp only [List.mem_cons, List.not_mem_nil, or_false] at h9
    · exact (In.ne hD h4 h2 (by simp)) h9
  have n15 : ta ∉ [mo] := by
    intro h9; simp only [List.mem_cons, List.not_mem_nil, or_false] at h9
    · exact (In.ne hD h5 h2 (by simp)) h9
  have n16 : ka ∉ [mo] := by
    intro h9; simp only [List.mem_cons, List.not_mem_nil, or_false] at h9
    · exact (In.ne hD h6 h2 (by simp)) h9
  have n17 : t9 ∉ [mo] := by
    intro h9; simp only [List.mem_cons, List.not_mem_nil, or_false] at h9
    · exact (In.ne hD h8 h2 (by simp)) h9
  have h3 := hp12k _ _ n13 h3
  have h4 := hp12k _ _ n14 h4
  have h5 := hp12k _ _ n15 h5
  have h6 := hp12k _ _ n16 h6
  have h8 := hp12k _ _ n17 h8
  have h18 : (mo, (.inr (8, [.int (if ProP (nI p) then (1 : Int32) else 0), .ref pl1, .ref ka, .ref ta]) : va_E)) ∈ M10 := hp12a
  refine j_if_ne F0 60 dX8_lengthWith_5 (by decide) (fun h9 => absurd (if0.mpr (pro_ok hp)) h9) (fun _ => ?_)
  have h19 : (mo, (.inr (8, [.int 0, .ref pl1, .ref ka, .ref ta]) : va_E)) ∈ M10 := by have h9 := h18; rw [if_neg (pro_ok hp)] at h9; exact h9
  refine j_aload_n F0 dX8_lengthWith_8 rfl ?_
  refine j_iload_n F0 dX8_lengthWith_9 rfl ?_
  refine m_cSi S (n1 := 1) (rest := [.ref mo]) (r_X8_isToken X.l G X.A M10 (vb_c k9)) ⟨_, _, _, _, rfl, (gLW gX8_lengthWith_X8_isToken), rfl, rfl, (by decide +kernel), ⟨(Nat.le_of_ble_eq_true rfl), (Nat.le_of_ble_eq_true rfl)⟩⟩ rfl (Nat.le_of_ble_eq_true rfl) (Nat.le_of_ble_eq_true rfl) (Nat.le_of_ble_eq_true rfl) rfl dX8_lengthWith_10 (fun v20 M21 hD22 hp23 => ?_)
  obtain ⟨hp23a, hp23b⟩ := hp23
  subst hp23a
  subst hp23b
  refine j_if_ne F0 20 dX8_lengthWith_13 (by decide) (fun _ => ?_) (fun h9 => absurd h9 (if1.mpr hy))
  refine j_iconst F0 0 dX8_lengthWith_20 (by decide) ?_
  refine j_iconst F0 2 dX8_lengthWith_21 (by decide) ?_
  refine m_cVi S (n1 := 2) (rest := []) (r_X8_refuse X.l G X.A M10 (c := False) 2 (by decide) h19) ⟨_, _, _, _, rfl, (gLW gX8_lengthWith_X8_refuse), rfl, rfl, (by decide +kernel), ⟨(Nat.le_of_ble_eq_true rfl), (Nat.le_of_ble_eq_true rfl)⟩⟩ h19 rfl rfl (Nat.le_of_ble_eq_true rfl) (Nat.le_of_ble_eq_true rfl) (Nat.le_of_ble_eq_true rfl) rfl dX8_lengthWith_22 (fun v24 M25 hD26 hp27 => ?_)
  obtain ⟨hp27v, hp27a, hp27k⟩ := hp27
  have hp27v : (0 : Int32) = v24 := hp27v
  subst hp27v
  have n28 : pl1 ∉ [mo] := by
    intro h9; simp only [List.mem_cons, List.not_mem_nil, or_false] at h9
    · exact (In.ne hD11 h3 h19 (by simp)) h9
  have n29 : pe1 ∉ [mo] := by
    intro h9; simp only [List.mem_cons, List.not_mem_nil, or_false] at h9
    · exact (In.ne hD11 h4 h19 (by simp)) h9
  have n30 : ta ∉ [mo] := by
    intro h9; simp only [List.mem_cons, List.not_mem_nil, or_false] at h9
    · exact (In.ne hD11 h5 h19 (by simp)) h9
  have n31 : ka ∉ [mo] := by
    intro h9; simp only [List.mem_cons, List.not_mem_nil, or_false] at h9
    · exact (In.ne hD11 h6 h19 (by simp)) h9
  have n32 : t9 ∉ [mo] := by
    intro h9; simp only [List.mem_cons, List.not_mem_nil, or_false] at h9
    · exact (In.ne hD11 h8 h19 (by simp)) h9
  have h3 := hp27k _ _ n28 h3
  have h4 := hp27k _ _ n29 h4
  have h5 := hp27k _ _ n30 h5
  have h6 := hp27k _ _ n31 h6
  have h8 := hp27k _ _ n32 h8
  have h33 : (mo, (.inr (8, [.int 0, .ref pl1, .ref ka, .ref ta]) : va_E)) ∈ M25 := hp27a
  refine j_if_ne F0 60 dX8_lengthWith_25 (by decide) (fun h9 => absurd (by decide) h9) (fun _ => ?_)
  refine j_aload_n F0 dX8_lengthWith_28 rfl ?_
  refine j_aload_n F0 dX8_lengthWith_29 rfl ?_
  refine m_get S (C := RX8) (T := TX8) (N := 4) (by decide +kernel) h33 rfl (v := .ref pl1) 1 (by decide) (by decide +kernel) (fun _ h9 => h9) rfl dX8_lengthWith_30 ?_
  refine j_iload_n F0 dX8_lengthWith_33 rfl ?_
  refine m_cVr S (n1 := 1) (rest := [.ref mo]) (r_Jx4a65c_get_915e3 X.l G X.A M25 (nI p) t9 (nI_pos (by omega)) (by rw [show (10 : Int32) = nI 10 from rfl, nI_ltI (by omega) (by omega)]; exact hp) (vp_in_nI hp (by decide)) (by rw [nI_clamp (by omega)]; exact ht9) h3 h4) ⟨_, _, _, _, rfl, (gLW gX8_lengthWith_Jx4a65c_get_915e3), rfl, rfl, (by decide +kernel), ⟨(Nat.le_of_ble_eq_true rfl), (Nat.le_of_ble_eq_true rfl)⟩⟩ h3 rfl rfl (Nat.le_of_ble_eq_true rfl) (Nat.le_of_ble_eq_true rfl) (Nat.le_of_ble_eq_true rfl) rfl dX8_lengthWith_34 (fun v34 M35 hD36 hp37 => ?_)
  obtain ⟨hp37a, hp37b⟩ := hp37
  subst hp37a
  subst hp37b
  refine m_cast S (C := "java/util/ArrayList") h8 rfl (by decide +kernel) dX8_lengthWith_37 ?_
  refine m_cVi S (n1 := 0) (rest := [.ref mo]) (r_Jx4a65c_size_8abf5 X.l G X.A M25 h8) ⟨_, _, _, _, rfl, (gLW gX8_lengthWith_Jx4a65c_size_8abf5), rfl, rfl, (by decide +kernel), ⟨(Nat.le_of_ble_eq_true rfl), (Nat.le_of_ble_eq_true rfl)⟩⟩ h8 rfl rfl (Nat.le_of_ble_eq_true rfl) (Nat.le_of_ble_eq_true rfl) (Nat.le_of_ble_eq_true rfl) rfl dX8_lengthWith_40 (fun v38 M39 hD40 hp41 => ?_)
  obtain ⟨hp41a, hp41b⟩ := hp41
  subst hp41a
  subst hp41b
  refine j_bipush F0 40 dX8_lengthWith_43 (by decide) ?_
  refine j_icmp_ne F0 52 dX8_lengthWith_45 (by decide) (fun _ => ?_) (fun h9 => absurd h9 (by decide))
  refine j_iconst F0 0 dX8_lengthWith_52 (by decide) ?_
  refine j_iconst F0 3 dX8_lengthWith_53 (by decide) ?_
  refine m_cVi S (n1 := 2) (rest := []) (r_X8_refuse X.l G X.A M25 (c := False) 3 (by decide) h33) ⟨_, _, _, _, rfl, (gLW gX8_lengthWith_X8_refuse), rfl, rfl, (by decide +kernel), ⟨(Nat.le_of_ble_eq_true rfl), (Nat.le_of_ble_eq_true rfl)⟩⟩ h33 rfl rfl (Nat.le_of_ble_eq_true rfl) (Nat.le_of_ble_eq_true rfl) (Nat.le_of_ble_eq_true rfl) rfl dX8_lengthWith_54 (fun v42 M43 hD44 hp45 => ?_)
  obtain ⟨hp45v, hp45a, hp45k⟩ := hp45
  have hp45v : (0 : Int32) = v42 := hp45v
  subst hp45v
  have n46 : pl1 ∉ [mo] := by
    intro h9; simp only [List.mem_cons, List.not_mem_nil, or_false] at h9
    · exact (In.ne hD26 h3 h33 (by simp)) h9
  have n47 : pe1 ∉ [mo] := by
    intro h9; simp only [List.mem_cons, List.not_mem_nil, or_false] at h9
    · exact (In.ne hD26 h4 h33 (by simp)) h9
  have n48 : ta ∉ [mo] := by
    intro h9; simp only [List.mem_cons, List.not_mem_nil, or_false] at h9
    · exact (In.ne hD26 h5 h33 (by simp)) h9
  have n49 : ka ∉ [mo] := by
    intro h9; simp only [List.mem_cons, List.not_mem_nil, or_false] at h9
    · exact (In.ne hD26 h6 h33 (by simp)) h9
  have n50 : t9 ∉ [mo] := by
    intro h9; simp only [List.mem_cons, List.not_mem_nil, or_false] at h9
    · exact (In.ne hD26 h8 h33 (by simp)) h9
  have h3 := hp45k _ _ n46 h3
  have h4 := hp45k _ _ n47 h4
  have h5 := hp45k _ _ n48 h5
  have h6 := hp45k _ _ n49 h6
  have h8 := hp45k _ _ n50 h8
  have h51 : (mo, (.inr (8, [.int 0, .ref pl1, .ref ka, .ref ta]) : va_E)) ∈ M43 := hp45a
  refine j_if_eq F0 62 dX8_lengthWith_57 (by decide) (fun _ => ?_) (fun h9 => absurd (by decide) h9)
  refine m_new S (C := RJx4a65c) (T := TJx4a65c) (N := 3) (ci := 10) (fs := [.int 0, .null, .int 0]) (by decide +kernel) tyJx4a65c tyJx4a65c_ok (by decide +kernel) (by decide +kernel) (by decide +kernel) rfl (fun j hj => by rcases (show j = 0 ∨ j = 1 ∨ j = 2 by omega) with rfl | rfl | rfl <;> rfl) (Nat.le_of_ble_eq_true rfl) (Nat.le_of_ble_eq_true rfl) dX8_lengthWith_62 (fun q52 M54 hD55 hN53 => ?_)
  have n56 := (hN53.2 _ _ h3).2
  have h3 := (hN53.2 _ _ h3).1
  have n57 := (hN53.2 _ _ h4).2
  have h4 := (hN53.2 _ _ h4).1
  have n58 := (hN53.2 _ _ h5).2
  have h5 := (hN53.2 _ _ h5).1
  have n59 := (hN53.2 _ _ h6).2
  have h6 := (hN53.2 _ _ h6).1
  have n60 := (hN53.2 _ _ h8).2
  have h8 := (hN53.2 _ _ h8).1
  have n61 := (hN53.2 _ _ h51).2
  have h51 := (hN53.2 _ _ h51).1
  have h62 := hN53.1
  have F63 := S.1.at 1 3 (Nat.le_of_ble_eq_true rfl) (Nat.le_of_ble_eq_true rfl)
  refine j_dup F63 dX8_lengthWith_65 rfl ?_
  refine j_aload_n F63 dX8_lengthWith_66 rfl ?_
  refine m_get S (C := RX8) (T := TX8) (N := 4) (by decide +kernel) h51 rfl (v := .ref pl1) 1 (by decide) (by decide +kernel) (fun _ h9 => h9) rfl dX8_lengthWith_67 ?_
  refine j_iload_n F63 dX8_lengthWith_70 rfl ?_
  refine m_cVr S (n1 := 1) (rest := [.ref q52, .ref q52]) (r_Jx4a65c_get_915e3 X.l G X.A M54 (nI p) t9 (nI_pos (by omega)) (by rw [show (10 : Int32) = nI 10 from rfl, nI_ltI (by omega) (by omega)]; exact hp) (vp_in_nI hp (by decide)) (by rw [nI_clamp (by omega)]; exact ht9) h3 h4) ⟨_, _, _, _, rfl, (gLW gX8_lengthWith_Jx4a65c_get_915e3), rfl, rfl, (by decide +kernel), ⟨(Nat.le_of_ble_eq_true rfl), (Nat.le_of_ble_eq_true rfl)⟩⟩ h3 rfl rfl (Nat.le_of_ble_eq_true rfl) (Nat.le_of_ble_eq_true rfl) (Nat.le_of_ble_eq_true rfl) rfl dX8_lengthWith_71 (fun v64 M65 hD66 hp67 => ?_)
  obtain ⟨hp67a, hp67b⟩ := hp67
  subst hp67a
  subst hp67b
  refine m_castY S h8 rfl (by decide +kernel) (S.2.1.2.2.2.2.2.1 (sAL, "java/util/Collection") (by simp)) dX8_lengthWith_74 ?_
  refine m_cIv S (n1 := 1) (rest := [.ref q52]) (r_Jx4a65c_init_4bcb3 X.l G X.A M54 h62 h8) ⟨_, _, _, rfl, (gLW gX8_lengthWith_Jx4a65c_init_4bcb3), rfl, rfl, (by decide +kernel), (by decide +kernel), (by decide +kernel), rfl, (by decide +kernel), ⟨(Nat.le_of_ble_eq_true rfl), (Nat.le_of_ble_eq_true rfl)⟩⟩ rfl (Nat.le_of_ble_eq_true rfl) (Nat.le_of_ble_eq_true rfl) (Nat.le_of_ble_eq_true rfl) rfl dX8_lengthWith_77 (fun M69 hD70 hp71 => ?_)
  obtain ⟨hp71a, hp71k⟩ := hp71
  have n72 : pl1 ∉ [q52] := by
    intro h9; simp only [List.mem_cons, List.not_mem_nil, or_false] at h9
    · exact n56 h9
  have n73 : pe1 ∉ [q52] := by
    intro h9; simp only [List.mem_cons, List.not_mem_nil, or_false] at h9
    · exact n57 h9
  have n74 : ta ∉ [q52] := by
    intro h9; simp only [List.mem_cons, List.not_mem_nil, or_false] at h9
    · exact n58 h9
  have n75 : ka ∉ [q52] := by
    intro h9; simp only [List.mem_cons, List.not_mem_nil, or_false] at h9
    · exact n59 h9
  have n76 : t9 ∉ [q52] := by
    intro h9; simp only [List.mem_cons, List.not_mem_nil, or_false] at h9
    · exact n60 h9
  have n77 : mo ∉ [q52] := by
    intro h9; simp only [List.mem_cons, List.not_mem_nil, or_false] at h9
    · exact n61 h9
  have h3 := hp71k _ _ n72 h3
  have h4 := hp71k _ _ n73 h4
  have h5 := hp71k _ _ n74 h5
  have h6 := hp71k _ _ n75 h6
  have h8 := hp71k _ _ n76 h8
  have h51 := hp71k _ _ n77 h51
  have h78 : (q52, (.inr (10, [.int 0, .ref G.e1, .int 0]) : va_E)) ∈ M69 := hp71a
  have F79 := S.1.at 2 3 (Nat.le_of_ble_eq_true rfl) (Nat.le_of_ble_eq_true rfl)
  refine j_astore_n F79 [some (.ref mo), some (.int (nI p)), some (.int (vb_c k9)), some (.ref q52), none] dX8_lengthWith_80 (by decide) rfl rfl ?_
  refine j_aload_n F79 dX8_lengthWith_81 rfl ?_
  refine j_iload_n F79 dX8_lengthWith_82 rfl ?_
  refine m_cSr S (n1 := 1) (rest := [.ref q52]) (r_J6_valueOf_2dffe X.l G X.A M69 k9 hk9) ⟨_, _, _, _, rfl, (gLW gX8_lengthWith_J6_valueOf_2dffe), rfl, rfl, (by decide +kernel), ⟨(Nat.le_of_ble_eq_true rfl), (Nat.le_of_ble_eq_true rfl)⟩⟩ rfl (Nat.le_of_ble_eq_true rfl) (Nat.le_of_ble_eq_true rfl) (Nat.le_of_ble_eq_true rfl) rfl dX8_lengthWith_83 (fun v80 M81 hD82 hp83 => ?_)
  obtain ⟨hp83a, hp83b⟩ := hp83
  subst hp83a
  subst hp83b
  refine m_cVi S (n1 := 1) (rest := []) (r_Jx4a65c_add_9ea2dE X.l G X.A M69 (G.bx k9) (Or.inr (Or.inr ⟨k9, hk9, rfl⟩)) (fun c => bx_out S hk9 (c ▸ In.a hD70 h78)) h78) ⟨_, _, _, _, rfl, (gLW gX8_lengthWith_Jx4a65c_add_9ea2d), rfl, rfl, (by decide +kernel), ⟨(Nat.le_of_ble_eq_true rfl), (Nat.le_of_ble_eq_true rfl)⟩⟩ h78 rfl rfl (Nat.le_of_ble_eq_true rfl) (Nat.le_of_ble_eq_true rfl) (Nat.le_of_ble_eq_true rfl) rfl dX8_lengthWith_86 (fun v84 M85 hD86 hp87 => ?_)
  obtain ⟨hp87v, hp87⟩ := hp87
  subst hp87v
  rw [show (0 : Int32) + 1 = 1 from by decide] at hp87
  obtain ⟨q88, hp87a, hp87b, hp87k, hp87f⟩ := hp87
  have n89 := hp87f _ _ h3
  have n90 := hp87f _ _ h4
  have n91 := hp87f _ _ h5
  have n92 := hp87f _ _ h6
  have n93 := hp87f _ _ h8
  have n94 := hp87f _ _ h51
  have n95 := hp87f _ _ h78
  have n96 : pl1 ∉ [q52] := by
    intro h9; simp only [List.mem_cons, List.not_mem_nil, or_false] at h9
    · exact n56 h9
  have n97 : pe1 ∉ [q52] := by
    intro h9; simp only [List.mem_cons, List.not_mem_nil, or_false] at h9
    · exact n57 h9
  have n98 : ta ∉ [q52] := by
    intro h9; simp only [List.mem_cons, List.not_mem_nil, or_false] at h9
    · exact n58 h9
  have n99 : ka ∉ [q52] := by
    intro h9; simp only [List.mem_cons, List.not_mem_nil, or_false] at h9
    · exact n59 h9
  have n100 : t9 ∉ [q52] := by
    intro h9; simp only [List.mem_cons, List.not_mem_nil, or_false] at h9
    · exact n60 h9
  have n101 : mo ∉ [q52] := by
    intro h9; simp only [List.mem_cons, List.not_mem_nil, or_false] at h9
    · exact n61 h9
  have h3 := hp87k _ _ n96 h3
  have h4 := hp87k _ _ n97 h4
  have h5 := hp87k _ _ n98 h5
  have h6 := hp87k _ _ n99 h6
  have h8 := hp87k _ _ n100 h8
  have h51 := hp87k _ _ n101 h51
  have h102 : (q52, (.inr (10, [.int 1, .ref q88, .int 1]) : va_E)) ∈ M85 := hp87a
  have h103 : (q88, (.inl (G.cO, 1, .inr (.inr (.inr (.inr (va_up (fun _ => none) 0 (some (G.bx k9))))))) : va_E)) ∈ M85 := hp87b
  have F104 := S.1.at 3 4 (Nat.le_of_ble_eq_true rfl) (Nat.le_of_ble_eq_true rfl)
  refine j_pop F104 dX8_lengthWith_89 rfl ?_
  refine m_new S (C := RX7) (T := TX7) (N := 5) (ci := 7) (fs := [.int 0, .null, .int 0, .int 0, .null]) (by decide +kernel) tyX7 tyX7_ok (by decide +kernel) (by decide +kernel) (by decide +kernel) rfl (fun j hj => by rcases (show j = 0 ∨ j = 1 ∨ j = 2 ∨ j = 3 ∨ j = 4 by omega) with rfl | rfl | rfl | rfl | rfl <;> rfl) (Nat.le_of_ble_eq_true rfl) (Nat.le_of_ble_eq_true rfl) dX8_lengthWith_90 (fun q105 M107 hD108 hN106 => ?_)
  have n109 := (hN106.2 _ _ h3).2
  have h3 := (hN106.2 _ _ h3).1
  have n110 := (hN106.2 _ _ h4).2
  have h4 := (hN106.2 _ _ h4).1
  have n111 := (hN106.2 _ _ h5).2
  have h5 := (hN106.2 _ _ h5).1
  have n112 := (hN106.2 _ _ h6).2
  have h6 := (hN106.2 _ _ h6).1
  have n113 := (hN106.2 _ _ h8).2
  have h8 := (hN106.2 _ _ h8).1
  have n114 := (hN106.2 _ _ h51).2
  have h51 := (hN106.2 _ _ h51).1
  have n115 := (hN106.2 _ _ h102).2
  have h102 := (hN106.2 _ _ h102).1
  have n116 := (hN106.2 _ _ h103).2
  have h103 := (hN106.2 _ _ h103).1
  have h117 := hN106.1
  have F118 := S.1.at 4 9 (Nat.le_of_ble_eq_true rfl) (Nat.le_of_ble_eq_true rfl)
  refine j_dup F118 dX8_lengthWith_93 rfl ?_
  refine j_aload_n F118 dX8_lengthWith_94 rfl ?_
  refine j_iload_n F118 dX8_lengthWith_95 rfl ?_
  refine j_aload_n F118 dX8_lengthWith_96 rfl ?_
  have hKm119 : Kp M [mo] M107 := by
    intro b x hb hx
    have n120 : b ∉ [mo] := by
      intro h9; simp only [List.mem_cons, List.not_mem_nil, or_false] at h9
      · exact (fun c => hb (by rw [c]; simp)) h9
    have hx := hp12k b x n120 hx
    have n121 : b ∉ [mo] := by
      intro h9; simp only [List.mem_cons, List.not_mem_nil, or_false] at h9
      · exact (fun c => hb (by rw [c]; simp)) h9
    have hx := hp27k b x n121 hx
    have n122 : b ∉ [mo] := by
      intro h9; simp only [List.mem_cons, List.not_mem_nil, or_false] at h9
      · exact (fun c => hb (by rw [c]; simp)) h9
    have hx := hp45k b x n122 hx
    have n123 := (hN53.2 _ _ hx).2
    have hx := (hN53.2 _ _ hx).1
    have n124 : b ∉ [q52] := by
      intro h9; simp only [List.mem_cons, List.not_mem_nil, or_false] at h9
      · exact n123 h9
    have hx := hp71k b x n124 hx
    have n125 := hp87f _ _ hx
    have n126 : b ∉ [q52] := by
      intro h9; simp only [List.mem_cons, List.not_mem_nil, or_false] at h9
      · exact n123 h9
    have hx := hp87k b x n126 hx
    have n127 := (hN106.2 _ _ hx).2
    have hx := (hN106.2 _ _ hx).1
    exact hx
  have hMo9 := Mo.thr hOR hDo7 o1_0 o1_1 o1_2 o1_3 o1_4 o1_5 o1_6 o1_7 hKm119 h51
  refine m_cIv S (n1 := 3) (rest := [.ref q105]) (r_X7_initF X.l G X.A M107 p k9 hk9 j hp4 hp hpj hj1 hj2 hv hMo9 h117 h102 h103) ⟨_, _, _, rfl, (gLI kB_X7_initW), rfl, rfl, (by decide +kernel), (by decide +kernel), (by decide +kernel), rfl, (by decide +kernel), ⟨(Nat.le_of_ble_eq_true rfl), (Nat.le_of_ble_eq_true rfl)⟩⟩ rfl (Nat.le_of_ble_eq_true rfl) (Nat.le_of_ble_eq_true rfl) (Nat.le_of_ble_eq_true rfl) rfl dX8_lengthWith_97 (fun M129 hD130 hp131 => ?_)
  obtain ⟨⟨z1321, z1322, z1323, z1324, z1325, z1326, y133, z132a, z132b, z132c, z132d, z132e, z132f, z132g⟩, ⟨pl134, hp131m⟩, hp131k⟩ := hp131
  have n135 : q52 ∉ [q105, mo, ka] := by
    intro h9; simp only [List.mem_cons, List.not_mem_nil, or_false] at h9
    rcases h9 with h9 | h9 | h9
    · exact n115 h9
    · exact (Ne.symm n61) h9
    · exact (Ne.symm n59) h9
  have n136 : q88 ∉ [q105, mo, ka] := by
    intro h9; simp only [List.mem_cons, List.not_mem_nil, or_false] at h9
    rcases h9 with h9 | h9 | h9
    · exact n116 h9
    · exact (Ne.symm n94) h9
    · exact (Ne.symm n92) h9
  have h102 := hp131k _ _ n135 h102
  have h103 := hp131k _ _ n136 h103
  have h137 : (q105, (.inr (7, [.int (nI p), .ref z1321, .int 0, .int (-1), .ref mo]) : va_E)) ∈ M129 := z132a
  have h138 : (z1321, (.inr (10, [.int 1, .ref z1322, .int 1]) : va_E)) ∈ M129 := z132b
  have h139 : (z1322, (.inl (G.cO, 10, .inr (.inr (.inr (.inr (va_up (fun _ => none) 0 (some z1323)))))) : va_E)) ∈ M129 := z132c
  have h140 : (z1323, (.inr (6, [.ref z1324]) : va_E)) ∈ M129 := z132d
  have h141 : (z1324, (.inr (10, [.int 1, .ref z1325, .int 1]) : va_E)) ∈ M129 := z132e
  have h142 : (z1325, (.inl (G.cO, 10, .inr (.inr (.inr (.inr (va_up (fun _ => none) 0 (some z1326)))))) : va_E)) ∈ M129 := z132f
  have h143 : (z1326, (.inl (G.Z.cI, 0, .inl y133) : va_E)) ∈ M129 := z132g
  have h144 : (mo, (.inr (8, [.int 0, .ref pl134, .ref ka, .ref ta]) : va_E)) ∈ M129 := hp131m
  have F145 := S.1.at 17 58 (Nat.le_of_ble_eq_true rfl) (Nat.le_of_ble_eq_true rfl)
  refine j_astore F145 [some (.ref mo), some (.int (nI p)), some (.int (vb_c k9)), some (.ref q52), some (.ref q105)] dX8_lengthWith_100 (by decide) rfl rfl ?_
  refine j_aload F145 dX8_lengthWith_102 rfl ?_
  refine m_get S (C := RX7) (T := TX7) (N := 5) (by decide +kernel) h137 rfl (v := .int 0) 2 (by decide) (by decide +kernel) (fun _ h9 => h9) rfl dX8_lengthWith_104 ?_
  refine j_if_le F145 114 dX8_lengthWith_107 (by decide) (fun _ => ?_) (fun h9 => absurd (by decide) h9)
  refine j_aload F145 dX8_lengthWith_114 rfl ?_
  refine m_cVr S (n1 := 0) (rest := []) (r_X7_numbersK0 X.l G X.A M129 h137 h138 h139 h140 h141 h142 h143) ⟨_, _, _, _, rfl, (gLW gX8_lengthWith_X7_numbers), rfl, rfl, (by decide +kernel), ⟨(Nat.le_of_ble_eq_true rfl), (Nat.le_of_ble_eq_true rfl)⟩⟩ h137 rfl rfl (Nat.le_of_ble_eq_true rfl) (Nat.le_of_ble_eq_true rfl) (Nat.le_of_ble_eq_true rfl) rfl dX8_lengthWith_116 (fun v146 M147 hD148 hp149 => ?_)
  obtain ⟨y150, hp149a, hp149k, hp149f⟩ := hp149
  have n151 := hp149f _ _ h102
  have n152 := hp149f _ _ h103
  have n153 := hp149f _ _ h137
  have n154 := hp149f _ _ h138
  have n155 := hp149f _ _ h139
  have n156 := hp149f _ _ h140
  have n157 := hp149f _ _ h141
  have n158 := hp149f _ _ h142
  have n159 := hp149f _ _ h143
  have n160 := hp149f _ _ h144
  have n161 : q52 ∉ ([] : List Nat) := List.not_mem_nil
  have n162 : q88 ∉ ([] : List Nat) := List.not_mem_nil
  have n163 : q105 ∉ ([] : List Nat) := List.not_mem_nil
  have n164 : z1321 ∉ ([] : List Nat) := List.not_mem_nil
  have n165 : z1322 ∉ ([] : List Nat) := List.not_mem_nil
  have n166 : z1323 ∉ ([] : List Nat) := List.not_mem_nil
  have n167 : z1324 ∉ ([] : List Nat) := List.not_mem_nil
  have n168 : z1325 ∉ ([] : List Nat) := List.not_mem_nil
  have n169 : z1326 ∉ ([] : List Nat) := List.not_mem_nil
  have n170 : mo ∉ ([] : List Nat) := List.not_mem_nil
  have h102 := hp149k _ _ n161 h102
  have h103 := hp149k _ _ n162 h103
  have h137 := hp149k _ _ n163 h137
  have h138 := hp149k _ _ n164 h138
  have h139 := hp149k _ _ n165 h139
  have h140 := hp149k _ _ n166 h140
  have h141 := hp149k _ _ n167 h141
  have h142 := hp149k _ _ n168 h142
  have h143 := hp149k _ _ n169 h143
  have h144 := hp149k _ _ n170 h144
  have h171 : (v146, (.inl (G.Z.cI, 0, .inl y150) : va_E)) ∈ M147 := hp149a
  have F172 := S.1.at 19 58 (Nat.le_of_ble_eq_true rfl) (Nat.le_of_ble_eq_true rfl)
  refine m_alen S (t0 := 0) (v := 0) h171 rfl (by first | decide | rfl) dX8_lengthWith_119 ?_
  have hKp : Kp M [mo, ka] M147 := by
    intro b x hb hx
    have n173 : b ∉ [mo] := by
      intro h9; simp only [List.mem_cons, List.not_mem_nil, or_false] at h9
      · exact (fun c => hb (by rw [c]; simp)) h9
    have hx := hp12k b x n173 hx
    have n174 : b ∉ [mo] := by
      intro h9; simp only [List.mem_cons, List.not_mem_nil, or_false] at h9
      · exact (fun c => hb (by rw [c]; simp)) h9
    have hx := hp27k b x n174 hx
    have n175 : b ∉ [mo] := by
      intro h9; simp only [List.mem_cons, List.not_mem_nil, or_false] at h9
      · exact (fun c => hb (by rw [c]; simp)) h9
    have hx := hp45k b x n175 hx
    have n176 := (hN53.2 _ _ hx).2
    have hx := (hN53.2 _ _ hx).1
    have n177 : b ∉ [q52] := by
      intro h9; simp only [List.mem_cons, List.not_mem_nil, or_false] at h9
      · exact n176 h9
    have hx := hp71k b x n177 hx
    have n178 := hp87f _ _ hx
    have n179 : b ∉ [q52] := by
      intro h9; simp only [List.mem_cons, List.not_mem_nil, or_false] at h9
      · exact n176 h9
    have hx := hp87k b x n179 hx
    have n180 := (hN106.2 _ _ hx).2
    have hx := (hN106.2 _ _ hx).1
    have n181 : b ∉ [q105, mo, ka] := by
      intro h9; simp only [List.mem_cons, List.not_mem_nil, or_false] at h9
      rcases h9 with h9 | h9 | h9
      · exact n180 h9
      · exact (fun c => hb (by rw [c]; simp)) h9
      · exact (fun c => hb (by rw [c]; simp)) h9
    have hx := hp131k b x n181 hx
    have n182 := hp149f _ _ hx
    have n183 : b ∉ ([] : List Nat) := List.not_mem_nil
    have hx := hp149k b x n183 hx
    exact hx
  have hKL : KL G M M147 := fun o n f ho => hKp _ _ (by
    intro h9; simp only [List.mem_cons, List.not_mem_nil, or_false] at h9
    rcases h9 with h9 | h9
    · exact In.ne hD ho o1_0 (by simp) h9
    · exact In.ne hD ho o1_6 (by simp) h9
    ) ho
  exact m_ireturn S hRT rfl hQ (Nat.le_of_ble_eq_true rfl) (Nat.le_of_ble_eq_true rfl) dX8_lengthWith_120 rfl ⟨_, _, _, h144, hKL, rfl⟩
