set_option maxRecDepth 100000 in
set_option maxHeartbeats 4000000 in
theorem r_X8_init (l : Launch) (G : RG) (A : Nat → Prop) (M : Wl) {a : Nat} (h0 : (a, .inr (8, [.int 0, .null, .null, .null])) ∈ M) : Kr l G A yX8_init wsX8_init { frames := 5, cells := 14, slots := 61, locals := 108 } M [.ref a] (Gv G A (fun N => ∃ ka ta : Nat, Mo G a ka ta 0 N ∧ Kp M [a] N)) 14 61 := by
  refine Kr.of (cc := cX8_init) (maxL := 2) (ret := none) (by decide) rfl (Nat.le_of_ble_eq_true rfl) ?_
  intro X hXl S hRT hIN hXA hQ hD
  subst hXl
  subst hXA
  show J (X.at 0 0) 2 (PL G.Z X.A M) 0 [some (.ref a), none] []
  have F0 := S.1.at 0 0 (Nat.le_of_ble_eq_true rfl) (Nat.le_of_ble_eq_true rfl)
  have hOR := S.2.1.or
  refine j_aload_n F0 dX8_init_0 rfl ?_
  refine m_objInit S (by decide +kernel) (by decide +kernel) (by decide +kernel) (Nat.le_of_ble_eq_true rfl) (Nat.le_of_ble_eq_true rfl) dX8_init_1 ?_
  refine j_aload_n F0 dX8_init_4 rfl ?_
  refine m_new S (C := RJx4a65c) (T := TJx4a65c) (N := 3) (ci := 10) (fs := [.int 0, .null, .int 0]) (by decide +kernel) tyJx4a65c tyJx4a65c_ok (by decide +kernel) (by decide +kernel) (by decide +kernel) rfl (fun j hj => by rcases (show j = 0 ∨ j = 1 ∨ j = 2 by omega) with rfl | rfl | rfl <;> rfl) (Nat.le_of_ble_eq_true rfl) (Nat.le_of_ble_eq_true rfl) dX8_init_5 (fun q1 M3 hD4 hN2 => ?_)
  have n5 := (hN2.2 _ _ h0).2
  have h0 := (hN2.2 _ _ h0).1
  have h6 := hN2.1
  have F7 := S.1.at 1 3 (Nat.le_of_ble_eq_true rfl) (Nat.le_of_ble_eq_true rfl)
  refine j_dup F7 dX8_init_8 rfl ?_
  refine m_cIv S (n1 := 0) (rest := [.ref q1, .ref a]) (r_Jx4a65c_init_da8c8 X.l G X.A M3 h6) ⟨_, _, _, rfl, gX8_init_Jx4a65c_init_da8c8, rfl, rfl, (by decide +kernel), (by decide +kernel), (by decide +kernel), rfl, (by decide +kernel), ⟨(Nat.le_of_ble_eq_true rfl), (Nat.le_of_ble_eq_true rfl)⟩⟩ rfl (Nat.le_of_ble_eq_true rfl) (Nat.le_of_ble_eq_true rfl) (Nat.le_of_ble_eq_true rfl) rfl dX8_init_9 (fun M9 hD10 hp11 => ?_)
  have n12 : a ≠ q1 := n5
  have h0 := hp11.2 _ _ n12 h0
  have h6 := hp11.1
  refine m_putF S (C := RX8) (T := TX8) (N := 4) (v := .ref q1) (ty := (.object "java/util/ArrayList")) tyX8 tyX8_ok nmX8 (by decide +kernel) h0 rfl 1 (by decide) (by decide +kernel) (fun _ h9 => h9) rfl (hIN rfl) rfl (by decide +kernel) rfl rfl (Nat.le_of_ble_eq_true rfl) dX8_init_12 (fun M14 hD15 hU13 => ?_)
  have hU13 : Up M9 a (.inr (8, [.int 0, .ref q1, .null, .null])) M14 := hU13
  have n16 : q1 ≠ a := (Ne.symm n12)
  have h6 := hU13.2 _ _ n16 h6
  have h0 := hU13.1
  refine j_aload_n F7 dX8_init_15 rfl ?_
  refine j_bipush F7 10 dX8_init_16 (by decide) ?_
  refine m_newq S (t0 := 2) (N := 10) (by decide +kernel) S.2.1.2.2.1 rfl (by decide) (by decide) (Nat.le_of_ble_eq_true rfl) (Nat.le_of_ble_eq_true rfl) (Nat.le_of_ble_eq_true rfl) dX8_init_18 (fun q17 M19 hD20 hN18 => ?_)
  have n21 := (hN18.2 _ _ h0).2
  have h0 := (hN18.2 _ _ h0).1
  have n22 := (hN18.2 _ _ h6).2
  have h6 := (hN18.2 _ _ h6).1
  have h23 := hN18.1
  have F24 := S.1.at 2 13 (Nat.le_of_ble_eq_true rfl) (Nat.le_of_ble_eq_true rfl)
  refine m_putF S (C := RX8) (T := TX8) (N := 4) (v := .ref q17) (ty := (.array (.object "TreadleLoomModel$Reading"))) tyX8 tyX8_ok nmX8 (by decide +kernel) h0 rfl 2 (by decide) (by decide +kernel) (fun _ h9 => h9) rfl (hIN rfl) rfl (by decide +kernel) rfl rfl (Nat.le_of_ble_eq_true rfl) dX8_init_21 (fun M26 hD27 hU25 => ?_)
  have hU25 : Up M19 a (.inr (8, [.int 0, .ref q1, .ref q17, .null])) M26 := hU25
  have n28 : q1 ≠ a := n16
  have n29 : q17 ≠ a := (Ne.symm n21)
  have h6 := hU25.2 _ _ n28 h6
  have h23 := hU25.2 _ _ n29 h23
  have h0 := hU25.1
  refine j_aload_n F24 dX8_init_24 rfl ?_
  refine j_bipush F24 8 dX8_init_25 (by decide) ?_
  refine m_newi S (N := 8) (by decide +kernel) (by decide) (by decide) (Nat.le_of_ble_eq_true rfl) (Nat.le_of_ble_eq_true rfl) (Nat.le_of_ble_eq_true rfl) dX8_init_27 (fun q30 M32 hD33 hN31 => ?_)
  have n34 := (hN31.2 _ _ h0).2
  have h0 := (hN31.2 _ _ h0).1
  have n35 := (hN31.2 _ _ h6).2
  have h6 := (hN31.2 _ _ h6).1
  have n36 := (hN31.2 _ _ h23).2
  have h23 := (hN31.2 _ _ h23).1
  have h37 := hN31.1
  have F38 := S.1.at 3 21 (Nat.le_of_ble_eq_true rfl) (Nat.le_of_ble_eq_true rfl)
  refine j_dup F38 dX8_init_29 rfl ?_
  refine j_iconst F38 0 dX8_init_30 (by decide) ?_
  refine j_iconst F38 1 dX8_init_31 (by decide) ?_
  refine m_iastore S (k0 := 0) h37 (by unfold vp_in; decide) (by decide) dX8_init_32 (fun M40 hD41 hU39 => ?_)
  have n42 : a ≠ q30 := n34
  have n43 : q1 ≠ q30 := n35
  have n44 : q17 ≠ q30 := n36
  have h0 := hU39.2 _ _ n42 h0
  have h6 := hU39.2 _ _ n43 h6
  have h23 := hU39.2 _ _ n44 h23
  have h37 := hU39.1
  refine j_dup F38 dX8_init_33 rfl ?_
  refine j_iconst F38 1 dX8_init_34 (by decide) ?_
  refine j_iconst F38 2 dX8_init_35 (by decide) ?_
  refine m_iastore S (k0 := 1) h37 (by unfold vp_in; decide) (by decide) dX8_init_36 (fun M46 hD47 hU45 => ?_)
  have n48 : a ≠ q30 := n42
  have n49 : q1 ≠ q30 := n43
  have n50 : q17 ≠ q30 := n44
  have h0 := hU45.2 _ _ n48 h0
  have h6 := hU45.2 _ _ n49 h6
  have h23 := hU45.2 _ _ n50 h23
  have h37 := hU45.1
  refine j_dup F38 dX8_init_37 rfl ?_
  refine j_iconst F38 2 dX8_init_38 (by decide) ?_
  refine j_iconst F38 4 dX8_init_39 (by decide) ?_
  refine m_iastore S (k0 := 2) h37 (by unfold vp_in; decide) (by decide) dX8_init_40 (fun M52 hD53 hU51 => ?_)
  have n54 : a ≠ q30 := n48
  have n55 : q1 ≠ q30 := n49
  have n56 : q17 ≠ q30 := n50
  have h0 := hU51.2 _ _ n54 h0
  have h6 := hU51.2 _ _ n55 h6
  have h23 := hU51.2 _ _ n56 h23
  have h37 := hU51.1
  refine j_dup F38 dX8_init_41 rfl ?_
  refine j_iconst F38 3 dX8_init_42 (by decide) ?_
  refine j_bipush F38 8 dX8_init_43 (by decide) ?_
  refine m_iastore S (k0 := 3) h37 (by unfold vp_in; decide) (by decide) dX8_init_45 (fun M58 hD59 hU57 => ?_)
  have n60 : a ≠ q30 := n54
  have n61 : q1 ≠ q30 := n55
  have n62 : q17 ≠ q30 := n56
  have h0 := hU57.2 _ _ n60 h0
  have h6 := hU57.2 _ _ n61 h6
  have h23 := hU57.2 _ _ n62 h23
  have h37 := hU57.1
  refine j_dup F38 dX8_init_46 rfl ?_
  refine j_iconst F38 4 dX8_init_47 (by decide) ?_
  refine j_bipush F38 16 dX8_init_48 (by decide) ?_
  refine m_iastore S (k0 := 4) h37 (by unfold vp_in; decide) (by decide) dX8_init_50 (fun M64 hD65 hU63 => ?_)
  have n66 : a ≠ q30 := n60
  have n67 : q1 ≠ q30 := n61
  have n68 : q17 ≠ q30 := n62
  have h0 := hU63.2 _ _ n66 h0
  have h6 := hU63.2 _ _ n67 h6
  have h23 := hU63.2 _ _ n68 h23
  have h37 := hU63.1
  refine j_dup F38 dX8_init_51 rfl ?_
  refine j_iconst F38 5 dX8_init_52 (by decide) ?_
  refine j_bipush F38 32 dX8_init_53 (by decide) ?_
  refine m_iastore S (k0 := 5) h37 (by unfold vp_in; decide) (by decide) dX8_init_55 (fun M70 hD71 hU69 => ?_)
  have n72 : a ≠ q30 := n66
  have n73 : q1 ≠ q30 := n67
  have n74 : q17 ≠ q30 := n68
  have h0 := hU69.2 _ _ n72 h0
  have h6 := hU69.2 _ _ n73 h6
  have h23 := hU69.2 _ _ n74 h23
  have h37 := hU69.1
  refine j_dup F38 dX8_init_56 rfl ?_
  refine j_bipush F38 6 dX8_init_57 (by decide) ?_
  refine j_bipush F38 64 dX8_init_59 (by decide) ?_
  refine m_iastore S (k0 := 6) h37 (by unfold vp_in; decide) (by decide) dX8_init_61 (fun M76 hD77 hU75 => ?_)
  have n78 : a ≠ q30 := n72
  have n79 : q1 ≠ q30 := n73
  have n80 : q17 ≠ q30 := n74
  have h0 := hU75.2 _ _ n78 h0
  have h6 := hU75.2 _ _ n79 h6
  have h23 := hU75.2 _ _ n80 h23
  have h37 := hU75.1
  refine j_dup F38 dX8_init_62 rfl ?_
  refine j_bipush F38 7 dX8_init_63 (by decide) ?_
  refine j_sipush F38 128 dX8_init_65 (by decide) ?_
  refine m_iastore S (k0 := 7) h37 (by unfold vp_in; decide) (by decide) dX8_init_68 (fun M82 hD83 hU81 => ?_)
  have n84 : a ≠ q30 := n78
  have n85 : q1 ≠ q30 := n79
  have n86 : q17 ≠ q30 := n80
  have h0 := hU81.2 _ _ n84 h0
  have h6 := hU81.2 _ _ n85 h6
  have h23 := hU81.2 _ _ n86 h23
  have h37 := hU81.1
  refine m_putF S (C := RX8) (T := TX8) (N := 4) (v := .ref q30) (ty := (.array .int)) tyX8 tyX8_ok nmX8 (by decide +kernel) h0 rfl 3 (by decide) (by decide +kernel) (fun _ h9 => h9) rfl (hIN rfl) rfl (by decide +kernel) rfl rfl (Nat.le_of_ble_eq_true rfl) dX8_init_69 (fun M88 hD89 hU87 => ?_)
  have hU87 : Up M82 a (.inr (8, [.int 0, .ref q1, .ref q17, .ref q30])) M88 := hU87
  have n90 : q1 ≠ a := n28
  have n91 : q17 ≠ a := n29
  have n92 : q30 ≠ a := (Ne.symm n84)
  have h6 := hU87.2 _ _ n90 h6
  have h23 := hU87.2 _ _ n91 h23
  have h37 := hU87.2 _ _ n92 h37
  have h0 := hU87.1
  refine j_iconst F38 0 dX8_init_72 (by decide) ?_
  refine j_istore_n F38 [some (.ref a), some (.int 0)] dX8_init_73 (by decide) rfl rfl ?_
  refine j_iload_n F38 dX8_init_74 rfl ?_
  refine j_bipush F38 10 dX8_init_75 (by decide) ?_
  refine j_icmp_ge F38 101 dX8_init_77 (by decide) (fun h9 => absurd h9 (by decide)) (fun _ => ?_)
  refine j_aload_n F38 dX8_init_80 rfl ?_
  refine m_get S (C := RX8) (T := TX8) (N := 4) (by decide +kernel) h0 rfl (v := .ref q1) 1 (by decide) (by decide +kernel) (fun _ h9 => h9) rfl dX8_init_81 ?_
  refine m_new S (C := RJx4a65c) (T := TJx4a65c) (N := 3) (ci := 10) (fs := [.int 0, .null, .int 0]) (by decide +kernel) tyJx4a65c tyJx4a65c_ok (by decide +kernel) (by decide +kernel) (by decide +kernel) rfl (fun j hj => by rcases (show j = 0 ∨ j = 1 ∨ j = 2 by omega) with rfl | rfl | rfl <;> rfl) (Nat.le_of_ble_eq_true rfl) (Nat.le_of_ble_eq_true rfl) dX8_init_84 (fun q93 M95 hD96 hN94 => ?_)
  have n97 := (hN94.2 _ _ h0).2
  have h0 := (hN94.2 _ _ h0).1
  have n98 := (hN94.2 _ _ h6).2
  have h6 := (hN94.2 _ _ h6).1
  have n99 := (hN94.2 _ _ h23).2
  have h23 := (hN94.2 _ _ h23).1
  have n100 := (hN94.2 _ _ h37).2
  have h37 := (hN94.2 _ _ h37).1
  have h101 := hN94.1
  have F102 := S.1.at 4 24 (Nat.le_of_ble_eq_true rfl) (Nat.le_of_ble_eq_true rfl)
  refine j_dup F102 dX8_init_87 rfl ?_
  refine m_cIv S (n1 := 0) (rest := [.ref q93, .ref q1]) (r_Jx4a65c_init_da8c8 X.l G X.A M95 h101) ⟨_, _, _, rfl, gX8_init_Jx4a65c_init_da8c8, rfl, rfl, (by decide +kernel), (by decide +kernel), (by decide +kernel), rfl, (by decide +kernel), ⟨(Nat.le_of_ble_eq_true rfl), (Nat.le_of_ble_eq_true rfl)⟩⟩ rfl (Nat.le_of_ble_eq_true rfl) (Nat.le_of_ble_eq_true rfl) (Nat.le_of_ble_eq_true rfl) rfl dX8_init_88 (fun M104 hD105 hp106 => ?_)
  have n107 : a ≠ q93 := n97
  have n108 : q1 ≠ q93 := n98
  have n109 : q17 ≠ q93 := n99
  have n110 : q30 ≠ q93 := n100
  have h0 := hp106.2 _ _ n107 h0
  have h6 := hp106.2 _ _ n108 h6
  have h23 := hp106.2 _ _ n109 h23
  have h37 := hp106.2 _ _ n110 h37
  have h101 := hp106.1
  refine m_cVi S (n1 := 1) (rest := []) (r_Jx4a65c_add_9ea2d X.l G X.A M104 q93 (Or.inl ⟨_, _, (RJx4a65c, TJx4a65c, 3), h101, rfl, .head _⟩) (Ne.symm n108) h6) ⟨_, _, _, _, rfl, gX8_init_Jx4a65c_add_9ea2d, rfl, rfl, (by decide +kernel), ⟨(Nat.le_of_ble_eq_true rfl), (Nat.le_of_ble_eq_true rfl)⟩⟩ h6 rfl rfl (Nat.le_of_ble_eq_true rfl) (Nat.le_of_ble_eq_true rfl) (Nat.le_of_ble_eq_true rfl) rfl dX8_init_91 (fun v111 M112 hD113 hp114 => ?_)
  obtain ⟨hp114v, hp114⟩ := hp114
  subst hp114v
  rw [show (0 : Int32) + 1 = 1 from by decide] at hp114
  obtain ⟨q115, hp114a, hp114b, hp114k, hp114f⟩ := hp114
  have n116 := hp114f _ _ h0
  have n117 := hp114f _ _ h6
  have n118 := hp114f _ _ h23
  have n119 := hp114f _ _ h37
  have n120 := hp114f _ _ h101
  have n121 : a ∉ [q1] := by
    intro h9; simp only [List.mem_cons, List.not_mem_nil, or_false] at h9
    · exact n12 h9
  have n122 : q17 ∉ [q1] := by
    intro h9; simp only [List.mem_cons, List.not_mem_nil, or_false] at h9
    · exact (Ne.symm n22) h9
  have n123 : q30 ∉ [q1] := by
    intro h9; simp only [List.mem_cons, List.not_mem_nil, or_false] at h9
    · exact (Ne.symm n85) h9
  have n124 : q93 ∉ [q1] := by
    intro h9; simp only [List.mem_cons, List.not_mem_nil, or_false] at h9
    · exact (Ne.symm n108) h9
  have h0 := hp114k _ _ n121 h0
  have h23 := hp114k _ _ n122 h23
  have h37 := hp114k _ _ n123 h37
  have h101 := hp114k _ _ n124 h101
  have h125 : (q1, (.inr (10, [.int 1, .ref q115, .int 1]) : va_E)) ∈ M112 := hp114a
  have h126 : (q115, (.inl (G.cO, 10, .inr (.inr (.inr (.inr (va_up (fun _ => none) 0 (some q93)))))) : va_E)) ∈ M112 := hp114b
  have F127 := S.1.at 5 34 (Nat.le_of_ble_eq_true rfl) (Nat.le_of_ble_eq_true rfl)
  refine j_pop F127 dX8_init_94 rfl ?_
  refine j_iinc F127 1 [some (.ref a), some (.int 1)] dX8_init_95 rfl (by decide) (by decide) rfl rfl ?_
  refine j_goto F127 74 dX8_init_98 (by decide) ?_
  refine j_iload_n F127 dX8_init_74 rfl ?_
  refine j_bipush F127 10 dX8_init_75 (by decide) ?_
  refine j_icmp_ge F127 101 dX8_init_77 (by decide) (fun h9 => absurd h9 (by decide)) (fun _ => ?_)
  refine j_aload_n F127 dX8_init_80 rfl ?_
  refine m_get S (C := RX8) (T := TX8) (N := 4) (by decide +kernel) h0 rfl (v := .ref q1) 1 (by decide) (by decide +kernel) (fun _ h9 => h9) rfl dX8_init_81 ?_
  refine m_new S (C := RJx4a65c) (T := TJx4a65c) (N := 3) (ci := 10) (fs := [.int 0, .null, .int 0]) (by decide +kernel) tyJx4a65c tyJx4a65c_ok (by decide +kernel) (by decide +kernel) (by decide +kernel) rfl (fun j hj => by rcases (show j = 0 ∨ j = 1 ∨ j = 2 by omega) with rfl | rfl | rfl <;> rfl) (Nat.le_of_ble_eq_true rfl) (Nat.le_of_ble_eq_true rfl) dX8_init_84 (fun q128 M130 hD131 hN129 => ?_)
  have n132 := (hN129.2 _ _ h0).2
  have h0 := (hN129.2 _ _ h0).1
  have n133 := (hN129.2 _ _ h23).2
  have h23 := (hN129.2 _ _ h23).1
  have n134 := (hN129.2 _ _ h37).2
  have h37 := (hN129.2 _ _ h37).1
  have n135 := (hN129.2 _ _ h101).2
  have h101 := (hN129.2 _ _ h101).1
  have n136 := (hN129.2 _ _ h125).2
  have h125 := (hN129.2 _ _ h125).1
  have n137 := (hN129.2 _ _ h126).2
  have h126 := (hN129.2 _ _ h126).1
  have h138 := hN129.1
  have F139 := S.1.at 6 37 (Nat.le_of_ble_eq_true rfl) (Nat.le_of_ble_eq_true rfl)
  refine j_dup F139 dX8_init_87 rfl ?_
  refine m_cIv S (n1 := 0) (rest := [.ref q128, .ref q1]) (r_Jx4a65c_init_da8c8 X.l G X.A M130 h138) ⟨_, _, _, rfl, gX8_init_Jx4a65c_init_da8c8, rfl, rfl, (by decide +kernel), (by decide +kernel), (by decide +kernel), rfl, (by decide +kernel), ⟨(Nat.le_of_ble_eq_true rfl), (Nat.le_of_ble_eq_true rfl)⟩⟩ rfl (Nat.le_of_ble_eq_true rfl) (Nat.le_of_ble_eq_true rfl) (Nat.le_of_ble_eq_true rfl) rfl dX8_init_88 (fun M141 hD142 hp143 => ?_)
  have n144 : a ≠ q128 := n132
  have n145 : q17 ≠ q128 := n133
  have n146 : q30 ≠ q128 := n134
  have n147 : q93 ≠ q128 := n135
  have n148 : q1 ≠ q128 := n136
  have n149 : q115 ≠ q128 := n137
  have h0 := hp143.2 _ _ n144 h0
  have h23 := hp143.2 _ _ n145 h23
  have h37 := hp143.2 _ _ n146 h37
  have h101 := hp143.2 _ _ n147 h101
  have h125 := hp143.2 _ _ n148 h125
  have h126 := hp143.2 _ _ n149 h126
  have h138 := hp143.1
  refine m_cVi S (n1 := 1) (rest := []) (r_Jx4a65c_add_9ea2dR X.l G X.A M141 q128 (Or.inl ⟨_, _, (RJx4a65c, TJx4a65c, 3), h138, rfl, .head _⟩) (Ne.symm n148) 1 (by unfold vp_in; decide) (by decide) (by decide) h125 h126) ⟨_, _, _, _, rfl, gX8_init_Jx4a65c_add_9ea2d, rfl, rfl, (by decide +kernel), ⟨(Nat.le_of_ble_eq_true rfl), (Nat.le_of_ble_eq_true rfl)⟩⟩ h125 rfl rfl (Nat.le_of_ble_eq_true rfl) (Nat.le_of_ble_eq_true rfl) (Nat.le_of_ble_eq_true rfl) rfl dX8_init_91 (fun v150 M151 hD152 hp153 => ?_)
  obtain ⟨hp153v, hp153⟩ := hp153
  subst hp153v
  rw [show (1 : Int32) + 1 = 2 from by decide] at hp153
  obtain ⟨hp153a, hp153b, hp153k⟩ := hp153
  have n154 : a ∉ [q1, q115] := by
    intro h9; simp only [List.mem_cons, List.not_mem_nil, or_false] at h9
    rcases h9 with h9 | h9
    · exact n12 h9
    · exact n116 h9
  have n155 : q17 ∉ [q1, q115] := by
    intro h9; simp only [List.mem_cons, List.not_mem_nil, or_false] at h9
    rcases h9 with h9 | h9
    · exact (Ne.symm n22) h9
    · exact n118 h9
  have n156 : q30 ∉ [q1, q115] := by
    intro h9; simp only [List.mem_cons, List.not_mem_nil, or_false] at h9
    rcases h9 with h9 | h9
    · exact (Ne.symm n85) h9
    · exact n119 h9
  have n157 : q93 ∉ [q1, q115] := by
    intro h9; simp only [List.mem_cons, List.not_mem_nil, or_false] at h9
    rcases h9 with h9 | h9
    · exact (Ne.symm n108) h9
    · exact n120 h9
  have n158 : q128 ∉ [q1, q115] := by
    intro h9; simp only [List.mem_cons, List.not_mem_nil, or_false] at h9
    rcases h9 with h9 | h9
    · exact (Ne.symm n148) h9
    · exact (Ne.symm n149) h9
  have h0 := hp153k _ _ n154 h0
  have h23 := hp153k _ _ n155 h23
  have h37 := hp153k _ _ n156 h37
  have h101 := hp153k _ _ n157 h101
  have h138 := hp153k _ _ n158 h138
  have h159 : (q1, (.inr (10, [.int 2, .ref q115, .int 2]) : va_E)) ∈ M151 := (by have h9 := hp153a; first | (rw [show (1 : Int32) + 1 = 2 from by decide] at h9; exact h9) | exact h9)
  have h160 : (q115, (.inl (G.cO, 10, .inr (.inr (.inr (.inr (va_up (va_up (fun _ => none) 0 (some q93)) 1 (some q128)))))) : va_E)) ∈ M151 := hp153b
  refine j_pop F139 dX8_init_94 rfl ?_
  refine j_iinc F139 2 [some (.ref a), some (.int 2)] dX8_init_95 rfl (by decide) (by decide) rfl rfl ?_
  refine j_goto F139 74 dX8_init_98 (by decide) ?_
  refine j_iload_n F139 dX8_init_74 rfl ?_
  refine j_bipush F139 10 dX8_init_75 (by decide) ?_
  refine j_icmp_ge F139 101 dX8_init_77 (by decide) (fun h9 => absurd h9 (by decide)) (fun _ => ?_)
  refine j_aload_n F139 dX8_init_80 rfl ?_
  refine m_get S (C := RX8) (T := TX8) (N := 4) (by decide +kernel) h0 rfl (v := .ref q1) 1 (by decide) (by decide +kernel) (fun _ h9 => h9) rfl dX8_init_81 ?_
  refine m_new S (C := RJx4a65c) (T := TJx4a65c) (N := 3) (ci := 10) (fs := [.int 0, .null, .int 0]) (by decide +kernel) tyJx4a65c tyJx4a65c_ok (by decide +kernel) (by decide +kernel) (by decide +kernel) rfl (fun j hj => by rcases (show j = 0 ∨ j = 1 ∨ j = 2 by omega) with rfl | rfl | rfl <;> rfl) (Nat.le_of_ble_eq_true rfl) (Nat.le_of_ble_eq_true rfl) dX8_init_84 (fun q161 M163 hD164 hN162 => ?_)
  have n165 := (hN162.2 _ _ h0).2
  have h0 := (hN162.2 _ _ h0).1
  have n166 := (hN162.2 _ _ h23).2
  have h23 := (hN162.2 _ _ h23).1
  have n167 := (hN162.2 _ _ h37).2
  have h37 := (hN162.2 _ _ h37).1
  have n168 := (hN162.2 _ _ h101).2
  have h101 := (hN162.2 _ _ h101).1
  have n169 := (hN162.2 _ _ h138).2
  have h138 := (hN162.2 _ _ h138).1
  have n170 := (hN162.2 _ _ h159).2
  have h159 := (hN162.2 _ _ h159).1
  have n171 := (hN162.2 _ _ h160).2
  have h160 := (hN162.2 _ _ h160).1
  have h172 := hN162.1
  have F173 := S.1.at 7 40 (Nat.le_of_ble_eq_true rfl) (Nat.le_of_ble_eq_true rfl)
  refine j_dup F173 dX8_init_87 rfl ?_
  refine m_cIv S (n1 := 0) (rest := [.ref q161, .ref q1]) (r_Jx4a65c_init_da8c8 X.l G X.A M163 h172) ⟨_, _, _, rfl, gX8_init_Jx4a65c_init_da8c8, rfl, rfl, (by decide +kernel), (by decide +kernel), (by decide +kernel), rfl, (by decide +kernel), ⟨(Nat.le_of_ble_eq_true rfl), (Nat.le_of_ble_eq_true rfl)⟩⟩ rfl (Nat.le_of_ble_eq_true rfl) (Nat.le_of_ble_eq_true rfl) (Nat.le_of_ble_eq_true rfl) rfl dX8_init_88 (fun M175 hD176 hp177 => ?_)
  have n178 : a ≠ q161 := n165
  have n179 : q17 ≠ q161 := n166
  have n180 : q30 ≠ q161 := n167
  have n181 : q93 ≠ q161 := n168
  have n182 : q128 ≠ q161 := n169
  have n183 : q1 ≠ q161 := n170
  have n184 : q115 ≠ q161 := n171
  have h0 := hp177.2 _ _ n178 h0
  have h23 := hp177.2 _ _ n179 h23
  have h37 := hp177.2 _ _ n180 h37
  have h101 := hp177.2 _ _ n181 h101
  have h138 := hp177.2 _ _ n182 h138
  have h159 := hp177.2 _ _ n183 h159
  have h160 := hp177.2 _ _ n184 h160
  have h172 := hp177.1
  refine m_cVi S (n1 := 1) (rest := []) (r_Jx4a65c_add_9ea2dR X.l G X.A M175 q161 (Or.inl ⟨_, _, (RJx4a65c, TJx4a65c, 3), h172, rfl, .head _⟩) (Ne.symm n183) 2 (by unfold vp_in; decide) (by decide) (by decide) h159 h160) ⟨_, _, _, _, rfl, gX8_init_Jx4a65c_add_9ea2d, rfl, rfl, (by decide +kernel), ⟨(Nat.le_of_ble_eq_true rfl), (Nat.le_of_ble_eq_true rfl)⟩⟩ h159 rfl rfl (Nat.le_of_ble_eq_true rfl) (Nat.le_of_ble_eq_true rfl) (Nat.le_of_ble_eq_true rfl) rfl dX8_init_91 (fun v185 M186 hD187 hp188 => ?_)
  obtain ⟨hp188v, hp188⟩ := hp188
  subst hp188v
  rw [show (2 : Int32) + 1 = 3 from by decide] at hp188
  obtain ⟨hp188a, hp188b, hp188k⟩ := hp188
  have n189 : a ∉ [q1, q115] := by
    intro h9; simp only [List.mem_cons, List.not_mem_nil, or_false] at h9
    rcases h9 with h9 | h9
    · exact n12 h9
    · exact n116 h9
  have n190 : q17 ∉ [q1, q115] := by
    intro h9; simp only [List.mem_cons, List.not_mem_nil, or_false] at h9
    rcases h9 with h9 | h9
    · exact (Ne.symm n22) h9
    · exact n118 h9
  have n191 : q30 ∉ [q1, q115] := by
    intro h9; simp only [List.mem_cons, List.not_mem_nil, or_false] at h9
    rcases h9 with h9 | h9
    · exact (Ne.symm n85) h9
    · exact n119 h9
  have n192 : q93 ∉ [q1, q115] := by
    intro h9; simp only [List.mem_cons, List.not_mem_nil, or_false] at h9
    rcases h9 with h9 | h9
    · exact (Ne.symm n108) h9
    · exact n120 h9
  have n193 : q128 ∉ [q1, q115] := by
    intro h9; simp only [List.mem_cons, List.not_mem_nil, or_false] at h9
    rcases h9 with h9 | h9
    · exact (Ne.symm n148) h9
    · exact (Ne.symm n149) h9
  have n194 : q161 ∉ [q1, q115] := by
    intro h9; simp only [List.mem_cons, List.not_mem_nil, or_false] at h9
    rcases h9 with h9 | h9
    · exact (Ne.symm n183) h9
    · exact (Ne.symm n184) h9
  have h0 := hp188k _ _ n189 h0
  have h23 := hp188k _ _ n190 h23
  have h37 := hp188k _ _ n191 h37
  have h101 := hp188k _ _ n192 h101
  have h138 := hp188k _ _ n193 h138
  have h172 := hp188k _ _ n194 h172
  have h195 : (q1, (.inr (10, [.int 3, .ref q115, .int 3]) : va_E)) ∈ M186 := (by have h9 := hp188a; first | (rw [show (2 : Int32) + 1 = 3 from by decide] at h9; exact h9) | exact h9)
  have h196 : (q115, (.inl (G.cO, 10, .inr (.inr (.inr (.inr (va_up (va_up (va_up (fun _ => none) 0 (some q93)) 1 (some q128)) 2 (some q161)))))) : va_E)) ∈ M186 := hp188b
  refine j_pop F173 dX8_init_94 rfl ?_
  refine j_iinc F173 3 [some (.ref a), some (.int 3)] dX8_init_95 rfl (by decide) (by decide) rfl rfl ?_
  refine j_goto F173 74 dX8_init_98 (by decide) ?_
  refine j_iload_n F173 dX8_init_74 rfl ?_
  refine j_bipush F173 10 dX8_init_75 (by decide) ?_
  refine j_icmp_ge F173 101 dX8_init_77 (by decide) (fun h9 => absurd h9 (by decide)) (fun _ => ?_)
  refine j_aload_n F173 dX8_init_80 rfl ?_
  refine m_get S (C := RX8) (T := TX8) (N := 4) (by decide +kernel) h0 rfl (v := .ref q1) 1 (by decide) (by decide +kernel) (fun _ h9 => h9) rfl dX8_init_81 ?_
  refine m_new S (C := RJx4a65c) (T := TJx4a65c) (N := 3) (ci := 10) (fs := [.int 0, .null, .int 0]) (by decide +kernel) tyJx4a65c tyJx4a65c_ok (by decide +kernel) (by decide +kernel) (by decide +kernel) rfl (fun j hj => by rcases (show j = 0 ∨ j = 1 ∨ j = 2 by omega) with rfl | rfl | rfl <;> rfl) (Nat.le_of_ble_eq_true rfl) (Nat.le_of_ble_eq_true rfl) dX8_init_84 (fun q197 M199 hD200 hN198 => ?_)
  have n201 := (hN198.2 _ _ h0).2
  have h0 := (hN198.2 _ _ h0).1
  have n202 := (hN198.2 _ _ h23).2
  have h23 := (hN198.2 _ _ h23).1
  have n203 := (hN198.2 _ _ h37).2
  have h37 := (hN198.2 _ _ h37).1
  have n204 := (hN198.2 _ _ h101).2
  have h101 := (hN198.2 _ _ h101).1
  have n205 := (hN198.2 _ _ h138).2
  have h138 := (hN198.2 _ _ h138).1
  have n206 := (hN198.2 _ _ h172).2
  have h172 := (hN198.2 _ _ h172).1
  have n207 := (hN198.2 _ _ h195).2
  have h195 := (hN198.2 _ _ h195).1
  have n208 := (hN198.2 _ _ h196).2
  have h196 := (hN198.2 _ _ h196).1
  have h209 := hN198.1
  have F210 := S.1.at 8 43 (Nat.le_of_ble_eq_true rfl) (Nat.le_of_ble_eq_true rfl)
  refine j_dup F210 dX8_init_87 rfl ?_
  refine m_cIv S (n1 := 0) (rest := [.ref q197, .ref q1]) (r_Jx4a65c_init_da8c8 X.l G X.A M199 h209) ⟨_, _, _, rfl, gX8_init_Jx4a65c_init_da8c8, rfl, rfl, (by decide +kernel), (by decide +kernel), (by decide +kernel), rfl, (by decide +kernel), ⟨(Nat.le_of_ble_eq_true rfl), (Nat.le_of_ble_eq_true rfl)⟩⟩ rfl (Nat.le_of_ble_eq_true rfl) (Nat.le_of_ble_eq_true rfl) (Nat.le_of_ble_eq_true rfl) rfl dX8_init_88 (fun M212 hD213 hp214 => ?_)
  have n215 : a ≠ q197 := n201
  have n216 : q17 ≠ q197 := n202
  have n217 : q30 ≠ q197 := n203
  have n218 : q93 ≠ q197 := n204
  have n219 : q128 ≠ q197 := n205
  have n220 : q161 ≠ q197 := n206
  have n221 : q1 ≠ q197 := n207
  have n222 : q115 ≠ q197 := n208
  have h0 := hp214.2 _ _ n215 h0
  have h23 := hp214.2 _ _ n216 h23
  have h37 := hp214.2 _ _ n217 h37
  have h101 := hp214.2 _ _ n218 h101
  have h138 := hp214.2 _ _ n219 h138
  have h172 := hp214.2 _ _ n220 h172
  have h195 := hp214.2 _ _ n221 h195
  have h196 := hp214.2 _ _ n222 h196
  have h209 := hp214.1
  refine m_cVi S (n1 := 1) (rest := []) (r_Jx4a65c_add_9ea2dR X.l G X.A M212 q197 (Or.inl ⟨_, _, (RJx4a65c, TJx4a65c, 3), h209, rfl, .head _⟩) (Ne.symm n221) 3 (by unfold vp_in; decide) (by decide) (by decide) h195 h196) ⟨_, _, _, _, rfl, gX8_init_Jx4a65c_add_9ea2d, rfl, rfl, (by decide +kernel), ⟨(Nat.le_of_ble_eq_true rfl), (Nat.le_of_ble_eq_true rfl)⟩⟩ h195 rfl rfl (Nat.le_of_ble_eq_true rfl) (Nat.le_of_ble_eq_true rfl) (Nat.le_of_ble_eq_true rfl) rfl dX8_init_91 (fun v223 M224 hD225 hp226 => ?_)
  obtain ⟨hp226v, hp226⟩ := hp226
  subst hp226v
  rw [show (3 : Int32) + 1 = 4 from by decide] at hp226
  obtain ⟨hp226a, hp226b, hp226k⟩ := hp226
  have n227 : a ∉ [q1, q115] := by
    intro h9; simp only [List.mem_cons, List.not_mem_nil, or_false] at h9
    rcases h9 with h9 | h9
    · exact n12 h9
    · exact n116 h9
  have n228 : q17 ∉ [q1, q115] := by
    intro h9; simp only [List.mem_cons, List.not_mem_nil, or_false] at h9
    rcases h9 with h9 | h9
    · exact (Ne.symm n22) h9
    · exact n118 h9
  have n229 : q30 ∉ [q1, q115] := by
    intro h9; simp only [List.mem_cons, List.not_mem_nil, or_false] at h9
    rcases h9 with h9 | h9
    · exact (Ne.symm n85) h9
    · exact n119 h9
  have n230 : q93 ∉ [q1, q115] := by
    intro h9; simp only [List.mem_cons, List.not_mem_nil, or_false] at h9
    rcases h9 with h9 | h9
    · exact (Ne.symm n108) h9
    · exact n120 h9
  have n231 : q128 ∉ [q1, q115] := by
    intro h9; simp only [List.mem_cons, List.not_mem_nil, or_false] at h9
    rcases h9 with h9 | h9
    · exact (Ne.symm n148) h9
    · exact (Ne.symm n149) h9
  have n232 : q161 ∉ [q1, q115] := by
    intro h9; simp only [List.mem_cons, List.not_mem_nil, or_false] at h9
    rcases h9 with h9 | h9
    · exact (Ne.symm n183) h9
    · exact (Ne.symm n184) h9
  have n233 : q197 ∉ [q1, q115] := by
    intro h9; simp only [List.mem_cons, List.not_mem_nil, or_false] at h9
    rcases h9 with h9 | h9
    · exact (Ne.symm n221) h9
    · exact (Ne.symm n222) h9
  have h0 := hp226k _ _ n227 h0
  have h23 := hp226k _ _ n228 h23
  have h37 := hp226k _ _ n229 h37
  have h101 := hp226k _ _ n230 h101
  have h138 := hp226k _ _ n231 h138
  have h172 := hp226k _ _ n232 h172
  have h209 := hp226k _ _ n233 h209
  have h234 : (q1, (.inr (10, [.int 4, .ref q115, .int 4]) : va_E)) ∈ M224 := (by have h9 := hp226a; first | (rw [show (3 : Int32) + 1 = 4 from by decide] at h9; exact h9) | exact h9)
  have h235 : (q115, (.inl (G.cO, 10, .inr (.inr (.inr (.inr (va_up (va_up (va_up (va_up (fun _ => none) 0 (some q93)) 1 (some q128)) 2 (some q161)) 3 (some q197)))))) : va_E)) ∈ M224 := hp226b
  refine j_pop F210 dX8_init_94 rfl ?_
  refine j_iinc F210 4 [some (.ref a), some (.int 4)] dX8_init_95 rfl (by decide) (by decide) rfl rfl ?_
  refine j_goto F210 74 dX8_init_98 (by decide) ?_
  refine j_iload_n F210 dX8_init_74 rfl ?_
  refine j_bipush F210 10 dX8_init_75 (by decide) ?_
  refine j_icmp_ge F210 101 dX8_init_77 (by decide) (fun h9 => absurd h9 (by decide)) (fun _ => ?_)
  refine j_aload_n F210 dX8_init_80 rfl ?_
  refine m_get S (C := RX8) (T := TX8) (N := 4) (by decide +kernel) h0 rfl (v := .ref q1) 1 (by decide) (by decide +kernel) (fun _ h9 => h9) rfl dX8_init_81 ?_
  refine m_new S (C := RJx4a65c) (T := TJx4a65c) (N := 3) (ci := 10) (fs := [.int 0, .null, .int 0]) (by decide +kernel) tyJx4a65c tyJx4a65c_ok (by decide +kernel) (by decide +kernel) (by decide +kernel) rfl (fun j hj => by rcases (show j = 0 ∨ j = 1 ∨ j = 2 by omega) with rfl | rfl | rfl <;> rfl) (Nat.le_of_ble_eq_true rfl) (Nat.le_of_ble_eq_true rfl) dX8_init_84 (fun q236 M238 hD239 hN237 => ?_)
  have n240 := (hN237.2 _ _ h0).2
  have h0 := (hN237.2 _ _ h0).1
  have n241 := (hN237.2 _ _ h23).2
  have h23 := (hN237.2 _ _ h23).1
  have n242 := (hN237.2 _ _ h37).2
  have h37 := (hN237.2 _ _ h37).1
  have n243 := (hN237.2 _ _ h101).2
  have h101 := (hN237.2 _ _ h101).1
  have n244 := (hN237.2 _ _ h138).2
  have h138 := (hN237.2 _ _ h138).1
  have n245 := (hN237.2 _ _ h172).2
  have h172 := (hN237.2 _ _ h172).1
  have n246 := (hN237.2 _ _ h209).2
  have h209 := (hN237.2 _ _ h209).1
  have n247 := (hN237.2 _ _ h234).2
  have h234 := (hN237.2 _ _ h234).1
  have n248 := (hN237.2 _ _ h235).2
  have h235 := (hN237.2 _ _ h235).1
  have h249 := hN237.1
  have F250 := S.1.at 9 46 (Nat.le_of_ble_eq_true rfl) (Nat.le_of_ble_eq_true rfl)
  refine j_dup F250 dX8_init_87 rfl ?_
  refine m_cIv S (n1 := 0) (rest := [.ref q236, .ref q1]) (r_Jx4a65c_init_da8c8 X.l G X.A M238 h249) ⟨_, _, _, rfl, gX8_init_Jx4a65c_init_da8c8, rfl, rfl, (by decide +kernel), (by decide +kernel), (by decide +kernel), rfl, (by decide +kernel), ⟨(Nat.le_of_ble_eq_true rfl), (Nat.le_of_ble_eq_true rfl)⟩⟩ rfl (Nat.le_of_ble_eq_true rfl) (Nat.le_of_ble_eq_true rfl) (Nat.le_of_ble_eq_true rfl) rfl dX8_init_88 (fun M252 hD253 hp254 => ?_)
  have n255 : a ≠ q236 := n240
  have n256 : q17 ≠ q236 := n241
  have n257 : q30 ≠ q236 := n242
  have n258 : q93 ≠ q236 := n243
  have n259 : q128 ≠ q236 := n244
  have n260 : q161 ≠ q236 := n245
  have n261 : q197 ≠ q236 := n246
  have n262 : q1 ≠ q236 := n247
  have n263 : q115 ≠ q236 := n248
  have h0 := hp254.2 _ _ n255 h0
  have h23 := hp254.2 _ _ n256 h23
  have h37 := hp254.2 _ _ n257 h37
  have h101 := hp254.2 _ _ n258 h101
  have h138 := hp254.2 _ _ n259 h138
  have h172 := hp254.2 _ _ n260 h172
  have h209 := hp254.2 _ _ n261 h209
  have h234 := hp254.2 _ _ n262 h234
  have h235 := hp254.2 _ _ n263 h235
  have h249 := hp254.1
  refine m_cVi S (n1 := 1) (rest := []) (r_Jx4a65c_add_9ea2dR X.l G X.A M252 q236 (Or.inl ⟨_, _, (RJx4a65c, TJx4a65c, 3), h249, rfl, .head _⟩) (Ne.symm n262) 4 (by unfold vp_in; decide) (by decide) (by decide) h234 h235) ⟨_, _, _, _, rfl, gX8_init_Jx4a65c_add_9ea2d, rfl, rfl, (by decide +kernel), ⟨(Nat.le_of_ble_eq_true rfl), (Nat.le_of_ble_eq_true rfl)⟩⟩ h234 rfl rfl (Nat.le_of_ble_eq_true rfl) (Nat.le_of_ble_eq_true rfl) (Nat.le_of_ble_eq_true rfl) rfl dX8_init_91 (fun v264 M265 hD266 hp267 => ?_)
  obtain ⟨hp267v, hp267⟩ := hp267
  subst hp267v
  rw [show (4 : Int32) + 1 = 5 from by decide] at hp267
  obtain ⟨hp267a, hp267b, hp267k⟩ := hp267
  have n268 : a ∉ [q1, q115] := by
    intro h9; simp only [List.mem_cons, List.not_mem_nil, or_false] at h9
    rcases h9 with h9 | h9
    · exact n12 h9
    · exact n116 h9
  have n269 : q17 ∉ [q1, q115] := by
    intro h9; simp only [List.mem_cons, List.not_mem_nil, or_false] at h9
    rcases h9 with h9 | h9
    · exact (Ne.symm n22) h9
    · exact n118 h9
  have n270 : q30 ∉ [q1, q115] := by
    intro h9; simp only [List.mem_cons, List.not_mem_nil, or_false] at h9
    rcases h9 with h9 | h9
    · exact (Ne.symm n85) h9
    · exact n119 h9
  have n271 : q93 ∉ [q1, q115] := by
    intro h9; simp only [List.mem_cons, List.not_mem_nil, or_false] at h9
    rcases h9 with h9 | h9
    · exact (Ne.symm n108) h9
    · exact n120 h9
  have n272 : q128 ∉ [q1, q115] := by
    intro h9; simp only [List.mem_cons, List.not_mem_nil, or_false] at h9
    rcases h9 with h9 | h9
    · exact (Ne.symm n148) h9
    · exact (Ne.symm n149) h9
  have n273 : q161 ∉ [q1, q115] := by
    intro h9; simp only [List.mem_cons, List.not_mem_nil, or_false] at h9
    rcases h9 with h9 | h9
    · exact (Ne.symm n183) h9
    · exact (Ne.symm n184) h9
  have n274 : q197 ∉ [q1, q115] := by
    intro h9; simp only [List.mem_cons, List.not_mem_nil, or_false] at h9
    rcases h9 with h9 | h9
    · exact (Ne.symm n221) h9
    · exact (Ne.symm n222) h9
  have n275 : q236 ∉ [q1, q115] := by
    intro h9; simp only [List.mem_cons, List.not_mem_nil, or_false] at h9
    rcases h9 with h9 | h9
    · exact (Ne.symm n262) h9
    · exact (Ne.symm n263) h9
  have h0 := hp267k _ _ n268 h0
  have h23 := hp267k _ _ n269 h23
  have h37 := hp267k _ _ n270 h37
  have h101 := hp267k _ _ n271 h101
  have h138 := hp267k _ _ n272 h138
  have h172 := hp267k _ _ n273 h172
  have h209 := hp267k _ _ n274 h209
  have h249 := hp267k _ _ n275 h249
  have h276 : (q1, (.inr (10, [.int 5, .ref q115, .int 5]) : va_E)) ∈ M265 := (by have h9 := hp267a; first | (rw [show (4 : Int32) + 1 = 5 from by decide] at h9; exact h9) | exact h9)
  have h277 : (q115, (.inl (G.cO, 10, .inr (.inr (.inr (.inr (va_up (va_up (va_up (va_up (va_up (fun _ => none) 0 (some q93)) 1 (some q128)) 2 (some q161)) 3 (some q197)) 4 (some q236)))))) : va_E)) ∈ M265 := hp267b
  refine j_pop F250 dX8_init_94 rfl ?_
  refine j_iinc F250 5 [some (.ref a), some (.int 5)] dX8_init_95 rfl (by decide) (by decide) rfl rfl ?_
  refine j_goto F250 74 dX8_init_98 (by decide) ?_
  refine j_iload_n F250 dX8_init_74 rfl ?_
  refine j_bipush F250 10 dX8_init_75 (by decide) ?_
  refine j_icmp_ge F250 101 dX8_init_77 (by decide) (fun h9 => absurd h9 (by decide)) (fun _ => ?_)
  refine j_aload_n F250 dX8_init_80 rfl ?_
  refine m_get S (C := RX8) (T := TX8) (N := 4) (by decide +kernel) h0 rfl (v := .ref q1) 1 (by decide) (by decide +kernel) (fun _ h9 => h9) rfl dX8_init_81 ?_
  refine m_new S (C := RJx4a65c) (T := TJx4a65c) (N := 3) (ci := 10) (fs := [.int 0, .null, .int 0]) (by decide +kernel) tyJx4a65c tyJx4a65c_ok (by decide +kernel) (by decide +kernel) (by decide +kernel) rfl (fun j hj => by rcases (show j = 0 ∨ j = 1 ∨ j = 2 by omega) with rfl | rfl | rfl <;> rfl) (Nat.le_of_ble_eq_true rfl) (Nat.le_of_ble_eq_true rfl) dX8_init_84 (fun q278 M280 hD281 hN279 => ?_)
  have n282 := (hN279.2 _ _ h0).2
  have h0 := (hN279.2 _ _ h0).1
  have n283 := (hN279.2 _ _ h23).2
  have h23 := (hN279.2 _ _ h23).1
  have n284 := (hN279.2 _ _ h37).2
  have h37 := (hN279.2 _ _ h37).1
  have n285 := (hN279.2 _ _ h101).2
  have h101 := (hN279.2 _ _ h101).1
  have n286 := (hN279.2 _ _ h138).2
  have h138 := (hN279.2 _ _ h138).1
  have n287 := (hN279.2 _ _ h172).2
  have h172 := (hN279.2 _ _ h172).1
  have n288 := (hN279.2 _ _ h209).2
  have h209 := (hN279.2 _ _ h209).1
  have n289 := (hN279.2 _ _ h249).2
  have h249 := (hN279.2 _ _ h249).1
  have n290 := (hN279.2 _ _ h276).2
  have h276 := (hN279.2 _ _ h276).1
  have n291 := (hN279.2 _ _ h277).2
  have h277 := (hN279.2 _ _ h277).1
  have h292 := hN279.1
  have F293 := S.1.at 10 49 (Nat.le_of_ble_eq_true rfl) (Nat.le_of_ble_eq_true rfl)
  refine j_dup F293 dX8_init_87 rfl ?_
  refine m_cIv S (n1 := 0) (rest := [.ref q278, .ref q1]) (r_Jx4a65c_init_da8c8 X.l G X.A M280 h292) ⟨_, _, _, rfl, gX8_init_Jx4a65c_init_da8c8, rfl, rfl, (by decide +kernel), (by decide +kernel), (by decide +kernel), rfl, (by decide +kernel), ⟨(Nat.le_of_ble_eq_true rfl), (Nat.le_of_ble_eq_true rfl)⟩⟩ rfl (Nat.le_of_ble_eq_true rfl) (Nat.le_of_ble_eq_true rfl) (Nat.le_of_ble_eq_true rfl) rfl dX8_init_88 (fun M295 hD296 hp297 => ?_)
  have n298 : a ≠ q278 := n282
  have n299 : q17 ≠ q278 := n283
  have n300 : q30 ≠ q278 := n284
  have n301 : q93 ≠ q278 := n285
  have n302 : q128 ≠ q278 := n286
  have n303 : q161 ≠ q278 := n287
  have n304 : q197 ≠ q278 := n288
  have n305 : q236 ≠ q278 := n289
  have n306 : q1 ≠ q278 := n290
  have n307 : q115 ≠ q278 := n291
  have h0 := hp297.2 _ _ n298 h0
  have h23 := hp297.2 _ _ n299 h23
  have h37 := hp297.2 _ _ n300 h37
  have h101 := hp297.2 _ _ n301 h101
  have h138 := hp297.2 _ _ n302 h138
  have h172 := hp297.2 _ _ n303 h172
  have h209 := hp297.2 _ _ n304 h209
  have h249 := hp297.2 _ _ n305 h249
  have h276 := hp297.2 _ _ n306 h276
  have h277 := hp297.2 _ _ n307 h277
  have h292 := hp297.1
  refine m_cVi S (n1 := 1) (rest := []) (r_Jx4a65c_add_9ea2dR X.l G X.A M295 q278 (Or.inl ⟨_, _, (RJx4a65c, TJx4a65c, 3), h292, rfl, .head _⟩) (Ne.symm n306) 5 (by unfold vp_in; decide) (by decide) (by decide) h276 h277) ⟨_, _, _, _, rfl, gX8_init_Jx4a65c_add_9ea2d, rfl, rfl, (by decide +kernel), ⟨(Nat.le_of_ble_eq_true rfl), (Nat.le_of_ble_eq_true rfl)⟩⟩ h276 rfl rfl (Nat.le_of_ble_eq_true rfl) (Nat.le_of_ble_eq_true rfl) (Nat.le_of_ble_eq_true rfl) rfl dX8_init_91 (fun v308 M309 hD310 hp311 => ?_)
  obtain ⟨hp311v, hp311⟩ := hp311
  subst hp311v
  rw [show (5 : Int32) + 1 = 6 from by decide] at hp311
  obtain ⟨hp311a, hp311b, hp311k⟩ := hp311
  have n312 : a ∉ [q1, q115] := by
    intro h9; simp only [List.mem_cons, List.not_mem_nil, or_false] at h9
    rcases h9 with h9 | h9
    · exact n12 h9
    · exact n116 h9
  have n313 : q17 ∉ [q1, q115] := by
    intro h9; simp only [List.mem_cons, List.not_mem_nil, or_false] at h9
    rcases h9 with h9 | h9
    · exact (Ne.symm n22) h9
    · exact n118 h9
  have n314 : q30 ∉ [q1, q115] := by
    intro h9; simp only [List.mem_cons, List.not_mem_nil, or_false] at h9
    rcases h9 with h9 | h9
    · exact (Ne.symm n85) h9
    · exact n119 h9
  have n315 : q93 ∉ [q1, q115] := by
    intro h9; simp only [List.mem_cons, List.not_mem_nil, or_false] at h9
    rcases h9 with h9 | h9
    · exact (Ne.symm n108) h9
    · exact n120 h9
  have n316 : q128 ∉ [q1, q115] := by
    intro h9; simp only [List.mem_cons, List.not_mem_nil, or_false] at h9
    rcases h9 with h9 | h9
    · exact (Ne.symm n148) h9
    · exact (Ne.symm n149) h9
  have n317 : q161 ∉ [q1, q115] := by
    intro h9; simp only [List.mem_cons, List.not_mem_nil, or_false] at h9
    rcases h9 with h9 | h9
    · exact (Ne.symm n183) h9
    · exact (Ne.symm n184) h9
  have n318 : q197 ∉ [q1, q115] := by
    intro h9; simp only [List.mem_cons, List.not_mem_nil, or_false] at h9
    rcases h9 with h9 | h9
    · exact (Ne.symm n221) h9
    · exact (Ne.symm n222) h9
  have n319 : q236 ∉ [q1, q115] := by
    intro h9; simp only [List.mem_cons, List.not_mem_nil, or_false] at h9
    rcases h9 with h9 | h9
    · exact (Ne.symm n262) h9
    · exact (Ne.symm n263) h9
  have n320 : q278 ∉ [q1, q115] := by
    intro h9; simp only [List.mem_cons, List.not_mem_nil, or_false] at h9
    rcases h9 with h9 | h9
    · exact (Ne.symm n306) h9
    · exact (Ne.symm n307) h9
  have h0 := hp311k _ _ n312 h0
  have h23 := hp311k _ _ n313 h23
  have h37 := hp311k _ _ n314 h37
  have h101 := hp311k _ _ n315 h101
  have h138 := hp311k _ _ n316 h138
  have h172 := hp311k _ _ n317 h172
  have h209 := hp311k _ _ n318 h209
  have h249 := hp311k _ _ n319 h249
  have h292 := hp311k _ _ n320 h292
  have h321 : (q1, (.inr (10, [.int 6, .ref q115, .int 6]) : va_E)) ∈ M309 := (by have h9 := hp311a; first | (rw [show (5 : Int32) + 1 = 6 from by decide] at h9; exact h9) | exact h9)
  have h322 : (q115, (.inl (G.cO, 10, .inr (.inr (.inr (.inr (va_up (va_up (va_up (va_up (va_up (va_up (fun _ => none) 0 (some q93)) 1 (some q128)) 2 (some q161)) 3 (some q197)) 4 (some q236)) 5 (some q278)))))) : va_E)) ∈ M309 := hp311b
  refine j_pop F293 dX8_init_94 rfl ?_
  refine j_iinc F293 6 [some (.ref a), some (.int 6)] dX8_init_95 rfl (by decide) (by decide) rfl rfl ?_
  refine j_goto F293 74 dX8_init_98 (by decide) ?_
  refine j_iload_n F293 dX8_init_74 rfl ?_
  refine j_bipush F293 10 dX8_init_75 (by decide) ?_
  refine j_icmp_ge F293 101 dX8_init_77 (by decide) (fun h9 => absurd h9 (by decide)) (fun _ => ?_)
  refine j_aload_n F293 dX8_init_80 rfl ?_
  refine m_get S (C := RX8) (T := TX8) (N := 4) (by decide +kernel) h0 rfl (v := .ref q1) 1 (by decide) (by decide +kernel) (fun _ h9 => h9) rfl dX8_init_81 ?_
  refine m_new S (C := RJx4a65c) (T := TJx4a65c) (N := 3) (ci := 10) (fs := [.int 0, .null, .int 0]) (by decide +kernel) tyJx4a65c tyJx4a65c_ok (by decide +kernel) (by decide +kernel) (by decide +kernel) rfl (fun j hj => by rcases (show j = 0 ∨ j = 1 ∨ j = 2 by omega) with rfl | rfl | rfl <;> rfl) (Nat.le_of_ble_eq_true rfl) (Nat.le_of_ble_eq_true rfl) dX8_init_84 (fun q323 M325 hD326 hN324 => ?_)
  have n327 := (hN324.2 _ _ h0).2
  have h0 := (hN324.2 _ _ h0).1
  have n328 := (hN324.2 _ _ h23).2
  have h23 := (hN324.2 _ _ h23).1
  have n329 := (hN324.2 _ _ h37).2
  have h37 := (hN324.2 _ _ h37).1
  have n330 := (hN324.2 _ _ h101).2
  have h101 := (hN324.2 _ _ h101).1
  have n331 := (hN324.2 _ _ h138).2
  have h138 := (hN324.2 _ _ h138).1
  have n332 := (hN324.2 _ _ h172).2
  have h172 := (hN324.2 _ _ h172).1
  have n333 := (hN324.2 _ _ h209).2
  have h209 := (hN324.2 _ _ h209).1
  have n334 := (hN324.2 _ _ h249).2
  have h249 := (hN324.2 _ _ h249).1
  have n335 := (hN324.2 _ _ h292).2
  have h292 := (hN324.2 _ _ h292).1
  have n336 := (hN324.2 _ _ h321).2
  have h321 := (hN324.2 _ _ h321).1
  have n337 := (hN324.2 _ _ h322).2
  have h322 := (hN324.2 _ _ h322).1
  have h338 := hN324.1
  have F339 := S.1.at 11 52 (Nat.le_of_ble_eq_true rfl) (Nat.le_of_ble_eq_true rfl)
  refine j_dup F339 dX8_init_87 rfl ?_
  refine m_cIv S (n1 := 0) (rest := [.ref q323, .ref q1]) (r_Jx4a65c_init_da8c8 X.l G X.A M325 h338) ⟨_, _, _, rfl, gX8_init_Jx4a65c_init_da8c8, rfl, rfl, (by decide +kernel), (by decide +kernel), (by decide +kernel), rfl, (by decide +kernel), ⟨(Nat.le_of_ble_eq_true rfl), (Nat.le_of_ble_eq_true rfl)⟩⟩ rfl (Nat.le_of_ble_eq_true rfl) (Nat.le_of_ble_eq_true rfl) (Nat.le_of_ble_eq_true rfl) rfl dX8_init_88 (fun M341 hD342 hp343 => ?_)
  have n344 : a ≠ q323 := n327
  have n345 : q17 ≠ q323 := n328
  have n346 : q30 ≠ q323 := n329
  have n347 : q93 ≠ q323 := n330
  have n348 : q128 ≠ q323 := n331
  have n349 : q161 ≠ q323 := n332
  have n350 : q197 ≠ q323 := n333
  have n351 : q236 ≠ q323 := n334
  have n352 : q278 ≠ q323 := n335
  have n353 : q1 ≠ q323 := n336
  have n354 : q115 ≠ q323 := n337
  have h0 := hp343.2 _ _ n344 h0
  have h23 := hp343.2 _ _ n345 h23
  have h37 := hp343.2 _ _ n346 h37
  have h101 := hp343.2 _ _ n347 h101
  have h138 := hp343.2 _ _ n348 h138
  have h172 := hp343.2 _ _ n349 h172
  have h209 := hp343.2 _ _ n350 h209
  have h249 := hp343.2 _ _ n351 h249
  have h292 := hp343.2 _ _ n352 h292
  have h321 := hp343.2 _ _ n353 h321
  have h322 := hp343.2 _ _ n354 h322
  have h338 := hp343.1
  refine m_cVi S (n1 := 1) (rest := []) (r_Jx4a65c_add_9ea2dR X.l G X.A M341 q323 (Or.inl ⟨_, _, (RJx4a65c, TJx4a65c, 3), h338, rfl, .head _⟩) (Ne.symm n353) 6 (by unfold vp_in; decide) (by decide) (by decide) h321 h322) ⟨_, _, _, _, rfl, gX8_init_Jx4a65c_add_9ea2d, rfl, rfl, (by decide +kernel), ⟨(Nat.le_of_ble_eq_true rfl), (Nat.le_of_ble_eq_true rfl)⟩⟩ h321 rfl rfl (Nat.le_of_ble_eq_true rfl) (Nat.le_of_ble_eq_true rfl) (Nat.le_of_ble_eq_true rfl) rfl dX8_init_91 (fun v355 M356 hD357 hp358 => ?_)
  obtain ⟨hp358v, hp358⟩ := hp358
  subst hp358v
  rw [show (6 : Int32) + 1 = 7 from by decide] at hp358
  obtain ⟨hp358a, hp358b, hp358k⟩ := hp358
  have n359 : a ∉ [q1, q115] := by
    intro h9; simp only [List.mem_cons, List.not_mem_nil, or_false] at h9
    rcases h9 with h9 | h9
    · exact n12 h9
    · exact n116 h9
  have n360 : q17 ∉ [q1, q115] := by
    intro h9; simp only [List.mem_cons, List.not_mem_nil, or_false] at h9
    rcases h9 with h9 | h9
    · exact (Ne.symm n22) h9
    · exact n118 h9
  have n361 : q30 ∉ [q1, q115] := by
    intro h9; simp only [List.mem_cons, List.not_mem_nil, or_false] at h9
    rcases h9 with h9 | h9
    · exact (Ne.symm n85) h9
    · exact n119 h9
  have n362 : q93 ∉ [q1, q115] := by
    intro h9; simp only [List.mem_cons, List.not_mem_nil, or_false] at h9
    rcases h9 with h9 | h9
    · exact (Ne.symm n108) h9
    · exact n120 h9
  have n363 : q128 ∉ [q1, q115] := by
    intro h9; simp only [List.mem_cons, List.not_mem_nil, or_false] at h9
    rcases h9 with h9 | h9
    · exact (Ne.symm n148) h9
    · exact (Ne.symm n149) h9
  have n364 : q161 ∉ [q1, q115] := by
    intro h9; simp only [List.mem_cons, List.not_mem_nil, or_false] at h9
    rcases h9 with h9 | h9
    · exact (Ne.symm n183) h9
    · exact (Ne.symm n184) h9
  have n365 : q197 ∉ [q1, q115] := by
    intro h9; simp only [List.mem_cons, List.not_mem_nil, or_false] at h9
    rcases h9 with h9 | h9
    · exact (Ne.symm n221) h9
    · exact (Ne.symm n222) h9
  have n366 : q236 ∉ [q1, q115] := by
    intro h9; simp only [List.mem_cons, List.not_mem_nil, or_false] at h9
    rcases h9 with h9 | h9
    · exact (Ne.symm n262) h9
    · exact (Ne.symm n263) h9
  have n367 : q278 ∉ [q1, q115] := by
    intro h9; simp only [List.mem_cons, List.not_mem_nil, or_false] at h9
    rcases h9 with h9 | h9
    · exact (Ne.symm n306) h9
    · exact (Ne.symm n307) h9
  have n368 : q323 ∉ [q1, q115] := by
    intro h9; simp only [List.mem_cons, List.not_mem_nil, or_false] at h9
    rcases h9 with h9 | h9
    · exact (Ne.symm n353) h9
    · exact (Ne.symm n354) h9
  have h0 := hp358k _ _ n359 h0
  have h23 := hp358k _ _ n360 h23
  have h37 := hp358k _ _ n361 h37
  have h101 := hp358k _ _ n362 h101
  have h138 := hp358k _ _ n363 h138
  have h172 := hp358k _ _ n364 h172
  have h209 := hp358k _ _ n365 h209
  have h249 := hp358k _ _ n366 h249
  have h292 := hp358k _ _ n367 h292
  have h338 := hp358k _ _ n368 h338
  have h369 : (q1, (.inr (10, [.int 7, .ref q115, .int 7]) : va_E)) ∈ M356 := (by have h9 := hp358a; first | (rw [show (6 : Int32) + 1 = 7 from by decide] at h9; exact h9) | exact h9)
  have h370 : (q115, (.inl (G.cO, 10, .inr (.inr (.inr (.inr (va_up (va_up (va_up (va_up (va_up (va_up (va_up (fun _ => none) 0 (some q93)) 1 (some q128)) 2 (some q161)) 3 (some q197)) 4 (some q236)) 5 (some q278)) 6 (some q323)))))) : va_E)) ∈ M356 := hp358b
  refine j_pop F339 dX8_init_94 rfl ?_
  refine j_iinc F339 7 [some (.ref a), some (.int 7)] dX8_init_95 rfl (by decide) (by decide) rfl rfl ?_
  refine j_goto F339 74 dX8_init_98 (by decide) ?_
  refine j_iload_n F339 dX8_init_74 rfl ?_
  refine j_bipush F339 10 dX8_init_75 (by decide) ?_
  refine j_icmp_ge F339 101 dX8_init_77 (by decide) (fun h9 => absurd h9 (by decide)) (fun _ => ?_)
  refine j_aload_n F339 dX8_init_80 rfl ?_
  refine m_get S (C := RX8) (T := TX8) (N := 4) (by decide +kernel) h0 rfl (v := .ref q1) 1 (by decide) (by decide +kernel) (fun _ h9 => h9) rfl dX8_init_81 ?_
  refine m_new S (C := RJx4a65c) (T := TJx4a65c) (N := 3) (ci := 10) (fs := [.int 0, .null, .int 0]) (by decide +kernel) tyJx4a65c tyJx4a65c_ok (by decide +kernel) (by decide +kernel) (by decide +kernel) rfl (fun j hj => by rcases (show j = 0 ∨ j = 1 ∨ j = 2 by omega) with rfl | rfl | rfl <;> rfl) (Nat.le_of_ble_eq_true rfl) (Nat.le_of_ble_eq_true rfl) dX8_init_84 (fun q371 M373 hD374 hN372 => ?_)
  have n375 := (hN372.2 _ _ h0).2
  have h0 := (hN372.2 _ _ h0).1
  have n376 := (hN372.2 _ _ h23).2
  have h23 := (hN372.2 _ _ h23).1
  have n377 := (hN372.2 _ _ h37).2
  have h37 := (hN372.2 _ _ h37).1
  have n378 := (hN372.2 _ _ h101).2
  have h101 := (hN372.2 _ _ h101).1
  have n379 := (hN372.2 _ _ h138).2
  have h138 := (hN372.2 _ _ h138).1
  have n380 := (hN372.2 _ _ h172).2
  have h172 := (hN372.2 _ _ h172).1
  have n381 := (hN372.2 _ _ h209).2
  have h209 := (hN372.2 _ _ h209).1
  have n382 := (hN372.2 _ _ h249).2
  have h249 := (hN372.2 _ _ h249).1
  have n383 := (hN372.2 _ _ h292).2
  have h292 := (hN372.2 _ _ h292).1
  have n384 := (hN372.2 _ _ h338).2
  have h338 := (hN372.2 _ _ h338).1
  have n385 := (hN372.2 _ _ h369).2
  have h369 := (hN372.2 _ _ h369).1
  have n386 := (hN372.2 _ _ h370).2
  have h370 := (hN372.2 _ _ h370).1
  have h387 := hN372.1
  have F388 := S.1.at 12 55 (Nat.le_of_ble_eq_true rfl) (Nat.le_of_ble_eq_true rfl)
  refine j_dup F388 dX8_init_87 rfl ?_
  refine m_cIv S (n1 := 0) (rest := [.ref q371, .ref q1]) (r_Jx4a65c_init_da8c8 X.l G X.A M373 h387) ⟨_, _, _, rfl, gX8_init_Jx4a65c_init_da8c8, rfl, rfl, (by decide +kernel), (by decide +kernel), (by decide +kernel), rfl, (by decide +kernel), ⟨(Nat.le_of_ble_eq_true rfl), (Nat.le_of_ble_eq_true rfl)⟩⟩ rfl (Nat.le_of_ble_eq_true rfl) (Nat.le_of_ble_eq_true rfl) (Nat.le_of_ble_eq_true rfl) rfl dX8_init_88 (fun M390 hD391 hp392 => ?_)
  have n393 : a ≠ q371 := n375
  have n394 : q17 ≠ q371 := n376
  have n395 : q30 ≠ q371 := n377
  have n396 : q93 ≠ q371 := n378
  have n397 : q128 ≠ q371 := n379
  have n398 : q161 ≠ q371 := n380
  have n399 : q197 ≠ q371 := n381
  have n400 : q236 ≠ q371 := n382
  have n401 : q278 ≠ q371 := n383
  have n402 : q323 ≠ q371 := n384
  have n403 : q1 ≠ q371 := n385
  have n404 : q115 ≠ q371 := n386
  have h0 := hp392.2 _ _ n393 h0
  have h23 := hp392.2 _ _ n394 h23
  have h37 := hp392.2 _ _ n395 h37
  have h101 := hp392.2 _ _ n396 h101
  have h138 := hp392.2 _ _ n397 h138
  have h172 := hp392.2 _ _ n398 h172
  have h209 := hp392.2 _ _ n399 h209
  have h249 := hp392.2 _ _ n400 h249
  have h292 := hp392.2 _ _ n401 h292
  have h338 := hp392.2 _ _ n402 h338
  have h369 := hp392.2 _ _ n403 h369
  have h370 := hp392.2 _ _ n404 h370
  have h387 := hp392.1
  refine m_cVi S (n1 := 1) (rest := []) (r_Jx4a65c_add_9ea2dR X.l G X.A M390 q371 (Or.inl ⟨_, _, (RJx4a65c, TJx4a65c, 3), h387, rfl, .head _⟩) (Ne.symm n403) 7 (by unfold vp_in; decide) (by decide) (by decide) h369 h370) ⟨_, _, _, _, rfl, gX8_init_Jx4a65c_add_9ea2d, rfl, rfl, (by decide +kernel), ⟨(Nat.le_of_ble_eq_true rfl), (Nat.le_of_ble_eq_true rfl)⟩⟩ h369 rfl rfl (Nat.le_of_ble_eq_true rfl) (Nat.le_of_ble_eq_true rfl) (Nat.le_of_ble_eq_true rfl) rfl dX8_init_91 (fun v405 M406 hD407 hp408 => ?_)
  obtain ⟨hp408v, hp408⟩ := hp408
  subst hp408v
  rw [show (7 : Int32) + 1 = 8 from by decide] at hp408
  obtain ⟨hp408a, hp408b, hp408k⟩ := hp408
  have n409 : a ∉ [q1, q115] := by
    intro h9; simp only [List.mem_cons, List.not_mem_nil, or_false] at h9
    rcases h9 with h9 | h9
    · exact n12 h9
    · exact n116 h9
  have n410 : q17 ∉ [q1, q115] := by
    intro h9; simp only [List.mem_cons, List.not_mem_nil, or_false] at h9
    rcases h9 with h9 | h9
    · exact (Ne.symm n22) h9
    · exact n118 h9
  have n411 : q30 ∉ [q1, q115] := by
    intro h9; simp only [List.mem_cons, List.not_mem_nil, or_false] at h9
    rcases h9 with h9 | h9
    · exact (Ne.symm n85) h9
    · exact n119 h9
  have n412 : q93 ∉ [q1, q115] := by
    intro h9; simp only [List.mem_cons, List.not_mem_nil, or_false] at h9
    rcases h9 with h9 | h9
    · exact (Ne.symm n108) h9
    · exact n120 h9
  have n413 : q128 ∉ [q1, q115] := by
    intro h9; simp only [List.mem_cons, List.not_mem_nil, or_false] at h9
    rcases h9 with h9 | h9
    · exact (Ne.symm n148) h9
    · exact (Ne.symm n149) h9
  have n414 : q161 ∉ [q1, q115] := by
    intro h9; simp only [List.mem_cons, List.not_mem_nil, or_false] at h9
    rcases h9 with h9 | h9
    · exact (Ne.symm n183) h9
    · exact (Ne.symm n184) h9
  have n415 : q197 ∉ [q1, q115] := by
    intro h9; simp only [List.mem_cons, List.not_mem_nil, or_false] at h9
    rcases h9 with h9 | h9
    · exact (Ne.symm n221) h9
    · exact (Ne.symm n222) h9
  have n416 : q236 ∉ [q1, q115] := by
    intro h9; simp only [List.mem_cons, List.not_mem_nil, or_false] at h9
    rcases h9 with h9 | h9
    · exact (Ne.symm n262) h9
    · exact (Ne.symm n263) h9
  have n417 : q278 ∉ [q1, q115] := by
    intro h9; simp only [List.mem_cons, List.not_mem_nil, or_false] at h9
    rcases h9 with h9 | h9
    · exact (Ne.symm n306) h9
    · exact (Ne.symm n307) h9
  have n418 : q323 ∉ [q1, q115] := by
    intro h9; simp only [List.mem_cons, List.not_mem_nil, or_false] at h9
    rcases h9 with h9 | h9
    · exact (Ne.symm n353) h9
    · exact (Ne.symm n354) h9
  have n419 : q371 ∉ [q1, q115] := by
    intro h9; simp only [List.mem_cons, List.not_mem_nil, or_false] at h9
    rcases h9 with h9 | h9
    · exact (Ne.symm n403) h9
    · exact (Ne.symm n404) h9
  have h0 := hp408k _ _ n409 h0
  have h23 := hp408k _ _ n410 h23
  have h37 := hp408k _ _ n411 h37
  have h101 := hp408k _ _ n412 h101
  have h138 := hp408k _ _ n413 h138
  have h172 := hp408k _ _ n414 h172
  have h209 := hp408k _ _ n415 h209
  have h249 := hp408k _ _ n416 h249
  have h292 := hp408k _ _ n417 h292
  have h338 := hp408k _ _ n418 h338
  have h387 := hp408k _ _ n419 h387
  have h420 : (q1, (.inr (10, [.int 8, .ref q115, .int 8]) : va_E)) ∈ M406 := (by have h9 := hp408a; first | (rw [show (7 : Int32) + 1 = 8 from by decide] at h9; exact h9) | exact h9)
  have h421 : (q115, (.inl (G.cO, 10, .inr (.inr (.inr (.inr (va_up (va_up (va_up (va_up (va_up (va_up (va_up (va_up (fun _ => none) 0 (some q93)) 1 (some q128)) 2 (some q161)) 3 (some q197)) 4 (some q236)) 5 (some q278)) 6 (some q323)) 7 (some q371)))))) : va_E)) ∈ M406 := hp408b
  refine j_pop F388 dX8_init_94 rfl ?_
  refine j_iinc F388 8 [some (.ref a), some (.int 8)] dX8_init_95 rfl (by decide) (by decide) rfl rfl ?_
  refine j_goto F388 74 dX8_init_98 (by decide) ?_
  refine j_iload_n F388 dX8_init_74 rfl ?_
  refine j_bipush F388 10 dX8_init_75 (by decide) ?_
  refine j_icmp_ge F388 101 dX8_init_77 (by decide) (fun h9 => absurd h9 (by decide)) (fun _ => ?_)
  refine j_aload_n F388 dX8_init_80 rfl ?_
  refine m_get S (C := RX8) (T := TX8) (N := 4) (by decide +kernel) h0 rfl (v := .ref q1) 1 (by decide) (by decide +kernel) (fun _ h9 => h9) rfl dX8_init_81 ?_
  refine m_new S (C := RJx4a65c) (T := TJx4a65c) (N := 3) (ci := 10) (fs := [.int 0, .null, .int 0]) (by decide +kernel) tyJx4a65c tyJx4a65c_ok (by decide +kernel) (by decide +kernel) (by decide +kernel) rfl (fun j hj => by rcases (show j = 0 ∨ j = 1 ∨ j = 2 by omega) with rfl | rfl | rfl <;> rfl) (Nat.le_of_ble_eq_true rfl) (Nat.le_of_ble_eq_true rfl) dX8_init_84 (fun q422 M424 hD425 hN423 => ?_)
  have n426 := (hN423.2 _ _ h0).2
  have h0 := (hN423.2 _ _ h0).1
  have n427 := (hN423.2 _ _ h23).2
  have h23 := (hN423.2 _ _ h23).1
  have n428 := (hN423.2 _ _ h37).2
  have h37 := (hN423.2 _ _ h37).1
  have n429 := (hN423.2 _ _ h101).2
  have h101 := (hN423.2 _ _ h101).1
  have n430 := (hN423.2 _ _ h138).2
  have h138 := (hN423.2 _ _ h138).1
  have n431 := (hN423.2 _ _ h172).2
  have h172 := (hN423.2 _ _ h172).1
  have n432 := (hN423.2 _ _ h209).2
  have h209 := (hN423.2 _ _ h209).1
  have n433 := (hN423.2 _ _ h249).2
  have h249 := (hN423.2 _ _ h249).1
  have n434 := (hN423.2 _ _ h292).2
  have h292 := (hN423.2 _ _ h292).1
  have n435 := (hN423.2 _ _ h338).2
  have h338 := (hN423.2 _ _ h338).1
  have n436 := (hN423.2 _ _ h387).2
  have h387 := (hN423.2 _ _ h387).1
  have n437 := (hN423.2 _ _ h420).2
  have h420 := (hN423.2 _ _ h420).1
  have n438 := (hN423.2 _ _ h421).2
  have h421 := (hN423.2 _ _ h421).1
  have h439 := hN423.1
  have F440 := S.1.at 13 58 (Nat.le_of_ble_eq_true rfl) (Nat.le_of_ble_eq_true rfl)
  refine j_dup F440 dX8_init_87 rfl ?_
  refine m_cIv S (n1 := 0) (rest := [.ref q422, .ref q1]) (r_Jx4a65c_init_da8c8 X.l G X.A M424 h439) ⟨_, _, _, rfl, gX8_init_Jx4a65c_init_da8c8, rfl, rfl, (by decide +kernel), (by decide +kernel), (by decide +kernel), rfl, (by decide +kernel), ⟨(Nat.le_of_ble_eq_true rfl), (Nat.le_of_ble_eq_true rfl)⟩⟩ rfl (Nat.le_of_ble_eq_true rfl) (Nat.le_of_ble_eq_true rfl) (Nat.le_of_ble_eq_true rfl) rfl dX8_init_88 (fun M442 hD443 hp444 => ?_)
  have n445 : a ≠ q422 := n426
  have n446 : q17 ≠ q422 := n427
  have n447 : q30 ≠ q422 := n428
  have n448 : q93 ≠ q422 := n429
  have n449 : q128 ≠ q422 := n430
  have n450 : q161 ≠ q422 := n431
  have n451 : q197 ≠ q422 := n432
  have n452 : q236 ≠ q422 := n433
  have n453 : q278 ≠ q422 := n434
  have n454 : q323 ≠ q422 := n435
  have n455 : q371 ≠ q422 := n436
  have n456 : q1 ≠ q422 := n437
  have n457 : q115 ≠ q422 := n438
  have h0 := hp444.2 _ _ n445 h0
  have h23 := hp444.2 _ _ n446 h23
  have h37 := hp444.2 _ _ n447 h37
  have h101 := hp444.2 _ _ n448 h101
  have h138 := hp444.2 _ _ n449 h138
  have h172 := hp444.2 _ _ n450 h172
  have h209 := hp444.2 _ _ n451 h209
  have h249 := hp444.2 _ _ n452 h249
  have h292 := hp444.2 _ _ n453 h292
  have h338 := hp444.2 _ _ n454 h338
  have h387 := hp444.2 _ _ n455 h387
  have h420 := hp444.2 _ _ n456 h420
  have h421 := hp444.2 _ _ n457 h421
  have h439 := hp444.1
  refine m_cVi S (n1 := 1) (rest := []) (r_Jx4a65c_add_9ea2dR X.l G X.A M442 q422 (Or.inl ⟨_, _, (RJx4a65c, TJx4a65c, 3), h439, rfl, .head _⟩) (Ne.symm n456) 8 (by unfold vp_in; decide) (by decide) (by decide) h420 h421) ⟨_, _, _, _, rfl, gX8_init_Jx4a65c_add_9ea2d, rfl, rfl, (by decide +kernel), ⟨(Nat.le_of_ble_eq_true rfl), (Nat.le_of_ble_eq_true rfl)⟩⟩ h420 rfl rfl (Nat.le_of_ble_eq_true rfl) (Nat.le_of_ble_eq_true rfl) (Nat.le_of_ble_eq_true rfl) rfl dX8_init_91 (fun v458 M459 hD460 hp461 => ?_)
  obtain ⟨hp461v, hp461⟩ := hp461
  subst hp461v
  rw [show (8 : Int32) + 1 = 9 from by decide] at hp461
  obtain ⟨hp461a, hp461b, hp461k⟩ := hp461
  have n462 : a ∉ [q1, q115] := by
    intro h9; simp only [List.mem_cons, List.not_mem_nil, or_false] at h9
    rcases h9 with h9 | h9
    · exact n12 h9
    · exact n116 h9
  have n463 : q17 ∉ [q1, q115] := by
    intro h9; simp only [List.mem_cons, List.not_mem_nil, or_false] at h9
    rcases h9 with h9 | h9
    · exact (Ne.symm n22) h9
    · exact n118 h9
  have n464 : q30 ∉ [q1, q115] := by
    intro h9; simp only [List.mem_cons, List.not_mem_nil, or_false] at h9
    rcases h9 with h9 | h9
    · exact (Ne.symm n85) h9
    · exact n119 h9
  have n465 : q93 ∉ [q1, q115] := by
    intro h9; simp only [List.mem_cons, List.not_mem_nil, or_false] at h9
    rcases h9 with h9 | h9
    · exact (Ne.symm n108) h9
    · exact n120 h9
  have n466 : q128 ∉ [q1, q115] := by
    intro h9; simp only [List.mem_cons, List.not_mem_nil, or_false] at h9
    rcases h9 with h9 | h9
    · exact (Ne.symm n148) h9
    · exact (Ne.symm n149) h9
  have n467 : q161 ∉ [q1, q115] := by
    intro h9; simp only [List.mem_cons, List.not_mem_nil, or_false] at h9
    rcases h9 with h9 | h9
    · exact (Ne.symm n183) h9
    · exact (Ne.symm n184) h9
  have n468 : q197 ∉ [q1, q115] := by
    intro h9; simp only [List.mem_cons, List.not_mem_nil, or_false] at h9
    rcases h9 with h9 | h9
    · exact (Ne.symm n221) h9
    · exact (Ne.symm n222) h9
  have n469 : q236 ∉ [q1, q115] := by
    intro h9; simp only [List.mem_cons, List.not_mem_nil, or_false] at h9
    rcases h9 with h9 | h9
    · exact (Ne.symm n262) h9
    · exact (Ne.symm n263) h9
  have n470 : q278 ∉ [q1, q115] := by
    intro h9; simp only [List.mem_cons, List.not_mem_nil, or_false] at h9
    rcases h9 with h9 | h9
    · exact (Ne.symm n306) h9
    · exact (Ne.symm n307) h9
  have n471 : q323 ∉ [q1, q115] := by
    intro h9; simp only [List.mem_cons, List.not_mem_nil, or_false] at h9
    rcases h9 with h9 | h9
    · exact (Ne.symm n353) h9
    · exact (Ne.symm n354) h9
  have n472 : q371 ∉ [q1, q115] := by
    intro h9; simp only [List.mem_cons, List.not_mem_nil, or_false] at h9
    rcases h9 with h9 | h9
    · exact (Ne.symm n403) h9
    · exact (Ne.symm n404) h9
  have n473 : q422 ∉ [q1, q115] := by
    intro h9; simp only [List.mem_cons, List.not_mem_nil, or_false] at h9
    rcases h9 with h9 | h9
    · exact (Ne.symm n456) h9
    · exact (Ne.symm n457) h9
  have h0 := hp461k _ _ n462 h0
  have h23 := hp461k _ _ n463 h23
  have h37 := hp461k _ _ n464 h37
  have h101 := hp461k _ _ n465 h101
  have h138 := hp461k _ _ n466 h138
  have h172 := hp461k _ _ n467 h172
  have h209 := hp461k _ _ n468 h209
  have h249 := hp461k _ _ n469 h249
  have h292 := hp461k _ _ n470 h292
  have h338 := hp461k _ _ n471 h338
  have h387 := hp461k _ _ n472 h387
  have h439 := hp461k _ _ n473 h439
  have h474 : (q1, (.inr (10, [.int 9, .ref q115, .int 9]) : va_E)) ∈ M459 := (by have h9 := hp461a; first | (rw [show (8 : Int32) + 1 = 9 from by decide] at h9; exact h9) | exact h9)
  have h475 : (q115, (.inl (G.cO, 10, .inr (.inr (.inr (.inr (va_up (va_up (va_up (va_up (va_up (va_up (va_up (va_up (va_up (fun _ => none) 0 (some q93)) 1 (some q128)) 2 (some q161)) 3 (some q197)) 4 (some q236)) 5 (some q278)) 6 (some q323)) 7 (some q371)) 8 (some q422)))))) : va_E)) ∈ M459 := hp461b
  refine j_pop F440 dX8_init_94 rfl ?_
  refine j_iinc F440 9 [some (.ref a), some (.int 9)] dX8_init_95 rfl (by decide) (by decide) rfl rfl ?_
  refine j_goto F440 74 dX8_init_98 (by decide) ?_
  refine j_iload_n F440 dX8_init_74 rfl ?_
  refine j_bipush F440 10 dX8_init_75 (by decide) ?_
  refine j_icmp_ge F440 101 dX8_init_77 (by decide) (fun h9 => absurd h9 (by decide)) (fun _ => ?_)
  refine j_aload_n F440 dX8_init_80 rfl ?_
  refine m_get S (C := RX8) (T := TX8) (N := 4) (by decide +kernel) h0 rfl (v := .ref q1) 1 (by decide) (by decide +kernel) (fun _ h9 => h9) rfl dX8_init_81 ?_
  refine m_new S (C := RJx4a65c) (T := TJx4a65c) (N := 3) (ci := 10) (fs := [.int 0, .null, .int 0]) (by decide +kernel) tyJx4a65c tyJx4a65c_ok (by decide +kernel) (by decide +kernel) (by decide +kernel) rfl (fun j hj => by rcases (show j = 0 ∨ j = 1 ∨ j = 2 by omega) with rfl | rfl | rfl <;> rfl) (Nat.le_of_ble_eq_true rfl) (Nat.le_of_ble_eq_true rfl) dX8_init_84 (fun q476 M478 hD479 hN477 => ?_)
  have n480 := (hN477.2 _ _ h0).2
  have h0 := (hN477.2 _ _ h0).1
  have n481 := (hN477.2 _ _ h23).2
  have h23 := (hN477.2 _ _ h23).1
  have n482 := (hN477.2 _ _ h37).2
  have h37 := (hN477.2 _ _ h37).1
  have n483 := (hN477.2 _ _ h101).2
  have h101 := (hN477.2 _ _ h101).1
  have n484 := (hN477.2 _ _ h138).2
  have h138 := (hN477.2 _ _ h138).1
  have n485 := (hN477.2 _ _ h172).2
  have h172 := (hN477.2 _ _ h172).1
  have n486 := (hN477.2 _ _ h209).2
  have h209 := (hN477.2 _ _ h209).1
  have n487 := (hN477.2 _ _ h249).2
  have h249 := (hN477.2 _ _ h249).1
  have n488 := (hN477.2 _ _ h292).2
  have h292 := (hN477.2 _ _ h292).1
  have n489 := (hN477.2 _ _ h338).2
  have h338 := (hN477.2 _ _ h338).1
  have n490 := (hN477.2 _ _ h387).2
  have h387 := (hN477.2 _ _ h387).1
  have n491 := (hN477.2 _ _ h439).2
  have h439 := (hN477.2 _ _ h439).1
  have n492 := (hN477.2 _ _ h474).2
  have h474 := (hN477.2 _ _ h474).1
  have n493 := (hN477.2 _ _ h475).2
  have h475 := (hN477.2 _ _ h475).1
  have h494 := hN477.1
  have F495 := S.1.at 14 61 (Nat.le_of_ble_eq_true rfl) (Nat.le_of_ble_eq_true rfl)
  refine j_dup F495 dX8_init_87 rfl ?_
  refine m_cIv S (n1 := 0) (rest := [.ref q476, .ref q1]) (r_Jx4a65c_init_da8c8 X.l G X.A M478 h494) ⟨_, _, _, rfl, gX8_init_Jx4a65c_init_da8c8, rfl, rfl, (by decide +kernel), (by decide +kernel), (by decide +kernel), rfl, (by decide +kernel), ⟨(Nat.le_of_ble_eq_true rfl), (Nat.le_of_ble_eq_true rfl)⟩⟩ rfl (Nat.le_of_ble_eq_true rfl) (Nat.le_of_ble_eq_true rfl) (Nat.le_of_ble_eq_true rfl) rfl dX8_init_88 (fun M497 hD498 hp499 => ?_)
  have n500 : a ≠ q476 := n480
  have n501 : q17 ≠ q476 := n481
  have n502 : q30 ≠ q476 := n482
  have n503 : q93 ≠ q476 := n483
  have n504 : q128 ≠ q476 := n484
  have n505 : q161 ≠ q476 := n485
  have n506 : q197 ≠ q476 := n486
  have n507 : q236 ≠ q476 := n487
  have n508 : q278 ≠ q476 := n488
  have n509 : q323 ≠ q476 := n489
  have n510 : q371 ≠ q476 := n490
  have n511 : q422 ≠ q476 := n491
  have n512 : q1 ≠ q476 := n492
  have n513 : q115 ≠ q476 := n493
  have h0 := hp499.2 _ _ n500 h0
  have h23 := hp499.2 _ _ n501 h23
  have h37 := hp499.2 _ _ n502 h37
  have h101 := hp499.2 _ _ n503 h101
  have h138 := hp499.2 _ _ n504 h138
  have h172 := hp499.2 _ _ n505 h172
  have h209 := hp499.2 _ _ n506 h209
  have h249 := hp499.2 _ _ n507 h249
  have h292 := hp499.2 _ _ n508 h292
  have h338 := hp499.2 _ _ n509 h338
  have h387 := hp499.2 _ _ n510 h387
  have h439 := hp499.2 _ _ n511 h439
  have h474 := hp499.2 _ _ n512 h474
  have h475 := hp499.2 _ _ n513 h475
  have h494 := hp499.1
  refine m_cVi S (n1 := 1) (rest := []) (r_Jx4a65c_add_9ea2dR X.l G X.A M497 q476 (Or.inl ⟨_, _, (RJx4a65c, TJx4a65c, 3), h494, rfl, .head _⟩) (Ne.symm n512) 9 (by unfold vp_in; decide) (by decide) (by decide) h474 h475) ⟨_, _, _, _, rfl, gX8_init_Jx4a65c_add_9ea2d, rfl, rfl, (by decide +kernel), ⟨(Nat.le_of_ble_eq_true rfl), (Nat.le_of_ble_eq_true rfl)⟩⟩ h474 rfl rfl (Nat.le_of_ble_eq_true rfl) (Nat.le_of_ble_eq_true rfl) (Nat.le_of_ble_eq_true rfl) rfl dX8_init_91 (fun v514 M515 hD516 hp517 => ?_)
  obtain ⟨hp517v, hp517⟩ := hp517
  subst hp517v
  rw [show (9 : Int32) + 1 = 10 from by decide] at hp517
  obtain ⟨hp517a, hp517b, hp517k⟩ := hp517
  have n518 : a ∉ [q1, q115] := by
    intro h9; simp only [List.mem_cons, List.not_mem_nil, or_false] at h9
    rcases h9 with h9 | h9
    · exact n12 h9
    · exact n116 h9
  have n519 : q17 ∉ [q1, q115] := by
    intro h9; simp only [List.mem_cons, List.not_mem_nil, or_false] at h9
    rcases h9 with h9 | h9
    · exact (Ne.symm n22) h9
    · exact n118 h9
  have n520 : q30 ∉ [q1, q115] := by
    intro h9; simp only [List.mem_cons, List.not_mem_nil, or_false] at h9
    rcases h9 with h9 | h9
    · exact (Ne.symm n85) h9
    · exact n119 h9
  have n521 : q93 ∉ [q1, q115] := by
    intro h9; simp only [List.mem_cons, List.not_mem_nil, or_false] at h9
    rcases h9 with h9 | h9
    · exact (Ne.symm n108) h9
    · exact n120 h9
  have n522 : q128 ∉ [q1, q115] := by
    intro h9; simp only [List.mem_cons, List.not_mem_nil, or_false] at h9
    rcases h9 with h9 | h9
    · exact (Ne.symm n148) h9
    · exact (Ne.symm n149) h9
  have n523 : q161 ∉ [q1, q115] := by
    intro h9; simp only [List.mem_cons, List.not_mem_nil, or_false] at h9
    rcases h9 with h9 | h9
    · exact (Ne.symm n183) h9
    · exact (Ne.symm n184) h9
  have n524 : q197 ∉ [q1, q115] := by
    intro h9; simp only [List.mem_cons, List.not_mem_nil, or_false] at h9
    rcases h9 with h9 | h9
    · exact (Ne.symm n221) h9
    · exact (Ne.symm n222) h9
  have n525 : q236 ∉ [q1, q115] := by
    intro h9; simp only [List.mem_cons, List.not_mem_nil, or_false] at h9
    rcases h9 with h9 | h9
    · exact (Ne.symm n262) h9
    · exact (Ne.symm n263) h9
  have n526 : q278 ∉ [q1, q115] := by
    intro h9; simp only [List.mem_cons, List.not_mem_nil, or_false] at h9
    rcases h9 with h9 | h9
    · exact (Ne.symm n306) h9
    · exact (Ne.symm n307) h9
  have n527 : q323 ∉ [q1, q115] := by
    intro h9; simp only [List.mem_cons, List.not_mem_nil, or_false] at h9
    rcases h9 with h9 | h9
    · exact (Ne.symm n353) h9
    · exact (Ne.symm n354) h9
  have n528 : q371 ∉ [q1, q115] := by
    intro h9; simp only [List.mem_cons, List.not_mem_nil, or_false] at h9
    rcases h9 with h9 | h9
    · exact (Ne.symm n403) h9
    · exact (Ne.symm n404) h9
  have n529 : q422 ∉ [q1, q115] := by
    intro h9; simp only [List.mem_cons, List.not_mem_nil, or_false] at h9
    rcases h9 with h9 | h9
    · exact (Ne.symm n456) h9
    · exact (Ne.symm n457) h9
  have n530 : q476 ∉ [q1, q115] := by
    intro h9; simp only [List.mem_cons, List.not_mem_nil, or_false] at h9
    rcases h9 with h9 | h9
    · exact (Ne.symm n512) h9
    · exact (Ne.symm n513) h9
  have h0 := hp517k _ _ n518 h0
  have h23 := hp517k _ _ n519 h23
  have h37 := hp517k _ _ n520 h37
  have h101 := hp517k _ _ n521 h101
  have h138 := hp517k _ _ n522 h138
  have h172 := hp517k _ _ n523 h172
  have h209 := hp517k _ _ n524 h209
  have h249 := hp517k _ _ n525 h249
  have h292 := hp517k _ _ n526 h292
  have h338 := hp517k _ _ n527 h338
  have h387 := hp517k _ _ n528 h387
  have h439 := hp517k _ _ n529 h439
  have h494 := hp517k _ _ n530 h494
  have h531 : (q1, (.inr (10, [.int 10, .ref q115, .int 10]) : va_E)) ∈ M515 := (by have h9 := hp517a; first | (rw [show (9 : Int32) + 1 = 10 from by decide] at h9; exact h9) | exact h9)
  have h532 : (q115, (.inl (G.cO, 10, .inr (.inr (.inr (.inr (va_up (va_up (va_up (va_up (va_up (va_up (va_up (va_up (va_up (va_up (fun _ => none) 0 (some q93)) 1 (some q128)) 2 (some q161)) 3 (some q197)) 4 (some q236)) 5 (some q278)) 6 (some q323)) 7 (some q371)) 8 (some q422)) 9 (some q476)))))) : va_E)) ∈ M515 := hp517b
  refine j_pop F495 dX8_init_94 rfl ?_
  refine j_iinc F495 10 [some (.ref a), some (.int 10)] dX8_init_95 rfl (by decide) (by decide) rfl rfl ?_
  refine j_goto F495 74 dX8_init_98 (by decide) ?_
  refine j_iload_n F495 dX8_init_74 rfl ?_
  refine j_bipush F495 10 dX8_init_75 (by decide) ?_
  refine j_icmp_ge F495 101 dX8_init_77 (by decide) (fun _ => ?_) (fun h9 => absurd (by decide) h9)
  have hKp : Kp M [a] M515 := by
    intro b x hb hx
    have n533 := (hN2.2 _ _ hx).2
    have hx := (hN2.2 _ _ hx).1
    have hx := hp11.2 _ _ n533 hx
    have hx := hU13.2 _ _ (fun c => hb (by rw [c]; simp)) hx
    have n534 := (hN18.2 _ _ hx).2
    have hx := (hN18.2 _ _ hx).1
    have hx := hU25.2 _ _ (fun c => hb (by rw [c]; simp)) hx
    have n535 := (hN31.2 _ _ hx).2
    have hx := (hN31.2 _ _ hx).1
    have hx := hU39.2 _ _ n535 hx
    have hx := hU45.2 _ _ n535 hx
    have hx := hU51.2 _ _ n535 hx
    have hx := hU57.2 _ _ n535 hx
    have hx := hU63.2 _ _ n535 hx
    have hx := hU69.2 _ _ n535 hx
    have hx := hU75.2 _ _ n535 hx
    have hx := hU81.2 _ _ n535 hx
    have hx := hU87.2 _ _ (fun c => hb (by rw [c]; simp)) hx
    have n536 := (hN94.2 _ _ hx).2
    have hx := (hN94.2 _ _ hx).1
    have hx := hp106.2 _ _ n536 hx
    have n537 := hp114f _ _ hx
    have n538 : b ∉ [q1] := by
      intro h9; simp only [List.mem_cons, List.not_mem_nil, or_false] at h9
      · exact n533 h9
    have hx := hp114k b x n538 hx
    have n539 := (hN129.2 _ _ hx).2
    have hx := (hN129.2 _ _ hx).1
    have hx := hp143.2 _ _ n539 hx
    have n540 : b ∉ [q1, q115] := by
      intro h9; simp only [List.mem_cons, List.not_mem_nil, or_false] at h9
      rcases h9 with h9 | h9
      · exact n533 h9
      · exact n537 h9
    have hx := hp153k b x n540 hx
    have n541 := (hN162.2 _ _ hx).2
    have hx := (hN162.2 _ _ hx).1
    have hx := hp177.2 _ _ n541 hx
    have n542 : b ∉ [q1, q115] := by
      intro h9; simp only [List.mem_cons, List.not_mem_nil, or_false] at h9
      rcases h9 with h9 | h9
      · exact n533 h9
      · exact n537 h9
    have hx := hp188k b x n542 hx
    have n543 := (hN198.2 _ _ hx).2
    have hx := (hN198.2 _ _ hx).1
    have hx := hp214.2 _ _ n543 hx
    have n544 : b ∉ [q1, q115] := by
      intro h9; simp only [List.mem_cons, List.not_mem_nil, or_false] at h9
      rcases h9 with h9 | h9
      · exact n533 h9
      · exact n537 h9
    have hx := hp226k b x n544 hx
    have n545 := (hN237.2 _ _ hx).2
    have hx := (hN237.2 _ _ hx).1
    have hx := hp254.2 _ _ n545 hx
    have n546 : b ∉ [q1, q115] := by
      intro h9; simp only [List.mem_cons, List.not_mem_nil, or_false] at h9
      rcases h9 with h9 | h9
      · exact n533 h9
      · exact n537 h9
    have hx := hp267k b x n546 hx
    have n547 := (hN279.2 _ _ hx).2
    have hx := (hN279.2 _ _ hx).1
    have hx := hp297.2 _ _ n547 hx
    have n548 : b ∉ [q1, q115] := by
      intro h9; simp only [List.mem_cons, List.not_mem_nil, or_false] at h9
      rcases h9 with h9 | h9
      · exact n533 h9
      · exact n537 h9
    have hx := hp311k b x n548 hx
    have n549 := (hN324.2 _ _ hx).2
    have hx := (hN324.2 _ _ hx).1
    have hx := hp343.2 _ _ n549 hx
    have n550 : b ∉ [q1, q115] := by
      intro h9; simp only [List.mem_cons, List.not_mem_nil, or_false] at h9
      rcases h9 with h9 | h9
      · exact n533 h9
      · exact n537 h9
    have hx := hp358k b x n550 hx
    have n551 := (hN372.2 _ _ hx).2
    have hx := (hN372.2 _ _ hx).1
    have hx := hp392.2 _ _ n551 hx
    have n552 : b ∉ [q1, q115] := by
      intro h9; simp only [List.mem_cons, List.not_mem_nil, or_false] at h9
      rcases h9 with h9 | h9
      · exact n533 h9
      · exact n537 h9
    have hx := hp408k b x n552 hx
    have n553 := (hN423.2 _ _ hx).2
    have hx := (hN423.2 _ _ hx).1
    have hx := hp444.2 _ _ n553 hx
    have n554 : b ∉ [q1, q115] := by
      intro h9; simp only [List.mem_cons, List.not_mem_nil, or_false] at h9
      rcases h9 with h9 | h9
      · exact n533 h9
      · exact n537 h9
    have hx := hp461k b x n554 hx
    have n555 := (hN477.2 _ _ hx).2
    have hx := (hN477.2 _ _ hx).1
    have hx := hp499.2 _ _ n555 hx
    have n556 : b ∉ [q1, q115] := by
      intro h9; simp only [List.mem_cons, List.not_mem_nil, or_false] at h9
      rcases h9 with h9 | h9
      · exact n533 h9
      · exact n537 h9
    have hx := hp517k b x n556 hx
    exact hx
  have hls : ∀ p, p < 10 → ∃ t, (va_up (va_up (va_up (va_up (va_up (va_up (va_up (va_up (va_up (va_up (fun _ => none) 0 (some q93)) 1 (some q128)) 2 (some q161)) 3 (some q197)) 4 (some q236)) 5 (some q278)) 6 (some q323)) 7 (some q371)) 8 (some q422)) 9 (some q476)) p = some t ∧ (t, (.inr (10, [.int 0, .ref G.e0, .int 0]) : va_E)) ∈ M515 := by
    intro p hp
    rcases (show p = 0 ∨ p = 1 ∨ p = 2 ∨ p = 3 ∨ p = 4 ∨ p = 5 ∨ p = 6 ∨ p = 7 ∨ p = 8 ∨ p = 9 by omega) with rfl | rfl | rfl | rfl | rfl | rfl | rfl | rfl | rfl | rfl
    · exact ⟨q93, rfl, h101⟩
    · exact ⟨q128, rfl, h138⟩
    · exact ⟨q161, rfl, h172⟩
    · exact ⟨q197, rfl, h209⟩
    · exact ⟨q236, rfl, h249⟩
    · exact ⟨q278, rfl, h292⟩
    · exact ⟨q323, rfl, h338⟩
    · exact ⟨q371, rfl, h387⟩
    · exact ⟨q422, rfl, h439⟩
    · exact ⟨q476, rfl, h494⟩
  have hMo : Mo G a q17 q30 0 M515 := ⟨q1, q115, _, _, _, h0, h531, h532, hls, h37, (fun k hk => by rcases (show k = 0 ∨ k = 1 ∨ k = 2 ∨ k = 3 ∨ k = 4 ∨ k = 5 ∨ k = 6 ∨ k = 7 by omega) with rfl | rfl | rfl | rfl | rfl | rfl | rfl | rfl <;> decide), h23, (fun p q hp hq => by cases hq)⟩
  exact m_return S hRT rfl hQ (Nat.le_of_ble_eq_true rfl) (Nat.le_of_ble_eq_true rfl) dX8_init_101 ⟨q17, q30, hMo, hKp⟩
