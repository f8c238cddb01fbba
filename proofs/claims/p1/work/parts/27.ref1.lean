set_option maxRecDepth 100000 in
set_option maxHeartbeats 4000000 in
theorem r_X6_init (l : Launch) (G : RG) (A : Nat → Prop) (M : Wl) {a : Nat} (h0 : (a, .inr (6, [.null])) ∈ M) : Kr l G A yX6_init wsX6_init { frames := 4, cells := 1, slots := 3, locals := 80 } M [.ref a] (Gv G A (fun N => ∃ q : Nat, (a, (.inr (6, [.ref q]) : va_E)) ∈ N ∧ (q, (.inr (10, [.int 0, .ref G.e0, .int 0]) : va_E)) ∈ N ∧ Kp M [a] N ∧ ∀ (b : Nat) (x : va_E), (b, x) ∈ M → b ≠ q)) 1 3 := by
  refine Kr.of (cc := cX6_init) (maxL := 1) (ret := none) (by decide) rfl (Nat.le_of_ble_eq_true rfl) ?_
  intro X hXl S hRT hIN hXA hQ hD
  subst hXl
  subst hXA
  show J (X.at 0 0) 1 (PL G.Z X.A M) 0 [some (.ref a)] []
  have F0 := S.1.at 0 0 (Nat.le_of_ble_eq_true rfl) (Nat.le_of_ble_eq_true rfl)
  have hOR := S.2.1.or
  refine j_aload_n F0 dX6_init_0 rfl ?_
  refine m_objInit S (by decide +kernel) (by decide +kernel) (by decide +kernel) (Nat.le_of_ble_eq_true rfl) (Nat.le_of_ble_eq_true rfl) dX6_init_1 ?_
  refine j_aload_n F0 dX6_init_4 rfl ?_
  refine m_new S (C := RJx4a65c) (T := TJx4a65c) (N := 3) (ci := 10) (fs := [.int 0, .null, .int 0]) (by decide +kernel) tyJx4a65c tyJx4a65c_ok (by decide +kernel) (by decide +kernel) (by decide +kernel) rfl (fun j hj => by rcases (show j = 0 ∨ j = 1 ∨ j = 2 by omega) with rfl | rfl | rfl <;> rfl) (Nat.le_of_ble_eq_true rfl) (Nat.le_of_ble_eq_true rfl) dX6_init_5 (fun q1 M3 hD4 hN2 => ?_)
  have n5 := (hN2.2 _ _ h0).2
  have h0 := (hN2.2 _ _ h0).1
  have h6 := hN2.1
  have F7 := S.1.at 1 3 (Nat.le_of_ble_eq_true rfl) (Nat.le_of_ble_eq_true rfl)
  refine j_dup F7 dX6_init_8 rfl ?_
  refine m_cIv S (n1 := 0) (rest := [.ref q1, .ref a]) (r_Jx4a65c_init_da8c8 X.l G X.A M3 h6) ⟨_, _, _, rfl, gX6_init_Jx4a65c_init_da8c8, rfl, rfl, (by decide +kernel), (by decide +kernel), (by decide +kernel), rfl, (by decide +kernel), ⟨(Nat.le_of_ble_eq_true rfl), (Nat.le_of_ble_eq_true rfl)⟩⟩ rfl (Nat.le_of_ble_eq_true rfl) (Nat.le_of_ble_eq_true rfl) (Nat.le_of_ble_eq_true rfl) rfl dX6_init_9 (fun M9 hD10 hp11 => ?_)
  have n12 : a ≠ q1 := n5
  have h0 := hp11.2 _ _ n12 h0
  have h6 := hp11.1
  refine m_putF S (C := RX6) (T := TX6) (N := 1) (v := .ref q1) (ty := (.object "java/util/ArrayList")) tyX6 tyX6_ok nmX6 (by decide +kernel) h0 rfl 0 (by decide) (by decide +kernel) (fun _ h9 => h9) rfl (hIN rfl) rfl (by decide +kernel) rfl rfl (Nat.le_of_ble_eq_true rfl) dX6_init_12 (fun M14 hD15 hU13 => ?_)
  have hU13 : Up M9 a (.inr (6, [.ref q1])) M14 := hU13
  have n16 : q1 ≠ a := (Ne.symm n12)
  have h6 := hU13.2 _ _ n16 h6
  have h0 := hU13.1
  have hKp : Kp M [a] M14 := by
    intro b x hb hx
    have n17 := (hN2.2 _ _ hx).2
    have hx := (hN2.2 _ _ hx).1
    have hx := hp11.2 _ _ n17 hx
    have hx := hU13.2 _ _ (fun c => hb (by rw [c]; simp)) hx
    exact hx
  have hFr : ∀ (b : Nat) (x : va_E), (b, x) ∈ M → b ≠ q1 := by
    intro b x hx; exact (hN2.2 _ _ hx).2
  exact m_return S hRT rfl hQ (Nat.le_of_ble_eq_true rfl) (Nat.le_of_ble_eq_true rfl) dX6_init_15 ⟨q1, h0, h6, hKp, hFr⟩

set_option maxRecDepth 100000 in
set_option maxHeartbeats 4000000 in
theorem r_X6_all (l : Launch) (G : RG) (A : Nat → Prop) (M : Wl) {a q : Nat} (h0 : (a, .inr (6, [.ref q])) ∈ M) (h1 : (q, .inr (10, [.int 0, .ref G.e0, .int 0])) ∈ M) : Kr l G A yX6_all wsX6_all { frames := 1, cells := 1, slots := 0, locals := 20 } M [.ref a] (Gr G A (fun v N => (v, (.inl (G.Z.cI, 0, .inl (fun _ => 0)) : va_E)) ∈ N ∧ Kp M [] N ∧ ∀ (b : Nat) (x : va_E), (b, x) ∈ M → b ≠ v)) 1 0 := by
  refine Kr.of (cc := cX6_all) (maxL := 3) (ret := (some (.array .int))) (by decide) rfl (Nat.le_of_ble_eq_true rfl) ?_
  intro X hXl S hRT hIN hXA hQ hD
  subst hXl
  subst hXA
  show J (X.at 0 0) 3 (PL G.Z X.A M) 0 [some (.ref a), none, none] []
  have F0 := S.1.at 0 0 (Nat.le_of_ble_eq_true rfl) (Nat.le_of_ble_eq_true rfl)
  have hOR := S.2.1.or
  refine j_iconst F0 0 dX6_all_0 (by decide) ?_
  refine m_newi S (N := 0) (by decide +kernel) (by decide) (by decide) (Nat.le_of_ble_eq_true rfl) (Nat.le_of_ble_eq_true rfl) (Nat.le_of_ble_eq_true rfl) dX6_all_1 (fun q1 M3 hD4 hN2 => ?_)
  have n5 := (hN2.2 _ _ h0).2
  have h0 := (hN2.2 _ _ h0).1
  have n6 := (hN2.2 _ _ h1).2
  have h1 := (hN2.2 _ _ h1).1
  have h7 := hN2.1
  have F8 := S.1.at 1 0 (Nat.le_of_ble_eq_true rfl) (Nat.le_of_ble_eq_true rfl)
  refine j_astore_n F8 [some (.ref a), some (.ref q1), none] dX6_all_3 (by decide) rfl rfl ?_
  refine j_iconst F8 0 dX6_all_4 (by decide) ?_
  refine j_istore_n F8 [some (.ref a), some (.ref q1), some (.int 0)] dX6_all_5 (by decide) rfl rfl ?_
  refine j_iload_n F8 dX6_all_6 rfl ?_
  refine j_aload_n F8 dX6_all_7 rfl ?_
  refine m_get S (C := RX6) (T := TX6) (N := 1) (by decide +kernel) h0 rfl (v := .ref q) 0 (by decide) (by decide +kernel) (fun _ h9 => h9) rfl dX6_all_8 ?_
  refine m_cVi S (n1 := 0) (rest := [.int 0]) (r_Jx4a65c_size_8abf5 X.l G X.A M3 h1) ⟨_, _, _, _, rfl, gX6_all_Jx4a65c_size_8abf5, rfl, rfl, (by decide +kernel), ⟨(Nat.le_of_ble_eq_true rfl), (Nat.le_of_ble_eq_true rfl)⟩⟩ h1 rfl rfl (Nat.le_of_ble_eq_true rfl) (Nat.le_of_ble_eq_true rfl) (Nat.le_of_ble_eq_true rfl) rfl dX6_all_11 (fun v9 M10 hD11 hp12 => ?_)
  obtain ⟨hp12a, hp12b⟩ := hp12
  subst hp12a
  subst hp12b
  refine j_icmp_ge F8 39 dX6_all_14 (by decide) (fun _ => ?_) (fun h9 => absurd (by decide) h9)
  refine j_aload_n F8 dX6_all_39 rfl ?_
  have hKp : Kp M [] M3 := by
    intro b x hb hx
    have n13 := (hN2.2 _ _ hx).2
    have hx := (hN2.2 _ _ hx).1
    exact hx
  have hFr : ∀ (b : Nat) (x : va_E), (b, x) ∈ M → b ≠ q1 := by
    intro b x hx
    have n14 := (hN2.2 _ _ hx).2
    exact n14
  exact m_areturn S hRT (by first | exact Or.inl ⟨_, rfl⟩ | exact Or.inr ⟨_, rfl⟩) rfl hQ (Nat.le_of_ble_eq_true rfl) (Nat.le_of_ble_eq_true rfl) dX6_all_40 ⟨h7, hKp, hFr⟩

/-- what a reading of an empty program has made -/
def Rd (G : RG) (mo : Nat) (p : Int32) (q : Nat) (N : Wl) : Prop := ∃ q1 q2 q3 q4 : Nat, (q, (.inr (7, [.int p, .ref q1, .int 0, .int (-1), .ref mo]) : va_E)) ∈ N ∧ (q1, (.inr (10, [.int 1, .ref q2, .int 1]) : va_E)) ∈ N ∧ (q2, (.inl (G.cO, 10, .inr (.inr (.inr (.inr (va_up (fun _ => none) 0 (some q3)))))) : va_E)) ∈ N ∧ (q3, (.inr (6, [.ref q4]) : va_E)) ∈ N ∧ (q4, (.inr (10, [.int 0, .ref G.e0, .int 0]) : va_E)) ∈ N

set_option maxRecDepth 100000 in
set_option maxHeartbeats 4000000 in
theorem r_X7_init (l : Launch) (G : RG) (A : Nat → Prop) (M : Wl) {a mo t : Nat} {p : Int32} (h0 : (a, .inr (7, [.int 0, .null, .int 0, .int 0, .null])) ∈ M) (h1 : (t, .inr (10, [.int 0, .ref G.e0, .int 0])) ∈ M) : Kr l G A yX7_init wsX7_init { frames := 5, cells := 4, slots := 17, locals := 108 } M [.ref a, .ref mo, .int p, .ref t] (Gv G A (fun N => Rd G mo p a N ∧ Kp M [a] N)) 4 17 := by
  refine Kr.of (cc := cX7_init) (maxL := 5) (ret := none) (by decide) rfl (Nat.le_of_ble_eq_true rfl) ?_
  intro X hXl S hRT hIN hXA hQ hD
  subst hXl
  subst hXA
  show J (X.at 0 0) 5 (PL G.Z X.A M) 0 [some (.ref a), some (.ref mo), some (.int p), some (.ref t), none] []
  have F0 := S.1.at 0 0 (Nat.le_of_ble_eq_true rfl) (Nat.le_of_ble_eq_true rfl)
  have hOR := S.2.1.or
  refine j_aload_n F0 dX7_init_0 rfl ?_
  refine j_aload_n F0 dX7_init_1 rfl ?_
  refine m_putF S (C := RX7) (T := TX7) (N := 5) (v := .ref mo) (ty := (.object "TreadleLoomModel")) tyX7 tyX7_ok nmX7 (by decide +kernel) h0 rfl 4 (by decide) (by decide +kernel) (fun _ h9 => h9) rfl (hIN rfl) rfl (by decide +kernel) rfl rfl (Nat.le_of_ble_eq_true rfl) dX7_init_2 (fun M2 hD3 hU1 => ?_)
  have hU1 : Up M a (.inr (7, [.int 0, .null, .int 0, .int 0, .ref mo])) M2 := hU1
  have n4 : t ≠ a := (In.ne hD h1 h0 (by simp))
  have h1 := hU1.2 _ _ n4 h1
  have h0 := hU1.1
  refine j_aload_n F0 dX7_init_5 rfl ?_
  refine m_objInit S (by decide +kernel) (by decide +kernel) (by decide +kernel) (Nat.le_of_ble_eq_true rfl) (Nat.le_of_ble_eq_true rfl) dX7_init_6 ?_
  refine j_aload_n F0 dX7_init_9 rfl ?_
  refine m_new S (C := RJx4a65c) (T := TJx4a65c) (N := 3) (ci := 10) (fs := [.int 0, .null, .int 0]) (by decide +kernel) tyJx4a65c tyJx4a65c_ok (by decide +kernel) (by decide +kernel) (by decide +kernel) rfl (fun j hj => by rcases (show j = 0 ∨ j = 1 ∨ j = 2 by omega) with rfl | rfl | rfl <;> rfl) (Nat.le_of_ble_eq_true rfl) (Nat.le_of_ble_eq_true rfl) dX7_init_10 (fun q5 M7 hD8 hN6 => ?_)
  have n9 := (hN6.2 _ _ h0).2
  have h0 := (hN6.2 _ _ h0).1
  have n10 := (hN6.2 _ _ h1).2
  have h1 := (hN6.2 _ _ h1).1
  have h11 := hN6.1
  have F12 := S.1.at 1 3 (Nat.le_of_ble_eq_true rfl) (Nat.le_of_ble_eq_true rfl)
  refine j_dup F12 dX7_init_13 rfl ?_
  refine m_cIv S (n1 := 0) (rest := [.ref q5, .ref a]) (r_Jx4a65c_init_da8c8 X.l G X.A M7 h11) ⟨_, _, _, rfl, gX7_init_Jx4a65c_init_da8c8, rfl, rfl, (by decide +kernel), (by decide +kernel), (by decide +kernel), rfl, (by decide +kernel), ⟨(Nat.le_of_ble_eq_true rfl), (Nat.le_of_ble_eq_true rfl)⟩⟩ rfl (Nat.le_of_ble_eq_true rfl) (Nat.le_of_ble_eq_true rfl) (Nat.le_of_ble_eq_true rfl) rfl dX7_init_14 (fun M14 hD15 hp16 => ?_)
  have n17 : a ≠ q5 := n9
  have n18 : t ≠ q5 := n10
  have h0 := hp16.2 _ _ n17 h0
  have h1 := hp16.2 _ _ n18 h1
  have h11 := hp16.1
  refine m_putF S (C := RX7) (T := TX7) (N := 5) (v := .ref q5) (ty := (.object "java/util/ArrayList")) tyX7 tyX7_ok nmX7 (by decide +kernel) h0 rfl 1 (by decide) (by decide +kernel) (fun _ h9 => h9) rfl (hIN rfl) rfl (by decide +kernel) rfl rfl (Nat.le_of_ble_eq_true rfl) dX7_init_17 (fun M20 hD21 hU19 => ?_)
  have hU19 : Up M14 a (.inr (7, [.int 0, .ref q5, .int 0, .int 0, .ref mo])) M20 := hU19
  have n22 : t ≠ a := n4
  have n23 : q5 ≠ a := (Ne.symm n17)
  have h1 := hU19.2 _ _ n22 h1
  have h11 := hU19.2 _ _ n23 h11
  have h0 := hU19.1
  refine j_aload_n F12 dX7_init_20 rfl ?_
  refine j_iconst F12 (-1) dX7_init_21 (by decide) ?_
  refine m_put S (C := RX7) (T := TX7) (N := 5) (v := .int (-1)) (ty := .int) tyX7 tyX7_ok nmX7 (by decide +kernel) h0 rfl 3 (by decide) (by decide +kernel) (fun _ h9 => h9) rfl (by decide +kernel) rfl rfl (Nat.le_of_ble_eq_true rfl) dX7_init_22 (fun M25 hD26 hU24 => ?_)
  have hU24 : Up M20 a (.inr (7, [.int 0, .ref q5, .int 0, .int (-1), .ref mo])) M25 := hU24
  have n27 : t ≠ a := n22
  have n28 : q5 ≠ a := n23
  have h1 := hU24.2 _ _ n27 h1
  have h11 := hU24.2 _ _ n28 h11
  have h0 := hU24.1
  refine j_aload_n F12 dX7_init_25 rfl ?_
  refine j_iload_n F12 dX7_init_26 rfl ?_
  refine m_putF S (C := RX7) (T := TX7) (N := 5) (v := .int p) (ty := .int) tyX7 tyX7_ok nmX7 (by decide +kernel) h0 rfl 0 (by decide) (by decide +kernel) (fun _ h9 => h9) rfl (hIN rfl) rfl (by decide +kernel) rfl rfl (Nat.le_of_ble_eq_true rfl) dX7_init_27 (fun M30 hD31 hU29 => ?_)
  have hU29 : Up M25 a (.inr (7, [.int p, .ref q5, .int 0, .int (-1), .ref mo])) M30 := hU29
  have n32 : t ≠ a := n27
  have n33 : q5 ≠ a := n28
  have h1 := hU29.2 _ _ n32 h1
  have h11 := hU29.2 _ _ n33 h11
  have h0 := hU29.1
  refine j_aload_n F12 dX7_init_30 rfl ?_
  refine m_get S (C := RX7) (T := TX7) (N := 5) (by decide +kernel) h0 rfl (v := .ref q5) 1 (by decide) (by decide +kernel) (fun _ h9 => h9) rfl dX7_init_31 ?_
  refine m_new S (C := RX6) (T := TX6) (N := 1) (ci := 6) (fs := [.null]) (by decide +kernel) tyX6 tyX6_ok (by decide +kernel) (by decide +kernel) (by decide +kernel) rfl (fun j hj => by rcases (show j = 0 by omega) with rfl <;> rfl) (Nat.le_of_ble_eq_true rfl) (Nat.le_of_ble_eq_true rfl) dX7_init_34 (fun q34 M36 hD37 hN35 => ?_)
  have n38 := (hN35.2 _ _ h0).2
  have h0 := (hN35.2 _ _ h0).1
  have n39 := (hN35.2 _ _ h1).2
  have h1 := (hN35.2 _ _ h1).1
  have n40 := (hN35.2 _ _ h11).2
  have h11 := (hN35.2 _ _ h11).1
  have h41 := hN35.1
  have F42 := S.1.at 2 4 (Nat.le_of_ble_eq_true rfl) (Nat.le_of_ble_eq_true rfl)
  refine j_dup F42 dX7_init_37 rfl ?_
  refine m_cINv S (n1 := 0) (rest := [.ref q34, .ref q5]) (r_X6_init X.l G X.A M36 h41) ⟨_, _, _, _, 1, rfl, rfl, gX7_init_X6_init_n31, rfl, rfl, (by decide +kernel), (by decide +kernel), ⟨(Nat.le_of_ble_eq_true rfl), (Nat.le_of_ble_eq_true rfl)⟩⟩ rfl (by decide +kernel) rfl (Nat.le_of_ble_eq_true rfl) (Nat.le_of_ble_eq_true rfl) (Nat.le_of_ble_eq_true rfl) rfl dX7_init_38 (fun M44 hD45 hp46 => ?_)
  obtain ⟨q47, hp46a, hp46b, hp46k, hp46f⟩ := hp46
  have n48 := hp46f _ _ h0
  have n49 := hp46f _ _ h1
  have n50 := hp46f _ _ h11
  have n51 := hp46f _ _ h41
  have n52 : a ∉ [q34] := by
    intro h9; simp only [List.mem_cons, List.not_mem_nil, or_false] at h9
    · exact n38 h9
  have n53 : t ∉ [q34] := by
    intro h9; simp only [List.mem_cons, List.not_mem_nil, or_false] at h9
    · exact n39 h9
  have n54 : q5 ∉ [q34] := by
    intro h9; simp only [List.mem_cons, List.not_mem_nil, or_false] at h9
    · exact n40 h9
  have h0 := hp46k _ _ n52 h0
  have h1 := hp46k _ _ n53 h1
  have h11 := hp46k _ _ n54 h11
  have h55 : (q34, (.inr (6, [.ref q47]) : va_E)) ∈ M44 := hp46a
  have h56 : (q47, (.inr (10, [.int 0, .ref G.e0, .int 0]) : va_E)) ∈ M44 := hp46b
  have F57 := S.1.at 3 7 (Nat.le_of_ble_eq_true rfl) (Nat.le_of_ble_eq_true rfl)
  refine m_cVi S (n1 := 1) (rest := []) (r_Jx4a65c_add_9ea2d X.l G X.A M44 q34 (Or.inl ⟨_, _, (RX6, TX6, 1), h55, rfl, .tail _ (.head _)⟩) (Ne.symm n40) h11) ⟨_, _, _, _, rfl, gX7_init_Jx4a65c_add_9ea2d, rfl, rfl, (by decide +kernel), ⟨(Nat.le_of_ble_eq_true rfl), (Nat.le_of_ble_eq_true rfl)⟩⟩ h11 rfl rfl (Nat.le_of_ble_eq_true rfl) (Nat.le_of_ble_eq_true rfl) (Nat.le_of_ble_eq_true rfl) rfl dX7_init_41 (fun v58 M59 hD60 hp61 => ?_)
  obtain ⟨hp61v, hp61⟩ := hp61
  subst hp61v
  rw [show (0 : Int32) + 1 = 1 from by decide] at hp61
  obtain ⟨q62, hp61a, hp61b, hp61k, hp61f⟩ := hp61
  have n63 := hp61f _ _ h0
  have n64 := hp61f _ _ h1
  have n65 := hp61f _ _ h11
  have n66 := hp61f _ _ h55
  have n67 := hp61f _ _ h56
  have n68 : a ∉ [q5] := by
    intro h9; simp only [List.mem_cons, List.not_mem_nil, or_false] at h9
    · exact n17 h9
  have n69 : t ∉ [q5] := by
    intro h9; simp only [List.mem_cons, List.not_mem_nil, or_false] at h9
    · exact n18 h9
  have n70 : q34 ∉ [q5] := by
    intro h9; simp only [List.mem_cons, List.not_mem_nil, or_false] at h9
    · exact (Ne.symm n40) h9
  have n71 : q47 ∉ [q5] := by
    intro h9; simp only [List.mem_cons, List.not_mem_nil, or_false] at h9
    · exact (Ne.symm n50) h9
  have h0 := hp61k _ _ n68 h0
  have h1 := hp61k _ _ n69 h1
  have h55 := hp61k _ _ n70 h55
  have h56 := hp61k _ _ n71 h56
  have h72 : (q5, (.inr (10, [.int 1, .ref q62, .int 1]) : va_E)) ∈ M59 := hp61a
  have h73 : (q62, (.inl (G.cO, 10, .inr (.inr (.inr (.inr (va_up (fun _ => none) 0 (some q34)))))) : va_E)) ∈ M59 := hp61b
  have F74 := S.1.at 4 17 (Nat.le_of_ble_eq_true rfl) (Nat.le_of_ble_eq_true rfl)
  refine j_pop F74 dX7_init_44 rfl ?_
  refine j_iconst F74 0 dX7_init_45 (by decide) ?_
  refine j_istore F74 [some (.ref a), some (.ref mo), some (.int p), some (.ref t), some (.int 0)] dX7_init_46 (by decide) rfl rfl ?_
  refine j_iload F74 dX7_init_48 rfl ?_
  refine j_aload_n F74 dX7_init_50 rfl ?_
  refine m_cVi S (n1 := 0) (rest := [.int 0]) (r_Jx4a65c_size_8abf5 X.l G X.A M59 h1) ⟨_, _, _, _, rfl, gX7_init_Jx4a65c_size_8abf5, rfl, rfl, (by decide +kernel), ⟨(Nat.le_of_ble_eq_true rfl), (Nat.le_of_ble_eq_true rfl)⟩⟩ h1 rfl rfl (Nat.le_of_ble_eq_true rfl) (Nat.le_of_ble_eq_true rfl) (Nat.le_of_ble_eq_true rfl) rfl dX7_init_51 (fun v75 M76 hD77 hp78 => ?_)
  obtain ⟨hp78a, hp78b⟩ := hp78
  subst hp78a
  subst hp78b
  refine j_icmp_ge F74 103 dX7_init_54 (by decide) (fun _ => ?_) (fun h9 => absurd (by decide) h9)
  refine j_aload_n F74 dX7_init_103 rfl ?_
  refine m_get S (C := RX7) (T := TX7) (N := 5) (by decide +kernel) h0 rfl (v := .int 0) 2 (by decide) (by decide +kernel) (fun _ h9 => h9) rfl dX7_init_104 ?_
  refine j_if_gt F74 121 dX7_init_107 (by decide) (fun h9 => absurd h9 (by decide)) (fun _ => ?_)
  refine j_aload_n F74 dX7_init_110 rfl ?_
  refine m_get S (C := RX7) (T := TX7) (N := 5) (by decide +kernel) h0 rfl (v := .ref q5) 1 (by decide) (by decide +kernel) (fun _ h9 => h9) rfl dX7_init_111 ?_
  refine m_cVi S (n1 := 0) (rest := []) (r_Jx4a65c_size_8abf5 X.l G X.A M59 h72) ⟨_, _, _, _, rfl, gX7_init_Jx4a65c_size_8abf5, rfl, rfl, (by decide +kernel), ⟨(Nat.le_of_ble_eq_true rfl), (Nat.le_of_ble_eq_true rfl)⟩⟩ h72 rfl rfl (Nat.le_of_ble_eq_true rfl) (Nat.le_of_ble_eq_true rfl) (Nat.le_of_ble_eq_true rfl) rfl dX7_init_114 (fun v79 M80 hD81 hp82 => ?_)
  obtain ⟨hp82a, hp82b⟩ := hp82
  subst hp82a
  subst hp82b
  refine j_iconst F74 1 dX7_init_117 (by decide) ?_
  refine j_icmp_ne F74 122 dX7_init_118 (by decide) (fun h9 => absurd (by decide) h9) (fun _ => ?_)
  have hKp : Kp M [a] M59 := by
    intro b x hb hx
    have hx := hU1.2 _ _ (fun c => hb (by rw [c]; simp)) hx
    have n83 := (hN6.2 _ _ hx).2
    have hx := (hN6.2 _ _ hx).1
    have hx := hp16.2 _ _ n83 hx
    have hx := hU19.2 _ _ (fun c => hb (by rw [c]; simp)) hx
    have hx := hU24.2 _ _ (fun c => hb (by rw [c]; simp)) hx
    have hx := hU29.2 _ _ (fun c => hb (by rw [c]; simp)) hx
    have n84 := (hN35.2 _ _ hx).2
    have hx := (hN35.2 _ _ hx).1
    have n85 := hp46f _ _ hx
    have n86 : b ∉ [q34] := by
      intro h9; simp only [List.mem_cons, List.not_mem_nil, or_false] at h9
      · exact n84 h9
    have hx := hp46k b x n86 hx
    have n87 := hp61f _ _ hx
    have n88 : b ∉ [q5] := by
      intro h9; simp only [List.mem_cons, List.not_mem_nil, or_false] at h9
      · exact n83 h9
    have hx := hp61k b x n88 hx
    exact hx
  exact m_return S hRT rfl hQ (Nat.le_of_ble_eq_true rfl) (Nat.le_of_ble_eq_true rfl) dX7_init_121 ⟨⟨q5, q62, q34, q47, h0, h72, h73, h55, h56⟩, hKp⟩
