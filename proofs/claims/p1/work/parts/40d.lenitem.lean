set_option maxRecDepth 100000 in
set_option maxHeartbeats 4000000 in
theorem r_X8_joined0 (l : Launch) (G : RG) (A : Nat → Prop) (M : Wl) {a b : Nat} {f g : Nat → Int32} (w0 : (a, .inl (G.Z.cI, 0, .inl f)) ∈ M) (w1 : (b, .inl (G.Z.cI, 0, .inl g)) ∈ M) : Kr l G A yX8_joined wsX8_joined { frames := 1, cells := 1, slots := 0, locals := 60 } M [.ref a, .ref b] (Gr G A (fun v N => ∃ y : Nat → Int32, (v, (.inl (G.Z.cI, 0, .inl y) : va_E)) ∈ N ∧ Kp M [] N ∧ ∀ (b : Nat) (x : va_E), (b, x) ∈ M → b ≠ v)) 1 0 := by
  refine Kr.of (cc := cX8_joined) (maxL := 3) (ret := (some (.array .int))) (by decide) rfl (Nat.le_of_ble_eq_true rfl) ?_
  intro X hXl S hRT hIN hXA hQ hD
  subst hXl
  subst hXA
  show J (X.at 0 0) 3 (PL G.Z X.A M) 0 [some (.ref a), some (.ref b), none] []
  have F0 := S.1.at 0 0 (Nat.le_of_ble_eq_true rfl) (Nat.le_of_ble_eq_true rfl)
  have hOR := S.2.1.or
  refine j_aload_n F0 dX8_joined_0 rfl ?_
  refine m_alen S (t0 := 0) (v := 0) w0 rfl (by first | decide | rfl) dX8_joined_1 ?_
  refine j_aload_n F0 dX8_joined_2 rfl ?_
  refine m_alen S (t0 := 0) (v := 0) w1 rfl (by first | decide | rfl) dX8_joined_3 ?_
  refine j_iadd F0 0 dX8_joined_4 (by decide) ?_
  refine m_newi S (N := 0) (by decide +kernel) (by decide) (by decide) (Nat.le_of_ble_eq_true rfl) (Nat.le_of_ble_eq_true rfl) (Nat.le_of_ble_eq_true rfl) dX8_joined_5 (fun q1 M3 hD4 hN2 => ?_)
  have n5 := (hN2.2 _ _ w0).2
  have w0 := (hN2.2 _ _ w0).1
  have n6 := (hN2.2 _ _ w1).2
  have w1 := (hN2.2 _ _ w1).1
  have h7 := hN2.1
  have F8 := S.1.at 1 0 (Nat.le_of_ble_eq_true rfl) (Nat.le_of_ble_eq_true rfl)
  refine j_astore_n F8 [some (.ref a), some (.ref b), some (.ref q1)] dX8_joined_7 (by decide) rfl rfl ?_
  refine j_aload_n F8 dX8_joined_8 rfl ?_
  refine j_iconst F8 0 dX8_joined_9 (by decide) ?_
  refine j_aload_n F8 dX8_joined_10 rfl ?_
  refine j_iconst F8 0 dX8_joined_11 (by decide) ?_
  refine j_aload_n F8 dX8_joined_12 rfl ?_
  refine m_alen S (t0 := 0) (v := 0) w0 rfl (by first | decide | rfl) dX8_joined_13 ?_
  refine m_copyi S w0 h7 (by decide +kernel) (by decide +kernel) (by decide +kernel) (by decide +kernel) (by decide) (by decide) (by decide) (by decide) (by decide) (Nat.le_of_ble_eq_true rfl) (by decide +kernel) dX8_joined_14 (fun M10 y12 hD11 hU9 => ?_)
  have n13 : a ≠ q1 := n5
  have n14 : b ≠ q1 := n6
  have w0 := hU9.2 _ _ n13 w0
  have w1 := hU9.2 _ _ n14 w1
  have h7 := hU9.1
  refine j_aload_n F8 dX8_joined_17 rfl ?_
  refine j_iconst F8 0 dX8_joined_18 (by decide) ?_
  refine j_aload_n F8 dX8_joined_19 rfl ?_
  refine j_aload_n F8 dX8_joined_20 rfl ?_
  refine m_alen S (t0 := 0) (v := 0) w0 rfl (by first | decide | rfl) dX8_joined_21 ?_
  refine j_aload_n F8 dX8_joined_22 rfl ?_
  refine m_alen S (t0 := 0) (v := 0) w1 rfl (by first | decide | rfl) dX8_joined_23 ?_
  refine m_copyi S w1 h7 (by decide +kernel) (by decide +kernel) (by decide +kernel) (by decide +kernel) (by decide) (by decide) (by decide) (by decide) (by decide) (Nat.le_of_ble_eq_true rfl) (by decide +kernel) dX8_joined_24 (fun M16 y18 hD17 hU15 => ?_)
  have n19 : a ≠ q1 := n13
  have n20 : b ≠ q1 := n14
  have w0 := hU15.2 _ _ n19 w0
  have w1 := hU15.2 _ _ n20 w1
  have h7 := hU15.1
  refine j_aload_n F8 dX8_joined_27 rfl ?_
  have hKp : Kp M [] M16 := by
    intro b x hb hx
    have n21 := (hN2.2 _ _ hx).2
    have hx := (hN2.2 _ _ hx).1
    have hx := hU9.2 _ _ n21 hx
    have hx := hU15.2 _ _ n21 hx
    exact hx
  have hFr : ∀ (b : Nat) (x : va_E), (b, x) ∈ M → b ≠ q1 := by
    intro b x hx
    have n22 := (hN2.2 _ _ hx).2
    exact n22
  exact m_areturn S hRT (by first | exact Or.inl ⟨_, rfl⟩ | exact Or.inr ⟨_, rfl⟩) rfl hQ (Nat.le_of_ble_eq_true rfl) (Nat.le_of_ble_eq_true rfl) dX8_joined_28 ⟨_, h7, hKp, hFr⟩

set_option maxRecDepth 100000 in
set_option maxHeartbeats 4000000 in
theorem r_X8_joined1 (l : Launch) (G : RG) (A : Nat → Prop) (M : Wl) {a b : Nat} {f g : Nat → Int32} (w0 : (a, .inl (G.Z.cI, 0, .inl f)) ∈ M) (w1 : (b, .inl (G.Z.cI, 1, .inl g)) ∈ M) : Kr l G A yX8_joined wsX8_joined { frames := 1, cells := 1, slots := 1, locals := 60 } M [.ref a, .ref b] (Gr G A (fun v N => ∃ y : Nat → Int32, (v, (.inl (G.Z.cI, 1, .inl y) : va_E)) ∈ N ∧ Kp M [] N ∧ ∀ (b : Nat) (x : va_E), (b, x) ∈ M → b ≠ v)) 1 1 := by
  refine Kr.of (cc := cX8_joined) (maxL := 3) (ret := (some (.array .int))) (by decide) rfl (Nat.le_of_ble_eq_true rfl) ?_
  intro X hXl S hRT hIN hXA hQ hD
  subst hXl
  subst hXA
  show J (X.at 0 0) 3 (PL G.Z X.A M) 0 [some (.ref a), some (.ref b), none] []
  have F0 := S.1.at 0 0 (Nat.le_of_ble_eq_true rfl) (Nat.le_of_ble_eq_true rfl)
  have hOR := S.2.1.or
  refine j_aload_n F0 dX8_joined_0 rfl ?_
  refine m_alen S (t0 := 0) (v := 0) w0 rfl (by first | decide | rfl) dX8_joined_1 ?_
  refine j_aload_n F0 dX8_joined_2 rfl ?_
  refine m_alen S (t0 := 0) (v := 1) w1 rfl (by first | decide | rfl) dX8_joined_3 ?_
  refine j_iadd F0 1 dX8_joined_4 (by decide) ?_
  refine m_newi S (N := 1) (by decide +kernel) (by decide) (by decide) (Nat.le_of_ble_eq_true rfl) (Nat.le_of_ble_eq_true rfl) (Nat.le_of_ble_eq_true rfl) dX8_joined_5 (fun q1 M3 hD4 hN2 => ?_)
  have n5 := (hN2.2 _ _ w0).2
  have w0 := (hN2.2 _ _ w0).1
  have n6 := (hN2.2 _ _ w1).2
  have w1 := (hN2.2 _ _ w1).1
  have h7 := hN2.1
  have F8 := S.1.at 1 1 (Nat.le_of_ble_eq_true rfl) (Nat.le_of_ble_eq_true rfl)
  refine j_astore_n F8 [some (.ref a), some (.ref b), some (.ref q1)] dX8_joined_7 (by decide) rfl rfl ?_
  refine j_aload_n F8 dX8_joined_8 rfl ?_
  refine j_iconst F8 0 dX8_joined_9 (by decide) ?_
  refine j_aload_n F8 dX8_joined_10 rfl ?_
  refine j_iconst F8 0 dX8_joined_11 (by decide) ?_
  refine j_aload_n F8 dX8_joined_12 rfl ?_
  refine m_alen S (t0 := 0) (v := 0) w0 rfl (by first | decide | rfl) dX8_joined_13 ?_
  refine m_copyi S w0 h7 (by decide +kernel) (by decide +kernel) (by decide +kernel) (by decide +kernel) (by decide) (by decide) (by decide) (by decide) (by decide) (Nat.le_of_ble_eq_true rfl) (by decide +kernel) dX8_joined_14 (fun M10 y12 hD11 hU9 => ?_)
  have n13 : a ≠ q1 := n5
  have n14 : b ≠ q1 := n6
  have w0 := hU9.2 _ _ n13 w0
  have w1 := hU9.2 _ _ n14 w1
  have h7 := hU9.1
  refine j_aload_n F8 dX8_joined_17 rfl ?_
  refine j_iconst F8 0 dX8_joined_18 (by decide) ?_
  refine j_aload_n F8 dX8_joined_19 rfl ?_
  refine j_aload_n F8 dX8_joined_20 rfl ?_
  refine m_alen S (t0 := 0) (v := 0) w0 rfl (by first | decide | rfl) dX8_joined_21 ?_
  refine j_aload_n F8 dX8_joined_22 rfl ?_
  refine m_alen S (t0 := 0) (v := 1) w1 rfl (by first | decide | rfl) dX8_joined_23 ?_
  refine m_copyi S w1 h7 (by decide +kernel) (by decide +kernel) (by decide +kernel) (by decide +kernel) (by decide) (by decide) (by decide) (by decide) (by decide) (Nat.le_of_ble_eq_true rfl) (by decide +kernel) dX8_joined_24 (fun M16 y18 hD17 hU15 => ?_)
  have n19 : a ≠ q1 := n13
  have n20 : b ≠ q1 := n14
  have w0 := hU15.2 _ _ n19 w0
  have w1 := hU15.2 _ _ n20 w1
  have h7 := hU15.1
  refine j_aload_n F8 dX8_joined_27 rfl ?_
  have hKp : Kp M [] M16 := by
    intro b x hb hx
    have n21 := (hN2.2 _ _ hx).2
    have hx := (hN2.2 _ _ hx).1
    have hx := hU9.2 _ _ n21 hx
    have hx := hU15.2 _ _ n21 hx
    exact hx
  have hFr : ∀ (b : Nat) (x : va_E), (b, x) ∈ M → b ≠ q1 := by
    intro b x hx
    have n22 := (hN2.2 _ _ hx).2
    exact n22
  exact m_areturn S hRT (by first | exact Or.inl ⟨_, rfl⟩ | exact Or.inr ⟨_, rfl⟩) rfl hQ (Nat.le_of_ble_eq_true rfl) (Nat.le_of_ble_eq_true rfl) dX8_joined_28 ⟨_, h7, hKp, hFr⟩

set_option maxRecDepth 100000 in
set_option maxHeartbeats 4000000 in
theorem r_X6_all0 (l : Launch) (G : RG) (A : Nat → Prop) (M : Wl) {a q e b : Nat} {f : Nat → Int32} (w0 : (a, .inr (6, [.ref q])) ∈ M) (w1 : (q, .inr (10, [.int 1, .ref e, .int 1])) ∈ M) (w2 : (e, .inl (G.cO, 10, .inr (.inr (.inr (.inr (va_up (fun _ => none) 0 (some b))))))) ∈ M) (w3 : (b, .inl (G.Z.cI, 0, .inl f)) ∈ M) : Kr l G A yX6_all wsX6_all { frames := 3, cells := 2, slots := 0, locals := 82 } M [.ref a] (Gr G A (fun v N => ∃ y : Nat → Int32, (v, (.inl (G.Z.cI, 0, .inl y) : va_E)) ∈ N ∧ Kp M [] N ∧ ∀ (b : Nat) (x : va_E), (b, x) ∈ M → b ≠ v)) 2 0 := by
  refine Kr.of (cc := cX6_all) (maxL := 3) (ret := (some (.array .int))) (by decide) rfl (Nat.le_of_ble_eq_true rfl) ?_
  intro X hXl S hRT hIN hXA hQ hD
  subst hXl
  subst hXA
  show J (X.at 0 0) 3 (PL G.Z X.A M) 0 [some (.ref a), none, none] []
  have F0 := S.1.at 0 0 (Nat.le_of_ble_eq_true rfl) (Nat.le_of_ble_eq_true rfl)
  have hOR := S.2.1.or
  refine j_iconst F0 0 dX6_all_0 (by decide) ?_
  refine m_newi S (N := 0) (by decide +kernel) (by decide) (by decide) (Nat.le_of_ble_eq_true rfl) (Nat.le_of_ble_eq_true rfl) (Nat.le_of_ble_eq_true rfl) dX6_all_1 (fun q1 M3 hD4 hN2 => ?_)
  have n5 := (hN2.2 _ _ w0).2
  have w0 := (hN2.2 _ _ w0).1
  have n6 := (hN2.2 _ _ w1).2
  have w1 := (hN2.2 _ _ w1).1
  have n7 := (hN2.2 _ _ w2).2
  have w2 := (hN2.2 _ _ w2).1
  have n8 := (hN2.2 _ _ w3).2
  have w3 := (hN2.2 _ _ w3).1
  have h9 := hN2.1
  have F10 := S.1.at 1 0 (Nat.le_of_ble_eq_true rfl) (Nat.le_of_ble_eq_true rfl)
  refine j_astore_n F10 [some (.ref a), some (.ref q1), none] dX6_all_3 (by decide) rfl rfl ?_
  refine j_iconst F10 0 dX6_all_4 (by decide) ?_
  refine j_istore_n F10 [some (.ref a), some (.ref q1), some (.int 0)] dX6_all_5 (by decide) rfl rfl ?_
  refine j_iload_n F10 dX6_all_6 rfl ?_
  refine j_aload_n F10 dX6_all_7 rfl ?_
  refine m_get S (C := RX6) (T := TX6) (N := 1) (by decide +kernel) w0 rfl (v := .ref q) 0 (by decide) (by decide +kernel) (fun _ h9 => h9) rfl dX6_all_8 ?_
  refine m_cVi S (n1 := 0) (rest := [.int 0]) (r_Jx4a65c_size_8abf5 X.l G X.A M3 w1) ⟨_, _, _, _, rfl, gX6_all_Jx4a65c_size_8abf5, rfl, rfl, (by decide +kernel), ⟨(Nat.le_of_ble_eq_true rfl), (Nat.le_of_ble_eq_true rfl)⟩⟩ w1 rfl rfl (Nat.le_of_ble_eq_true rfl) (Nat.le_of_ble_eq_true rfl) (Nat.le_of_ble_eq_true rfl) rfl dX6_all_11 (fun v11 M12 hD13 hp14 => ?_)
  obtain ⟨hp14a, hp14b⟩ := hp14
  subst hp14a
  subst hp14b
  refine j_icmp_ge F10 39 dX6_all_14 (by decide) (fun h9 => absurd h9 (by decide)) (fun _ => ?_)
  refine j_aload_n F10 dX6_all_17 rfl ?_
  refine j_aload_n F10 dX6_all_18 rfl ?_
  refine m_get S (C := RX6) (T := TX6) (N := 1) (by decide +kernel) w0 rfl (v := .ref q) 0 (by decide) (by decide +kernel) (fun _ h9 => h9) rfl dX6_all_19 ?_
  refine j_iload_n F10 dX6_all_22 rfl ?_
  refine m_cVr S (n1 := 1) (rest := [.ref q1]) (r_Jx4a65c_get_915e3 X.l G X.A M3 0 b (by decide) (by decide) (by unfold vp_in; decide) (by simp [va_up]) w1 w2) ⟨_, _, _, _, rfl, gX6_all_Jx4a65c_get_915e3, rfl, rfl, (by decide +kernel), ⟨(Nat.le_of_ble_eq_true rfl), (Nat.le_of_ble_eq_true rfl)⟩⟩ w1 rfl rfl (Nat.le_of_ble_eq_true rfl) (Nat.le_of_ble_eq_true rfl) (Nat.le_of_ble_eq_true rfl) rfl dX6_all_23 (fun v15 M16 hD17 hp18 => ?_)
  obtain ⟨hp18a, hp18b⟩ := hp18
  subst hp18a
  subst hp18b
  refine m_castA S w3 (by decide +kernel) dX6_all_26 ?_
  refine m_cSNr S (n1 := 2) (rest := []) (r_X8_joined0 X.l G X.A M3 h9 w3) ⟨_, _, _, _, 0, rfl, rfl, gX6_all_X8_joined_n28, rfl, rfl, (by decide +kernel), (by decide +kernel), ⟨(Nat.le_of_ble_eq_true rfl), (Nat.le_of_ble_eq_true rfl)⟩⟩ (by decide +kernel) rfl (Nat.le_of_ble_eq_true rfl) (Nat.le_of_ble_eq_true rfl) (Nat.le_of_ble_eq_true rfl) rfl dX6_all_29 (fun v19 M20 hD21 hp22 => ?_)
  obtain ⟨y23, hp22a, hp22k, hp22f⟩ := hp22
  have n24 := hp22f _ _ w0
  have n25 := hp22f _ _ w1
  have n26 := hp22f _ _ w2
  have n27 := hp22f _ _ w3
  have n28 := hp22f _ _ h9
  have n29 : a ∉ ([] : List Nat) := List.not_mem_nil
  have n30 : q ∉ ([] : List Nat) := List.not_mem_nil
  have n31 : e ∉ ([] : List Nat) := List.not_mem_nil
  have n32 : b ∉ ([] : List Nat) := List.not_mem_nil
  have n33 : q1 ∉ ([] : List Nat) := List.not_mem_nil
  have w0 := hp22k _ _ n29 w0
  have w1 := hp22k _ _ n30 w1
  have w2 := hp22k _ _ n31 w2
  have w3 := hp22k _ _ n32 w3
  have h9 := hp22k _ _ n33 h9
  have h34 : (v19, (.inl (G.Z.cI, 0, .inl y23) : va_E)) ∈ M20 := hp22a
  have F35 := S.1.at 2 0 (Nat.le_of_ble_eq_true rfl) (Nat.le_of_ble_eq_true rfl)
  refine j_astore_n F35 [some (.ref a), some (.ref v19), some (.int 0)] dX6_all_32 (by decide) rfl rfl ?_
  refine j_iinc F35 1 [some (.ref a), some (.ref v19), some (.int 1)] dX6_all_33 rfl (by decide) (by decide) rfl rfl ?_
  refine j_goto F35 6 dX6_all_36 (by decide) ?_
  refine j_iload_n F35 dX6_all_6 rfl ?_
  refine j_aload_n F35 dX6_all_7 rfl ?_
  refine m_get S (C := RX6) (T := TX6) (N := 1) (by decide +kernel) w0 rfl (v := .ref q) 0 (by decide) (by decide +kernel) (fun _ h9 => h9) rfl dX6_all_8 ?_
  refine m_cVi S (n1 := 0) (rest := [.int 1]) (r_Jx4a65c_size_8abf5 X.l G X.A M20 w1) ⟨_, _, _, _, rfl, gX6_all_Jx4a65c_size_8abf5, rfl, rfl, (by decide +kernel), ⟨(Nat.le_of_ble_eq_true rfl), (Nat.le_of_ble_eq_true rfl)⟩⟩ w1 rfl rfl (Nat.le_of_ble_eq_true rfl) (Nat.le_of_ble_eq_true rfl) (Nat.le_of_ble_eq_true rfl) rfl dX6_all_11 (fun v36 M37 hD38 hp39 => ?_)
  obtain ⟨hp39a, hp39b⟩ := hp39
  subst hp39a
  subst hp39b
  refine j_icmp_ge F35 39 dX6_all_14 (by decide) (fun _ => ?_) (fun h9 => absurd (by decide) h9)
  refine j_aload_n F35 dX6_all_39 rfl ?_
  have hKp : Kp M [] M20 := by
    intro b x hb hx
    have n40 := (hN2.2 _ _ hx).2
    have hx := (hN2.2 _ _ hx).1
    have n41 := hp22f _ _ hx
    have n42 : b ∉ ([] : List Nat) := List.not_mem_nil
    have hx := hp22k b x n42 hx
    exact hx
  have hFr : ∀ (b : Nat) (x : va_E), (b, x) ∈ M → b ≠ v19 := by
    intro b9 x9 hx
    exact hp22f _ _ (hN2.2 _ _ hx).1
  exact m_areturn S hRT (by first | exact Or.inl ⟨_, rfl⟩ | exact Or.inr ⟨_, rfl⟩) rfl hQ (Nat.le_of_ble_eq_true rfl) (Nat.le_of_ble_eq_true rfl) dX6_all_40 ⟨_, h34, hKp, hFr⟩

set_option maxRecDepth 100000 in
set_option maxHeartbeats 4000000 in
theorem r_X6_isTooMuch0 (l : Launch) (G : RG) (A : Nat → Prop) (M : Wl) {a q e b : Nat} {f : Nat → Int32} (w0 : (a, .inr (6, [.ref q])) ∈ M) (w1 : (q, .inr (10, [.int 1, .ref e, .int 1])) ∈ M) (w2 : (e, .inl (G.cO, 10, .inr (.inr (.inr (.inr (va_up (fun _ => none) 0 (some b))))))) ∈ M) (w3 : (b, .inl (G.Z.cI, 0, .inl f)) ∈ M) : Kr l G A yX6_isTooMuch wsX6_isTooMuch { frames := 4, cells := 2, slots := 0, locals := 104 } M [.ref a] (Gi G A (fun v N => (0 : Int32) = v ∧ Kp M [] N)) 2 0 := by
  refine Kr.of (cc := cX6_isTooMuch) (maxL := 1) (ret := (some .boolean)) (by decide) rfl (Nat.le_of_ble_eq_true rfl) ?_
  intro X hXl S hRT hIN hXA hQ hD
  subst hXl
  subst hXA
  show J (X.at 0 0) 1 (PL G.Z X.A M) 0 [some (.ref a)] []
  have F0 := S.1.at 0 0 (Nat.le_of_ble_eq_true rfl) (Nat.le_of_ble_eq_true rfl)
  have hOR := S.2.1.or
  refine j_aload_n F0 dX6_isTooMuch_0 rfl ?_
  refine m_cVr S (n1 := 0) (rest := []) (r_X6_all0 X.l G X.A M w0 w1 w2 w3) ⟨_, _, _, _, rfl, gX6_isTooMuch_X6_all, rfl, rfl, (by decide +kernel), ⟨(Nat.le_of_ble_eq_true rfl), (Nat.le_of_ble_eq_true rfl)⟩⟩ w0 rfl rfl (Nat.le_of_ble_eq_true rfl) (Nat.le_of_ble_eq_true rfl) (Nat.le_of_ble_eq_true rfl) rfl dX6_isTooMuch_1 (fun v1 M2 hD3 hp4 => ?_)
  obtain ⟨y5, hp4a, hp4k, hp4f⟩ := hp4
  have n6 := hp4f _ _ w0
  have n7 := hp4f _ _ w1
  have n8 := hp4f _ _ w2
  have n9 := hp4f _ _ w3
  have n10 : a ∉ ([] : List Nat) := List.not_mem_nil
  have n11 : q ∉ ([] : List Nat) := List.not_mem_nil
  have n12 : e ∉ ([] : List Nat) := List.not_mem_nil
  have n13 : b ∉ ([] : List Nat) := List.not_mem_nil
  have w0 := hp4k _ _ n10 w0
  have w1 := hp4k _ _ n11 w1
  have w2 := hp4k _ _ n12 w2
  have w3 := hp4k _ _ n13 w3
  have h14 : (v1, (.inl (G.Z.cI, 0, .inl y5) : va_E)) ∈ M2 := hp4a
  have F15 := S.1.at 2 0 (Nat.le_of_ble_eq_true rfl) (Nat.le_of_ble_eq_true rfl)
  refine m_alen S (t0 := 0) (v := 0) h14 rfl (by first | decide | rfl) dX6_isTooMuch_4 ?_
  refine j_bipush F15 32 dX6_isTooMuch_5 (by decide) ?_
  refine j_icmp_le F15 14 dX6_isTooMuch_7 (by decide) (fun _ => ?_) (fun h9 => absurd (by decide) h9)
  refine j_iconst F15 0 dX6_isTooMuch_14 (by decide) ?_
  have hKp : Kp M [] M2 := by
    intro b x hb hx
    have n16 := hp4f _ _ hx
    have n17 : b ∉ ([] : List Nat) := List.not_mem_nil
    have hx := hp4k b x n17 hx
    exact hx
  exact m_ireturn S hRT rfl hQ (Nat.le_of_ble_eq_true rfl) (Nat.le_of_ble_eq_true rfl) dX6_isTooMuch_15 rfl ⟨rfl, hKp⟩

set_option maxRecDepth 100000 in
set_option maxHeartbeats 4000000 in
theorem r_X6_all1 (l : Launch) (G : RG) (A : Nat → Prop) (M : Wl) {a q e b : Nat} {f : Nat → Int32} (w0 : (a, .inr (6, [.ref q])) ∈ M) (w1 : (q, .inr (10, [.int 1, .ref e, .int 1])) ∈ M) (w2 : (e, .inl (G.cO, 10, .inr (.inr (.inr (.inr (va_up (fun _ => none) 0 (some b))))))) ∈ M) (w3 : (b, .inl (G.Z.cI, 1, .inl f)) ∈ M) : Kr l G A yX6_all wsX6_all { frames := 3, cells := 2, slots := 1, locals := 82 } M [.ref a] (Gr G A (fun v N => ∃ y : Nat → Int32, (v, (.inl (G.Z.cI, 1, .inl y) : va_E)) ∈ N ∧ Kp M [] N ∧ ∀ (b : Nat) (x : va_E), (b, x) ∈ M → b ≠ v)) 2 1 := by
  refine Kr.of (cc := cX6_all) (maxL := 3) (ret := (some (.array .int))) (by decide) rfl (Nat.le_of_ble_eq_true rfl) ?_
  intro X hXl S hRT hIN hXA hQ hD
  subst hXl
  subst hXA
  show J (X.at 0 0) 3 (PL G.Z X.A M) 0 [some (.ref a), none, none] []
  have F0 := S.1.at 0 0 (Nat.le_of_ble_eq_true rfl) (Nat.le_of_ble_eq_true rfl)
  have hOR := S.2.1.or
  refine j_iconst F0 0 dX6_all_0 (by decide) ?_
  refine m_newi S (N := 0) (by decide +kernel) (by decide) (by decide) (Nat.le_of_ble_eq_true rfl) (Nat.le_of_ble_eq_true rfl) (Nat.le_of_ble_eq_true rfl) dX6_all_1 (fun q1 M3 hD4 hN2 => ?_)
  have n5 := (hN2.2 _ _ w0).2
  have w0 := (hN2.2 _ _ w0).1
  have n6 := (hN2.2 _ _ w1).2
  have w1 := (hN2.2 _ _ w1).1
  have n7 := (hN2.2 _ _ w2).2
  have w2 := (hN2.2 _ _ w2).1
  have n8 := (hN2.2 _ _ w3).2
  have w3 := (hN2.2 _ _ w3).1
  have h9 := hN2.1
  have F10 := S.1.at 1 0 (Nat.le_of_ble_eq_true rfl) (Nat.le_of_ble_eq_true rfl)
  refine j_astore_n F10 [some (.ref a), some (.ref q1), none] dX6_all_3 (by decide) rfl rfl ?_
  refine j_iconst F10 0 dX6_all_4 (by decide) ?_
  refine j_istore_n F10 [some (.ref a), some (.ref q1), some (.int 0)] dX6_all_5 (by decide) rfl rfl ?_
  refine j_iload_n F10 dX6_all_6 rfl ?_
  refine j_aload_n F10 dX6_all_7 rfl ?_
  refine m_get S (C := RX6) (T := TX6) (N := 1) (by decide +kernel) w0 rfl (v := .ref q) 0 (by decide) (by decide +kernel) (fun _ h9 => h9) rfl dX6_all_8 ?_
  refine m_cVi S (n1 := 0) (rest := [.int 0]) (r_Jx4a65c_size_8abf5 X.l G X.A M3 w1) ⟨_, _, _, _, rfl, gX6_all_Jx4a65c_size_8abf5, rfl, rfl, (by decide +kernel), ⟨(Nat.le_of_ble_eq_true rfl), (Nat.le_of_ble_eq_true rfl)⟩⟩ w1 rfl rfl (Nat.le_of_ble_eq_true rfl) (Nat.le_of_ble_eq_true rfl) (Nat.le_of_ble_eq_true rfl) rfl dX6_all_11 (fun v11 M12 hD13 hp14 => ?_)
  obtain ⟨hp14a, hp14b⟩ := hp14
  subst hp14a
  subst hp14b
  refine j_icmp_ge F10 39 dX6_all_14 (by decide) (fun h9 => absurd h9 (by decide)) (fun _ => ?_)
  refine j_aload_n F10 dX6_all_17 rfl ?_
  refine j_aload_n F10 dX6_all_18 rfl ?_
  refine m_get S (C := RX6) (T := TX6) (N := 1) (by decide +kernel) w0 rfl (v := .ref q) 0 (by decide) (by decide +kernel) (fun _ h9 => h9) rfl dX6_all_19 ?_
  refine j_iload_n F10 dX6_all_22 rfl ?_
  refine m_cVr S (n1 := 1) (rest := [.ref q1]) (r_Jx4a65c_get_915e3 X.l G X.A M3 0 b (by decide) (by decide) (by unfold vp_in; decide) (by simp [va_up]) w1 w2) ⟨_, _, _, _, rfl, gX6_all_Jx4a65c_get_915e3, rfl, rfl, (by decide +kernel), ⟨(Nat.le_of_ble_eq_true rfl), (Nat.le_of_ble_eq_true rfl)⟩⟩ w1 rfl rfl (Nat.le_of_ble_eq_true rfl) (Nat.le_of_ble_eq_true rfl) (Nat.le_of_ble_eq_true rfl) rfl dX6_all_23 (fun v15 M16 hD17 hp18 => ?_)
  obtain ⟨hp18a, hp18b⟩ := hp18
  subst hp18a
  subst hp18b
  refine m_castA S w3 (by decide +kernel) dX6_all_26 ?_
  refine m_cSNr S (n1 := 2) (rest := []) (r_X8_joined1 X.l G X.A M3 h9 w3) ⟨_, _, _, _, 0, rfl, rfl, gX6_all_X8_joined_n28, rfl, rfl, (by decide +kernel), (by decide +kernel), ⟨(Nat.le_of_ble_eq_true rfl), (Nat.le_of_ble_eq_true rfl)⟩⟩ (by decide +kernel) rfl (Nat.le_of_ble_eq_true rfl) (Nat.le_of_ble_eq_true rfl) (Nat.le_of_ble_eq_true rfl) rfl dX6_all_29 (fun v19 M20 hD21 hp22 => ?_)
  obtain ⟨y23, hp22a, hp22k, hp22f⟩ := hp22
  have n24 := hp22f _ _ w0
  have n25 := hp22f _ _ w1
  have n26 := hp22f _ _ w2
  have n27 := hp22f _ _ w3
  have n28 := hp22f _ _ h9
  have n29 : a ∉ ([] : List Nat) := List.not_mem_nil
  have n30 : q ∉ ([] : List Nat) := List.not_mem_nil
  have n31 : e ∉ ([] : List Nat) := List.not_mem_nil
  have n32 : b ∉ ([] : List Nat) := List.not_mem_nil
  have n33 : q1 ∉ ([] : List Nat) := List.not_mem_nil
  have w0 := hp22k _ _ n29 w0
  have w1 := hp22k _ _ n30 w1
  have w2 := hp22k _ _ n31 w2
  have w3 := hp22k _ _ n32 w3
  have h9 := hp22k _ _ n33 h9
  have h34 : (v19, (.inl (G.Z.cI, 1, .inl y23) : va_E)) ∈ M20 := hp22a
  have F35 := S.1.at 2 1 (Nat.le_of_ble_eq_true rfl) (Nat.le_of_ble_eq_true rfl)
  refine j_astore_n F35 [some (.ref a), some (.ref v19), some (.int 0)] dX6_all_32 (by decide) rfl rfl ?_
  refine j_iinc F35 1 [some (.ref a), some (.ref v19), some (.int 1)] dX6_all_33 rfl (by decide) (by decide) rfl rfl ?_
  refine j_goto F35 6 dX6_all_36 (by decide) ?_
  refine j_iload_n F35 dX6_all_6 rfl ?_
  refine j_aload_n F35 dX6_all_7 rfl ?_
  refine m_get S (C := RX6) (T := TX6) (N := 1) (by decide +kernel) w0 rfl (v := .ref q) 0 (by decide) (by decide +kernel) (fun _ h9 => h9) rfl dX6_all_8 ?_
  refine m_cVi S (n1 := 0) (rest := [.int 1]) (r_Jx4a65c_size_8abf5 X.l G X.A M20 w1) ⟨_, _, _, _, rfl, gX6_all_Jx4a65c_size_8abf5, rfl, rfl, (by decide +kernel), ⟨(Nat.le_of_ble_eq_true rfl), (Nat.le_of_ble_eq_true rfl)⟩⟩ w1 rfl rfl (Nat.le_of_ble_eq_true rfl) (Nat.le_of_ble_eq_true rfl) (Nat.le_of_ble_eq_true rfl) rfl dX6_all_11 (fun v36 M37 hD38 hp39 => ?_)
  obtain ⟨hp39a, hp39b⟩ := hp39
  subst hp39a
  subst hp39b
  refine j_icmp_ge F35 39 dX6_all_14 (by decide) (fun _ => ?_) (fun h9 => absurd (by decide) h9)
  refine j_aload_n F35 dX6_all_39 rfl ?_
  have hKp : Kp M [] M20 := by
    intro b x hb hx
    have n40 := (hN2.2 _ _ hx).2
    have hx := (hN2.2 _ _ hx).1
    have n41 := hp22f _ _ hx
    have n42 : b ∉ ([] : List Nat) := List.not_mem_nil
    have hx := hp22k b x n42 hx
    exact hx
  have hFr : ∀ (b : Nat) (x : va_E), (b, x) ∈ M → b ≠ v19 := by
    intro b9 x9 hx
    exact hp22f _ _ (hN2.2 _ _ hx).1
  exact m_areturn S hRT (by first | exact Or.inl ⟨_, rfl⟩ | exact Or.inr ⟨_, rfl⟩) rfl hQ (Nat.le_of_ble_eq_true rfl) (Nat.le_of_ble_eq_true rfl) dX6_all_40 ⟨_, h34, hKp, hFr⟩

set_option maxRecDepth 100000 in
set_option maxHeartbeats 4000000 in
theorem r_X6_isTooMuch1 (l : Launch) (G : RG) (A : Nat → Prop) (M : Wl) {a q e b : Nat} {f : Nat → Int32} (w0 : (a, .inr (6, [.ref q])) ∈ M) (w1 : (q, .inr (10, [.int 1, .ref e, .int 1])) ∈ M) (w2 : (e, .inl (G.cO, 10, .inr (.inr (.inr (.inr (va_up (fun _ => none) 0 (some b))))))) ∈ M) (w3 : (b, .inl (G.Z.cI, 1, .inl f)) ∈ M) : Kr l G A yX6_isTooMuch wsX6_isTooMuch { frames := 4, cells := 2, slots := 1, locals := 104 } M [.ref a] (Gi G A (fun v N => (0 : Int32) = v ∧ Kp M [] N)) 2 1 := by
  refine Kr.of (cc := cX6_isTooMuch) (maxL := 1) (ret := (some .boolean)) (by decide) rfl (Nat.le_of_ble_eq_true rfl) ?_
  intro X hXl S hRT hIN hXA hQ hD
  subst hXl
  subst hXA
  show J (X.at 0 0) 1 (PL G.Z X.A M) 0 [some (.ref a)] []
  have F0 := S.1.at 0 0 (Nat.le_of_ble_eq_true rfl) (Nat.le_of_ble_eq_true rfl)
  have hOR := S.2.1.or
  refine j_aload_n F0 dX6_isTooMuch_0 rfl ?_
  refine m_cVr S (n1 := 0) (rest := []) (r_X6_all1 X.l G X.A M w0 w1 w2 w3) ⟨_, _, _, _, rfl, gX6_isTooMuch_X6_all, rfl, rfl, (by decide +kernel), ⟨(Nat.le_of_ble_eq_true rfl), (Nat.le_of_ble_eq_true rfl)⟩⟩ w0 rfl rfl (Nat.le_of_ble_eq_true rfl) (Nat.le_of_ble_eq_true rfl) (Nat.le_of_ble_eq_true rfl) rfl dX6_isTooMuch_1 (fun v1 M2 hD3 hp4 => ?_)
  obtain ⟨y5, hp4a, hp4k, hp4f⟩ := hp4
  have n6 := hp4f _ _ w0
  have n7 := hp4f _ _ w1
  have n8 := hp4f _ _ w2
  have n9 := hp4f _ _ w3
  have n10 : a ∉ ([] : List Nat) := List.not_mem_nil
  have n11 : q ∉ ([] : List Nat) := List.not_mem_nil
  have n12 : e ∉ ([] : List Nat) := List.not_mem_nil
  have n13 : b ∉ ([] : List Nat) := List.not_mem_nil
  have w0 := hp4k _ _ n10 w0
  have w1 := hp4k _ _ n11 w1
  have w2 := hp4k _ _ n12 w2
  have w3 := hp4k _ _ n13 w3
  have h14 : (v1, (.inl (G.Z.cI, 1, .inl y5) : va_E)) ∈ M2 := hp4a
  have F15 := S.1.at 2 1 (Nat.le_of_ble_eq_true rfl) (Nat.le_of_ble_eq_true rfl)
  refine m_alen S (t0 := 0) (v := 1) h14 rfl (by first | decide | rfl) dX6_isTooMuch_4 ?_
  refine j_bipush F15 32 dX6_isTooMuch_5 (by decide) ?_
  refine j_icmp_le F15 14 dX6_isTooMuch_7 (by decide) (fun _ => ?_) (fun h9 => absurd (by decide) h9)
  refine j_iconst F15 0 dX6_isTooMuch_14 (by decide) ?_
  have hKp : Kp M [] M2 := by
    intro b x hb hx
    have n16 := hp4f _ _ hx
    have n17 : b ∉ ([] : List Nat) := List.not_mem_nil
    have hx := hp4k b x n17 hx
    exact hx
  exact m_ireturn S hRT rfl hQ (Nat.le_of_ble_eq_true rfl) (Nat.le_of_ble_eq_true rfl) dX6_isTooMuch_15 rfl ⟨rfl, hKp⟩

set_option maxRecDepth 100000 in
set_option maxHeartbeats 4000000 in
theorem r_X7_now (l : Launch) (G : RG) (A : Nat → Prop) (M : Wl) {a g e q3 mo : Nat} {p ft pl : Int32} {q4 : Nat} (w0 : (a, .inr (7, [.int p, .ref g, .int ft, .int pl, .ref mo])) ∈ M) (w1 : (g, .inr (10, [.int 1, .ref e, .int 1])) ∈ M) (w2 : (e, .inl (G.cO, 10, .inr (.inr (.inr (.inr (va_up (fun _ => none) 0 (some q3))))))) ∈ M) (w3 : (q3, .inr (6, [.ref q4])) ∈ M) : Kr l G A yX7_now wsX7_now { frames := 3, cells := 0, slots := 0, locals := 64 } M [.ref a] (Gr G A (fun v N => q3 = v ∧ M = N)) 0 0 := by
  refine Kr.of (cc := cX7_now) (maxL := 1) (ret := (some (.object "TreadleLoomModel$Group"))) (by decide) rfl (Nat.le_of_ble_eq_true rfl) ?_
  intro X hXl S hRT hIN hXA hQ hD
  subst hXl
  subst hXA
  show J (X.at 0 0) 1 (PL G.Z X.A M) 0 [some (.ref a)] []
  have F0 := S.1.at 0 0 (Nat.le_of_ble_eq_true rfl) (Nat.le_of_ble_eq_true rfl)
  have hOR := S.2.1.or
  refine j_aload_n F0 dX7_now_0 rfl ?_
  refine m_get S (C := RX7) (T := TX7) (N := 5) (by decide +kernel) w0 rfl (v := .ref g) 1 (by decide) (by decide +kernel) (fun _ h9 => h9) rfl dX7_now_1 ?_
  refine j_aload_n F0 dX7_now_4 rfl ?_
  refine m_get S (C := RX7) (T := TX7) (N := 5) (by decide +kernel) w0 rfl (v := .ref g) 1 (by decide) (by decide +kernel) (fun _ h9 => h9) rfl dX7_now_5 ?_
  refine m_cVi S (n1 := 0) (rest := [.ref g]) (r_Jx4a65c_size_8abf5 X.l G X.A M w1) ⟨_, _, _, _, rfl, gX7_now_Jx4a65c_size_8abf5, rfl, rfl, (by decide +kernel), ⟨(Nat.le_of_ble_eq_true rfl), (Nat.le_of_ble_eq_true rfl)⟩⟩ w1 rfl rfl (Nat.le_of_ble_eq_true rfl) (Nat.le_of_ble_eq_true rfl) (Nat.le_of_ble_eq_true rfl) rfl dX7_now_8 (fun v1 M2 hD3 hp4 => ?_)
  obtain ⟨hp4a, hp4b⟩ := hp4
  subst hp4a
  subst hp4b
  refine j_iconst F0 1 dX7_now_11 (by decide) ?_
  refine j_isub F0 0 dX7_now_12 (by decide) ?_
  refine m_cVr S (n1 := 1) (rest := []) (r_Jx4a65c_get_915e3 X.l G X.A M 0 q3 (by decide) (by decide) (by unfold vp_in; decide) (by simp [va_up]) w1 w2) ⟨_, _, _, _, rfl, gX7_now_Jx4a65c_get_915e3, rfl, rfl, (by decide +kernel), ⟨(Nat.le_of_ble_eq_true rfl), (Nat.le_of_ble_eq_true rfl)⟩⟩ w1 rfl rfl (Nat.le_of_ble_eq_true rfl) (Nat.le_of_ble_eq_true rfl) (Nat.le_of_ble_eq_true rfl) rfl dX7_now_13 (fun v5 M6 hD7 hp8 => ?_)
  obtain ⟨hp8a, hp8b⟩ := hp8
  subst hp8a
  subst hp8b
  refine m_cast S (C := RX6) w3 rfl (by decide +kernel) dX7_now_16 ?_
  exact m_areturn S hRT (by first | exact Or.inl ⟨_, rfl⟩ | exact Or.inr ⟨_, rfl⟩) rfl hQ (Nat.le_of_ble_eq_true rfl) (Nat.le_of_ble_eq_true rfl) dX7_now_19 ⟨rfl, rfl⟩

set_option maxRecDepth 100000 in
set_option maxHeartbeats 4000000 in
theorem r_X7_put0 (l : Launch) (G : RG) (A : Nat → Prop) (M : Wl) {a g e q3 mo : Nat} {p ft pl : Int32} {q4 b : Nat} {f : Nat → Int32} (w0 : (a, .inr (7, [.int p, .ref g, .int ft, .int pl, .ref mo])) ∈ M) (w1 : (g, .inr (10, [.int 1, .ref e, .int 1])) ∈ M) (w2 : (e, .inl (G.cO, 10, .inr (.inr (.inr (.inr (va_up (fun _ => none) 0 (some q3))))))) ∈ M) (w3 : (q3, .inr (6, [.ref q4])) ∈ M) (w4 : (q4, .inr (10, [.int 0, .ref G.e0, .int 0])) ∈ M) (w5 : (b, .inl (G.Z.cI, 0, .inl f)) ∈ M) : Kr l G A yX7_put wsX7_put { frames := 5, cells := 3, slots := 10, locals := 124 } M [.ref a, .ref b] (Gi G A (fun v N => (0 : Int32) = v ∧ ∃ r : Nat, (q4, (.inr (10, [.int 1, .ref r, .int 1]) : va_E)) ∈ N ∧ (r, (.inl (G.cO, 10, .inr (.inr (.inr (.inr (va_up (fun _ => none) 0 (some b)))))) : va_E)) ∈ N ∧ Kp M [q4] N ∧ ∀ (b : Nat) (x : va_E), (b, x) ∈ M → b ≠ r)) 3 10 := by
  refine Kr.of (cc := cX7_put) (maxL := 2) (ret := (some .int)) (by decide) rfl (Nat.le_of_ble_eq_true rfl) ?_
  intro X hXl S hRT hIN hXA hQ hD
  subst hXl
  subst hXA
  show J (X.at 0 0) 2 (PL G.Z X.A M) 0 [some (.ref a), some (.ref b)] []
  have F0 := S.1.at 0 0 (Nat.le_of_ble_eq_true rfl) (Nat.le_of_ble_eq_true rfl)
  have hOR := S.2.1.or
  refine j_aload_n F0 dX7_put_0 rfl ?_
  refine m_cVr S (n1 := 0) (rest := []) (r_X7_now X.l G X.A M w0 w1 w2 w3) ⟨_, _, _, _, rfl, gX7_put_X7_now, rfl, rfl, (by decide +kernel), ⟨(Nat.le_of_ble_eq_true rfl), (Nat.le_of_ble_eq_true rfl)⟩⟩ w0 rfl rfl (Nat.le_of_ble_eq_true rfl) (Nat.le_of_ble_eq_true rfl) (Nat.le_of_ble_eq_true rfl) rfl dX7_put_1 (fun v1 M2 hD3 hp4 => ?_)
  obtain ⟨hp4a, hp4b⟩ := hp4
  subst hp4a
  subst hp4b
  refine m_get S (C := RX6) (T := TX6) (N := 1) (by decide +kernel) w3 rfl (v := .ref q4) 0 (by decide) (by decide +kernel) (fun _ h9 => h9) rfl dX7_put_4 ?_
  refine j_aload_n F0 dX7_put_7 rfl ?_
  refine m_cVi S (n1 := 1) (rest := []) (r_Jx4a65c_add_9ea2d X.l G X.A M b (Or.inr (Or.inl ⟨_, _, w5⟩)) (In.ne hD w5 w4 (by simp)) w4) ⟨_, _, _, _, rfl, gX7_put_Jx4a65c_add_9ea2d, rfl, rfl, (by decide +kernel), ⟨(Nat.le_of_ble_eq_true rfl), (Nat.le_of_ble_eq_true rfl)⟩⟩ w4 rfl rfl (Nat.le_of_ble_eq_true rfl) (Nat.le_of_ble_eq_true rfl) (Nat.le_of_ble_eq_true rfl) rfl dX7_put_8 (fun v5 M6 hD7 hp8 => ?_)
  obtain ⟨hp8v, hp8⟩ := hp8
  subst hp8v
  rw [show (0 : Int32) + 1 = 1 from by decide] at hp8
  obtain ⟨q9, hp8a, hp8b, hp8k, hp8f⟩ := hp8
  have n10 := hp8f _ _ w0
  have n11 := hp8f _ _ w1
  have n12 := hp8f _ _ w2
  have n13 := hp8f _ _ w3
  have n14 := hp8f _ _ w4
  have n15 := hp8f _ _ w5
  have n16 : a ∉ [q4] := by
    intro h9; simp only [List.mem_cons, List.not_mem_nil, or_false] at h9
    · exact (In.ne hD w0 w4 (by simp)) h9
  have n17 : g ∉ [q4] := by
    intro h9; simp only [List.mem_cons, List.not_mem_nil, or_false] at h9
    · exact (In.ne hD w1 w4 (by simp)) h9
  have n18 : e ∉ [q4] := by
    intro h9; simp only [List.mem_cons, List.not_mem_nil, or_false] at h9
    · exact (In.ne hD w2 w4 (by simp)) h9
  have n19 : q3 ∉ [q4] := by
    intro h9; simp only [List.mem_cons, List.not_mem_nil, or_false] at h9
    · exact (In.ne hD w3 w4 (by simp)) h9
  have n20 : b ∉ [q4] := by
    intro h9; simp only [List.mem_cons, List.not_mem_nil, or_false] at h9
    · exact (In.ne hD w5 w4 (by simp)) h9
  have w0 := hp8k _ _ n16 w0
  have w1 := hp8k _ _ n17 w1
  have w2 := hp8k _ _ n18 w2
  have w3 := hp8k _ _ n19 w3
  have w5 := hp8k _ _ n20 w5
  have h21 : (q4, (.inr (10, [.int 1, .ref q9, .int 1]) : va_E)) ∈ M6 := hp8a
  have h22 : (q9, (.inl (G.cO, 10, .inr (.inr (.inr (.inr (va_up (fun _ => none) 0 (some b)))))) : va_E)) ∈ M6 := hp8b
  have F23 := S.1.at 1 10 (Nat.le_of_ble_eq_true rfl) (Nat.le_of_ble_eq_true rfl)
  refine j_pop F23 dX7_put_11 rfl ?_
  refine j_aload_n F23 dX7_put_12 rfl ?_
  refine m_cVr S (n1 := 0) (rest := []) (r_X7_now X.l G X.A M6 w0 w1 w2 w3) ⟨_, _, _, _, rfl, gX7_put_X7_now, rfl, rfl, (by decide +kernel), ⟨(Nat.le_of_ble_eq_true rfl), (Nat.le_of_ble_eq_true rfl)⟩⟩ w0 rfl rfl (Nat.le_of_ble_eq_true rfl) (Nat.le_of_ble_eq_true rfl) (Nat.le_of_ble_eq_true rfl) rfl dX7_put_13 (fun v24 M25 hD26 hp27 => ?_)
  obtain ⟨hp27a, hp27b⟩ := hp27
  subst hp27a
  subst hp27b
  refine m_cVi S (n1 := 0) (rest := []) (r_X6_isTooMuch0 X.l G X.A M6 w3 h21 h22 w5) ⟨_, _, _, _, rfl, gX7_put_X6_isTooMuch, rfl, rfl, (by decide +kernel), ⟨(Nat.le_of_ble_eq_true rfl), (Nat.le_of_ble_eq_true rfl)⟩⟩ w3 rfl rfl (Nat.le_of_ble_eq_true rfl) (Nat.le_of_ble_eq_true rfl) (Nat.le_of_ble_eq_true rfl) rfl dX7_put_16 (fun v28 M29 hD30 hp31 => ?_)
  obtain ⟨hp31v, hp31k⟩ := hp31
  subst hp31v
  have n32 : a ∉ ([] : List Nat) := List.not_mem_nil
  have n33 : g ∉ ([] : List Nat) := List.not_mem_nil
  have n34 : e ∉ ([] : List Nat) := List.not_mem_nil
  have n35 : q3 ∉ ([] : List Nat) := List.not_mem_nil
  have n36 : b ∉ ([] : List Nat) := List.not_mem_nil
  have n37 : q4 ∉ ([] : List Nat) := List.not_mem_nil
  have n38 : q9 ∉ ([] : List Nat) := List.not_mem_nil
  have w0 := hp31k _ _ n32 w0
  have w1 := hp31k _ _ n33 w1
  have w2 := hp31k _ _ n34 w2
  have w3 := hp31k _ _ n35 w3
  have w5 := hp31k _ _ n36 w5
  have h21 := hp31k _ _ n37 h21
  have h22 := hp31k _ _ n38 h22
  have F39 := S.1.at 3 10 (Nat.le_of_ble_eq_true rfl) (Nat.le_of_ble_eq_true rfl)
  refine j_if_eq F39 26 dX7_put_19 (by decide) (fun _ => ?_) (fun h9 => absurd (by decide) h9)
  refine j_iconst F39 0 dX7_put_26 (by decide) ?_
  have hKp : Kp M [q4] M29 := by
    intro b x hb hx
    have n40 := hp8f _ _ hx
    have n41 : b ∉ [q4] := by
      intro h9; simp only [List.mem_cons, List.not_mem_nil, or_false] at h9
      · exact (fun c => hb (by rw [c]; simp)) h9
    have hx := hp8k b x n41 hx
    have n42 : b ∉ ([] : List Nat) := List.not_mem_nil
    have hx := hp31k b x n42 hx
    exact hx
  exact m_ireturn S hRT rfl hQ (Nat.le_of_ble_eq_true rfl) (Nat.le_of_ble_eq_true rfl) dX7_put_27 rfl ⟨rfl, q9, h21, h22, hKp, hp8f⟩

set_option maxRecDepth 100000 in
set_option maxHeartbeats 4000000 in
theorem r_X7_put1 (l : Launch) (G : RG) (A : Nat → Prop) (M : Wl) {a g e q3 mo : Nat} {p ft pl : Int32} {q4 b : Nat} {f : Nat → Int32} (w0 : (a, .inr (7, [.int p, .ref g, .int ft, .int pl, .ref mo])) ∈ M) (w1 : (g, .inr (10, [.int 1, .ref e, .int 1])) ∈ M) (w2 : (e, .inl (G.cO, 10, .inr (.inr (.inr (.inr (va_up (fun _ => none) 0 (some q3))))))) ∈ M) (w3 : (q3, .inr (6, [.ref q4])) ∈ M) (w4 : (q4, .inr (10, [.int 0, .ref G.e0, .int 0])) ∈ M) (w5 : (b, .inl (G.Z.cI, 1, .inl f)) ∈ M) : Kr l G A yX7_put wsX7_put { frames := 5, cells := 3, slots := 11, locals := 124 } M [.ref a, .ref b] (Gi G A (fun v N => (0 : Int32) = v ∧ ∃ r : Nat, (q4, (.inr (10, [.int 1, .ref r, .int 1]) : va_E)) ∈ N ∧ (r, (.inl (G.cO, 10, .inr (.inr (.inr (.inr (va_up (fun _ => none) 0 (some b)))))) : va_E)) ∈ N ∧ Kp M [q4] N ∧ ∀ (b : Nat) (x : va_E), (b, x) ∈ M → b ≠ r)) 3 11 := by
  refine Kr.of (cc := cX7_put) (maxL := 2) (ret := (some .int)) (by decide) rfl (Nat.le_of_ble_eq_true rfl) ?_
  intro X hXl S hRT hIN hXA hQ hD
  subst hXl
  subst hXA
  show J (X.at 0 0) 2 (PL G.Z X.A M) 0 [some (.ref a), some (.ref b)] []
  have F0 := S.1.at 0 0 (Nat.le_of_ble_eq_true rfl) (Nat.le_of_ble_eq_true rfl)
  have hOR := S.2.1.or
  refine j_aload_n F0 dX7_put_0 rfl ?_
  refine m_cVr S (n1 := 0) (rest := []) (r_X7_now X.l G X.A M w0 w1 w2 w3) ⟨_, _, _, _, rfl, gX7_put_X7_now, rfl, rfl, (by decide +kernel), ⟨(Nat.le_of_ble_eq_true rfl), (Nat.le_of_ble_eq_true rfl)⟩⟩ w0 rfl rfl (Nat.le_of_ble_eq_true rfl) (Nat.le_of_ble_eq_true rfl) (Nat.le_of_ble_eq_true rfl) rfl dX7_put_1 (fun v1 M2 hD3 hp4 => ?_)
  obtain ⟨hp4a, hp4b⟩ := hp4
  subst hp4a
  subst hp4b
  refine m_get S (C := RX6) (T := TX6) (N := 1) (by decide +kernel) w3 rfl (v := .ref q4) 0 (by decide) (by decide +kernel) (fun _ h9 => h9) rfl dX7_put_4 ?_
  refine j_aload_n F0 dX7_put_7 rfl ?_
  refine m_cVi S (n1 := 1) (rest := []) (r_Jx4a65c_add_9ea2d X.l G X.A M b (Or.inr (Or.inl ⟨_, _, w5⟩)) (In.ne hD w5 w4 (by simp)) w4) ⟨_, _, _, _, rfl, gX7_put_Jx4a65c_add_9ea2d, rfl, rfl, (by decide +kernel), ⟨(Nat.le_of_ble_eq_true rfl), (Nat.le_of_ble_eq_true rfl)⟩⟩ w4 rfl rfl (Nat.le_of_ble_eq_true rfl) (Nat.le_of_ble_eq_true rfl) (Nat.le_of_ble_eq_true rfl) rfl dX7_put_8 (fun v5 M6 hD7 hp8 => ?_)
  obtain ⟨hp8v, hp8⟩ := hp8
  subst hp8v
  rw [show (0 : Int32) + 1 = 1 from by decide] at hp8
  obtain ⟨q9, hp8a, hp8b, hp8k, hp8f⟩ := hp8
  have n10 := hp8f _ _ w0
  have n11 := hp8f _ _ w1
  have n12 := hp8f _ _ w2
  have n13 := hp8f _ _ w3
  have n14 := hp8f _ _ w4
  have n15 := hp8f _ _ w5
  have n16 : a ∉ [q4] := by
    intro h9; simp only [List.mem_cons, List.not_mem_nil, or_false] at h9
    · exact (In.ne hD w0 w4 (by simp)) h9
  have n17 : g ∉ [q4] := by
    intro h9; simp only [List.mem_cons, List.not_mem_nil, or_false] at h9
    · exact (In.ne hD w1 w4 (by simp)) h9
  have n18 : e ∉ [q4] := by
    intro h9; simp only [List.mem_cons, List.not_mem_nil, or_false] at h9
    · exact (In.ne hD w2 w4 (by simp)) h9
  have n19 : q3 ∉ [q4] := by
    intro h9; simp only [List.mem_cons, List.not_mem_nil, or_false] at h9
    · exact (In.ne hD w3 w4 (by simp)) h9
  have n20 : b ∉ [q4] := by
    intro h9; simp only [List.mem_cons, List.not_mem_nil, or_false] at h9
    · exact (In.ne hD w5 w4 (by simp)) h9
  have w0 := hp8k _ _ n16 w0
  have w1 := hp8k _ _ n17 w1
  have w2 := hp8k _ _ n18 w2
  have w3 := hp8k _ _ n19 w3
  have w5 := hp8k _ _ n20 w5
  have h21 : (q4, (.inr (10, [.int 1, .ref q9, .int 1]) : va_E)) ∈ M6 := hp8a
  have h22 : (q9, (.inl (G.cO, 10, .inr (.inr (.inr (.inr (va_up (fun _ => none) 0 (some b)))))) : va_E)) ∈ M6 := hp8b
  have F23 := S.1.at 1 10 (Nat.le_of_ble_eq_true rfl) (Nat.le_of_ble_eq_true rfl)
  refine j_pop F23 dX7_put_11 rfl ?_
  refine j_aload_n F23 dX7_put_12 rfl ?_
  refine m_cVr S (n1 := 0) (rest := []) (r_X7_now X.l G X.A M6 w0 w1 w2 w3) ⟨_, _, _, _, rfl, gX7_put_X7_now, rfl, rfl, (by decide +kernel), ⟨(Nat.le_of_ble_eq_true rfl), (Nat.le_of_ble_eq_true rfl)⟩⟩ w0 rfl rfl (Nat.le_of_ble_eq_true rfl) (Nat.le_of_ble_eq_true rfl) (Nat.le_of_ble_eq_true rfl) rfl dX7_put_13 (fun v24 M25 hD26 hp27 => ?_)
  obtain ⟨hp27a, hp27b⟩ := hp27
  subst hp27a
  subst hp27b
  refine m_cVi S (n1 := 0) (rest := []) (r_X6_isTooMuch1 X.l G X.A M6 w3 h21 h22 w5) ⟨_, _, _, _, rfl, gX7_put_X6_isTooMuch, rfl, rfl, (by decide +kernel), ⟨(Nat.le_of_ble_eq_true rfl), (Nat.le_of_ble_eq_true rfl)⟩⟩ w3 rfl rfl (Nat.le_of_ble_eq_true rfl) (Nat.le_of_ble_eq_true rfl) (Nat.le_of_ble_eq_true rfl) rfl dX7_put_16 (fun v28 M29 hD30 hp31 => ?_)
  obtain ⟨hp31v, hp31k⟩ := hp31
  subst hp31v
  have n32 : a ∉ ([] : List Nat) := List.not_mem_nil
  have n33 : g ∉ ([] : List Nat) := List.not_mem_nil
  have n34 : e ∉ ([] : List Nat) := List.not_mem_nil
  have n35 : q3 ∉ ([] : List Nat) := List.not_mem_nil
  have n36 : b ∉ ([] : List Nat) := List.not_mem_nil
  have n37 : q4 ∉ ([] : List Nat) := List.not_mem_nil
  have n38 : q9 ∉ ([] : List Nat) := List.not_mem_nil
  have w0 := hp31k _ _ n32 w0
  have w1 := hp31k _ _ n33 w1
  have w2 := hp31k _ _ n34 w2
  have w3 := hp31k _ _ n35 w3
  have w5 := hp31k _ _ n36 w5
  have h21 := hp31k _ _ n37 h21
  have h22 := hp31k _ _ n38 h22
  have F39 := S.1.at 3 11 (Nat.le_of_ble_eq_true rfl) (Nat.le_of_ble_eq_true rfl)
  refine j_if_eq F39 26 dX7_put_19 (by decide) (fun _ => ?_) (fun h9 => absurd (by decide) h9)
  refine j_iconst F39 0 dX7_put_26 (by decide) ?_
  have hKp : Kp M [q4] M29 := by
    intro b x hb hx
    have n40 := hp8f _ _ hx
    have n41 : b ∉ [q4] := by
      intro h9; simp only [List.mem_cons, List.not_mem_nil, or_false] at h9
      · exact (fun c => hb (by rw [c]; simp)) h9
    have hx := hp8k b x n41 hx
    have n42 : b ∉ ([] : List Nat) := List.not_mem_nil
    have hx := hp31k b x n42 hx
    exact hx
  exact m_ireturn S hRT rfl hQ (Nat.le_of_ble_eq_true rfl) (Nat.le_of_ble_eq_true rfl) dX7_put_27 rfl ⟨rfl, q9, h21, h22, hKp, hp8f⟩

set_option maxRecDepth 100000 in
set_option maxHeartbeats 4000000 in
theorem r_X7_numbersK0 (l : Launch) (G : RG) (A : Nat → Prop) (M : Wl) {a g e q3 q4 r b mo : Nat} {p pl : Int32} {f : Nat → Int32} (w0 : (a, .inr (7, [.int p, .ref g, .int 0, .int pl, .ref mo])) ∈ M) (w1 : (g, .inr (10, [.int 1, .ref e, .int 1])) ∈ M) (w2 : (e, .inl (G.cO, 10, .inr (.inr (.inr (.inr (va_up (fun _ => none) 0 (some q3))))))) ∈ M) (w3 : (q3, .inr (6, [.ref q4])) ∈ M) (w4 : (q4, .inr (10, [.int 1, .ref r, .int 1])) ∈ M) (w5 : (r, .inl (G.cO, 10, .inr (.inr (.inr (.inr (va_up (fun _ => none) 0 (some b))))))) ∈ M) (w6 : (b, .inl (G.Z.cI, 0, .inl f)) ∈ M) : Kr l G A yX7_numbers wsX7_numbers { frames := 4, cells := 2, slots := 0, locals := 104 } M [.ref a] (Gr G A (fun v N => ∃ y : Nat → Int32, (v, (.inl (G.Z.cI, 0, .inl y) : va_E)) ∈ N ∧ Kp M [] N ∧ ∀ (b : Nat) (x : va_E), (b, x) ∈ M → b ≠ v)) 2 0 := by
  refine Kr.of (cc := cX7_numbers) (maxL := 1) (ret := (some (.array .int))) (by decide) rfl (Nat.le_of_ble_eq_true rfl) ?_
  intro X hXl S hRT hIN hXA hQ hD
  subst hXl
  subst hXA
  show J (X.at 0 0) 1 (PL G.Z X.A M) 0 [some (.ref a)] []
  have F0 := S.1.at 0 0 (Nat.le_of_ble_eq_true rfl) (Nat.le_of_ble_eq_true rfl)
  have hOR := S.2.1.or
  refine j_aload_n F0 dX7_numbers_0 rfl ?_
  refine m_get S (C := RX7) (T := TX7) (N := 5) (by decide +kernel) w0 rfl (v := .int 0) 2 (by decide) (by decide +kernel) (fun _ h9 => h9) rfl dX7_numbers_1 ?_
  refine j_if_le F0 13 dX7_numbers_4 (by decide) (fun _ => ?_) (fun h9 => absurd (by decide) h9)
  refine j_aload_n F0 dX7_numbers_13 rfl ?_
  refine m_get S (C := RX7) (T := TX7) (N := 5) (by decide +kernel) w0 rfl (v := .ref g) 1 (by decide) (by decide +kernel) (fun _ h9 => h9) rfl dX7_numbers_14 ?_
  refine j_iconst F0 0 dX7_numbers_17 (by decide) ?_
  refine m_cVr S (n1 := 1) (rest := []) (r_Jx4a65c_get_915e3 X.l G X.A M 0 q3 (by decide) (by decide) (by unfold vp_in; decide) (by simp [va_up]) w1 w2) ⟨_, _, _, _, rfl, gX7_numbers_Jx4a65c_get_915e3, rfl, rfl, (by decide +kernel), ⟨(Nat.le_of_ble_eq_true rfl), (Nat.le_of_ble_eq_true rfl)⟩⟩ w1 rfl rfl (Nat.le_of_ble_eq_true rfl) (Nat.le_of_ble_eq_true rfl) (Nat.le_of_ble_eq_true rfl) rfl dX7_numbers_18 (fun v1 M2 hD3 hp4 => ?_)
  obtain ⟨hp4a, hp4b⟩ := hp4
  subst hp4a
  subst hp4b
  refine m_cast S (C := RX6) w3 rfl (by decide +kernel) dX7_numbers_21 ?_
  refine m_cVr S (n1 := 0) (rest := []) (r_X6_all0 X.l G X.A M w3 w4 w5 w6) ⟨_, _, _, _, rfl, gX7_numbers_X6_all, rfl, rfl, (by decide +kernel), ⟨(Nat.le_of_ble_eq_true rfl), (Nat.le_of_ble_eq_true rfl)⟩⟩ w3 rfl rfl (Nat.le_of_ble_eq_true rfl) (Nat.le_of_ble_eq_true rfl) (Nat.le_of_ble_eq_true rfl) rfl dX7_numbers_24 (fun v5 M6 hD7 hp8 => ?_)
  obtain ⟨y9, hp8a, hp8k, hp8f⟩ := hp8
  have n10 := hp8f _ _ w0
  have n11 := hp8f _ _ w1
  have n12 := hp8f _ _ w2
  have n13 := hp8f _ _ w3
  have n14 := hp8f _ _ w4
  have n15 := hp8f _ _ w5
  have n16 := hp8f _ _ w6
  have n17 : a ∉ ([] : List Nat) := List.not_mem_nil
  have n18 : g ∉ ([] : List Nat) := List.not_mem_nil
  have n19 : e ∉ ([] : List Nat) := List.not_mem_nil
  have n20 : q3 ∉ ([] : List Nat) := List.not_mem_nil
  have n21 : q4 ∉ ([] : List Nat) := List.not_mem_nil
  have n22 : r ∉ ([] : List Nat) := List.not_mem_nil
  have n23 : b ∉ ([] : List Nat) := List.not_mem_nil
  have w0 := hp8k _ _ n17 w0
  have w1 := hp8k _ _ n18 w1
  have w2 := hp8k _ _ n19 w2
  have w3 := hp8k _ _ n20 w3
  have w4 := hp8k _ _ n21 w4
  have w5 := hp8k _ _ n22 w5
  have w6 := hp8k _ _ n23 w6
  have h24 : (v5, (.inl (G.Z.cI, 0, .inl y9) : va_E)) ∈ M6 := hp8a
  have F25 := S.1.at 2 0 (Nat.le_of_ble_eq_true rfl) (Nat.le_of_ble_eq_true rfl)
  have hKp : Kp M [] M6 := by
    intro b x hb hx
    have n26 := hp8f _ _ hx
    have n27 : b ∉ ([] : List Nat) := List.not_mem_nil
    have hx := hp8k b x n27 hx
    exact hx
  exact m_areturn S hRT (by first | exact Or.inl ⟨_, rfl⟩ | exact Or.inr ⟨_, rfl⟩) rfl hQ (Nat.le_of_ble_eq_true rfl) (Nat.le_of_ble_eq_true rfl) dX7_numbers_27 ⟨_, h24, hKp, hp8f⟩

set_option maxRecDepth 100000 in
set_option maxHeartbeats 4000000 in
theorem r_X7_numbersK1 (l : Launch) (G : RG) (A : Nat → Prop) (M : Wl) {a g e q3 q4 r b mo : Nat} {p pl : Int32} {f : Nat → Int32} (w0 : (a, .inr (7, [.int p, .ref g, .int 0, .int pl, .ref mo])) ∈ M) (w1 : (g, .inr (10, [.int 1, .ref e, .int 1])) ∈ M) (w2 : (e, .inl (G.cO, 10, .inr (.inr (.inr (.inr (va_up (fun _ => none) 0 (some q3))))))) ∈ M) (w3 : (q3, .inr (6, [.ref q4])) ∈ M) (w4 : (q4, .inr (10, [.int 1, .ref r, .int 1])) ∈ M) (w5 : (r, .inl (G.cO, 10, .inr (.inr (.inr (.inr (va_up (fun _ => none) 0 (some b))))))) ∈ M) (w6 : (b, .inl (G.Z.cI, 1, .inl f)) ∈ M) : Kr l G A yX7_numbers wsX7_numbers { frames := 4, cells := 2, slots := 1, locals := 104 } M [.ref a] (Gr G A (fun v N => ∃ y : Nat → Int32, (v, (.inl (G.Z.cI, 1, .inl y) : va_E)) ∈ N ∧ Kp M [] N ∧ ∀ (b : Nat) (x : va_E), (b, x) ∈ M → b ≠ v)) 2 1 := by
  refine Kr.of (cc := cX7_numbers) (maxL := 1) (ret := (some (.array .int))) (by decide) rfl (Nat.le_of_ble_eq_true rfl) ?_
  intro X hXl S hRT hIN hXA hQ hD
  subst hXl
  subst hXA
  show J (X.at 0 0) 1 (PL G.Z X.A M) 0 [some (.ref a)] []
  have F0 := S.1.at 0 0 (Nat.le_of_ble_eq_true rfl) (Nat.le_of_ble_eq_true rfl)
  have hOR := S.2.1.or
  refine j_aload_n F0 dX7_numbers_0 rfl ?_
  refine m_get S (C := RX7) (T := TX7) (N := 5) (by decide +kernel) w0 rfl (v := .int 0) 2 (by decide) (by decide +kernel) (fun _ h9 => h9) rfl dX7_numbers_1 ?_
  refine j_if_le F0 13 dX7_numbers_4 (by decide) (fun _ => ?_) (fun h9 => absurd (by decide) h9)
  refine j_aload_n F0 dX7_numbers_13 rfl ?_
  refine m_get S (C := RX7) (T := TX7) (N := 5) (by decide +kernel) w0 rfl (v := .ref g) 1 (by decide) (by decide +kernel) (fun _ h9 => h9) rfl dX7_numbers_14 ?_
  refine j_iconst F0 0 dX7_numbers_17 (by decide) ?_
  refine m_cVr S (n1 := 1) (rest := []) (r_Jx4a65c_get_915e3 X.l G X.A M 0 q3 (by decide) (by decide) (by unfold vp_in; decide) (by simp [va_up]) w1 w2) ⟨_, _, _, _, rfl, gX7_numbers_Jx4a65c_get_915e3, rfl, rfl, (by decide +kernel), ⟨(Nat.le_of_ble_eq_true rfl), (Nat.le_of_ble_eq_true rfl)⟩⟩ w1 rfl rfl (Nat.le_of_ble_eq_true rfl) (Nat.le_of_ble_eq_true rfl) (Nat.le_of_ble_eq_true rfl) rfl dX7_numbers_18 (fun v1 M2 hD3 hp4 => ?_)
  obtain ⟨hp4a, hp4b⟩ := hp4
  subst hp4a
  subst hp4b
  refine m_cast S (C := RX6) w3 rfl (by decide +kernel) dX7_numbers_21 ?_
  refine m_cVr S (n1 := 0) (rest := []) (r_X6_all1 X.l G X.A M w3 w4 w5 w6) ⟨_, _, _, _, rfl, gX7_numbers_X6_all, rfl, rfl, (by decide +kernel), ⟨(Nat.le_of_ble_eq_true rfl), (Nat.le_of_ble_eq_true rfl)⟩⟩ w3 rfl rfl (Nat.le_of_ble_eq_true rfl) (Nat.le_of_ble_eq_true rfl) (Nat.le_of_ble_eq_true rfl) rfl dX7_numbers_24 (fun v5 M6 hD7 hp8 => ?_)
  obtain ⟨y9, hp8a, hp8k, hp8f⟩ := hp8
  have n10 := hp8f _ _ w0
  have n11 := hp8f _ _ w1
  have n12 := hp8f _ _ w2
  have n13 := hp8f _ _ w3
  have n14 := hp8f _ _ w4
  have n15 := hp8f _ _ w5
  have n16 := hp8f _ _ w6
  have n17 : a ∉ ([] : List Nat) := List.not_mem_nil
  have n18 : g ∉ ([] : List Nat) := List.not_mem_nil
  have n19 : e ∉ ([] : List Nat) := List.not_mem_nil
  have n20 : q3 ∉ ([] : List Nat) := List.not_mem_nil
  have n21 : q4 ∉ ([] : List Nat) := List.not_mem_nil
  have n22 : r ∉ ([] : List Nat) := List.not_mem_nil
  have n23 : b ∉ ([] : List Nat) := List.not_mem_nil
  have w0 := hp8k _ _ n17 w0
  have w1 := hp8k _ _ n18 w1
  have w2 := hp8k _ _ n19 w2
  have w3 := hp8k _ _ n20 w3
  have w4 := hp8k _ _ n21 w4
  have w5 := hp8k _ _ n22 w5
  have w6 := hp8k _ _ n23 w6
  have h24 : (v5, (.inl (G.Z.cI, 1, .inl y9) : va_E)) ∈ M6 := hp8a
  have F25 := S.1.at 2 1 (Nat.le_of_ble_eq_true rfl) (Nat.le_of_ble_eq_true rfl)
  have hKp : Kp M [] M6 := by
    intro b x hb hx
    have n26 := hp8f _ _ hx
    have n27 : b ∉ ([] : List Nat) := List.not_mem_nil
    have hx := hp8k b x n27 hx
    exact hx
  exact m_areturn S hRT (by first | exact Or.inl ⟨_, rfl⟩ | exact Or.inr ⟨_, rfl⟩) rfl hQ (Nat.le_of_ble_eq_true rfl) (Nat.le_of_ble_eq_true rfl) dX7_numbers_27 ⟨_, h24, hKp, hp8f⟩
