set_option maxRecDepth 100000 in
set_option maxHeartbeats 4000000 in
theorem r_J7_copyOf_6403c0 (l : Launch) (G : RG) (A : Nat → Prop) (M : Wl) : Kr l G A yJ7_copyOf_6403c wsJ7_copyOf_6403c { frames := 1, cells := 1, slots := 0, locals := 60 } M [.ref G.e0, .int 0, .ref G.mi] (Gr G A (fun v N => (v, (.inl (G.cO, 0, .inr (.inr (.inr (.inr (fun _ => none))))) : va_E)) ∈ N ∧ Kp M [] N ∧ ∀ (b : Nat) (x : va_E), (b, x) ∈ M → b ≠ v)) 1 0 := by
  refine Kr.of (cc := cJ7_copyOf_6403c) (maxL := 4) (ret := (some (.array (.object "java/lang/Object")))) (by decide) rfl (Nat.le_of_ble_eq_true rfl) ?_
  intro X hXl S hRT hIN hXA hQ hD
  subst hXl
  subst hXA
  show J (X.at 0 0) 4 (PL G.Z X.A M) 0 [some (.ref G.e0), some (.int 0), some (.ref G.mi), none] []
  have F0 := S.1.at 0 0 (Nat.le_of_ble_eq_true rfl) (Nat.le_of_ble_eq_true rfl)
  have hOR := S.2.1.or
  refine j_aload_n F0 dJ7_copyOf_6403c_0 rfl ?_
  refine m_ldcM S (by decide +kernel) dJ7_copyOf_6403c_1 ?_
  refine m_acmp_neF S (tgt := 13) dJ7_copyOf_6403c_3 (by decide) rfl ?_
  refine j_iload_n F0 dJ7_copyOf_6403c_6 rfl ?_
  refine m_newq S (t0 := 1) (N := 0) (by decide +kernel) S.2.1.2.2.2.1 rfl (by decide) (by decide) (Nat.le_of_ble_eq_true rfl) (Nat.le_of_ble_eq_true rfl) (Nat.le_of_ble_eq_true rfl) dJ7_copyOf_6403c_7 (fun q1 M3 hD4 hN2 => ?_)
  have h5 := hN2.1
  have F6 := S.1.at 1 0 (Nat.le_of_ble_eq_true rfl) (Nat.le_of_ble_eq_true rfl)
  refine j_goto F6 24 dJ7_copyOf_6403c_10 (by decide) ?_
  refine j_astore_n F6 [some (.ref G.e0), some (.int 0), some (.ref G.mi), some (.ref q1)] dJ7_copyOf_6403c_24 (by decide) rfl rfl ?_
  refine j_aload_n F6 dJ7_copyOf_6403c_25 rfl ?_
  refine j_iconst F6 0 dJ7_copyOf_6403c_26 (by decide) ?_
  refine j_aload_n F6 dJ7_copyOf_6403c_27 rfl ?_
  refine j_iconst F6 0 dJ7_copyOf_6403c_28 (by decide) ?_
  refine j_aload_n F6 dJ7_copyOf_6403c_29 rfl ?_
  refine m_slen S (v := 0) S.2.2.1.2.2.1 rfl dJ7_copyOf_6403c_30 ?_
  refine j_iload_n F6 dJ7_copyOf_6403c_31 rfl ?_
  refine j_min F6 0 (by decide +kernel) (by decide +kernel) (by decide +kernel) (by decide +kernel) ⟨(Nat.le_of_ble_eq_true rfl), (Nat.le_of_ble_eq_true rfl)⟩ dJ7_copyOf_6403c_32 (by decide) ?_
  refine m_copyg S S.2.2.1.2.2.1 h5 (by decide +kernel) (by decide +kernel) (by decide +kernel) (by decide +kernel) (Nat.le_of_ble_eq_true rfl) (by decide +kernel) dJ7_copyOf_6403c_35 (fun M8 hD9 hU7 => ?_)
  have h5 := hU7.1
  refine j_aload_n F6 dJ7_copyOf_6403c_38 rfl ?_
  have hKp : Kp M [] M8 := by
    intro b x hb hx
    have n10 := (hN2.2 _ _ hx).2
    have hx := (hN2.2 _ _ hx).1
    have hx := hU7.2 _ _ n10 hx
    exact hx
  have hFr : ∀ (b : Nat) (x : va_E), (b, x) ∈ M → b ≠ q1 := by
    intro b x hx
    have n11 := (hN2.2 _ _ hx).2
    exact n11
  exact m_areturn S hRT (by first | exact Or.inl ⟨_, rfl⟩ | exact Or.inr ⟨_, rfl⟩) rfl hQ (Nat.le_of_ble_eq_true rfl) (Nat.le_of_ble_eq_true rfl) dJ7_copyOf_6403c_39 ⟨h5, hKp, hFr⟩

set_option maxRecDepth 100000 in
set_option maxHeartbeats 4000000 in
theorem r_J7_copyOf_1904c0 (l : Launch) (G : RG) (A : Nat → Prop) (M : Wl) : Kr l G A yJ7_copyOf_1904c wsJ7_copyOf_1904c { frames := 2, cells := 1, slots := 0, locals := 83 } M [.ref G.e0, .int 0] (Gr G A (fun v N => (v, (.inl (G.cO, 0, .inr (.inr (.inr (.inr (fun _ => none))))) : va_E)) ∈ N ∧ Kp M [] N ∧ ∀ (b : Nat) (x : va_E), (b, x) ∈ M → b ≠ v)) 1 0 := by
  refine Kr.of (cc := cJ7_copyOf_1904c) (maxL := 2) (ret := (some (.array (.object "java/lang/Object")))) (by decide) rfl (Nat.le_of_ble_eq_true rfl) ?_
  intro X hXl S hRT hIN hXA hQ hD
  subst hXl
  subst hXA
  show J (X.at 0 0) 2 (PL G.Z X.A M) 0 [some (.ref G.e0), some (.int 0)] []
  have F0 := S.1.at 0 0 (Nat.le_of_ble_eq_true rfl) (Nat.le_of_ble_eq_true rfl)
  have hOR := S.2.1.or
  refine j_aload_n F0 dJ7_copyOf_1904c_0 rfl ?_
  refine j_iload_n F0 dJ7_copyOf_1904c_1 rfl ?_
  refine j_aload_n F0 dJ7_copyOf_1904c_2 rfl ?_
  refine m_getC S S.2.2.1.o0 (by decide +kernel) (by decide +kernel) (by decide +kernel) (by decide +kernel) (Nat.le_of_ble_eq_true rfl) (Nat.le_of_ble_eq_true rfl) dJ7_copyOf_1904c_3 ?_
  refine m_cSr S (n1 := 3) (rest := []) (r_J7_copyOf_6403c0 X.l G X.A M) ⟨_, _, _, _, rfl, gJ7_copyOf_1904c_J7_copyOf_6403c, rfl, rfl, (by decide +kernel), ⟨(Nat.le_of_ble_eq_true rfl), (Nat.le_of_ble_eq_true rfl)⟩⟩ rfl (Nat.le_of_ble_eq_true rfl) (Nat.le_of_ble_eq_true rfl) (Nat.le_of_ble_eq_true rfl) rfl dJ7_copyOf_1904c_6 (fun v1 M2 hD3 hp4 => ?_)
  obtain ⟨hp4a, hp4k, hp4f⟩ := hp4
  have h5 : (v1, (.inl (G.cO, 0, .inr (.inr (.inr (.inr (fun _ => none))))) : va_E)) ∈ M2 := hp4a
  have F6 := S.1.at 1 0 (Nat.le_of_ble_eq_true rfl) (Nat.le_of_ble_eq_true rfl)
  have hKp : Kp M [] M2 := by
    intro b x hb hx
    have n7 := hp4f _ _ hx
    have n8 : b ∉ ([] : List Nat) := List.not_mem_nil
    have hx := hp4k b x n8 hx
    exact hx
  exact m_areturn S hRT (by first | exact Or.inl ⟨_, rfl⟩ | exact Or.inr ⟨_, rfl⟩) rfl hQ (Nat.le_of_ble_eq_true rfl) (Nat.le_of_ble_eq_true rfl) dJ7_copyOf_1904c_9 ⟨h5, hKp, hp4f⟩

set_option maxRecDepth 100000 in
set_option maxHeartbeats 4000000 in
theorem r_J7_copyOf_6403c1 (l : Launch) (G : RG) (A : Nat → Prop) (M : Wl) : Kr l G A yJ7_copyOf_6403c wsJ7_copyOf_6403c { frames := 1, cells := 1, slots := 1, locals := 60 } M [.ref G.e1, .int 1, .ref G.mi] (Gr G A (fun v N => (v, (.inl (G.cO, 1, .inr (.inr (.inr (.inr (fun _ => none))))) : va_E)) ∈ N ∧ Kp M [] N ∧ ∀ (b : Nat) (x : va_E), (b, x) ∈ M → b ≠ v)) 1 1 := by
  refine Kr.of (cc := cJ7_copyOf_6403c) (maxL := 4) (ret := (some (.array (.object "java/lang/Object")))) (by decide) rfl (Nat.le_of_ble_eq_true rfl) ?_
  intro X hXl S hRT hIN hXA hQ hD
  subst hXl
  subst hXA
  show J (X.at 0 0) 4 (PL G.Z X.A M) 0 [some (.ref G.e1), some (.int 1), some (.ref G.mi), none] []
  have F0 := S.1.at 0 0 (Nat.le_of_ble_eq_true rfl) (Nat.le_of_ble_eq_true rfl)
  have hOR := S.2.1.or
  refine j_aload_n F0 dJ7_copyOf_6403c_0 rfl ?_
  refine m_ldcM S (by decide +kernel) dJ7_copyOf_6403c_1 ?_
  refine m_acmp_neF S (tgt := 13) dJ7_copyOf_6403c_3 (by decide) rfl ?_
  refine j_iload_n F0 dJ7_copyOf_6403c_6 rfl ?_
  refine m_newq S (t0 := 1) (N := 1) (by decide +kernel) S.2.1.2.2.2.1 rfl (by decide) (by decide) (Nat.le_of_ble_eq_true rfl) (Nat.le_of_ble_eq_true rfl) (Nat.le_of_ble_eq_true rfl) dJ7_copyOf_6403c_7 (fun q1 M3 hD4 hN2 => ?_)
  have h5 := hN2.1
  have F6 := S.1.at 1 1 (Nat.le_of_ble_eq_true rfl) (Nat.le_of_ble_eq_true rfl)
  refine j_goto F6 24 dJ7_copyOf_6403c_10 (by decide) ?_
  refine j_astore_n F6 [some (.ref G.e1), some (.int 1), some (.ref G.mi), some (.ref q1)] dJ7_copyOf_6403c_24 (by decide) rfl rfl ?_
  refine j_aload_n F6 dJ7_copyOf_6403c_25 rfl ?_
  refine j_iconst F6 0 dJ7_copyOf_6403c_26 (by decide) ?_
  refine j_aload_n F6 dJ7_copyOf_6403c_27 rfl ?_
  refine j_iconst F6 0 dJ7_copyOf_6403c_28 (by decide) ?_
  refine j_aload_n F6 dJ7_copyOf_6403c_29 rfl ?_
  refine m_slen S (v := 0) S.2.2.1.2.2.2.1 rfl dJ7_copyOf_6403c_30 ?_
  refine j_iload_n F6 dJ7_copyOf_6403c_31 rfl ?_
  refine j_min F6 0 (by decide +kernel) (by decide +kernel) (by decide +kernel) (by decide +kernel) ⟨(Nat.le_of_ble_eq_true rfl), (Nat.le_of_ble_eq_true rfl)⟩ dJ7_copyOf_6403c_32 (by decide) ?_
  refine m_copyg S S.2.2.1.2.2.2.1 h5 (by decide +kernel) (by decide +kernel) (by decide +kernel) (by decide +kernel) (Nat.le_of_ble_eq_true rfl) (by decide +kernel) dJ7_copyOf_6403c_35 (fun M8 hD9 hU7 => ?_)
  have h5 := hU7.1
  refine j_aload_n F6 dJ7_copyOf_6403c_38 rfl ?_
  have hKp : Kp M [] M8 := by
    intro b x hb hx
    have n10 := (hN2.2 _ _ hx).2
    have hx := (hN2.2 _ _ hx).1
    have hx := hU7.2 _ _ n10 hx
    exact hx
  have hFr : ∀ (b : Nat) (x : va_E), (b, x) ∈ M → b ≠ q1 := by
    intro b x hx
    have n11 := (hN2.2 _ _ hx).2
    exact n11
  exact m_areturn S hRT (by first | exact Or.inl ⟨_, rfl⟩ | exact Or.inr ⟨_, rfl⟩) rfl hQ (Nat.le_of_ble_eq_true rfl) (Nat.le_of_ble_eq_true rfl) dJ7_copyOf_6403c_39 ⟨h5, hKp, hFr⟩

set_option maxRecDepth 100000 in
set_option maxHeartbeats 4000000 in
theorem r_J7_copyOf_1904c1 (l : Launch) (G : RG) (A : Nat → Prop) (M : Wl) : Kr l G A yJ7_copyOf_1904c wsJ7_copyOf_1904c { frames := 2, cells := 1, slots := 1, locals := 83 } M [.ref G.e1, .int 1] (Gr G A (fun v N => (v, (.inl (G.cO, 1, .inr (.inr (.inr (.inr (fun _ => none))))) : va_E)) ∈ N ∧ Kp M [] N ∧ ∀ (b : Nat) (x : va_E), (b, x) ∈ M → b ≠ v)) 1 1 := by
  refine Kr.of (cc := cJ7_copyOf_1904c) (maxL := 2) (ret := (some (.array (.object "java/lang/Object")))) (by decide) rfl (Nat.le_of_ble_eq_true rfl) ?_
  intro X hXl S hRT hIN hXA hQ hD
  subst hXl
  subst hXA
  show J (X.at 0 0) 2 (PL G.Z X.A M) 0 [some (.ref G.e1), some (.int 1)] []
  have F0 := S.1.at 0 0 (Nat.le_of_ble_eq_true rfl) (Nat.le_of_ble_eq_true rfl)
  have hOR := S.2.1.or
  refine j_aload_n F0 dJ7_copyOf_1904c_0 rfl ?_
  refine j_iload_n F0 dJ7_copyOf_1904c_1 rfl ?_
  refine j_aload_n F0 dJ7_copyOf_1904c_2 rfl ?_
  refine m_getC S S.2.2.1.o1 (by decide +kernel) (by decide +kernel) (by decide +kernel) (by decide +kernel) (Nat.le_of_ble_eq_true rfl) (Nat.le_of_ble_eq_true rfl) dJ7_copyOf_1904c_3 ?_
  refine m_cSr S (n1 := 3) (rest := []) (r_J7_copyOf_6403c1 X.l G X.A M) ⟨_, _, _, _, rfl, gJ7_copyOf_1904c_J7_copyOf_6403c, rfl, rfl, (by decide +kernel), ⟨(Nat.le_of_ble_eq_true rfl), (Nat.le_of_ble_eq_true rfl)⟩⟩ rfl (Nat.le_of_ble_eq_true rfl) (Nat.le_of_ble_eq_true rfl) (Nat.le_of_ble_eq_true rfl) rfl dJ7_copyOf_1904c_6 (fun v1 M2 hD3 hp4 => ?_)
  obtain ⟨hp4a, hp4k, hp4f⟩ := hp4
  have h5 : (v1, (.inl (G.cO, 1, .inr (.inr (.inr (.inr (fun _ => none))))) : va_E)) ∈ M2 := hp4a
  have F6 := S.1.at 1 1 (Nat.le_of_ble_eq_true rfl) (Nat.le_of_ble_eq_true rfl)
  have hKp : Kp M [] M2 := by
    intro b x hb hx
    have n7 := hp4f _ _ hx
    have n8 : b ∉ ([] : List Nat) := List.not_mem_nil
    have hx := hp4k b x n8 hx
    exact hx
  exact m_areturn S hRT (by first | exact Or.inl ⟨_, rfl⟩ | exact Or.inr ⟨_, rfl⟩) rfl hQ (Nat.le_of_ble_eq_true rfl) (Nat.le_of_ble_eq_true rfl) dJ7_copyOf_1904c_9 ⟨h5, hKp, hp4f⟩

set_option maxRecDepth 100000 in
set_option maxHeartbeats 4000000 in
theorem r_Jx4a65c_toArray_d5877 (l : Launch) (G : RG) (A : Nat → Prop) (M : Wl) {a : Nat} (w0 : (a, .inr (10, [.int 0, .ref G.e0, .int 0])) ∈ M) : Kr l G A yJx4a65c_toArray_d5877 wsJx4a65c_toArray_d5877 { frames := 3, cells := 1, slots := 0, locals := 104 } M [.ref a] (Gr G A (fun v N => (v, (.inl (G.cO, 0, .inr (.inr (.inr (.inr (fun _ => none))))) : va_E)) ∈ N ∧ Kp M [] N ∧ ∀ (b : Nat) (x : va_E), (b, x) ∈ M → b ≠ v)) 1 0 := by
  refine Kr.of (cc := cJx4a65c_toArray_d5877) (maxL := 1) (ret := (some (.array (.object "java/lang/Object")))) (by decide) rfl (Nat.le_of_ble_eq_true rfl) ?_
  intro X hXl S hRT hIN hXA hQ hD
  subst hXl
  subst hXA
  show J (X.at 0 0) 1 (PL G.Z X.A M) 0 [some (.ref a)] []
  have F0 := S.1.at 0 0 (Nat.le_of_ble_eq_true rfl) (Nat.le_of_ble_eq_true rfl)
  have hOR := S.2.1.or
  refine j_aload_n F0 dJx4a65c_toArray_d5877_0 rfl ?_
  refine m_get S (C := RJx4a65c) (T := TJx4a65c) (N := 3) (by decide +kernel) w0 rfl (v := .ref G.e0) 1 (by decide) (by decide +kernel) (fun _ h9 => h9) rfl dJx4a65c_toArray_d5877_1 ?_
  refine j_aload_n F0 dJx4a65c_toArray_d5877_4 rfl ?_
  refine m_get S (C := RJx4a65c) (T := TJx4a65c) (N := 3) (by decide +kernel) w0 rfl (v := .int 0) 2 (by decide) (by decide +kernel) (fun _ h9 => h9) rfl dJx4a65c_toArray_d5877_5 ?_
  refine m_cSr S (n1 := 2) (rest := []) (r_J7_copyOf_1904c0 X.l G X.A M) ⟨_, _, _, _, rfl, gJx4a65c_toArray_d5877_J7_copyOf_1904c, rfl, rfl, (by decide +kernel), ⟨(Nat.le_of_ble_eq_true rfl), (Nat.le_of_ble_eq_true rfl)⟩⟩ rfl (Nat.le_of_ble_eq_true rfl) (Nat.le_of_ble_eq_true rfl) (Nat.le_of_ble_eq_true rfl) rfl dJx4a65c_toArray_d5877_8 (fun v1 M2 hD3 hp4 => ?_)
  obtain ⟨hp4a, hp4k, hp4f⟩ := hp4
  have n5 := hp4f _ _ w0
  have n6 : a ∉ ([] : List Nat) := List.not_mem_nil
  have w0 := hp4k _ _ n6 w0
  have h7 : (v1, (.inl (G.cO, 0, .inr (.inr (.inr (.inr (fun _ => none))))) : va_E)) ∈ M2 := hp4a
  have F8 := S.1.at 1 0 (Nat.le_of_ble_eq_true rfl) (Nat.le_of_ble_eq_true rfl)
  have hKp : Kp M [] M2 := by
    intro b x hb hx
    have n9 := hp4f _ _ hx
    have n10 : b ∉ ([] : List Nat) := List.not_mem_nil
    have hx := hp4k b x n10 hx
    exact hx
  exact m_areturn S hRT (by first | exact Or.inl ⟨_, rfl⟩ | exact Or.inr ⟨_, rfl⟩) rfl hQ (Nat.le_of_ble_eq_true rfl) (Nat.le_of_ble_eq_true rfl) dJx4a65c_toArray_d5877_11 ⟨h7, hKp, hp4f⟩

set_option maxRecDepth 100000 in
set_option maxHeartbeats 4000000 in
theorem r_Jx4a65c_init_4bcb3 (l : Launch) (G : RG) (A : Nat → Prop) (M : Wl) {a b : Nat} (w0 : (a, .inr (10, [.int 0, .null, .int 0])) ∈ M) (w1 : (b, .inr (10, [.int 0, .ref G.e0, .int 0])) ∈ M) : Kr l G A yJx4a65c_init_4bcb3 wsJx4a65c_init_4bcb3 { frames := 4, cells := 1, slots := 0, locals := 124 } M [.ref a, .ref b] (Gv G A (fun N => (a, (.inr (10, [.int 0, .ref G.e1, .int 0]) : va_E)) ∈ N ∧ Kp M [a] N)) 1 0 := by
  refine Kr.of (cc := cJx4a65c_init_4bcb3) (maxL := 3) (ret := none) (by decide) rfl (Nat.le_of_ble_eq_true rfl) ?_
  intro X hXl S hRT hIN hXA hQ hD
  subst hXl
  subst hXA
  show J (X.at 0 0) 3 (PL G.Z X.A M) 0 [some (.ref a), some (.ref b), none] []
  have F0 := S.1.at 0 0 (Nat.le_of_ble_eq_true rfl) (Nat.le_of_ble_eq_true rfl)
  have hOR := S.2.1.or
  refine j_aload_n F0 dJx4a65c_init_4bcb3_0 rfl ?_
  refine m_cIv S (n1 := 0) (rest := []) (r_Jxc12de_init_da8c8 X.l G X.A M w0) ⟨_, _, _, rfl, gJx4a65c_init_4bcb3_Jxc12de_init_da8c8, rfl, rfl, (by decide +kernel), (by decide +kernel), (by decide +kernel), rfl, (by decide +kernel), ⟨(Nat.le_of_ble_eq_true rfl), (Nat.le_of_ble_eq_true rfl)⟩⟩ rfl (Nat.le_of_ble_eq_true rfl) (Nat.le_of_ble_eq_true rfl) (Nat.le_of_ble_eq_true rfl) rfl dJx4a65c_init_4bcb3_1 (fun M2 hD3 hp4 => ?_)
  have n5 : b ≠ a := (In.ne hD w1 w0 (by simp))
  have w1 := hp4.2 _ _ n5 w1
  have w0 := hp4.1
  refine j_aload_n F0 dJx4a65c_init_4bcb3_4 rfl ?_
  refine m_cFr S (r_Jx4a65c_toArray_d5877 X.l G X.A M2 w1) rfl gJx4a65c_init_4bcb3_Jx4a65c_toArray_d5877_f42Jx4a65c rfl rfl S.2.1.fc.1 ⟨(Nat.le_of_ble_eq_true rfl), (Nat.le_of_ble_eq_true rfl)⟩ w1 (Nat.le_of_ble_eq_true rfl) (Nat.le_of_ble_eq_true rfl) (Nat.le_of_ble_eq_true rfl) dJx4a65c_init_4bcb3_5 (fun v6 M7 hD8 hp9 => ?_)
  obtain ⟨hp9a, hp9k, hp9f⟩ := hp9
  have n10 := hp9f _ _ w0
  have n11 := hp9f _ _ w1
  have n12 : a ∉ ([] : List Nat) := List.not_mem_nil
  have n13 : b ∉ ([] : List Nat) := List.not_mem_nil
  have w0 := hp9k _ _ n12 w0
  have w1 := hp9k _ _ n13 w1
  have h14 : (v6, (.inl (G.cO, 0, .inr (.inr (.inr (.inr (fun _ => none))))) : va_E)) ∈ M7 := hp9a
  have F15 := S.1.at 1 0 (Nat.le_of_ble_eq_true rfl) (Nat.le_of_ble_eq_true rfl)
  refine j_astore_n F15 [some (.ref a), some (.ref b), some (.ref v6)] dJx4a65c_init_4bcb3_10 (by decide) rfl rfl ?_
  refine j_aload_n F15 dJx4a65c_init_4bcb3_11 rfl ?_
  refine j_aload_n F15 dJx4a65c_init_4bcb3_12 rfl ?_
  refine m_alen S (t0 := 1) (v := 0) h14 rfl (by first | decide | rfl) dJx4a65c_init_4bcb3_13 ?_
  refine m_dup_x1 F15 dJx4a65c_init_4bcb3_14 rfl rfl ?_
  refine m_put S (C := RJx4a65c) (T := TJx4a65c) (N := 3) (v := .int 0) (ty := .int) tyJx4a65c tyJx4a65c_ok nmJx4a65c (by decide +kernel) w0 rfl 2 (by decide) (by decide +kernel) (fun _ h9 => h9) rfl (by decide +kernel) rfl rfl (Nat.le_of_ble_eq_true rfl) dJx4a65c_init_4bcb3_15 (fun M17 hD18 hU16 => ?_)
  have hU16 : Up M7 a (.inr (10, [.int 0, .null, .int 0])) M17 := hU16
  have n19 : b ≠ a := n5
  have n20 : v6 ≠ a := (Ne.symm n10)
  have w1 := hU16.2 _ _ n19 w1
  have h14 := hU16.2 _ _ n20 h14
  have w0 := hU16.1
  refine j_if_eq F15 57 dJx4a65c_init_4bcb3_18 (by decide) (fun _ => ?_) (fun h9 => absurd (by decide) h9)
  refine j_aload_n F15 dJx4a65c_init_4bcb3_57 rfl ?_
  refine m_gets S S.2.2.1.2.1 (by decide +kernel) rfl dJx4a65c_init_4bcb3_58 ?_
  refine m_put S (C := RJx4a65c) (T := TJx4a65c) (N := 3) (v := .ref G.e1) (ty := (.array (.object "java/lang/Object"))) tyJx4a65c tyJx4a65c_ok nmJx4a65c (by decide +kernel) w0 rfl 1 (by decide) (by decide +kernel) (fun _ h9 => h9) rfl (by decide +kernel) rfl rfl (Nat.le_of_ble_eq_true rfl) dJx4a65c_init_4bcb3_61 (fun M22 hD23 hU21 => ?_)
  have hU21 : Up M17 a (.inr (10, [.int 0, .ref G.e1, .int 0])) M22 := hU21
  have n24 : b ≠ a := n19
  have n25 : v6 ≠ a := n20
  have w1 := hU21.2 _ _ n24 w1
  have h14 := hU21.2 _ _ n25 h14
  have w0 := hU21.1
  have hKp : Kp M [a] M22 := by
    intro b x hb hx
    have hx := hp4.2 _ _ (fun c => hb (by rw [c]; simp)) hx
    have n26 := hp9f _ _ hx
    have n27 : b ∉ ([] : List Nat) := List.not_mem_nil
    have hx := hp9k b x n27 hx
    have hx := hU16.2 _ _ (fun c => hb (by rw [c]; simp)) hx
    have hx := hU21.2 _ _ (fun c => hb (by rw [c]; simp)) hx
    exact hx
  exact m_return S hRT rfl hQ (Nat.le_of_ble_eq_true rfl) (Nat.le_of_ble_eq_true rfl) dJx4a65c_init_4bcb3_64 ⟨w0, hKp⟩

set_option maxRecDepth 100000 in
set_option maxHeartbeats 4000000 in
theorem r_J8_newLength_cabcc (l : Launch) (G : RG) (A : Nat → Prop) (M : Wl) : Kr l G A yJ8_newLength_cabcc wsJ8_newLength_cabcc { frames := 1, cells := 0, slots := 0, locals := 21 } M [.int 0, .int 1, .int 0] (Gi G A (fun v N => 1 = v ∧ M = N)) 0 0 := by
  refine Kr.of (cc := cJ8_newLength_cabcc) (maxL := 4) (ret := (some .int)) (by decide) rfl (Nat.le_of_ble_eq_true rfl) ?_
  intro X hXl S hRT hIN hXA hQ hD
  subst hXl
  subst hXA
  show J (X.at 0 0) 4 (PL G.Z X.A M) 0 [some (.int 0), some (.int 1), some (.int 0), none] []
  have F0 := S.1.at 0 0 (Nat.le_of_ble_eq_true rfl) (Nat.le_of_ble_eq_true rfl)
  have hOR := S.2.1.or
  refine j_iload_n F0 dJ8_newLength_cabcc_0 rfl ?_
  refine j_iload_n F0 dJ8_newLength_cabcc_1 rfl ?_
  refine j_iload_n F0 dJ8_newLength_cabcc_2 rfl ?_
  refine j_max F0 1 (by decide +kernel) (by decide +kernel) (by decide +kernel) (by decide +kernel) ⟨(Nat.le_of_ble_eq_true rfl), (Nat.le_of_ble_eq_true rfl)⟩ dJ8_newLength_cabcc_3 (by decide) ?_
  refine j_iadd F0 1 dJ8_newLength_cabcc_6 (by decide) ?_
  refine j_istore_n F0 [some (.int 0), some (.int 1), some (.int 0), some (.int 1)] dJ8_newLength_cabcc_7 (by decide) rfl rfl ?_
  refine j_iconst F0 0 dJ8_newLength_cabcc_8 (by decide) ?_
  refine j_iload_n F0 dJ8_newLength_cabcc_9 rfl ?_
  refine j_icmp_ge F0 21 dJ8_newLength_cabcc_10 (by decide) (fun h9 => absurd h9 (by decide)) (fun _ => ?_)
  refine j_iload_n F0 dJ8_newLength_cabcc_13 rfl ?_
  refine j_ldc F0 (v := 2147483639) (by decide +kernel) dJ8_newLength_cabcc_14 ?_
  refine j_icmp_gt F0 21 dJ8_newLength_cabcc_16 (by decide) (fun h9 => absurd h9 (by decide)) (fun _ => ?_)
  refine j_iload_n F0 dJ8_newLength_cabcc_19 rfl ?_
  exact m_ireturn S hRT rfl hQ (Nat.le_of_ble_eq_true rfl) (Nat.le_of_ble_eq_true rfl) dJ8_newLength_cabcc_20 rfl ⟨rfl, rfl⟩

set_option maxRecDepth 100000 in
set_option maxHeartbeats 4000000 in
theorem r_Jx4a65c_grow_92f84E (l : Launch) (G : RG) (A : Nat → Prop) (M : Wl) {a : Nat} {m : Int32} (w0 : (a, .inr (10, [.int m, .ref G.e1, .int 0])) ∈ M) : Kr l G A yJx4a65c_grow_92f84 wsJx4a65c_grow_92f84 { frames := 3, cells := 1, slots := 1, locals := 104 } M [.ref a, .int 1] (Gr G A (fun v N => (a, (.inr (10, [.int m, .ref v, .int 0]) : va_E)) ∈ N ∧ (v, (.inl (G.cO, 1, .inr (.inr (.inr (.inr (fun _ => none))))) : va_E)) ∈ N ∧ Kp M [a] N ∧ ∀ (b : Nat) (x : va_E), (b, x) ∈ M → b ≠ v)) 1 1 := by
  refine Kr.of (cc := cJx4a65c_grow_92f84) (maxL := 4) (ret := (some (.array (.object "java/lang/Object")))) (by decide) rfl (Nat.le_of_ble_eq_true rfl) ?_
  intro X hXl S hRT hIN hXA hQ hD
  subst hXl
  subst hXA
  show J (X.at 0 0) 4 (PL G.Z X.A M) 0 [some (.ref a), some (.int 1), none, none] []
  have F0 := S.1.at 0 0 (Nat.le_of_ble_eq_true rfl) (Nat.le_of_ble_eq_true rfl)
  have hOR := S.2.1.or
  refine j_aload_n F0 dJx4a65c_grow_92f84_0 rfl ?_
  refine m_get S (C := RJx4a65c) (T := TJx4a65c) (N := 3) (by decide +kernel) w0 rfl (v := .ref G.e1) 1 (by decide) (by decide +kernel) (fun _ h9 => h9) rfl dJx4a65c_grow_92f84_1 ?_
  refine m_slen S (v := 0) S.2.2.1.2.2.2.1 rfl dJx4a65c_grow_92f84_4 ?_
  refine j_istore_n F0 [some (.ref a), some (.int 1), some (.int 0), none] dJx4a65c_grow_92f84_5 (by decide) rfl rfl ?_
  refine j_iload_n F0 dJx4a65c_grow_92f84_6 rfl ?_
  refine j_if_gt F0 20 dJx4a65c_grow_92f84_7 (by decide) (fun h9 => absurd h9 (by decide)) (fun _ => ?_)
  refine j_aload_n F0 dJx4a65c_grow_92f84_10 rfl ?_
  refine m_get S (C := RJx4a65c) (T := TJx4a65c) (N := 3) (by decide +kernel) w0 rfl (v := .ref G.e1) 1 (by decide) (by decide +kernel) (fun _ h9 => h9) rfl dJx4a65c_grow_92f84_11 ?_
  refine m_gets S S.2.2.1.1 (by decide +kernel) rfl dJx4a65c_grow_92f84_14 ?_
  refine m_acmp_eqF S (tgt := 45) dJx4a65c_grow_92f84_17 (by decide) (Ne.symm S.2.2.1.ne) ?_
  refine j_iload_n F0 dJx4a65c_grow_92f84_20 rfl ?_
  refine j_iload_n F0 dJx4a65c_grow_92f84_21 rfl ?_
  refine j_iload_n F0 dJx4a65c_grow_92f84_22 rfl ?_
  refine j_isub F0 1 dJx4a65c_grow_92f84_23 (by decide) ?_
  refine j_iload_n F0 dJx4a65c_grow_92f84_24 rfl ?_
  refine j_iconst F0 1 dJx4a65c_grow_92f84_25 (by decide) ?_
  refine j_ishr F0 0 dJx4a65c_grow_92f84_26 (by decide) ?_
  refine m_cSi S (n1 := 3) (rest := []) (r_J8_newLength_cabcc X.l G X.A M) ⟨_, _, _, _, rfl, gJx4a65c_grow_92f84_J8_newLength_cabcc, rfl, rfl, (by decide +kernel), ⟨(Nat.le_of_ble_eq_true rfl), (Nat.le_of_ble_eq_true rfl)⟩⟩ rfl (Nat.le_of_ble_eq_true rfl) (Nat.le_of_ble_eq_true rfl) (Nat.le_of_ble_eq_true rfl) rfl dJx4a65c_grow_92f84_27 (fun v1 M2 hD3 hp4 => ?_)
  obtain ⟨hp4a, hp4b⟩ := hp4
  subst hp4a
  subst hp4b
  refine j_istore_n F0 [some (.ref a), some (.int 1), some (.int 0), some (.int 1)] dJx4a65c_grow_92f84_30 (by decide) rfl rfl ?_
  refine j_aload_n F0 dJx4a65c_grow_92f84_31 rfl ?_
  refine j_aload_n F0 dJx4a65c_grow_92f84_32 rfl ?_
  refine m_get S (C := RJx4a65c) (T := TJx4a65c) (N := 3) (by decide +kernel) w0 rfl (v := .ref G.e1) 1 (by decide) (by decide +kernel) (fun _ h9 => h9) rfl dJx4a65c_grow_92f84_33 ?_
  refine j_iload_n F0 dJx4a65c_grow_92f84_36 rfl ?_
  refine m_cSr S (n1 := 2) (rest := [.ref a]) (r_J7_copyOf_1904c1 X.l G X.A M) ⟨_, _, _, _, rfl, gJx4a65c_grow_92f84_J7_copyOf_1904c, rfl, rfl, (by decide +kernel), ⟨(Nat.le_of_ble_eq_true rfl), (Nat.le_of_ble_eq_true rfl)⟩⟩ rfl (Nat.le_of_ble_eq_true rfl) (Nat.le_of_ble_eq_true rfl) (Nat.le_of_ble_eq_true rfl) rfl dJx4a65c_grow_92f84_37 (fun v5 M6 hD7 hp8 => ?_)
  obtain ⟨hp8a, hp8k, hp8f⟩ := hp8
  have n9 := hp8f _ _ w0
  have n10 : a ∉ ([] : List Nat) := List.not_mem_nil
  have w0 := hp8k _ _ n10 w0
  have h11 : (v5, (.inl (G.cO, 1, .inr (.inr (.inr (.inr (fun _ => none))))) : va_E)) ∈ M6 := hp8a
  have F12 := S.1.at 1 1 (Nat.le_of_ble_eq_true rfl) (Nat.le_of_ble_eq_true rfl)
  refine m_dup_x1 F12 dJx4a65c_grow_92f84_40 rfl rfl ?_
  refine m_put S (C := RJx4a65c) (T := TJx4a65c) (N := 3) (v := .ref v5) (ty := (.array (.object "java/lang/Object"))) tyJx4a65c tyJx4a65c_ok nmJx4a65c (by decide +kernel) w0 rfl 1 (by decide) (by decide +kernel) (fun _ h9 => h9) rfl (by decide +kernel) rfl rfl (Nat.le_of_ble_eq_true rfl) dJx4a65c_grow_92f84_41 (fun M14 hD15 hU13 => ?_)
  have hU13 : Up M6 a (.inr (10, [.int m, .ref v5, .int 0])) M14 := hU13
  have n16 : v5 ≠ a := (Ne.symm n9)
  have h11 := hU13.2 _ _ n16 h11
  have w0 := hU13.1
  have hKp : Kp M [a] M14 := by
    intro b x hb hx
    have n17 := hp8f _ _ hx
    have n18 : b ∉ ([] : List Nat) := List.not_mem_nil
    have hx := hp8k b x n18 hx
    have hx := hU13.2 _ _ (fun c => hb (by rw [c]; simp)) hx
    exact hx
  have hFr : ∀ (b : Nat) (x : va_E), (b, x) ∈ M → b ≠ v5 := by
    intro b9 x9 hx
    exact hp8f _ _ hx
  exact m_areturn S hRT (by first | exact Or.inl ⟨_, rfl⟩ | exact Or.inr ⟨_, rfl⟩) rfl hQ (Nat.le_of_ble_eq_true rfl) (Nat.le_of_ble_eq_true rfl) dJx4a65c_grow_92f84_44 ⟨w0, h11, hKp, hFr⟩

set_option maxRecDepth 100000 in
set_option maxHeartbeats 4000000 in
theorem r_Jx4a65c_grow_d5877E (l : Launch) (G : RG) (A : Nat → Prop) (M : Wl) {a : Nat} {m : Int32} (w0 : (a, .inr (10, [.int m, .ref G.e1, .int 0])) ∈ M) : Kr l G A yJx4a65c_grow_d5877 wsJx4a65c_grow_d5877 { frames := 4, cells := 1, slots := 1, locals := 127 } M [.ref a] (Gr G A (fun v N => (a, (.inr (10, [.int m, .ref v, .int 0]) : va_E)) ∈ N ∧ (v, (.inl (G.cO, 1, .inr (.inr (.inr (.inr (fun _ => none))))) : va_E)) ∈ N ∧ Kp M [a] N ∧ ∀ (b : Nat) (x : va_E), (b, x) ∈ M → b ≠ v)) 1 1 := by
  refine Kr.of (cc := cJx4a65c_grow_d5877) (maxL := 1) (ret := (some (.array (.object "java/lang/Object")))) (by decide) rfl (Nat.le_of_ble_eq_true rfl) ?_
  intro X hXl S hRT hIN hXA hQ hD
  subst hXl
  subst hXA
  show J (X.at 0 0) 1 (PL G.Z X.A M) 0 [some (.ref a)] []
  have F0 := S.1.at 0 0 (Nat.le_of_ble_eq_true rfl) (Nat.le_of_ble_eq_true rfl)
  have hOR := S.2.1.or
  refine j_aload_n F0 dJx4a65c_grow_d5877_0 rfl ?_
  refine j_aload_n F0 dJx4a65c_grow_d5877_1 rfl ?_
  refine m_get S (C := RJx4a65c) (T := TJx4a65c) (N := 3) (by decide +kernel) w0 rfl (v := .int 0) 2 (by decide) (by decide +kernel) (fun _ h9 => h9) rfl dJx4a65c_grow_d5877_2 ?_
  refine j_iconst F0 1 dJx4a65c_grow_d5877_5 (by decide) ?_
  refine j_iadd F0 1 dJx4a65c_grow_d5877_6 (by decide) ?_
  refine m_cVr S (n1 := 1) (rest := []) (r_Jx4a65c_grow_92f84E X.l G X.A M w0) ⟨_, _, _, _, rfl, gJx4a65c_grow_d5877_Jx4a65c_grow_92f84, rfl, rfl, (by decide +kernel), ⟨(Nat.le_of_ble_eq_true rfl), (Nat.le_of_ble_eq_true rfl)⟩⟩ w0 rfl rfl (Nat.le_of_ble_eq_true rfl) (Nat.le_of_ble_eq_true rfl) (Nat.le_of_ble_eq_true rfl) rfl dJx4a65c_grow_d5877_7 (fun v1 M2 hD3 hp4 => ?_)
  obtain ⟨hp4a, hp4b, hp4k, hp4f⟩ := hp4
  have n5 := hp4f _ _ w0
  have h6 : (a, (.inr (10, [.int m, .ref v1, .int 0]) : va_E)) ∈ M2 := hp4a
  have h7 : (v1, (.inl (G.cO, 1, .inr (.inr (.inr (.inr (fun _ => none))))) : va_E)) ∈ M2 := hp4b
  have F8 := S.1.at 1 1 (Nat.le_of_ble_eq_true rfl) (Nat.le_of_ble_eq_true rfl)
  have hKp : Kp M [a] M2 := by
    intro b x hb hx
    have n9 := hp4f _ _ hx
    have n10 : b ∉ [a] := by
      intro h9; simp only [List.mem_cons, List.not_mem_nil, or_false] at h9
      · exact (fun c => hb (by rw [c]; simp)) h9
    have hx := hp4k b x n10 hx
    exact hx
  have hFr : ∀ (b : Nat) (x : va_E), (b, x) ∈ M → b ≠ v1 := by
    intro b9 x9 hx
    exact hp4f _ _ hx
  exact m_areturn S hRT (by first | exact Or.inl ⟨_, rfl⟩ | exact Or.inr ⟨_, rfl⟩) rfl hQ (Nat.le_of_ble_eq_true rfl) (Nat.le_of_ble_eq_true rfl) dJx4a65c_grow_d5877_10 ⟨h6, h7, hKp, hFr⟩

set_option maxRecDepth 100000 in
set_option maxHeartbeats 4000000 in
theorem r_Jx4a65c_add_72be8E (l : Launch) (G : RG) (A : Nat → Prop) (M : Wl) {a : Nat} {m : Int32} (x : Nat) (hAny : AnyO G M x) (hxa : x ≠ a) (w0 : (a, .inr (10, [.int m, .ref G.e1, .int 0])) ∈ M) : Kr l G A yJx4a65c_add_72be8 wsJx4a65c_add_72be8 { frames := 5, cells := 1, slots := 1, locals := 147 } M [.ref a, .ref x, .ref G.e1, .int 0] (Gv G A (fun N => ∃ q : Nat, (a, (.inr (10, [.int m, .ref q, .int 1]) : va_E)) ∈ N ∧ (q, (.inl (G.cO, 1, .inr (.inr (.inr (.inr (va_up (fun _ => none) 0 (some x)))))) : va_E)) ∈ N ∧ Kp M [a] N ∧ ∀ (b : Nat) (y : va_E), (b, y) ∈ M → b ≠ q)) 1 1 := by
  refine Kr.of (cc := cJx4a65c_add_72be8) (maxL := 4) (ret := none) (by decide) rfl (Nat.le_of_ble_eq_true rfl) ?_
  intro X hXl S hRT hIN hXA hQ hD
  subst hXl
  subst hXA
  show J (X.at 0 0) 4 (PL G.Z X.A M) 0 [some (.ref a), some (.ref x), some (.ref G.e1), some (.int 0)] []
  have F0 := S.1.at 0 0 (Nat.le_of_ble_eq_true rfl) (Nat.le_of_ble_eq_true rfl)
  have hOR := S.2.1.or
  refine j_iload_n F0 dJx4a65c_add_72be8_0 rfl ?_
  refine j_aload_n F0 dJx4a65c_add_72be8_1 rfl ?_
  refine m_slen S (v := 0) S.2.2.1.2.2.2.1 rfl dJx4a65c_add_72be8_2 ?_
  refine j_icmp_ne F0 11 dJx4a65c_add_72be8_3 (by decide) (fun h9 => absurd (by decide) h9) (fun _ => ?_)
  refine j_aload_n F0 dJx4a65c_add_72be8_6 rfl ?_
  refine m_cVr S (n1 := 0) (rest := []) (r_Jx4a65c_grow_d5877E X.l G X.A M w0) ⟨_, _, _, _, rfl, gJx4a65c_add_72be8_Jx4a65c_grow_d5877, rfl, rfl, (by decide +kernel), ⟨(Nat.le_of_ble_eq_true rfl), (Nat.le_of_ble_eq_true rfl)⟩⟩ w0 rfl rfl (Nat.le_of_ble_eq_true rfl) (Nat.le_of_ble_eq_true rfl) (Nat.le_of_ble_eq_true rfl) rfl dJx4a65c_add_72be8_7 (fun v1 M2 hD3 hp4 => ?_)
  obtain ⟨hp4a, hp4b, hp4k, hp4f⟩ := hp4
  have n5 := hp4f _ _ w0
  have h6 : (a, (.inr (10, [.int m, .ref v1, .int 0]) : va_E)) ∈ M2 := hp4a
  have h7 : (v1, (.inl (G.cO, 1, .inr (.inr (.inr (.inr (fun _ => none))))) : va_E)) ∈ M2 := hp4b
  have F8 := S.1.at 1 1 (Nat.le_of_ble_eq_true rfl) (Nat.le_of_ble_eq_true rfl)
  refine j_astore_n F8 [some (.ref a), some (.ref x), some (.ref v1), some (.int 0)] dJx4a65c_add_72be8_10 (by decide) rfl rfl ?_
  refine j_aload_n F8 dJx4a65c_add_72be8_11 rfl ?_
  refine j_iload_n F8 dJx4a65c_add_72be8_12 rfl ?_
  refine j_aload_n F8 dJx4a65c_add_72be8_13 rfl ?_
  have hA9 : AnyO G M2 x := by
    have hA9 := hAny
    have hA9 := hA9.kp hp4k (by intro h9; simp only [List.mem_cons, List.not_mem_nil, or_false] at h9; exact hxa h9)
    exact hA9
  refine m_aastore S (k0 := 0) (t0 := 1) h7 rfl (hA9.any S) (by unfold vp_in; decide) (by decide) dJx4a65c_add_72be8_14 (fun M10 hD11 hU9 => ?_)
  have n12 : a ≠ v1 := n5
  have h6 := hU9.2 _ _ n12 h6
  have h7 := hU9.1
  refine j_aload_n F8 dJx4a65c_add_72be8_15 rfl ?_
  refine j_iload_n F8 dJx4a65c_add_72be8_16 rfl ?_
  refine j_iconst F8 1 dJx4a65c_add_72be8_17 (by decide) ?_
  refine j_iadd F8 1 dJx4a65c_add_72be8_18 (by decide) ?_
  refine m_put S (C := RJx4a65c) (T := TJx4a65c) (N := 3) (v := .int 1) (ty := .int) tyJx4a65c tyJx4a65c_ok nmJx4a65c (by decide +kernel) h6 rfl 2 (by decide) (by decide +kernel) (fun _ h9 => h9) rfl (by decide +kernel) rfl rfl (Nat.le_of_ble_eq_true rfl) dJx4a65c_add_72be8_19 (fun M14 hD15 hU13 => ?_)
  have hU13 : Up M10 a (.inr (10, [.int m, .ref v1, .int 1])) M14 := hU13
  have n16 : v1 ≠ a := (Ne.symm n12)
  have h7 := hU13.2 _ _ n16 h7
  have h6 := hU13.1
  have hKp : Kp M [a] M14 := by
    intro b x hb hx
    have n17 := hp4f _ _ hx
    have n18 : b ∉ [a] := by
      intro h9; simp only [List.mem_cons, List.not_mem_nil, or_false] at h9
      · exact (fun c => hb (by rw [c]; simp)) h9
    have hx := hp4k b x n18 hx
    have hx := hU9.2 _ _ n17 hx
    have hx := hU13.2 _ _ (fun c => hb (by rw [c]; simp)) hx
    exact hx
  have hFr : ∀ (b : Nat) (x : va_E), (b, x) ∈ M → b ≠ v1 := by
    intro b9 x9 hx
    exact hp4f _ _ hx
  exact m_return S hRT rfl hQ (Nat.le_of_ble_eq_true rfl) (Nat.le_of_ble_eq_true rfl) dJx4a65c_add_72be8_22 ⟨v1, h6, h7, hKp, hFr⟩

set_option maxRecDepth 100000 in
set_option maxHeartbeats 4000000 in
theorem r_Jx4a65c_add_9ea2dE (l : Launch) (G : RG) (A : Nat → Prop) (M : Wl) {a : Nat} {m : Int32} (x : Nat) (hAny : AnyO G M x) (hxa : x ≠ a) (w0 : (a, .inr (10, [.int m, .ref G.e1, .int 0])) ∈ M) : Kr l G A yJx4a65c_add_9ea2d wsJx4a65c_add_9ea2d { frames := 6, cells := 1, slots := 1, locals := 170 } M [.ref a, .ref x] (Gi G A (fun v N => 1 = v ∧ ∃ q : Nat, (a, (.inr (10, [.int (m + 1), .ref q, .int 1]) : va_E)) ∈ N ∧ (q, (.inl (G.cO, 1, .inr (.inr (.inr (.inr (va_up (fun _ => none) 0 (some x)))))) : va_E)) ∈ N ∧ Kp M [a] N ∧ ∀ (b : Nat) (y : va_E), (b, y) ∈ M → b ≠ q)) 1 1 := by
  refine Kr.of (cc := cJx4a65c_add_9ea2d) (maxL := 2) (ret := (some .boolean)) (by decide) rfl (Nat.le_of_ble_eq_true rfl) ?_
  intro X hXl S hRT hIN hXA hQ hD
  subst hXl
  subst hXA
  show J (X.at 0 0) 2 (PL G.Z X.A M) 0 [some (.ref a), some (.ref x)] []
  have F0 := S.1.at 0 0 (Nat.le_of_ble_eq_true rfl) (Nat.le_of_ble_eq_true rfl)
  have hOR := S.2.1.or
  refine j_aload_n F0 dJx4a65c_add_9ea2d_0 rfl ?_
  refine j_dup F0 dJx4a65c_add_9ea2d_1 rfl ?_
  refine m_get S (C := RJx4a65c) (T := TJx4a65c) (N := 3) (by decide +kernel) w0 rfl (v := .int m) 0 (by decide) (by decide +kernel) (u_same (S.1.ts (.sameField "java/util/ArrayList" "java/util/AbstractList" "modCount" "I") (by decide +kernel))) rfl dJx4a65c_add_9ea2d_2 ?_
  refine j_iconst F0 1 dJx4a65c_add_9ea2d_5 (by decide) ?_
  refine j_iadd F0 (m + 1) dJx4a65c_add_9ea2d_6 rfl ?_
  refine m_put S (C := RJx4a65c) (T := TJx4a65c) (N := 3) (v := .int (m + 1)) (ty := .int) tyJx4a65c tyJx4a65c_ok nmJx4a65c (by decide +kernel) w0 rfl 0 (by decide) (by decide +kernel) (u_same (S.1.ts (.sameField "java/util/ArrayList" "java/util/AbstractList" "modCount" "I") (by decide +kernel))) rfl (by decide +kernel) rfl rfl (Nat.le_of_ble_eq_true rfl) dJx4a65c_add_9ea2d_7 (fun M2 hD3 hU1 => ?_)
  have hU1 : Up M a (.inr (10, [.int (m + 1), .ref G.e1, .int 0])) M2 := hU1
  have w0 := hU1.1
  refine j_aload_n F0 dJx4a65c_add_9ea2d_10 rfl ?_
  refine j_aload_n F0 dJx4a65c_add_9ea2d_11 rfl ?_
  refine j_aload_n F0 dJx4a65c_add_9ea2d_12 rfl ?_
  refine m_get S (C := RJx4a65c) (T := TJx4a65c) (N := 3) (by decide +kernel) w0 rfl (v := .ref G.e1) 1 (by decide) (by decide +kernel) (fun _ h9 => h9) rfl dJx4a65c_add_9ea2d_13 ?_
  refine j_aload_n F0 dJx4a65c_add_9ea2d_16 rfl ?_
  refine m_get S (C := RJx4a65c) (T := TJx4a65c) (N := 3) (by decide +kernel) w0 rfl (v := .int 0) 2 (by decide) (by decide +kernel) (fun _ h9 => h9) rfl dJx4a65c_add_9ea2d_17 ?_
  have hA9 : AnyO G M2 x := by
    have hA9 := hAny
    have hA9 := hA9.up hU1 hxa
    exact hA9
  refine m_cVv S (n1 := 3) (rest := []) (r_Jx4a65c_add_72be8E X.l G X.A M2 x hA9 hxa w0) ⟨_, _, _, _, rfl, gJx4a65c_add_9ea2d_Jx4a65c_add_72be8, rfl, rfl, (by decide +kernel), ⟨(Nat.le_of_ble_eq_true rfl), (Nat.le_of_ble_eq_true rfl)⟩⟩ w0 rfl rfl (Nat.le_of_ble_eq_true rfl) (Nat.le_of_ble_eq_true rfl) (Nat.le_of_ble_eq_true rfl) rfl dJx4a65c_add_9ea2d_20 (fun M5 hD6 hp7 => ?_)
  obtain ⟨q8, hp7a, hp7b, hp7k, hp7f⟩ := hp7
  have n9 := hp7f _ _ w0
  have h10 : (a, (.inr (10, [.int (m + 1), .ref q8, .int 1]) : va_E)) ∈ M5 := hp7a
  have h11 : (q8, (.inl (G.cO, 1, .inr (.inr (.inr (.inr (va_up (fun _ => none) 0 (some x)))))) : va_E)) ∈ M5 := hp7b
  have F12 := S.1.at 1 1 (Nat.le_of_ble_eq_true rfl) (Nat.le_of_ble_eq_true rfl)
  refine j_iconst F12 1 dJx4a65c_add_9ea2d_23 (by decide) ?_
  have hKp : Kp M [a] M5 := by
    intro b x hb hx
    have hx := hU1.2 _ _ (fun c => hb (by rw [c]; simp)) hx
    have n13 := hp7f _ _ hx
    have n14 : b ∉ [a] := by
      intro h9; simp only [List.mem_cons, List.not_mem_nil, or_false] at h9
      · exact (fun c => hb (by rw [c]; simp)) h9
    have hx := hp7k b x n14 hx
    exact hx
  have hFr : ∀ (b : Nat) (x : va_E), (b, x) ∈ M → b ≠ q8 := by
    intro b9 x9 hx
    by_cases hb9 : b9 = a
    · rw [hb9]; exact hp7f _ _ hU1.1
    · exact hp7f _ _ (hU1.2 _ _ hb9 hx)
  exact m_ireturn S hRT rfl hQ (Nat.le_of_ble_eq_true rfl) (Nat.le_of_ble_eq_true rfl) dJx4a65c_add_9ea2d_24 rfl ⟨rfl, q8, h10, h11, hKp, hFr⟩
