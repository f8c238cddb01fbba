set_option maxRecDepth 100000 in
set_option maxHeartbeats 4000000 in
theorem r_Jxa1e45_init_da8c8 (l : Launch) (G : RG) (A : Nat → Prop) (M : Wl) {a : Nat} : Kr l G A yJxa1e45_init_da8c8 wsJxa1e45_init_da8c8 { frames := 1, cells := 0, slots := 0, locals := 20 } M [.ref a] (Gv G A (fun N => M = N)) 0 0 := by
  refine Kr.of (cc := cJxa1e45_init_da8c8) (maxL := 1) (ret := none) (by decide) rfl (Nat.le_of_ble_eq_true rfl) ?_
  intro X hXl S hRT hIN hXA hQ hD
  subst hXl
  subst hXA
  show J (X.at 0 0) 1 (PL G.Z X.A M) 0 [some (.ref a)] []
  have F0 := S.1.at 0 0 (Nat.le_of_ble_eq_true rfl) (Nat.le_of_ble_eq_true rfl)
  have hOR := S.2.1.or
  refine j_aload_n F0 dJxa1e45_init_da8c8_0 rfl ?_
  refine m_objInit S (by decide +kernel) (by decide +kernel) (by decide +kernel) (Nat.le_of_ble_eq_true rfl) (Nat.le_of_ble_eq_true rfl) dJxa1e45_init_da8c8_1 ?_
  exact m_return S hRT rfl hQ (Nat.le_of_ble_eq_true rfl) (Nat.le_of_ble_eq_true rfl) dJxa1e45_init_da8c8_4 rfl

set_option maxRecDepth 100000 in
set_option maxHeartbeats 4000000 in
theorem r_Jxc12de_init_da8c8 (l : Launch) (G : RG) (A : Nat → Prop) (M : Wl) {a : Nat} {e : Value} (h0 : (a, .inr (10, [.int 0, e, .int 0])) ∈ M) : Kr l G A yJxc12de_init_da8c8 wsJxc12de_init_da8c8 { frames := 2, cells := 0, slots := 0, locals := 40 } M [.ref a] (Gv G A (fun N => Up M a (.inr (10, [.int 0, e, .int 0])) N)) 0 0 := by
  refine Kr.of (cc := cJxc12de_init_da8c8) (maxL := 1) (ret := none) (by decide) rfl (Nat.le_of_ble_eq_true rfl) ?_
  intro X hXl S hRT hIN hXA hQ hD
  subst hXl
  subst hXA
  show J (X.at 0 0) 1 (PL G.Z X.A M) 0 [some (.ref a)] []
  have F0 := S.1.at 0 0 (Nat.le_of_ble_eq_true rfl) (Nat.le_of_ble_eq_true rfl)
  have hOR := S.2.1.or
  refine j_aload_n F0 dJxc12de_init_da8c8_0 rfl ?_
  refine m_cIv S (n1 := 0) (rest := []) (r_Jxa1e45_init_da8c8 X.l G X.A M) ⟨_, _, _, rfl, gJxc12de_init_da8c8_Jxa1e45_init_da8c8, rfl, rfl, (by decide +kernel), (by decide +kernel), (by decide +kernel), rfl, (by decide +kernel), ⟨(Nat.le_of_ble_eq_true rfl), (Nat.le_of_ble_eq_true rfl)⟩⟩ rfl (Nat.le_of_ble_eq_true rfl) (Nat.le_of_ble_eq_true rfl) (Nat.le_of_ble_eq_true rfl) rfl dJxc12de_init_da8c8_1 (fun M2 hD3 hp4 => ?_)
  subst hp4
  refine j_aload_n F0 dJxc12de_init_da8c8_4 rfl ?_
  refine j_iconst F0 0 dJxc12de_init_da8c8_5 (by decide) ?_
  refine m_put S (C := RJx4a65c) (T := TJx4a65c) (N := 3) (v := .int 0) (ty := .int) tyJx4a65c tyJx4a65c_ok nmJx4a65c (by decide +kernel) h0 rfl 0 (by decide) (by decide +kernel) (fun _ h9 => h9) rfl (by decide +kernel) rfl rfl (Nat.le_of_ble_eq_true rfl) dJxc12de_init_da8c8_6 (fun M6 hD7 hU5 => ?_)
  have hU5 : Up M a (.inr (10, [.int 0, e, .int 0])) M6 := hU5
  have h0 := hU5.1
  exact m_return S hRT rfl hQ (Nat.le_of_ble_eq_true rfl) (Nat.le_of_ble_eq_true rfl) dJxc12de_init_da8c8_9 hU5

set_option maxRecDepth 100000 in
set_option maxHeartbeats 4000000 in
theorem r_Jx4a65c_init_da8c8 (l : Launch) (G : RG) (A : Nat → Prop) (M : Wl) {a : Nat} (h0 : (a, .inr (10, [.int 0, .null, .int 0])) ∈ M) : Kr l G A yJx4a65c_init_da8c8 wsJx4a65c_init_da8c8 { frames := 3, cells := 0, slots := 0, locals := 60 } M [.ref a] (Gv G A (fun N => Up M a (.inr (10, [.int 0, .ref G.e0, .int 0])) N)) 0 0 := by
  refine Kr.of (cc := cJx4a65c_init_da8c8) (maxL := 1) (ret := none) (by decide) rfl (Nat.le_of_ble_eq_true rfl) ?_
  intro X hXl S hRT hIN hXA hQ hD
  subst hXl
  subst hXA
  show J (X.at 0 0) 1 (PL G.Z X.A M) 0 [some (.ref a)] []
  have F0 := S.1.at 0 0 (Nat.le_of_ble_eq_true rfl) (Nat.le_of_ble_eq_true rfl)
  have hOR := S.2.1.or
  refine j_aload_n F0 dJx4a65c_init_da8c8_0 rfl ?_
  refine m_cIv S (n1 := 0) (rest := []) (r_Jxc12de_init_da8c8 X.l G X.A M h0) ⟨_, _, _, rfl, gJx4a65c_init_da8c8_Jxc12de_init_da8c8, rfl, rfl, (by decide +kernel), (by decide +kernel), (by decide +kernel), rfl, (by decide +kernel), ⟨(Nat.le_of_ble_eq_true rfl), (Nat.le_of_ble_eq_true rfl)⟩⟩ rfl (Nat.le_of_ble_eq_true rfl) (Nat.le_of_ble_eq_true rfl) (Nat.le_of_ble_eq_true rfl) rfl dJx4a65c_init_da8c8_1 (fun M2 hD3 hp4 => ?_)
  have h0 := hp4.1
  refine j_aload_n F0 dJx4a65c_init_da8c8_4 rfl ?_
  refine m_gets S S.2.2.1.1 (by decide +kernel) rfl dJx4a65c_init_da8c8_5 ?_
  refine m_put S (C := RJx4a65c) (T := TJx4a65c) (N := 3) (v := .ref G.e0) (ty := (.array (.object "java/lang/Object"))) tyJx4a65c tyJx4a65c_ok nmJx4a65c (by decide +kernel) h0 rfl 1 (by decide) (by decide +kernel) (fun _ h9 => h9) rfl (by decide +kernel) rfl rfl (Nat.le_of_ble_eq_true rfl) dJx4a65c_init_da8c8_8 (fun M6 hD7 hU5 => ?_)
  have hU5 : Up M2 a (.inr (10, [.int 0, .ref G.e0, .int 0])) M6 := hU5
  have h0 := hU5.1
  exact m_return S hRT rfl hQ (Nat.le_of_ble_eq_true rfl) (Nat.le_of_ble_eq_true rfl) dJx4a65c_init_da8c8_11 ⟨hU5.1, fun b x hb hx => hU5.2 b x hb (hp4.2 b x hb hx)⟩

set_option maxRecDepth 100000 in
set_option maxHeartbeats 4000000 in
theorem r_Jx4a65c_size_8abf5 (l : Launch) (G : RG) (A : Nat → Prop) (M : Wl) {a : Nat} {m e : Value} {c : Int32} (h0 : (a, .inr (10, [m, e, .int c])) ∈ M) : Kr l G A yJx4a65c_size_8abf5 wsJx4a65c_size_8abf5 { frames := 0, cells := 0, slots := 0, locals := 0 } M [.ref a] (Gi G A (fun v N => c = v ∧ M = N)) 0 0 := by
  refine Kr.of (cc := cJx4a65c_size_8abf5) (maxL := 1) (ret := (some .int)) (by decide) rfl (Nat.le_of_ble_eq_true rfl) ?_
  intro X hXl S hRT hIN hXA hQ hD
  subst hXl
  subst hXA
  show J (X.at 0 0) 1 (PL G.Z X.A M) 0 [some (.ref a)] []
  have F0 := S.1.at 0 0 (Nat.le_of_ble_eq_true rfl) (Nat.le_of_ble_eq_true rfl)
  have hOR := S.2.1.or
  refine j_aload_n F0 dJx4a65c_size_8abf5_0 rfl ?_
  refine m_get S (C := RJx4a65c) (T := TJx4a65c) (N := 3) (by decide +kernel) h0 rfl (v := .int c) 2 (by decide) (by decide +kernel) (fun _ h9 => h9) rfl dJx4a65c_size_8abf5_1 ?_
  exact m_ireturn S hRT rfl hQ (Nat.le_of_ble_eq_true rfl) (Nat.le_of_ble_eq_true rfl) dJx4a65c_size_8abf5_4 rfl ⟨rfl, rfl⟩

set_option maxRecDepth 100000 in
set_option maxHeartbeats 4000000 in
theorem r_Jx4a65c_isEmpty_aae02 (l : Launch) (G : RG) (A : Nat → Prop) (M : Wl) {a : Nat} {m e : Value} {c : Int32} (h0 : (a, .inr (10, [m, e, .int c])) ∈ M) : Kr l G A yJx4a65c_isEmpty_aae02 wsJx4a65c_isEmpty_aae02 { frames := 0, cells := 0, slots := 0, locals := 0 } M [.ref a] (Gi G A (fun v N => (if c = 0 then (1 : Int32) else 0) = v ∧ M = N)) 0 0 := by
  refine Kr.of (cc := cJx4a65c_isEmpty_aae02) (maxL := 1) (ret := (some .boolean)) (by decide) rfl (Nat.le_of_ble_eq_true rfl) ?_
  intro X hXl S hRT hIN hXA hQ hD
  subst hXl
  subst hXA
  show J (X.at 0 0) 1 (PL G.Z X.A M) 0 [some (.ref a)] []
  have F0 := S.1.at 0 0 (Nat.le_of_ble_eq_true rfl) (Nat.le_of_ble_eq_true rfl)
  have hOR := S.2.1.or
  refine j_aload_n F0 dJx4a65c_isEmpty_aae02_0 rfl ?_
  refine m_get S (C := RJx4a65c) (T := TJx4a65c) (N := 3) (by decide +kernel) h0 rfl (v := .int c) 2 (by decide) (by decide +kernel) (fun _ h9 => h9) rfl dJx4a65c_isEmpty_aae02_1 ?_
  refine j_if_ne F0 11 dJx4a65c_isEmpty_aae02_4 (by decide) (fun h => ?_) (fun h => ?_)
  · skip
    refine j_iconst F0 0 dJx4a65c_isEmpty_aae02_11 (by decide) ?_
    exact m_ireturn S hRT rfl hQ (Nat.le_of_ble_eq_true rfl) (Nat.le_of_ble_eq_true rfl) dJx4a65c_isEmpty_aae02_12 rfl ⟨(if_neg h), rfl⟩
  · skip
    refine j_iconst F0 1 dJx4a65c_isEmpty_aae02_7 (by decide) ?_
    refine j_goto F0 12 dJx4a65c_isEmpty_aae02_8 (by decide) ?_
    exact m_ireturn S hRT rfl hQ (Nat.le_of_ble_eq_true rfl) (Nat.le_of_ble_eq_true rfl) dJx4a65c_isEmpty_aae02_12 rfl ⟨(if_pos h), rfl⟩

set_option maxRecDepth 100000 in
set_option maxHeartbeats 4000000 in
theorem r_J3_checkIndex_8e157 (l : Launch) (G : RG) (A : Nat → Prop) (M : Wl) (i c : Int32) (hi : ¬ i < 0) (hc : i < c) : Kr l G A yJ3_checkIndex_8e157 wsJ3_checkIndex_8e157 { frames := 0, cells := 0, slots := 0, locals := 0 } M [.int i, .int c, .null] (Gi G A (fun v N => i = v ∧ M = N)) 0 0 := by
  refine Kr.of (cc := cJ3_checkIndex_8e157) (maxL := 3) (ret := (some .int)) (by decide) rfl (Nat.le_of_ble_eq_true rfl) ?_
  intro X hXl S hRT hIN hXA hQ hD
  subst hXl
  subst hXA
  show J (X.at 0 0) 3 (PL G.Z X.A M) 0 [some (.int i), some (.int c), some (.null)] []
  have F0 := S.1.at 0 0 (Nat.le_of_ble_eq_true rfl) (Nat.le_of_ble_eq_true rfl)
  have hOR := S.2.1.or
  refine j_iload_n F0 dJ3_checkIndex_8e157_0 rfl ?_
  refine j_if_lt F0 9 dJ3_checkIndex_8e157_1 (by decide) (fun h9 => absurd h9 hi) (fun _ => ?_)
  refine j_iload_n F0 dJ3_checkIndex_8e157_4 rfl ?_
  refine j_iload_n F0 dJ3_checkIndex_8e157_5 rfl ?_
  refine j_icmp_lt F0 16 dJ3_checkIndex_8e157_6 (by decide) (fun _ => ?_) (fun h9 => absurd hc h9)
  refine j_iload_n F0 dJ3_checkIndex_8e157_16 rfl ?_
  exact m_ireturn S hRT rfl hQ (Nat.le_of_ble_eq_true rfl) (Nat.le_of_ble_eq_true rfl) dJ3_checkIndex_8e157_17 rfl ⟨rfl, rfl⟩

set_option maxRecDepth 100000 in
set_option maxHeartbeats 4000000 in
theorem r_J15_checkIndex_7cf53 (l : Launch) (G : RG) (A : Nat → Prop) (M : Wl) (i c : Int32) (hi : ¬ i < 0) (hc : i < c) : Kr l G A yJ15_checkIndex_7cf53 wsJ15_checkIndex_7cf53 { frames := 1, cells := 0, slots := 0, locals := 22 } M [.int i, .int c] (Gi G A (fun v N => i = v ∧ M = N)) 0 0 := by
  refine Kr.of (cc := cJ15_checkIndex_7cf53) (maxL := 2) (ret := (some .int)) (by decide) rfl (Nat.le_of_ble_eq_true rfl) ?_
  intro X hXl S hRT hIN hXA hQ hD
  subst hXl
  subst hXA
  show J (X.at 0 0) 2 (PL G.Z X.A M) 0 [some (.int i), some (.int c)] []
  have F0 := S.1.at 0 0 (Nat.le_of_ble_eq_true rfl) (Nat.le_of_ble_eq_true rfl)
  have hOR := S.2.1.or
  refine j_iload_n F0 dJ15_checkIndex_7cf53_0 rfl ?_
  refine j_iload_n F0 dJ15_checkIndex_7cf53_1 rfl ?_
  refine m_aconst F0 dJ15_checkIndex_7cf53_2 ?_
  refine m_cSi S (n1 := 3) (rest := []) (r_J3_checkIndex_8e157 X.l G X.A M i c hi hc) ⟨_, _, _, _, rfl, gJ15_checkIndex_7cf53_J3_checkIndex_8e157, rfl, rfl, (by decide +kernel), ⟨(Nat.le_of_ble_eq_true rfl), (Nat.le_of_ble_eq_true rfl)⟩⟩ rfl (Nat.le_of_ble_eq_true rfl) (Nat.le_of_ble_eq_true rfl) (Nat.le_of_ble_eq_true rfl) rfl dJ15_checkIndex_7cf53_3 (fun v1 M2 hD3 hp4 => ?_)
  obtain ⟨hp4a, hp4b⟩ := hp4
  subst hp4a
  subst hp4b
  exact m_ireturn S hRT rfl hQ (Nat.le_of_ble_eq_true rfl) (Nat.le_of_ble_eq_true rfl) dJ15_checkIndex_7cf53_6 rfl ⟨rfl, rfl⟩

set_option maxRecDepth 100000 in
set_option maxHeartbeats 4000000 in
theorem r_Jx4a65c_elementData_915e3 (l : Launch) (G : RG) (A : Nat → Prop) (M : Wl) {a e K : Nat} {m : Value} {c : Int32} {f : Nat → Option Nat} (i : Int32) (x : Nat) (hin : vp_in i K) (hv : f i.toNatClampNeg = some x) (h0 : (a, .inr (10, [m, .ref e, .int c])) ∈ M) (h1 : (e, .inl (G.cO, K, .inr (.inr (.inr (.inr f))))) ∈ M) : Kr l G A yJx4a65c_elementData_915e3 wsJx4a65c_elementData_915e3 { frames := 0, cells := 0, slots := 0, locals := 0 } M [.ref a, .int i] (Gr G A (fun v N => x = v ∧ M = N)) 0 0 := by
  refine Kr.of (cc := cJx4a65c_elementData_915e3) (maxL := 2) (ret := (some (.object "java/lang/Object"))) (by decide) rfl (Nat.le_of_ble_eq_true rfl) ?_
  intro X hXl S hRT hIN hXA hQ hD
  subst hXl
  subst hXA
  show J (X.at 0 0) 2 (PL G.Z X.A M) 0 [some (.ref a), some (.int i)] []
  have F0 := S.1.at 0 0 (Nat.le_of_ble_eq_true rfl) (Nat.le_of_ble_eq_true rfl)
  have hOR := S.2.1.or
  refine j_aload_n F0 dJx4a65c_elementData_915e3_0 rfl ?_
  refine m_get S (C := RJx4a65c) (T := TJx4a65c) (N := 3) (by decide +kernel) h0 rfl (v := .ref e) 1 (by decide) (by decide +kernel) (fun _ h9 => h9) rfl dJx4a65c_elementData_915e3_1 ?_
  refine j_iload_n F0 dJx4a65c_elementData_915e3_4 rfl ?_
  refine m_aaload S (t0 := 1) (v := .ref x) h1 rfl hin (by rw [hv]; rfl) dJx4a65c_elementData_915e3_5 ?_
  exact m_areturn S hRT (by first | exact Or.inl ⟨_, rfl⟩ | exact Or.inr ⟨_, rfl⟩) rfl hQ (Nat.le_of_ble_eq_true rfl) (Nat.le_of_ble_eq_true rfl) dJx4a65c_elementData_915e3_6 ⟨rfl, rfl⟩

set_option maxRecDepth 100000 in
set_option maxHeartbeats 4000000 in
theorem r_Jx4a65c_get_915e3 (l : Launch) (G : RG) (A : Nat → Prop) (M : Wl) {a e K : Nat} {m : Value} {c : Int32} {f : Nat → Option Nat} (i : Int32) (x : Nat) (hi : ¬ i < 0) (hc : i < c) (hin : vp_in i K) (hv : f i.toNatClampNeg = some x) (h0 : (a, .inr (10, [m, .ref e, .int c])) ∈ M) (h1 : (e, .inl (G.cO, K, .inr (.inr (.inr (.inr f))))) ∈ M) : Kr l G A yJx4a65c_get_915e3 wsJx4a65c_get_915e3 { frames := 2, cells := 0, slots := 0, locals := 43 } M [.ref a, .int i] (Gr G A (fun v N => x = v ∧ M = N)) 0 0 := by
  refine Kr.of (cc := cJx4a65c_get_915e3) (maxL := 2) (ret := (some (.object "java/lang/Object"))) (by decide) rfl (Nat.le_of_ble_eq_true rfl) ?_
  intro X hXl S hRT hIN hXA hQ hD
  subst hXl
  subst hXA
  show J (X.at 0 0) 2 (PL G.Z X.A M) 0 [some (.ref a), some (.int i)] []
  have F0 := S.1.at 0 0 (Nat.le_of_ble_eq_true rfl) (Nat.le_of_ble_eq_true rfl)
  have hOR := S.2.1.or
  refine j_iload_n F0 dJx4a65c_get_915e3_0 rfl ?_
  refine j_aload_n F0 dJx4a65c_get_915e3_1 rfl ?_
  refine m_get S (C := RJx4a65c) (T := TJx4a65c) (N := 3) (by decide +kernel) h0 rfl (v := .int c) 2 (by decide) (by decide +kernel) (fun _ h9 => h9) rfl dJx4a65c_get_915e3_2 ?_
  refine m_cSi S (n1 := 2) (rest := []) (r_J15_checkIndex_7cf53 X.l G X.A M i c hi hc) ⟨_, _, _, _, rfl, gJx4a65c_get_915e3_J15_checkIndex_7cf53, rfl, rfl, (by decide +kernel), ⟨(Nat.le_of_ble_eq_true rfl), (Nat.le_of_ble_eq_true rfl)⟩⟩ rfl (Nat.le_of_ble_eq_true rfl) (Nat.le_of_ble_eq_true rfl) (Nat.le_of_ble_eq_true rfl) rfl dJx4a65c_get_915e3_5 (fun v1 M2 hD3 hp4 => ?_)
  obtain ⟨hp4a, hp4b⟩ := hp4
  subst hp4a
  subst hp4b
  refine j_pop F0 dJx4a65c_get_915e3_8 rfl ?_
  refine j_aload_n F0 dJx4a65c_get_915e3_9 rfl ?_
  refine j_iload_n F0 dJx4a65c_get_915e3_10 rfl ?_
  refine m_cVr S (n1 := 1) (rest := []) (r_Jx4a65c_elementData_915e3 X.l G X.A M i x hin hv h0 h1) ⟨_, _, _, _, rfl, gJx4a65c_get_915e3_Jx4a65c_elementData_915e3, rfl, rfl, (by decide +kernel), ⟨(Nat.le_of_ble_eq_true rfl), (Nat.le_of_ble_eq_true rfl)⟩⟩ h0 rfl rfl (Nat.le_of_ble_eq_true rfl) (Nat.le_of_ble_eq_true rfl) (Nat.le_of_ble_eq_true rfl) rfl dJx4a65c_get_915e3_11 (fun v5 M6 hD7 hp8 => ?_)
  obtain ⟨hp8a, hp8b⟩ := hp8
  subst hp8a
  subst hp8b
  exact m_areturn S hRT (by first | exact Or.inl ⟨_, rfl⟩ | exact Or.inr ⟨_, rfl⟩) rfl hQ (Nat.le_of_ble_eq_true rfl) (Nat.le_of_ble_eq_true rfl) dJx4a65c_get_915e3_14 ⟨rfl, rfl⟩

set_option maxRecDepth 100000 in
set_option maxHeartbeats 4000000 in
theorem r_Jx4a65c_grow_92f84 (l : Launch) (G : RG) (A : Nat → Prop) (M : Wl) {a : Nat} {m : Int32} (h0 : (a, .inr (10, [.int m, .ref G.e0, .int 0])) ∈ M) : Kr l G A yJx4a65c_grow_92f84 wsJx4a65c_grow_92f84 { frames := 1, cells := 1, slots := 10, locals := 21 } M [.ref a, .int 1] (Gr G A (fun v N => (a, (.inr (10, [.int m, .ref v, .int 0]) : va_E)) ∈ N ∧ (v, (.inl (G.cO, 10, .inr (.inr (.inr (.inr (fun _ => none))))) : va_E)) ∈ N ∧ Kp M [a] N ∧ ∀ (b : Nat) (x : va_E), (b, x) ∈ M → b ≠ v)) 1 10 := by
  refine Kr.of (cc := cJx4a65c_grow_92f84) (maxL := 4) (ret := (some (.array (.object "java/lang/Object")))) (by decide) rfl (Nat.le_of_ble_eq_true rfl) ?_
  intro X hXl S hRT hIN hXA hQ hD
  subst hXl
  subst hXA
  show J (X.at 0 0) 4 (PL G.Z X.A M) 0 [some (.ref a), some (.int 1), none, none] []
  have F0 := S.1.at 0 0 (Nat.le_of_ble_eq_true rfl) (Nat.le_of_ble_eq_true rfl)
  have hOR := S.2.1.or
  refine j_aload_n F0 dJx4a65c_grow_92f84_0 rfl ?_
  refine m_get S (C := RJx4a65c) (T := TJx4a65c) (N := 3) (by decide +kernel) h0 rfl (v := .ref G.e0) 1 (by decide) (by decide +kernel) (fun _ h9 => h9) rfl dJx4a65c_grow_92f84_1 ?_
  refine m_slen S (v := 0) S.2.2.1.2.2.1 rfl dJx4a65c_grow_92f84_4 ?_
  refine j_istore_n F0 [some (.ref a), some (.int 1), some (.int 0), none] dJx4a65c_grow_92f84_5 (by decide) rfl rfl ?_
  refine j_iload_n F0 dJx4a65c_grow_92f84_6 rfl ?_
  refine j_if_gt F0 20 dJx4a65c_grow_92f84_7 (by decide) (fun h9 => absurd h9 (by decide)) (fun _ => ?_)
  refine j_aload_n F0 dJx4a65c_grow_92f84_10 rfl ?_
  refine m_get S (C := RJx4a65c) (T := TJx4a65c) (N := 3) (by decide +kernel) h0 rfl (v := .ref G.e0) 1 (by decide) (by decide +kernel) (fun _ h9 => h9) rfl dJx4a65c_grow_92f84_11 ?_
  refine m_gets S S.2.2.1.1 (by decide +kernel) rfl dJx4a65c_grow_92f84_14 ?_
  refine m_acmp_eqT S 45 dJx4a65c_grow_92f84_17 (by decide) rfl ?_
  refine j_aload_n F0 dJx4a65c_grow_92f84_45 rfl ?_
  refine j_bipush F0 10 dJx4a65c_grow_92f84_46 (by decide) ?_
  refine j_iload_n F0 dJx4a65c_grow_92f84_48 rfl ?_
  refine j_max F0 10 (by decide +kernel) (by decide +kernel) (by decide +kernel) (by decide +kernel) ⟨(Nat.le_of_ble_eq_true rfl), (Nat.le_of_ble_eq_true rfl)⟩ dJx4a65c_grow_92f84_49 (by decide) ?_
  refine m_newq S (t0 := 1) (N := 10) (by decide +kernel) S.2.1.2.2.2.1 rfl (by decide) (by decide) (Nat.le_of_ble_eq_true rfl) (Nat.le_of_ble_eq_true rfl) (Nat.le_of_ble_eq_true rfl) dJx4a65c_grow_92f84_52 (fun q1 M3 hD4 hN2 => ?_)
  have n5 := (hN2.2 _ _ h0).2
  have h0 := (hN2.2 _ _ h0).1
  have h6 := hN2.1
  have F7 := S.1.at 1 10 (Nat.le_of_ble_eq_true rfl) (Nat.le_of_ble_eq_true rfl)
  refine m_dup_x1 F7 dJx4a65c_grow_92f84_55 rfl rfl ?_
  refine m_put S (C := RJx4a65c) (T := TJx4a65c) (N := 3) (v := .ref q1) (ty := (.array (.object "java/lang/Object"))) tyJx4a65c tyJx4a65c_ok nmJx4a65c (by decide +kernel) h0 rfl 1 (by decide) (by decide +kernel) (fun _ h9 => h9) rfl (by decide +kernel) rfl rfl (Nat.le_of_ble_eq_true rfl) dJx4a65c_grow_92f84_56 (fun M9 hD10 hU8 => ?_)
  have hU8 : Up M3 a (.inr (10, [.int m, .ref q1, .int 0])) M9 := hU8
  have n11 : q1 ≠ a := (Ne.symm n5)
  have h6 := hU8.2 _ _ n11 h6
  have h0 := hU8.1
  have hKp : Kp M [a] M9 := by
    intro b x hb hx
    have n12 := (hN2.2 _ _ hx).2
    have hx := (hN2.2 _ _ hx).1
    have hx := hU8.2 _ _ (fun c => hb (by rw [c]; simp)) hx
    exact hx
  have hFr : ∀ (b : Nat) (x : va_E), (b, x) ∈ M → b ≠ q1 := by
    intro b x hx
    have n13 := (hN2.2 _ _ hx).2
    exact n13
  exact m_areturn S hRT (by first | exact Or.inl ⟨_, rfl⟩ | exact Or.inr ⟨_, rfl⟩) rfl hQ (Nat.le_of_ble_eq_true rfl) (Nat.le_of_ble_eq_true rfl) dJx4a65c_grow_92f84_59 ⟨h0, h6, hKp, hFr⟩

set_option maxRecDepth 100000 in
set_option maxHeartbeats 4000000 in
theorem r_Jx4a65c_grow_d5877 (l : Launch) (G : RG) (A : Nat → Prop) (M : Wl) {a : Nat} {m : Int32} (h0 : (a, .inr (10, [.int m, .ref G.e0, .int 0])) ∈ M) : Kr l G A yJx4a65c_grow_d5877 wsJx4a65c_grow_d5877 { frames := 2, cells := 1, slots := 10, locals := 44 } M [.ref a] (Gr G A (fun v N => (a, (.inr (10, [.int m, .ref v, .int 0]) : va_E)) ∈ N ∧ (v, (.inl (G.cO, 10, .inr (.inr (.inr (.inr (fun _ => none))))) : va_E)) ∈ N ∧ Kp M [a] N ∧ ∀ (b : Nat) (x : va_E), (b, x) ∈ M → b ≠ v)) 1 10 := by
  refine Kr.of (cc := cJx4a65c_grow_d5877) (maxL := 1) (ret := (some (.array (.object "java/lang/Object")))) (by decide) rfl (Nat.le_of_ble_eq_true rfl) ?_
  intro X hXl S hRT hIN hXA hQ hD
  subst hXl
  subst hXA
  show J (X.at 0 0) 1 (PL G.Z X.A M) 0 [some (.ref a)] []
  have F0 := S.1.at 0 0 (Nat.le_of_ble_eq_true rfl) (Nat.le_of_ble_eq_true rfl)
  have hOR := S.2.1.or
  refine j_aload_n F0 dJx4a65c_grow_d5877_0 rfl ?_
  refine j_aload_n F0 dJx4a65c_grow_d5877_1 rfl ?_
  refine m_get S (C := RJx4a65c) (T := TJx4a65c) (N := 3) (by decide +kernel) h0 rfl (v := .int 0) 2 (by decide) (by decide +kernel) (fun _ h9 => h9) rfl dJx4a65c_grow_d5877_2 ?_
  refine j_iconst F0 1 dJx4a65c_grow_d5877_5 (by decide) ?_
  refine j_iadd F0 1 dJx4a65c_grow_d5877_6 (by decide) ?_
  refine m_cVr S (n1 := 1) (rest := []) (r_Jx4a65c_grow_92f84 X.l G X.A M h0) ⟨_, _, _, _, rfl, gJx4a65c_grow_d5877_Jx4a65c_grow_92f84, rfl, rfl, (by decide +kernel), ⟨(Nat.le_of_ble_eq_true rfl), (Nat.le_of_ble_eq_true rfl)⟩⟩ h0 rfl rfl (Nat.le_of_ble_eq_true rfl) (Nat.le_of_ble_eq_true rfl) (Nat.le_of_ble_eq_true rfl) rfl dJx4a65c_grow_d5877_7 (fun v1 M2 hD3 hp4 => ?_)
  obtain ⟨hp4a, hp4b, hp4k, hp4f⟩ := hp4
  have n5 := hp4f _ _ h0
  have h6 : (a, (.inr (10, [.int m, .ref v1, .int 0]) : va_E)) ∈ M2 := hp4a
  have h7 : (v1, (.inl (G.cO, 10, .inr (.inr (.inr (.inr (fun _ => none))))) : va_E)) ∈ M2 := hp4b
  have F9 := S.1.at 1 10 (Nat.le_of_ble_eq_true rfl) (Nat.le_of_ble_eq_true rfl)
  have hKp : Kp M [a] M2 := by
    intro b x hb hx
    have n10 := hp4f _ _ hx
    have n11 : b ∉ [a] := by
      intro h9; simp only [List.mem_cons, List.not_mem_nil, or_false] at h9
      · exact (fun c => hb (by rw [c]; simp)) h9
    have hx := hp4k b x n11 hx
    exact hx
  have hFr : ∀ (b : Nat) (x : va_E), (b, x) ∈ M → b ≠ v1 := by
    intro b x hx
    exact hp4f _ _ hx
  exact m_areturn S hRT (by first | exact Or.inl ⟨_, rfl⟩ | exact Or.inr ⟨_, rfl⟩) rfl hQ (Nat.le_of_ble_eq_true rfl) (Nat.le_of_ble_eq_true rfl) dJx4a65c_grow_d5877_10 ⟨h6, h7, hKp, hFr⟩

set_option maxRecDepth 100000 in
set_option maxHeartbeats 4000000 in
theorem r_Jx4a65c_add_72be8 (l : Launch) (G : RG) (A : Nat → Prop) (M : Wl) {a : Nat} {m : Int32} (x : Nat) (hAny : AnyO G M x) (hxa : x ≠ a) (h0 : (a, .inr (10, [.int m, .ref G.e0, .int 0])) ∈ M) : Kr l G A yJx4a65c_add_72be8 wsJx4a65c_add_72be8 { frames := 3, cells := 1, slots := 10, locals := 64 } M [.ref a, .ref x, .ref G.e0, .int 0] (Gv G A (fun N => ∃ q : Nat, (a, (.inr (10, [.int m, .ref q, .int 1]) : va_E)) ∈ N ∧ (q, (.inl (G.cO, 10, .inr (.inr (.inr (.inr (va_up (fun _ => none) 0 (some x)))))) : va_E)) ∈ N ∧ Kp M [a] N ∧ ∀ (b : Nat) (y : va_E), (b, y) ∈ M → b ≠ q)) 1 10 := by
  refine Kr.of (cc := cJx4a65c_add_72be8) (maxL := 4) (ret := none) (by decide) rfl (Nat.le_of_ble_eq_true rfl) ?_
  intro X hXl S hRT hIN hXA hQ hD
  subst hXl
  subst hXA
  show J (X.at 0 0) 4 (PL G.Z X.A M) 0 [some (.ref a), some (.ref x), some (.ref G.e0), some (.int 0)] []
  have F0 := S.1.at 0 0 (Nat.le_of_ble_eq_true rfl) (Nat.le_of_ble_eq_true rfl)
  have hOR := S.2.1.or
  refine j_iload_n F0 dJx4a65c_add_72be8_0 rfl ?_
  refine j_aload_n F0 dJx4a65c_add_72be8_1 rfl ?_
  refine m_slen S (v := 0) S.2.2.1.2.2.1 rfl dJx4a65c_add_72be8_2 ?_
  refine j_icmp_ne F0 11 dJx4a65c_add_72be8_3 (by decide) (fun h9 => absurd (by decide) h9) (fun _ => ?_)
  refine j_aload_n F0 dJx4a65c_add_72be8_6 rfl ?_
  refine m_cVr S (n1 := 0) (rest := []) (r_Jx4a65c_grow_d5877 X.l G X.A M h0) ⟨_, _, _, _, rfl, gJx4a65c_add_72be8_Jx4a65c_grow_d5877, rfl, rfl, (by decide +kernel), ⟨(Nat.le_of_ble_eq_true rfl), (Nat.le_of_ble_eq_true rfl)⟩⟩ h0 rfl rfl (Nat.le_of_ble_eq_true rfl) (Nat.le_of_ble_eq_true rfl) (Nat.le_of_ble_eq_true rfl) rfl dJx4a65c_add_72be8_7 (fun v1 M2 hD3 hp4 => ?_)
  obtain ⟨hp4a, hp4b, hp4k, hp4f⟩ := hp4
  have n5 := hp4f _ _ h0
  have h6 : (a, (.inr (10, [.int m, .ref v1, .int 0]) : va_E)) ∈ M2 := hp4a
  have h7 : (v1, (.inl (G.cO, 10, .inr (.inr (.inr (.inr (fun _ => none))))) : va_E)) ∈ M2 := hp4b
  have F9 := S.1.at 1 10 (Nat.le_of_ble_eq_true rfl) (Nat.le_of_ble_eq_true rfl)
  refine j_astore_n F9 [some (.ref a), some (.ref x), some (.ref v1), some (.int 0)] dJx4a65c_add_72be8_10 (by decide) rfl rfl ?_
  refine j_aload_n F9 dJx4a65c_add_72be8_11 rfl ?_
  refine j_iload_n F9 dJx4a65c_add_72be8_12 rfl ?_
  refine j_aload_n F9 dJx4a65c_add_72be8_13 rfl ?_
  have hA9 : AnyO G M2 x := by
    have hA9 := hAny
    have hA9 := hA9.kp hp4k (by intro h9; simp only [List.mem_cons, List.not_mem_nil, or_false] at h9; exact hxa h9)
    exact hA9
  refine m_aastore S (k0 := 0) (t0 := 1) h7 rfl (hA9.any S) (by unfold vp_in; decide) (by decide) dJx4a65c_add_72be8_14 (fun M11 hD12 hU10 => ?_)
  have n13 : a ≠ v1 := n5
  have h6 := hU10.2 _ _ n13 h6
  have h7 := hU10.1
  refine j_aload_n F9 dJx4a65c_add_72be8_15 rfl ?_
  refine j_iload_n F9 dJx4a65c_add_72be8_16 rfl ?_
  refine j_iconst F9 1 dJx4a65c_add_72be8_17 (by decide) ?_
  refine j_iadd F9 1 dJx4a65c_add_72be8_18 (by decide) ?_
  refine m_put S (C := RJx4a65c) (T := TJx4a65c) (N := 3) (v := .int 1) (ty := .int) tyJx4a65c tyJx4a65c_ok nmJx4a65c (by decide +kernel) h6 rfl 2 (by decide) (by decide +kernel) (fun _ h9 => h9) rfl (by decide +kernel) rfl rfl (Nat.le_of_ble_eq_true rfl) dJx4a65c_add_72be8_19 (fun M15 hD16 hU14 => ?_)
  have hU14 : Up M11 a (.inr (10, [.int m, .ref v1, .int 1])) M15 := hU14
  have n17 : v1 ≠ a := (Ne.symm n13)
  have h7 := hU14.2 _ _ n17 h7
  have h6 := hU14.1
  have hKp : Kp M [a] M15 := by
    intro b x hb hx
    have n18 := hp4f _ _ hx
    have n19 : b ∉ [a] := by
      intro h9; simp only [List.mem_cons, List.not_mem_nil, or_false] at h9
      · exact (fun c => hb (by rw [c]; simp)) h9
    have hx := hp4k b x n19 hx
    have hx := hU10.2 _ _ n18 hx
    have hx := hU14.2 _ _ (fun c => hb (by rw [c]; simp)) hx
    exact hx
  have hFr : ∀ (b : Nat) (x : va_E), (b, x) ∈ M → b ≠ v1 := by
    intro b x hx
    exact hp4f _ _ hx
  exact m_return S hRT rfl hQ (Nat.le_of_ble_eq_true rfl) (Nat.le_of_ble_eq_true rfl) dJx4a65c_add_72be8_22 ⟨v1, h6, h7, hKp, hFr⟩

set_option maxRecDepth 100000 in
set_option maxHeartbeats 4000000 in
theorem r_Jx4a65c_add_9ea2d (l : Launch) (G : RG) (A : Nat → Prop) (M : Wl) {a : Nat} {m : Int32} (x : Nat) (hAny : AnyO G M x) (hxa : x ≠ a) (h0 : (a, .inr (10, [.int m, .ref G.e0, .int 0])) ∈ M) : Kr l G A yJx4a65c_add_9ea2d wsJx4a65c_add_9ea2d { frames := 4, cells := 1, slots := 10, locals := 87 } M [.ref a, .ref x] (Gi G A (fun v N => 1 = v ∧ ∃ q : Nat, (a, (.inr (10, [.int (m + 1), .ref q, .int 1]) : va_E)) ∈ N ∧ (q, (.inl (G.cO, 10, .inr (.inr (.inr (.inr (va_up (fun _ => none) 0 (some x)))))) : va_E)) ∈ N ∧ Kp M [a] N ∧ ∀ (b : Nat) (y : va_E), (b, y) ∈ M → b ≠ q)) 1 10 := by
  refine Kr.of (cc := cJx4a65c_add_9ea2d) (maxL := 2) (ret := (some .boolean)) (by decide) rfl (Nat.le_of_ble_eq_true rfl) ?_
  intro X hXl S hRT hIN hXA hQ hD
  subst hXl
  subst hXA
  show J (X.at 0 0) 2 (PL G.Z X.A M) 0 [some (.ref a), some (.ref x)] []
  have F0 := S.1.at 0 0 (Nat.le_of_ble_eq_true rfl) (Nat.le_of_ble_eq_true rfl)
  have hOR := S.2.1.or
  refine j_aload_n F0 dJx4a65c_add_9ea2d_0 rfl ?_
  refine j_dup F0 dJx4a65c_add_9ea2d_1 rfl ?_
  refine m_get S (C := RJx4a65c) (T := TJx4a65c) (N := 3) (by decide +kernel) h0 rfl (v := .int m) 0 (by decide) (by decide +kernel) (u_same (S.1.ts (.sameField "java/util/ArrayList" "java/util/AbstractList" "modCount" "I") (by decide +kernel))) rfl dJx4a65c_add_9ea2d_2 ?_
  refine j_iconst F0 1 dJx4a65c_add_9ea2d_5 (by decide) ?_
  refine j_iadd F0 (m + 1) dJx4a65c_add_9ea2d_6 rfl ?_
  refine m_put S (C := RJx4a65c) (T := TJx4a65c) (N := 3) (v := .int (m + 1)) (ty := .int) tyJx4a65c tyJx4a65c_ok nmJx4a65c (by decide +kernel) h0 rfl 0 (by decide) (by decide +kernel) (u_same (S.1.ts (.sameField "java/util/ArrayList" "java/util/AbstractList" "modCount" "I") (by decide +kernel))) rfl (by decide +kernel) rfl rfl (Nat.le_of_ble_eq_true rfl) dJx4a65c_add_9ea2d_7 (fun M2 hD3 hU1 => ?_)
  have hU1 : Up M a (.inr (10, [.int (m + 1), .ref G.e0, .int 0])) M2 := hU1
  have h0 := hU1.1
  refine j_aload_n F0 dJx4a65c_add_9ea2d_10 rfl ?_
  refine j_aload_n F0 dJx4a65c_add_9ea2d_11 rfl ?_
  refine j_aload_n F0 dJx4a65c_add_9ea2d_12 rfl ?_
  refine m_get S (C := RJx4a65c) (T := TJx4a65c) (N := 3) (by decide +kernel) h0 rfl (v := .ref G.e0) 1 (by decide) (by decide +kernel) (fun _ h9 => h9) rfl dJx4a65c_add_9ea2d_13 ?_
  refine j_aload_n F0 dJx4a65c_add_9ea2d_16 rfl ?_
  refine m_get S (C := RJx4a65c) (T := TJx4a65c) (N := 3) (by decide +kernel) h0 rfl (v := .int 0) 2 (by decide) (by decide +kernel) (fun _ h9 => h9) rfl dJx4a65c_add_9ea2d_17 ?_
  have hA9 : AnyO G M2 x := by
    have hA9 := hAny
    have hA9 := hA9.up hU1 hxa
    exact hA9
  refine m_cVv S (n1 := 3) (rest := []) (r_Jx4a65c_add_72be8 X.l G X.A M2 x hA9 hxa h0) ⟨_, _, _, _, rfl, gJx4a65c_add_9ea2d_Jx4a65c_add_72be8, rfl, rfl, (by decide +kernel), ⟨(Nat.le_of_ble_eq_true rfl), (Nat.le_of_ble_eq_true rfl)⟩⟩ h0 rfl rfl (Nat.le_of_ble_eq_true rfl) (Nat.le_of_ble_eq_true rfl) (Nat.le_of_ble_eq_true rfl) rfl dJx4a65c_add_9ea2d_20 (fun M5 hD6 hp7 => ?_)
  obtain ⟨q8, hp7a, hp7b, hp7k, hp7f⟩ := hp7
  have n9 := hp7f _ _ h0
  have h10 : (a, (.inr (10, [.int (m + 1), .ref q8, .int 1]) : va_E)) ∈ M5 := hp7a
  have h11 : (q8, (.inl (G.cO, 10, .inr (.inr (.inr (.inr (va_up (fun _ => none) 0 (some x)))))) : va_E)) ∈ M5 := hp7b
  have F12 := S.1.at 1 10 (Nat.le_of_ble_eq_true rfl) (Nat.le_of_ble_eq_true rfl)
  refine j_iconst F12 1 dJx4a65c_add_9ea2d_23 (by decide) ?_
  have hKp : Kp M [a] M5 := by
    intro b x hb hx
    have hx := hU1.2 _ _ (fun c => hb (by rw [c]; simp)) hx
    have n13 := hp7f _ _ hx
    have n14 : b ∉ [a] := by
      intro h9; simp only [List.mem_cons, List.not_mem_nil, or_false] at h9
      · exact (fun c => hb (by rw [c]; simp)) h9
    have hx := hp7k b x n14 hx
    exact hx
  have hFr : ∀ (b : Nat) (y : va_E), (b, y) ∈ M → b ≠ q8 := by
    intro b x9 hx
    by_cases hb9 : b = a
    · subst hb9; exact hp7f _ _ hU1.1
    · exact hp7f _ _ (hU1.2 _ _ hb9 hx)
  exact m_ireturn S hRT rfl hQ (Nat.le_of_ble_eq_true rfl) (Nat.le_of_ble_eq_true rfl) dJx4a65c_add_9ea2d_24 rfl ⟨rfl, q8, h10, h11, hKp, hFr⟩

set_option maxRecDepth 100000 in
set_option maxHeartbeats 4000000 in
theorem r_Jx4a65c_add_72be8R (l : Launch) (G : RG) (A : Nat → Prop) (M : Wl) {a e K : Nat} {m c : Int32} {f : Nat → Option Nat} (x : Nat) (hAny : AnyO G M x) (hxa : x ≠ a) (k0 : Nat) (hin : vp_in c K) (hk : c.toNatClampNeg = k0) (hne : ¬ c = Int32.ofNat K) (h0 : (a, .inr (10, [.int m, .ref e, .int c])) ∈ M) (h1 : (e, .inl (G.cO, K, .inr (.inr (.inr (.inr f))))) ∈ M) : Kr l G A yJx4a65c_add_72be8 wsJx4a65c_add_72be8 { frames := 0, cells := 0, slots := 0, locals := 0 } M [.ref a, .ref x, .ref e, .int c] (Gv G A (fun N => (a, (.inr (10, [.int m, .ref e, .int (c + 1)]) : va_E)) ∈ N ∧ (e, (.inl (G.cO, K, .inr (.inr (.inr (.inr (va_up f k0 (some x)))))) : va_E)) ∈ N ∧ Kp M [a, e] N)) 0 0 := by
  refine Kr.of (cc := cJx4a65c_add_72be8) (maxL := 4) (ret := none) (by decide) rfl (Nat.le_of_ble_eq_true rfl) ?_
  intro X hXl S hRT hIN hXA hQ hD
  subst hXl
  subst hXA
  show J (X.at 0 0) 4 (PL G.Z X.A M) 0 [some (.ref a), some (.ref x), some (.ref e), some (.int c)] []
  have F0 := S.1.at 0 0 (Nat.le_of_ble_eq_true rfl) (Nat.le_of_ble_eq_true rfl)
  have hOR := S.2.1.or
  refine j_iload_n F0 dJx4a65c_add_72be8_0 rfl ?_
  refine j_aload_n F0 dJx4a65c_add_72be8_1 rfl ?_
  refine m_alen S (t0 := 1) (v := nI K) h1 rfl rfl dJx4a65c_add_72be8_2 ?_
  refine j_icmp_ne F0 11 dJx4a65c_add_72be8_3 (by decide) (fun _ => ?_) (fun h9 => absurd h9 hne)
  refine j_aload_n F0 dJx4a65c_add_72be8_11 rfl ?_
  refine j_iload_n F0 dJx4a65c_add_72be8_12 rfl ?_
  refine j_aload_n F0 dJx4a65c_add_72be8_13 rfl ?_
  have hA9 : AnyO G M x := by
    have hA9 := hAny
    exact hA9
  refine m_aastore S (k0 := k0) (t0 := 1) h1 rfl (hA9.any S) hin hk dJx4a65c_add_72be8_14 (fun M2 hD3 hU1 => ?_)
  have n4 : a ≠ e := (In.ne hD h0 h1 (by simp))
  have h0 := hU1.2 _ _ n4 h0
  have h1 := hU1.1
  refine j_aload_n F0 dJx4a65c_add_72be8_15 rfl ?_
  refine j_iload_n F0 dJx4a65c_add_72be8_16 rfl ?_
  refine j_iconst F0 1 dJx4a65c_add_72be8_17 (by decide) ?_
  refine j_iadd F0 (c + 1) dJx4a65c_add_72be8_18 rfl ?_
  refine m_put S (C := RJx4a65c) (T := TJx4a65c) (N := 3) (v := .int (c + 1)) (ty := .int) tyJx4a65c tyJx4a65c_ok nmJx4a65c (by decide +kernel) h0 rfl 2 (by decide) (by decide +kernel) (fun _ h9 => h9) rfl (by decide +kernel) rfl rfl (Nat.le_of_ble_eq_true rfl) dJx4a65c_add_72be8_19 (fun M6 hD7 hU5 => ?_)
  have hU5 : Up M2 a (.inr (10, [.int m, .ref e, .int (c + 1)])) M6 := hU5
  have n8 : e ≠ a := (Ne.symm n4)
  have h1 := hU5.2 _ _ n8 h1
  have h0 := hU5.1
  have hKp : Kp M [a, e] M6 := by
    intro b x hb hx
    have hx := hU1.2 _ _ (fun c => hb (by rw [c]; simp)) hx
    have hx := hU5.2 _ _ (fun c => hb (by rw [c]; simp)) hx
    exact hx
  exact m_return S hRT rfl hQ (Nat.le_of_ble_eq_true rfl) (Nat.le_of_ble_eq_true rfl) dJx4a65c_add_72be8_22 ⟨h0, h1, hKp⟩

set_option maxRecDepth 100000 in
set_option maxHeartbeats 4000000 in
theorem r_Jx4a65c_add_9ea2dR (l : Launch) (G : RG) (A : Nat → Prop) (M : Wl) {a e K : Nat} {m c : Int32} {f : Nat → Option Nat} (x : Nat) (hAny : AnyO G M x) (hxa : x ≠ a) (k0 : Nat) (hin : vp_in c K) (hk : c.toNatClampNeg = k0) (hne : ¬ c = Int32.ofNat K) (h0 : (a, .inr (10, [.int m, .ref e, .int c])) ∈ M) (h1 : (e, .inl (G.cO, K, .inr (.inr (.inr (.inr f))))) ∈ M) : Kr l G A yJx4a65c_add_9ea2d wsJx4a65c_add_9ea2d { frames := 1, cells := 0, slots := 0, locals := 23 } M [.ref a, .ref x] (Gi G A (fun v N => 1 = v ∧ (a, (.inr (10, [.int (m + 1), .ref e, .int (c + 1)]) : va_E)) ∈ N ∧ (e, (.inl (G.cO, K, .inr (.inr (.inr (.inr (va_up f k0 (some x)))))) : va_E)) ∈ N ∧ Kp M [a, e] N)) 0 0 := by
  refine Kr.of (cc := cJx4a65c_add_9ea2d) (maxL := 2) (ret := (some .boolean)) (by decide) rfl (Nat.le_of_ble_eq_true rfl) ?_
  intro X hXl S hRT hIN hXA hQ hD
  subst hXl
  subst hXA
  show J (X.at 0 0) 2 (PL G.Z X.A M) 0 [some (.ref a), some (.ref x)] []
  have F0 := S.1.at 0 0 (Nat.le_of_ble_eq_true rfl) (Nat.le_of_ble_eq_true rfl)
  have hOR := S.2.1.or
  refine j_aload_n F0 dJx4a65c_add_9ea2d_0 rfl ?_
  refine j_dup F0 dJx4a65c_add_9ea2d_1 rfl ?_
  refine m_get S (C := RJx4a65c) (T := TJx4a65c) (N := 3) (by decide +kernel) h0 rfl (v := .int m) 0 (by decide) (by decide +kernel) (u_same (S.1.ts (.sameField "java/util/ArrayList" "java/util/AbstractList" "modCount" "I") (by decide +kernel))) rfl dJx4a65c_add_9ea2d_2 ?_
  refine j_iconst F0 1 dJx4a65c_add_9ea2d_5 (by decide) ?_
  refine j_iadd F0 (m + 1) dJx4a65c_add_9ea2d_6 rfl ?_
  refine m_put S (C := RJx4a65c) (T := TJx4a65c) (N := 3) (v := .int (m + 1)) (ty := .int) tyJx4a65c tyJx4a65c_ok nmJx4a65c (by decide +kernel) h0 rfl 0 (by decide) (by decide +kernel) (u_same (S.1.ts (.sameField "java/util/ArrayList" "java/util/AbstractList" "modCount" "I") (by decide +kernel))) rfl (by decide +kernel) rfl rfl (Nat.le_of_ble_eq_true rfl) dJx4a65c_add_9ea2d_7 (fun M2 hD3 hU1 => ?_)
  have hU1 : Up M a (.inr (10, [.int (m + 1), .ref e, .int c])) M2 := hU1
  have n4 : e ≠ a := (In.ne hD h1 h0 (by simp))
  have h1 := hU1.2 _ _ n4 h1
  have h0 := hU1.1
  refine j_aload_n F0 dJx4a65c_add_9ea2d_10 rfl ?_
  refine j_aload_n F0 dJx4a65c_add_9ea2d_11 rfl ?_
  refine j_aload_n F0 dJx4a65c_add_9ea2d_12 rfl ?_
  refine m_get S (C := RJx4a65c) (T := TJx4a65c) (N := 3) (by decide +kernel) h0 rfl (v := .ref e) 1 (by decide) (by decide +kernel) (fun _ h9 => h9) rfl dJx4a65c_add_9ea2d_13 ?_
  refine j_aload_n F0 dJx4a65c_add_9ea2d_16 rfl ?_
  refine m_get S (C := RJx4a65c) (T := TJx4a65c) (N := 3) (by decide +kernel) h0 rfl (v := .int c) 2 (by decide) (by decide +kernel) (fun _ h9 => h9) rfl dJx4a65c_add_9ea2d_17 ?_
  have hA9 : AnyO G M2 x := by
    have hA9 := hAny
    have hA9 := hA9.up hU1 hxa
    exact hA9
  refine m_cVv S (n1 := 3) (rest := []) (r_Jx4a65c_add_72be8R X.l G X.A M2 x hA9 hxa k0 hin hk hne h0 h1) ⟨_, _, _, _, rfl, gJx4a65c_add_9ea2d_Jx4a65c_add_72be8, rfl, rfl, (by decide +kernel), ⟨(Nat.le_of_ble_eq_true rfl), (Nat.le_of_ble_eq_true rfl)⟩⟩ h0 rfl rfl (Nat.le_of_ble_eq_true rfl) (Nat.le_of_ble_eq_true rfl) (Nat.le_of_ble_eq_true rfl) rfl dJx4a65c_add_9ea2d_20 (fun M6 hD7 hp8 => ?_)
  obtain ⟨hp8a, hp8b, hp8k⟩ := hp8
  have h9 : (a, (.inr (10, [.int (m + 1), .ref e, .int (c + 1)]) : va_E)) ∈ M6 := hp8a
  have h10 : (e, (.inl (G.cO, K, .inr (.inr (.inr (.inr (va_up f k0 (some x)))))) : va_E)) ∈ M6 := hp8b
  refine j_iconst F0 1 dJx4a65c_add_9ea2d_23 (by decide) ?_
  have hKp : Kp M [a, e] M6 := by
    intro b x hb hx
    have hx := hU1.2 _ _ (fun c => hb (by rw [c]; simp)) hx
    have n11 : b ∉ [a, e] := by
      intro h9; simp only [List.mem_cons, List.not_mem_nil, or_false] at h9
      rcases h9 with h9 | h9
      · exact (fun c => hb (by rw [c]; simp)) h9
      · exact (fun c => hb (by rw [c]; simp)) h9
    have hx := hp8k b x n11 hx
    exact hx
  exact m_ireturn S hRT rfl hQ (Nat.le_of_ble_eq_true rfl) (Nat.le_of_ble_eq_true rfl) dJx4a65c_add_9ea2d_24 rfl ⟨rfl, h9, h10, hKp⟩
