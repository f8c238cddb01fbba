/-! THE LAW FROM ITS ENTRY: the loom made, the array of ten filled, then all the rest (L_all) -/
theorem wl_len (Z : Zx) (ρ : Raw) : (wl Z ρ).length = 76 := by unfold wl; simp
theorem app_get {l : va_W} {a y : Nat × va_E} {k : Nat} (h : (l ++ [a])[k]? = some y) : l[k]? = some y ∨ (k = l.length ∧ y = a) := by
  by_cases e : k < l.length
  · rw [List.getElem?_append_left e] at h
    exact Or.inl h
  · have h1 := (List.getElem?_eq_some_iff.mp h).1
    have h2 : (l ++ [a]).length = l.length + 1 := by simp
    have h3 : k = l.length := by omega
    subst h3
    rw [List.getElem?_append_right (Nat.le_refl _), Nat.sub_self] at h
    cases h
    exact Or.inr ⟨rfl, rfl⟩
theorem L_put {X : Cx} {Z : Zx} {tok : Nat → List Int32} {ties : List Int32} {ta : Nat} (S : Fx X Z code 18 wsL_law RL room_1) (hA : AdOk Z X.A) (hta : ¬ LA Z ta) (hAt : X.A ta) {f : Nat → Int32} {i x : Int32} {k pc : Nat} {lv : List (Option Value)} {rest : List Value} (hin : vp_in i 10) (hk : i.toNatClampNeg = k) (hd : decode code pc = .ok (.iastore, 1)) (kk : J X 18 (FW Z (WL Z tok ties) ta (upd f k x)) (pc + 1) lv rest) : J X 18 (FW Z (WL Z tok ties) ta f) pc lv (.int x :: .int i :: .ref ta :: rest) := by
  subst hk
  intro H locs ls hw hS hl
  obtain ⟨⟨σ, hC, ρ, hR, hP⟩, hQ⟩ := hw
  have hlen := wl_len Z ρ
  have hP2 : va_P Z.D vwCl (wl Z ρ ++ [(ta, (.inl (Z.cI, 10, .inl f) : va_E))]) H := hP.app hQ
  have hne : ∀ (j : Nat) (q : Nat × va_E), (wl Z ρ)[j]? = some q → q.1 ≠ ta := fun j q h1 e => by
    have hz : j < 76 := by
      have := (List.getElem?_eq_some_iff.mp h1).1
      omega
    have h3 := wl_get Z ρ hz
    rw [h1] at h3
    cases h3
    exact hta ⟨j, hz, e.symm⟩
  have hD2 : va_D X.A (wl Z ρ ++ [(ta, (.inl (Z.cI, 10, .inl f) : va_E))]) := by
    refine ⟨fun i j p q hi hj e => ?_, fun k q hq => ?_⟩
    · rcases app_get hi with h1 | ⟨h1, e1⟩
      · rcases app_get hj with h2 | ⟨h2, e2⟩
        · exact (wl_D hA).1 i j p q h1 h2 e
        · rw [e2] at e
          exact absurd e (hne i p h1)
      · rcases app_get hj with h2 | ⟨h2, e2⟩
        · rw [e1] at e
          exact absurd e.symm (hne j q h2)
        · rw [h1, h2]
    · rcases app_get hq with h1 | ⟨h1, e1⟩
      · exact (wl_D hA).2 k q h1
      · rw [e1]
        exact hAt
  have hq : (wl Z ρ ++ [(ta, (.inl (Z.cI, 10, .inl f) : va_E))])[76]? = some (ta, (.inl (Z.cI, 10, .inl f) : va_E)) := by
    rw [List.getElem?_append_right (by omega), hlen]
    rfl
  refine va_iast S.ex S.by S.K hP2 hD2 hS 76 0 hq rfl hin hd (fun H1 locs1 hP1 _ hS1 => kk H1 locs1 ls ?_ hS1 hl)
  rw [List.set_append_right _ _ (by omega), hlen] at hP1
  refine ⟨⟨σ, hC, ρ, hR, fun j x hx => hP1 j x ?_⟩, ?_⟩
  · have hz : j < 76 := by
      have := (List.getElem?_eq_some_iff.mp hx).1
      omega
    rw [List.getElem?_append_left (by omega)]
    exact hx
  · intro j x hx
    have hz : j < 1 := (List.getElem?_eq_some_iff.mp hx).1
    rw [show j = 0 by omega] at hx
    cases hx
    refine hP1 76 _ ?_
    rw [List.getElem?_append_right (by omega), hlen]
    rfl
set_option maxHeartbeats 8000000 in
theorem L_array {X : Cx} {Z : Zx} {ta b L : Nat} {xs : Nat → Int32} (S : Fx X Z code 18 wsL_law RL room_1) (hA : AdOk Z X.A) (hta : ¬ LA Z ta) (hAt : X.A ta) (hS : Scr X b L xs) (hEnd : ∀ (w : Heap → Prop) (pc : Nat) (lv : List (Option Value)), decode code pc = .ok (.ireturn, 1) → J X 18 w pc lv [.int 1]) : J X 18 (FW Z (WL Z tok0 ties0) ta (fun _ => 0)) 12 [some (.ref b), some (.ref (Z.ad 0)), none, none, none, none, none, none, none, none, none, none, none, none, none, none, none, none] [.ref ta] := by
  refine j_dup S dL_law_12 rfl ?_
  refine j_iconst S 0 dL_law_13 (by decide) ?_
  refine j_bipush S 10 dL_law_14 (by decide) ?_
  refine L_put S hA hta hAt (i := 0) (k := 0) (x := 10) (by unfold vp_in; decide) (by decide) dL_law_16 ?_
  refine j_dup S dL_law_17 rfl ?_
  refine j_iconst S 1 dL_law_18 (by decide) ?_
  refine j_bipush S 11 dL_law_19 (by decide) ?_
  refine L_put S hA hta hAt (i := 1) (k := 1) (x := 11) (by unfold vp_in; decide) (by decide) dL_law_21 ?_
  refine j_dup S dL_law_22 rfl ?_
  refine j_iconst S 2 dL_law_23 (by decide) ?_
  refine j_bipush S 22 dL_law_24 (by decide) ?_
  refine L_put S hA hta hAt (i := 2) (k := 2) (x := 22) (by unfold vp_in; decide) (by decide) dL_law_26 ?_
  refine j_dup S dL_law_27 rfl ?_
  refine j_iconst S 3 dL_law_28 (by decide) ?_
  refine j_bipush S 23 dL_law_29 (by decide) ?_
  refine L_put S hA hta hAt (i := 3) (k := 3) (x := 23) (by unfold vp_in; decide) (by decide) dL_law_31 ?_
  refine j_dup S dL_law_32 rfl ?_
  refine j_iconst S 4 dL_law_33 (by decide) ?_
  refine j_bipush S 30 dL_law_34 (by decide) ?_
  refine L_put S hA hta hAt (i := 4) (k := 4) (x := 30) (by unfold vp_in; decide) (by decide) dL_law_36 ?_
  refine j_dup S dL_law_37 rfl ?_
  refine j_iconst S 5 dL_law_38 (by decide) ?_
  refine j_bipush S 31 dL_law_39 (by decide) ?_
  refine L_put S hA hta hAt (i := 5) (k := 5) (x := 31) (by unfold vp_in; decide) (by decide) dL_law_41 ?_
  refine j_dup S dL_law_42 rfl ?_
  refine j_bipush S 6 dL_law_43 (by decide) ?_
  refine j_bipush S 32 dL_law_45 (by decide) ?_
  refine L_put S hA hta hAt (i := 6) (k := 6) (x := 32) (by unfold vp_in; decide) (by decide) dL_law_47 ?_
  refine j_dup S dL_law_48 rfl ?_
  refine j_bipush S 7 dL_law_49 (by decide) ?_
  refine j_bipush S 33 dL_law_51 (by decide) ?_
  refine L_put S hA hta hAt (i := 7) (k := 7) (x := 33) (by unfold vp_in; decide) (by decide) dL_law_53 ?_
  refine j_dup S dL_law_54 rfl ?_
  refine j_bipush S 8 dL_law_55 (by decide) ?_
  refine j_bipush S 44 dL_law_57 (by decide) ?_
  refine L_put S hA hta hAt (i := 8) (k := 8) (x := 44) (by unfold vp_in; decide) (by decide) dL_law_59 ?_
  refine j_dup S dL_law_60 rfl ?_
  refine j_bipush S 9 dL_law_61 (by decide) ?_
  refine j_bipush S 45 dL_law_63 (by decide) ?_
  refine L_put S hA hta hAt (i := 9) (k := 9) (x := 45) (by unfold vp_in; decide) (by decide) dL_law_65 ?_
  refine j_astore_n S [some (.ref b), some (.ref (Z.ad 0)), some (.ref ta), none, none, none, none, none, none, none, none, none, none, none, none, none, none, none] dL_law_66 (by decide) rfl rfl ?_
  refine L_all ⟨S, hA, hta⟩ hS (fun j hj => ?_) hEnd
  have h9 : j = 0 ∨ j = 1 ∨ j = 2 ∨ j = 3 ∨ j = 4 ∨ j = 5 ∨ j = 6 ∨ j = 7 ∨ j = 8 ∨ j = 9 := by omega
  rcases h9 with rfl | rfl | rfl | rfl | rfl | rfl | rfl | rfl | rfl | rfl
  · exact ⟨10, by unfold tokN; omega, by decide⟩
  · exact ⟨11, by unfold tokN; omega, by decide⟩
  · exact ⟨22, by unfold tokN; omega, by decide⟩
  · exact ⟨23, by unfold tokN; omega, by decide⟩
  · exact ⟨30, by unfold tokN; omega, by decide⟩
  · exact ⟨31, by unfold tokN; omega, by decide⟩
  · exact ⟨32, by unfold tokN; omega, by decide⟩
  · exact ⟨33, by unfold tokN; omega, by decide⟩
  · exact ⟨44, by unfold tokN; omega, by decide⟩
  · exact ⟨45, by unfold tokN; omega, by decide⟩
set_option maxHeartbeats 8000000 in
theorem whole_start {p : Program} {e : Env} {s : State} {m : MethodId} {below : List Frame} {meth : Method} {c : Code} (l : Launch) (hflags : l.flags = flags0) {b L : Nat} {xs : Nat → Int32} (hL : L ≤ 260) (C0 : lw_At p s m meth c b L xs) : W p l e room_1 s m #[Value.ref b] below meth c s.heap [] 0 0 (lw_Z below #[Value.ref b] s) (entryFrame m ([Value.ref b] : List Value).toArray 18) := by
  obtain ⟨hx, hb, hr, hml, hown, htb, hX, hbl, hlocks, hgv⟩ := C0
  have hown : s.vm.findClass RL = some m.cls := hown
  have hts : ∀ w ∈ wsL_law, w.before #[Value.ref b] s = true := fun w h => htb w (wsL_law_in w h)
  obtain ⟨dC, dI, hK⟩ := law_K hts
  obtain ⟨hNW, hAO⟩ := law_NW htb
  obtain ⟨A, hAe⟩ : ∃ A : Nat → Prop, A = fun q => s.heap.size ≤ q := ⟨_, rfl⟩
  have hA : ∀ q : Nat, s.heap.size ≤ q → A q := fun q h => by rw [hAe]; exact h
  have hS : va_S A s.heap s.heap [] := va_S.rf
  have hP : va_P (dC, dI) vwCl [] s.heap := fun k q h => by cases h
  have hD : va_D A [] := ⟨fun i j p q h _ _ => (by cases h), fun k q h => (by cases h)⟩
  have hl := lv_entry ([.ref b]) (n := 18) (Nat.le_of_ble_eq_true rfl)
  rw [lg_entry_eq]
  generalize (lg_sl ([.ref b]) ++ List.replicate (18 - (lg_sl ([.ref b])).length) Slot.unset).toArray = ls at hl ⊢
  have hl : lvF ls 18 [some (.ref b), none, none, none, none, none, none, none, none, none, none, none, none, none, none, none, none, none] := hl
  refine va_new (ci := 4) (fs := [.null, .null, .null, .null, .null, .null, .null]) (C := RX4) (T := TX4) (N := 7) hx hb hts (by decide +kernel) tyX4 tyX4_ok hown (hts (.classLink RL 9 RX4) (by decide +kernel)) (hts (.instantiable RX4 7) (by decide +kernel)) (hts (.initialized RX4) (by decide +kernel)) hK hP hD hS hA rfl (fun j hj => by rcases (show j = 0 ∨ j = 1 ∨ j = 2 ∨ j = 3 ∨ j = 4 ∨ j = 5 ∨ j = 6 by omega) with rfl | rfl | rfl | rfl | rfl | rfl | rfl <;> rfl) (Nat.le_of_ble_eq_true rfl) (Nat.le_of_ble_eq_true rfl) dL_law_0 (fun h0 H hP hD hS => ?_)
  replace hP : va_P (dC, dI) vwCl [(h0, (.inr (4, [.null, .null, .null, .null, .null, .null, .null]) : va_E))] H := hP
  replace hD : va_D A [(h0, (.inr (4, [.null, .null, .null, .null, .null, .null, .null]) : va_E))] := hD
  refine lv_dup hx hb dL_law_3 rfl ?_
  have hDc : va_D (fun _ => True) [(h0, (.inr (4, [.null, .null, .null, .null, .null, .null, .null]) : va_E))] := hD.weaken (fun _ _ _ _ => trivial)
  have hFc : ∀ q, va_A [(h0, (.inr (4, [.null, .null, .null, .null, .null, .null, .null]) : va_E))] H.size q → A q := va_free hD hS hA [0] rfl
  refine va_callv (va_runI (As := []) (rest := [.ref h0]) ⟨hx, hb, hml, hown, hts⟩ (k_X4_init l dC dI h0 H.size) (cwI 0 hts gL_law_X4_init rfl rfl rfl (hts (.initialized RX4) (by decide +kernel)) (hts (.methodLink RL 11 yX4_init) (by decide +kernel)) (hts (.instanceMethod yX4_init) (by decide +kernel)) rfl (by decide +kernel) ⟨Nat.le_of_ble_eq_true rfl, Nat.le_of_ble_eq_true rfl⟩) ⟨Pi4.blind, fun U hU hW => ⟨rfl, by rw [hU], by rw [hU]; exact hP, va_K.moved hW.alike hK, hDc, NW.warm hW hNW, va_AO.moved hW.alike hAO⟩⟩ rfl rfl hl.1 rfl (lv_room (Nat.le_of_ble_eq_true rfl)) dL_law_4 ⟨Nat.le_of_ble_eq_true rfl, Nat.le_of_ble_eq_true rfl⟩) hS (fun q _ h => hFc q h) hFc (fun u t H1 locs ht hvm hw hB hz1 hk1 hS => ?_)
  obtain ⟨Z, e1, e2, hW, hKt, hAd⟩ := hB
  have hK9 : va_K Z.D vwCl (tysOf Z) s := va_K.moved hvm.symm hKt
  have hAd9 : AdOk Z A := ⟨hAd.1, fun k hk => hFc _ (hAd.2 k hk)⟩
  rw [ht] at hW
  subst e2
  have Fx1 : Fx (p, l, e, room_1, s, m, #[Value.ref b], below, meth, c, A, 76, 2418, lw_Z below #[Value.ref b] s) Z code 18 wsL_law RL room_1 := ⟨⟨hx, hb, hml, hown, hts⟩, hK9, rfl, Nat.le_of_ble_eq_true rfl, Nat.le_of_ble_eq_true rfl, hlocks, hNW⟩
  have Fx2 : Fx (p, l, e, room_1, s, m, #[Value.ref b], below, meth, c, A, 77, 2428, lw_Z below #[Value.ref b] s) Z code 18 wsL_law RL room_1 := ⟨⟨hx, hb, hml, hown, hts⟩, hK9, rfl, Nat.le_of_ble_eq_true rfl, Nat.le_of_ble_eq_true rfl, hlocks, hNW⟩
  have hscr : Scr (p, l, e, room_1, s, m, #[Value.ref b], below, meth, c, A, 77, 2428, lw_Z below #[Value.ref b] s) b L xs := ⟨by omega, hX, hbl, by
    show ¬ A b
    rw [hAe]
    exact Nat.not_le.mpr hbl⟩
  have hJ : J (p, l, e, room_1, s, m, #[Value.ref b], below, meth, c, A, 76, 2418, lw_Z below #[Value.ref b] s) 18 (WL Z tok0 ties0) 7 [some (.ref b), none, none, none, none, none, none, none, none, none, none, none, none, none, none, none, none, none] [.ref (Z.ad 0)] := by
    refine j_astore_n Fx1 [some (.ref b), some (.ref (Z.ad 0)), none, none, none, none, none, none, none, none, none, none, none, none, none, none, none, none] dL_law_7 (by decide) rfl rfl ?_
    refine j_bipush Fx1 10 dL_law_8 (by decide) ?_
    refine L_newI Fx1 hAd9 hA (Nat.le_of_ble_eq_true rfl) (Nat.le_of_ble_eq_true rfl) dL_law_10 (fun ta hta hAt => ?_)
    exact L_array Fx2 hAd9 hta hAt hscr (fun w pc lv hd => L_end Fx2 hr rfl rfl hAe hd)
  exact hJ H1 locs ls hW hS hl
