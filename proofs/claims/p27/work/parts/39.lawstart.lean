/-! THE LAW's START: what the claim gives, the loom made, the array of ten -/
theorem Pi4.blind {av : List Value} {sz : Nat} {dC : Nat → ClassId} {dI : Nat → Nat → Nat} {W0 : va_W} {tys : List (ClassId × FieldType)} : FrameBlind (va_Pc av (fun U => U.heap.size = sz ∧ va_P (dC, dI) vwCl W0 U.heap ∧ va_K (dC, dI) vwCl tys U ∧ va_D (fun _ => True) W0 ∧ NW U ∧ va_AO RX2 U)) :=
  fun a U g mk q => by obtain ⟨q0, q1, qP, qK, qD, qN, qO⟩ := q; exact ⟨q0, q1, qP, va_K.moved (u := U) (U := U.calling g mk a) (Vm.Alike.refl U.vm) qK, qD, NW.same (u := U) (U := U.calling g mk a) rfl qN, va_AO.moved (u := U) (U := U.calling g mk a) (Vm.Alike.refl U.vm) qO⟩
theorem law_K {s : State} {args : Array Value} (hts : ∀ w ∈ wsL_law, w.before args s = true) : ∃ (dC : Nat → ClassId) (dI : Nat → Nat → Nat), va_K (dC, dI) vwCl [] s := by
  obtain ⟨c0, i0, h0⟩ := u_known (ws := wsL_law) hts inlX0 (hts (.instantiable RX0 2) (by decide +kernel))
  obtain ⟨c1, i1, h1⟩ := u_known (ws := wsL_law) hts inlX1 (hts (.instantiable RX1 4) (by decide +kernel))
  obtain ⟨c2, i2, h2⟩ := u_known (ws := wsL_law) hts inlX2 (hts (.instantiable RX2 4) (by decide +kernel))
  obtain ⟨c3, i3, h3⟩ := u_known (ws := wsL_law) hts inlX3 (hts (.instantiable RX3 2) (by decide +kernel))
  obtain ⟨c4, i4, h4⟩ := u_known (ws := wsL_law) hts inlX4 (hts (.instantiable RX4 7) (by decide +kernel))
  refine ⟨fun k => if k = 0 then c0 else if k = 1 then c1 else if k = 2 then c2 else if k = 3 then c3 else c4, fun k => if k = 0 then i0 else if k = 1 then i1 else if k = 2 then i2 else if k = 3 then i3 else i4, fun c q hq => ?_, fun k q hk => by cases hk⟩
  have hc : c < 5 := (List.getElem?_eq_some_iff.mp hq).1
  have h9 : c = 0 ∨ c = 1 ∨ c = 2 ∨ c = 3 ∨ c = 4 := by omega
  rcases h9 with rfl | rfl | rfl | rfl | rfl
  · cases hq; exact h0
  · cases hq; exact h1
  · cases hq; exact h2
  · cases hq; exact h3
  · cases hq; exact h4
theorem law_nF : ∀ q ∈ nF, Cond.fieldLinkNest q.1 q.2.1 q.2.2.1 q.2.2.2.1 q.2.2.2.2.1 q.2.2.2.2.2 ∈ lw_tbl := by decide +kernel
theorem law_nM : ∀ q ∈ nM, Cond.methodLinkNest q.1 q.2.1 q.2.2.1 q.2.2.2 ∈ lw_tbl := by decide +kernel
theorem law_nA : Cond.arrayOver (.object RX2) ∈ lw_tbl := by decide +kernel
theorem law_NW {s : State} {args : Array Value} (hts : ∀ w ∈ lw_tbl, w.before args s = true) : NW s ∧ va_AO RX2 s :=
  ⟨⟨fun q hq => va_Nw.of rfl (hts _ (law_nF q hq)), fun q hq => va_Nw.of rfl (hts _ (law_nM q hq))⟩, va_AO.of (hts _ law_nA)⟩
