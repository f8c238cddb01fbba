set_option maxRecDepth 100000 in
set_option maxHeartbeats 4000000 in
theorem k_X3_addl (l : Launch) (dC : Nat → ClassId) (dI : Nat → Nat → Nat) (h0 h1 sz : Nat) (cI : ClassId) (f9 : Nat → Int32) (n9 : Nat) (hn8 : n9 < 8) (v9 : Int32) : Met l yX3_add wsX3_add { frames := 0, cells := 0, slots := 0, locals := 0 } (va_Pc [.ref h0, .int v9] (fun U => U.heap.size = sz ∧ va_P (dC, dI) vwCl [(h0, .inr (3, [.ref h1, .int (nI n9)])), (h1, .inl (cI, 8, .inl f9))] U.heap ∧ va_K (dC, dI) vwCl [(cI, .int)] U ∧ va_D (fun _ => True) [(h0, .inr (3, [.ref h1, .int (nI n9)])), (h1, .inl (cI, 8, .inl f9))])) (va_Qv (fun _ : Unit => True) (fun _ t => va_P (dC, dI) vwCl [(h0, .inr (3, [.ref h1, .int (nI (n9 + 1))])), (h1, .inl (cI, 8, .inl (upd f9 n9 v9)))] t.heap ∧ va_K (dC, dI) vwCl [(cI, .int)] t ∧ va_D (va_A [(h0, .inr (3, [.ref h1, .int (nI n9)])), (h1, .inl (cI, 8, .inl f9))] sz) [(h0, .inr (3, [.ref h1, .int (nI (n9 + 1))])), (h1, .inl (cI, 8, .inl (upd f9 n9 v9)))]) (va_A [(h0, .inr (3, [.ref h1, .int (nI n9)])), (h1, .inl (cI, 8, .inl f9))] sz)) 0 0 (va_A [(h0, .inr (3, [.ref h1, .int (nI n9)])), (h1, .inl (cI, 8, .inl f9))] sz) := by
  refine Met.ofW (cc := cX3_add) (maxL := 2) (ret := none) (by decide) rfl ?_
  intro p e s m args below meth c s₁ B hml hv
  obtain ⟨rfl, hsz, hP, hK, hD0⟩ := hv
  have hx := B.exec
  have hb := B.bytes
  have hr := B.returns
  have hts := atoms_spec (ws := wsX3_add) B.pre
  have hown : s.vm.findClass RX3 = some m.cls := findClass_of_methodNamed B.named
  have hlocks := B.notSynchronized
  have _h9 := 0
  subst hsz
  have hD := hD0.self (sz := s.heap.size)
  generalize hAe : va_A [(h0, .inr (3, [.ref h1, .int (nI n9)])), (h1, .inl (cI, 8, .inl f9))] s.heap.size = A at hD ⊢
  have hA : ∀ q : Nat, s.heap.size ≤ q → A q := fun q h => by rw [← hAe]; exact Or.inr h
  have hS : va_S A s.heap s.heap [] := va_S.rf
  have hP : va_P (dC, dI) vwCl [(h0, .inr (3, [.ref h1, .int (nI n9)])), (h1, .inl (cI, 8, .inl f9))] s.heap := hP
  have hl := lv_entry ([.ref h0, .int v9]) (n := 2) (Nat.le_of_ble_eq_true rfl)
  rw [lg_entry_eq]
  generalize (lg_sl ([.ref h0, .int v9]) ++ List.replicate (2 - (lg_sl ([.ref h0, .int v9])).length) Slot.unset).toArray = ls at hl ⊢
  have hl : lv_has ls 2 [(0, .ref h0), (1, .int v9)] := hl
  refine lv_aload_n hx hb dX3_add_0 rfl (lv_at hl 0 rfl) ?_
  refine va_get (D := (dC, dI)) (ci := 3) (v := .int (nI n9)) (C := RX3) (T := TX3) (N := 2) hx hb hts (by decide +kernel) hown hK hP 0 rfl rfl 1 (by decide) (hts (.fieldLink RX3 19 "TreadleLoom$Row" "size" "I") (by decide +kernel)) (fun _ h9 => h9) rfl dX3_add_1 ?_
  refine lv_if_lt (tgt := 39) hx hb dX3_add_4 (by decide) (fun h9 => absurd h9 (nI_pos (by omega))) (fun _ => ?_)
  refine lv_aload_n hx hb dX3_add_7 rfl (lv_at hl 0 rfl) ?_
  refine va_get (D := (dC, dI)) (ci := 3) (v := .int (nI n9)) (C := RX3) (T := TX3) (N := 2) hx hb hts (by decide +kernel) hown hK hP 0 rfl rfl 1 (by decide) (hts (.fieldLink RX3 19 "TreadleLoom$Row" "size" "I") (by decide +kernel)) (fun _ h9 => h9) rfl dX3_add_8 ?_
  refine lv_aload_n hx hb dX3_add_11 rfl (lv_at hl 0 rfl) ?_
  refine va_get (D := (dC, dI)) (ci := 3) (v := .ref h1) (C := RX3) (T := TX3) (N := 2) hx hb hts (by decide +kernel) hown hK hP 0 rfl rfl 0 (by decide) (hts (.fieldLink RX3 13 "TreadleLoom$Row" "cells" "[I") (by decide +kernel)) (fun _ h9 => h9) rfl dX3_add_12 ?_
  refine va_alen (v := nI 8) hx hb hK hP 1 0 rfl rfl rfl dX3_add_15 ?_
  refine lv_icmp_ge (tgt := 39) hx hb dX3_add_16 (by decide) (fun h9 => absurd h9 (by rw [nI_leI (by omega) (by omega)]; omega)) (fun _ => ?_)
  refine lv_aload_n hx hb dX3_add_19 rfl (lv_at hl 0 rfl) ?_
  refine va_get (D := (dC, dI)) (ci := 3) (v := .ref h1) (C := RX3) (T := TX3) (N := 2) hx hb hts (by decide +kernel) hown hK hP 0 rfl rfl 0 (by decide) (hts (.fieldLink RX3 13 "TreadleLoom$Row" "cells" "[I") (by decide +kernel)) (fun _ h9 => h9) rfl dX3_add_20 ?_
  refine lv_aload_n hx hb dX3_add_23 rfl (lv_at hl 0 rfl) ?_
  refine va_get (D := (dC, dI)) (ci := 3) (v := .int (nI n9)) (C := RX3) (T := TX3) (N := 2) hx hb hts (by decide +kernel) hown hK hP 0 rfl rfl 1 (by decide) (hts (.fieldLink RX3 19 "TreadleLoom$Row" "size" "I") (by decide +kernel)) (fun _ h9 => h9) rfl dX3_add_24 ?_
  refine lv_iload_n hx hb dX3_add_27 rfl (lv_at hl 1 rfl) ?_
  refine va_iast hx hb hK hP hD hS 1 0 rfl rfl (vp_in_nI hn8 (by decide)) dX3_add_28 (fun H locs hP hD hS => ?_)
  rw [nI_clamp (by omega)] at hP hD
  have hP : va_P (dC, dI) vwCl [(h0, .inr (3, [.ref h1, .int (nI n9)])), (h1, .inl (cI, 8, .inl (upd f9 n9 v9)))] H := hP
  have hD : va_D A [(h0, .inr (3, [.ref h1, .int (nI n9)])), (h1, .inl (cI, 8, .inl (upd f9 n9 v9)))] := hD
  refine lv_aload_n hx hb dX3_add_29 rfl (lv_at hl 0 rfl) ?_
  refine lv_dup hx hb dX3_add_30 rfl ?_
  refine va_get (D := (dC, dI)) (ci := 3) (v := .int (nI n9)) (C := RX3) (T := TX3) (N := 2) hx hb hts (by decide +kernel) hown hK hP 0 rfl rfl 1 (by decide) (hts (.fieldLink RX3 19 "TreadleLoom$Row" "size" "I") (by decide +kernel)) (fun _ h9 => h9) rfl dX3_add_31 ?_
  refine lv_iconst (v := 1) hx hb dX3_add_34 (by decide) ?_
  refine lv_iadd hx hb dX3_add_35 ?_
  rw [nI_1]
  refine va_put (D := (dC, dI)) (ci := 3) (v := .int (nI (n9 + 1))) (ty := .int) (C := RX3) (T := TX3) (N := 2) hx hb hts (by decide +kernel) tyX3 tyX3_ok nmX3 hown hK hP hD hS 0 rfl rfl 1 (by decide) (hts (.fieldLink RX3 19 "TreadleLoom$Row" "size" "I") (by decide +kernel)) (fun _ h9 => h9) rfl (by decide +kernel) rfl rfl (Nat.le_of_ble_eq_true rfl) dX3_add_36 (fun H locs hP hD hS => ?_)
  have hP : va_P (dC, dI) vwCl [(h0, .inr (3, [.ref h1, .int (nI (n9 + 1))])), (h1, .inl (cI, 8, .inl (upd f9 n9 v9)))] H := hP
  have hD : va_D A [(h0, .inr (3, [.ref h1, .int (nI (n9 + 1))])), (h1, .inl (cI, 8, .inl (upd f9 n9 v9)))] := hD
  exact W.vret hx hb hr (fun t ht hW => ⟨⟨(), rfl, trivial, by rw [ht]; exact hP, va_K.moved hW.alike hK, hD⟩, hS.F ht⟩) hS.2.2 dX3_add_39

def tok0 : Nat → List Int32 := fun _ => []
def ties0 : List Int32 := [1, 2, 4, 8, 16, 32, 64, 128]
theorem res0 (i : Nat) : res tok0 i = ([], 0, -1) := by
  have h : ∀ (B : Blk) (o : Nat), runC B o [] = ([], 0, -1) := fun B o => rfl
  unfold res
  split
  · exact h _ _
  · show up (up (up (up (up (up _ _ _) _ _) _ _) _ _) _ _) _ _ i = _
    dsimp only [up]
    repeat' split
    all_goals first | exact h _ _ | rfl
def St0 : St := (fun r => if r = 0 then ties0 else [], fun _ => (0, -1), 0, 0)
theorem St0_cons : Cons St0 tok0 ties0 := by
  refine ⟨⟨fun i hi => ?_, fun i hi x hx => absurd hx List.not_mem_nil, rfl, rfl⟩, fun i hi => ?_, ?_, ?_⟩
  · show (if 8 + 2 * i = 0 then ties0 else []) = []
    rw [if_neg (by omega)]
  · rw [Good, res0]
    refine ⟨?_, rfl, rfl⟩
    show (if 9 + 2 * i = 0 then ties0 else []) = []
    rw [if_neg (by omega)]
  · unfold EE num
    rw [res0, res0]
    rfl
  · unfold PP num
    rw [res0, res0]
    rfl
/-- the start's raw contents -/
def Raw0 (f : Nat → Int32) : Raw := (fun r => if r = 0 then (8, f) else (0, fun _ => 0), fun _ => (0, -1), 0, 0)
theorem Raw0_rep (f : Nat → Int32) (hf : ∀ j, j < 8 → f j = ties0.getD j 0) : Rep (Raw0 f) St0 := by
  refine ⟨fun r hr => ?_, rfl⟩
  by_cases h : r = 0
  · subst h
    exact ⟨by decide, rfl, hf⟩
  · have e : St0.row r = [] := if_neg h
    rw [e]
    refine ⟨Nat.zero_le _, ?_, fun j hj => absurd hj (Nat.not_lt_zero j)⟩
    show (if r = 0 then _ else _ : Int32 × (Nat → Int32)).1 = _
    rw [if_neg h]
    rfl
/-- the loom's own cells, as they come back -/
abbrev at_Loom (dC : Nat → ClassId) (dI : Nat → Nat → Nat) (A : Nat → Prop) (h0 : Nat) (t : State) : Prop := ∃ Z : Zx, Z.D = (dC, dI) ∧ Z.ad 0 = h0 ∧ WL Z tok0 ties0 t.heap ∧ va_K Z.D vwCl (tysOf Z) t ∧ AdOk Z A
theorem AdOk.of {Z : Zx} {ρ : Raw} {A : Nat → Prop} (h : va_D A (wl Z ρ)) : AdOk Z A :=
  ⟨fun i j hi hj e => h.1 i j _ _ (wl_get Z ρ hi) (wl_get Z ρ hj) e, fun k hk => h.2 k _ (wl_get Z ρ hk)⟩

/-- what an array holds beyond its length is nothing -/
theorem va_parr {D : va_G} {cl : List vw_C} {ws : va_W} {H : Heap} {i a n : Nat} {cA : ClassId} {f g : Nat → Option Nat} (hP : va_P D cl ws H) (hi : ws[i]? = some (a, .inl (cA, n, .inr (.inr (.inr (.inr f)))))) (hfg : ∀ j, j < n → f j = g j) : va_P D cl (ws.set i (a, .inl (cA, n, .inr (.inr (.inr (.inr g)))))) H := by
  intro k q hk
  by_cases h : k = i
  · subst h
    rw [List.getElem?_set_self (List.getElem?_eq_some_iff.mp hi).1] at hk
    cases hk
    have h1 := hP k _ hi
    show H[a]? = some (vp_cell cA (n, .inr (.inr (.inr (.inr g)))))
    have h2 : H[a]? = some (vp_cell cA (n, .inr (.inr (.inr (.inr f))))) := h1
    rw [h2]
    have e : arrV cA n (fun j => va_rf (f j)) = arrV cA n (fun j => va_rf (g j)) := by
      unfold arrV
      congr 1
      apply Array.ext
      · simp
      · intro j h3 h4
        simp only [Array.getElem_ofFn]
        rw [hfg j (by simpa using h3)]
    exact congrArg some e
  · rw [List.getElem?_set_ne (Ne.symm h)] at hk
    exact hP k q hk

set_option maxRecDepth 100000 in
set_option maxHeartbeats 40000000 in
theorem loom_fin {dC : Nat → ClassId} {dI : Nat → Nat → Nat} {A : Nat → Prop} {H : Heap} {cI cP : ClassId} {h0 q1 q2 q3 q4 q5 q6 q7 q8 q9 q10 q11 q12 q13 q14 q15 q16 q17 q18 q19 q20 q21 q22 q23 q24 q25 q26 q27 q28 q29 q30 q31 q32 q33 q34 q35 q36 q37 q38 q39 q40 q41 q42 q43 q44 q45 q46 q47 q48 q49 q50 q51 q52 q53 q54 q55 q56 q57 q58 q59 q60 q61 q62 q63 q64 q65 q66 q67 q68 q69 q70 q71 q72 q73 q74 q75 : Nat} (hP : va_P (dC, dI) vwCl [(h0, .inr (4, [.ref q1, .ref q52, .ref q57, .ref q59, .ref q64, .ref q69, .ref q71])), (q1, .inl (cP, 10, .inr (.inr (.inr (.inr (va_up (va_up (va_up (va_up (va_up (va_up (va_up (va_up (va_up (va_up (fun _ => none) 0 (some q2)) 1 (some q7)) 2 (some q12)) 3 (some q17)) 4 (some q22)) 5 (some q27)) 6 (some q32)) 7 (some q37)) 8 (some q42)) 9 (some q47))))))), (q2, .inr (2, [.ref q3, .ref q5, .int 0, .int (-1)])), (q3, .inr (3, [.ref q4, .int 0])), (q4, .inl (cI, 40, .inl (fun _ => 0))), (q5, .inr (3, [.ref q6, .int 0])), (q6, .inl (cI, 32, .inl (fun _ => 0))), (q7, .inr (2, [.ref q8, .ref q10, .int 0, .int (-1)])), (q8, .inr (3, [.ref q9, .int 0])), (q9, .inl (cI, 40, .inl (fun _ => 0))), (q10, .inr (3, [.ref q11, .int 0])), (q11, .inl (cI, 32, .inl (fun _ => 0))), (q12, .inr (2, [.ref q13, .ref q15, .int 0, .int (-1)])), (q13, .inr (3, [.ref q14, .int 0])), (q14, .inl (cI, 40, .inl (fun _ => 0))), (q15, .inr (3, [.ref q16, .int 0])), (q16, .inl (cI, 32, .inl (fun _ => 0))), (q17, .inr (2, [.ref q18, .ref q20, .int 0, .int (-1)])), (q18, .inr (3, [.ref q19, .int 0])), (q19, .inl (cI, 40, .inl (fun _ => 0))), (q20, .inr (3, [.ref q21, .int 0])), (q21, .inl (cI, 32, .inl (fun _ => 0))), (q22, .inr (2, [.ref q23, .ref q25, .int 0, .int (-1)])), (q23, .inr (3, [.ref q24, .int 0])), (q24, .inl (cI, 40, .inl (fun _ => 0))), (q25, .inr (3, [.ref q26, .int 0])), (q26, .inl (cI, 32, .inl (fun _ => 0))), (q27, .inr (2, [.ref q28, .ref q30, .int 0, .int (-1)])), (q28, .inr (3, [.ref q29, .int 0])), (q29, .inl (cI, 40, .inl (fun _ => 0))), (q30, .inr (3, [.ref q31, .int 0])), (q31, .inl (cI, 32, .inl (fun _ => 0))), (q32, .inr (2, [.ref q33, .ref q35, .int 0, .int (-1)])), (q33, .inr (3, [.ref q34, .int 0])), (q34, .inl (cI, 40, .inl (fun _ => 0))), (q35, .inr (3, [.ref q36, .int 0])), (q36, .inl (cI, 32, .inl (fun _ => 0))), (q37, .inr (2, [.ref q38, .ref q40, .int 0, .int (-1)])), (q38, .inr (3, [.ref q39, .int 0])), (q39, .inl (cI, 40, .inl (fun _ => 0))), (q40, .inr (3, [.ref q41, .int 0])), (q41, .inl (cI, 32, .inl (fun _ => 0))), (q42, .inr (2, [.ref q43, .ref q45, .int 0, .int (-1)])), (q43, .inr (3, [.ref q44, .int 0])), (q44, .inl (cI, 40, .inl (fun _ => 0))), (q45, .inr (3, [.ref q46, .int 0])), (q46, .inl (cI, 32, .inl (fun _ => 0))), (q47, .inr (2, [.ref q48, .ref q50, .int 0, .int (-1)])), (q48, .inr (3, [.ref q49, .int 0])), (q49, .inl (cI, 40, .inl (fun _ => 0))), (q50, .inr (3, [.ref q51, .int 0])), (q51, .inl (cI, 32, .inl (fun _ => 0))), (q52, .inr (1, [.ref q53, .ref q55, .int 0, .int 0])), (q53, .inr (3, [.ref q54, .int 0])), (q54, .inl (cI, 1312, .inl (fun _ => 0))), (q55, .inr (3, [.ref q56, .int 0])), (q56, .inl (cI, 41, .inl (fun _ => 0))), (q57, .inr (3, [.ref q58, .int 8])), (q58, .inl (cI, 8, .inl (upd (upd (upd (upd (upd (upd (upd (upd (fun _ => 0) 0 1) 1 2) 2 4) 3 8) 4 16) 5 32) 6 64) 7 128))), (q59, .inr (0, [.ref q60, .ref q62])), (q60, .inr (3, [.ref q61, .int 0])), (q61, .inl (cI, 32, .inl (fun _ => 0))), (q62, .inr (3, [.ref q63, .int 0])), (q63, .inl (cI, 32, .inl (fun _ => 0))), (q64, .inr (2, [.ref q65, .ref q67, .int 0, .int (-1)])), (q65, .inr (3, [.ref q66, .int 0])), (q66, .inl (cI, 40, .inl (fun _ => 0))), (q67, .inr (3, [.ref q68, .int 0])), (q68, .inl (cI, 32, .inl (fun _ => 0))), (q69, .inr (3, [.ref q70, .int 0])), (q70, .inl (cI, 8, .inl (fun _ => 0))), (q71, .inr (0, [.ref q72, .ref q74])), (q72, .inr (3, [.ref q73, .int 0])), (q73, .inl (cI, 32, .inl (fun _ => 0))), (q74, .inr (3, [.ref q75, .int 0])), (q75, .inl (cI, 32, .inl (fun _ => 0)))] H) (hD : va_D A [(h0, .inr (4, [.ref q1, .ref q52, .ref q57, .ref q59, .ref q64, .ref q69, .ref q71])), (q1, .inl (cP, 10, .inr (.inr (.inr (.inr (va_up (va_up (va_up (va_up (va_up (va_up (va_up (va_up (va_up (va_up (fun _ => none) 0 (some q2)) 1 (some q7)) 2 (some q12)) 3 (some q17)) 4 (some q22)) 5 (some q27)) 6 (some q32)) 7 (some q37)) 8 (some q42)) 9 (some q47))))))), (q2, .inr (2, [.ref q3, .ref q5, .int 0, .int (-1)])), (q3, .inr (3, [.ref q4, .int 0])), (q4, .inl (cI, 40, .inl (fun _ => 0))), (q5, .inr (3, [.ref q6, .int 0])), (q6, .inl (cI, 32, .inl (fun _ => 0))), (q7, .inr (2, [.ref q8, .ref q10, .int 0, .int (-1)])), (q8, .inr (3, [.ref q9, .int 0])), (q9, .inl (cI, 40, .inl (fun _ => 0))), (q10, .inr (3, [.ref q11, .int 0])), (q11, .inl (cI, 32, .inl (fun _ => 0))), (q12, .inr (2, [.ref q13, .ref q15, .int 0, .int (-1)])), (q13, .inr (3, [.ref q14, .int 0])), (q14, .inl (cI, 40, .inl (fun _ => 0))), (q15, .inr (3, [.ref q16, .int 0])), (q16, .inl (cI, 32, .inl (fun _ => 0))), (q17, .inr (2, [.ref q18, .ref q20, .int 0, .int (-1)])), (q18, .inr (3, [.ref q19, .int 0])), (q19, .inl (cI, 40, .inl (fun _ => 0))), (q20, .inr (3, [.ref q21, .int 0])), (q21, .inl (cI, 32, .inl (fun _ => 0))), (q22, .inr (2, [.ref q23, .ref q25, .int 0, .int (-1)])), (q23, .inr (3, [.ref q24, .int 0])), (q24, .inl (cI, 40, .inl (fun _ => 0))), (q25, .inr (3, [.ref q26, .int 0])), (q26, .inl (cI, 32, .inl (fun _ => 0))), (q27, .inr (2, [.ref q28, .ref q30, .int 0, .int (-1)])), (q28, .inr (3, [.ref q29, .int 0])), (q29, .inl (cI, 40, .inl (fun _ => 0))), (q30, .inr (3, [.ref q31, .int 0])), (q31, .inl (cI, 32, .inl (fun _ => 0))), (q32, .inr (2, [.ref q33, .ref q35, .int 0, .int (-1)])), (q33, .inr (3, [.ref q34, .int 0])), (q34, .inl (cI, 40, .inl (fun _ => 0))), (q35, .inr (3, [.ref q36, .int 0])), (q36, .inl (cI, 32, .inl (fun _ => 0))), (q37, .inr (2, [.ref q38, .ref q40, .int 0, .int (-1)])), (q38, .inr (3, [.ref q39, .int 0])), (q39, .inl (cI, 40, .inl (fun _ => 0))), (q40, .inr (3, [.ref q41, .int 0])), (q41, .inl (cI, 32, .inl (fun _ => 0))), (q42, .inr (2, [.ref q43, .ref q45, .int 0, .int (-1)])), (q43, .inr (3, [.ref q44, .int 0])), (q44, .inl (cI, 40, .inl (fun _ => 0))), (q45, .inr (3, [.ref q46, .int 0])), (q46, .inl (cI, 32, .inl (fun _ => 0))), (q47, .inr (2, [.ref q48, .ref q50, .int 0, .int (-1)])), (q48, .inr (3, [.ref q49, .int 0])), (q49, .inl (cI, 40, .inl (fun _ => 0))), (q50, .inr (3, [.ref q51, .int 0])), (q51, .inl (cI, 32, .inl (fun _ => 0))), (q52, .inr (1, [.ref q53, .ref q55, .int 0, .int 0])), (q53, .inr (3, [.ref q54, .int 0])), (q54, .inl (cI, 1312, .inl (fun _ => 0))), (q55, .inr (3, [.ref q56, .int 0])), (q56, .inl (cI, 41, .inl (fun _ => 0))), (q57, .inr (3, [.ref q58, .int 8])), (q58, .inl (cI, 8, .inl (upd (upd (upd (upd (upd (upd (upd (upd (fun _ => 0) 0 1) 1 2) 2 4) 3 8) 4 16) 5 32) 6 64) 7 128))), (q59, .inr (0, [.ref q60, .ref q62])), (q60, .inr (3, [.ref q61, .int 0])), (q61, .inl (cI, 32, .inl (fun _ => 0))), (q62, .inr (3, [.ref q63, .int 0])), (q63, .inl (cI, 32, .inl (fun _ => 0))), (q64, .inr (2, [.ref q65, .ref q67, .int 0, .int (-1)])), (q65, .inr (3, [.ref q66, .int 0])), (q66, .inl (cI, 40, .inl (fun _ => 0))), (q67, .inr (3, [.ref q68, .int 0])), (q68, .inl (cI, 32, .inl (fun _ => 0))), (q69, .inr (3, [.ref q70, .int 0])), (q70, .inl (cI, 8, .inl (fun _ => 0))), (q71, .inr (0, [.ref q72, .ref q74])), (q72, .inr (3, [.ref q73, .int 0])), (q73, .inl (cI, 32, .inl (fun _ => 0))), (q74, .inr (3, [.ref q75, .int 0])), (q75, .inl (cI, 32, .inl (fun _ => 0)))]) : ∃ Z : Zx, Z.D = (dC, dI) ∧ Z.ad 0 = h0 ∧ tysOf Z = [(cI, .int), (cP, .object RX2)] ∧ WL Z tok0 ties0 H ∧ AdOk Z A := by
  obtain ⟨Z, hZ⟩ : ∃ Z : Zx, Z = ((dC, dI), (fun k => ([h0, q1, q52, q59, q71, q2, q7, q12, q17, q22, q27, q32, q37, q42, q47, q64, q57, q58, q69, q70, q60, q61, q62, q63, q72, q73, q74, q75, q53, q54, q55, q56, q3, q4, q5, q6, q8, q9, q10, q11, q13, q14, q15, q16, q18, q19, q20, q21, q23, q24, q25, q26, q28, q29, q30, q31, q33, q34, q35, q36, q38, q39, q40, q41, q43, q44, q45, q46, q48, q49, q50, q51, q65, q66, q67, q68] : List Nat).getD k 0), cI, cP) := ⟨_, rfl⟩
  obtain ⟨f9, hf9⟩ : ∃ f : Nat → Int32, f = (upd (upd (upd (upd (upd (upd (upd (upd (fun _ => 0) 0 1) 1 2) 2 4) 3 8) 4 16) 5 32) 6 64) 7 128) := ⟨_, rfl⟩
  have hg : ∀ j, j < 10 → (va_up (va_up (va_up (va_up (va_up (va_up (va_up (va_up (va_up (va_up (fun _ => none) 0 (some q2)) 1 (some q7)) 2 (some q12)) 3 (some q17)) 4 (some q22)) 5 (some q27)) 6 (some q32)) 7 (some q37)) 8 (some q42)) 9 (some q47)) j = (fun i => some (Z.ad (po i))) j := by
    subst hZ; intro j hj
    rcases (show j = 0 ∨ j = 1 ∨ j = 2 ∨ j = 3 ∨ j = 4 ∨ j = 5 ∨ j = 6 ∨ j = 7 ∨ j = 8 ∨ j = 9 by omega) with rfl | rfl | rfl | rfl | rfl | rfl | rfl | rfl | rfl | rfl <;> rfl
  have hP8 := va_parr hP (i := 1) (a := q1) (cA := cP) (n := 10) rfl hg
  have hD8 := va_D.set (e := .inl (cP, 10, .inr (.inr (.inr (.inr (fun i => some (Z.ad (po i)))))))) hD (p := 1) (a := q1) (e0 := .inl (cP, 10, .inr (.inr (.inr (.inr (va_up (va_up (va_up (va_up (va_up (va_up (va_up (va_up (va_up (va_up (fun _ => none) 0 (some q2)) 1 (some q7)) 2 (some q12)) 3 (some q17)) 4 (some q22)) 5 (some q27)) 6 (some q32)) 7 (some q37)) 8 (some q42)) 9 (some q47))))))) rfl
  have hP9 : va_P (dC, dI) vwCl (wl Z (Raw0 f9)) H := hP8.sub (ws' := wl Z (Raw0 f9)) [0, 1, 52, 59, 71, 2, 7, 12, 17, 22, 27, 32, 37, 42, 47, 64, 57, 58, 69, 70, 60, 61, 62, 63, 72, 73, 74, 75, 53, 54, 55, 56, 3, 4, 5, 6, 8, 9, 10, 11, 13, 14, 15, 16, 18, 19, 20, 21, 23, 24, 25, 26, 28, 29, 30, 31, 33, 34, 35, 36, 38, 39, 40, 41, 43, 44, 45, 46, 48, 49, 50, 51, 65, 66, 67, 68] (by subst hZ; subst hf9; rfl)
  have hD9 : va_D A (wl Z (Raw0 f9)) := hD8.sub (ws' := wl Z (Raw0 f9)) [0, 1, 52, 59, 71, 2, 7, 12, 17, 22, 27, 32, 37, 42, 47, 64, 57, 58, 69, 70, 60, 61, 62, 63, 72, 73, 74, 75, 53, 54, 55, 56, 3, 4, 5, 6, 8, 9, 10, 11, 13, 14, 15, 16, 18, 19, 20, 21, 23, 24, 25, 26, 28, 29, 30, 31, 33, 34, 35, 36, 38, 39, 40, 41, 43, 44, 45, 46, 48, 49, 50, 51, 65, 66, 67, 68] (by decide) (by subst hZ; subst hf9; rfl)
  have hfv : ∀ j, j < 8 → f9 j = ties0.getD j 0 := by subst hf9; intro j hj; rcases (show j = 0 ∨ j = 1 ∨ j = 2 ∨ j = 3 ∨ j = 4 ∨ j = 5 ∨ j = 6 ∨ j = 7 by omega) with rfl | rfl | rfl | rfl | rfl | rfl | rfl | rfl <;> rfl
  have e1 : Z.D = (dC, dI) := by rw [hZ]; rfl
  have e2 : Z.ad 0 = h0 := by rw [hZ]; rfl
  have e3 : tysOf Z = [(cI, .int), (cP, .object RX2)] := by rw [hZ]; rfl
  exact ⟨Z, e1, e2, e3, ⟨St0, St0_cons, Raw0 f9, Raw0_rep f9 hfv, by unfold WR; rw [e1]; exact hP9⟩, AdOk.of hD9⟩
