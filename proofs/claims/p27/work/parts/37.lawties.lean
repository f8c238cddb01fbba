/-! THE LAW's SECOND LOOP: eight ties -/
/-- the law's locals: the script, the loom, the array of tokens, then others -/
abbrev lvL (b : Nat) (Z : Zx) (ta : Nat) (r : List (Option Value)) : List (Option Value) := some (.ref b) :: some (.ref (Z.ad 0)) :: some (.ref ta) :: r
def Scr (X : Cx) (b L : Nat) (xs : Nat → Int32) : Prop := L < 2 ^ 31 ∧ va_X b L xs X.s X.s.heap ∧ b < X.s.heap.size ∧ ¬ X.A b
section LT
variable {X : Cx} {Z : Zx} {ta b L : Nat} {xs f : Nat → Int32} {tok : Nat → List Int32}
theorem L_ties (S : LX X Z ta) (hS : Scr X b L xs) (kk : ∀ ties, ties8 ties → J X 18 (FW Z (WL Z tok ties) ta f) 291 (lvL b Z ta (List.replicate 15 none)) []) : ∀ (n i : Nat) (ties : List Int32), i + n = 8 → ties8 ties → J X 18 (FW Z (WL Z tok ties) ta f) 260 (lvL b Z ta (some (.int (nI i)) :: List.replicate 14 none)) [] := by
  intro n
  induction n with
  | zero =>
    intro i ties hi h8
    refine j_iload_n S.1 dL_law_260 rfl ?_
    refine j_bipush S.1 8 dL_law_261 (by decide) ?_
    refine j_icmp_ge S.1 291 dL_law_263 (by decide) (fun _ => ?_) (fun h9 => absurd (by rw [show i = 8 by omega]; decide) h9)
    refine J.less (lvL b Z ta (List.replicate 15 none)) ⟨rfl, rfl, rfl, trivial⟩ (kk ties h8)
  | succ n ih =>
    intro i ties hi h8
    refine j_iload_n S.1 dL_law_260 rfl ?_
    refine j_bipush S.1 8 dL_law_261 (by decide) ?_
    refine j_icmp_ge S.1 291 dL_law_263 (by decide) (fun h9 => absurd h9 (by rw [show (8 : Int32) = nI 8 from rfl, nI_leI (by omega) (by omega)]; omega)) (fun _ => ?_)
    refine j_aload_n S.1 dL_law_266 rfl ?_
    refine j_iload_n S.1 dL_law_267 rfl ?_
    refine j_aload_n S.1 dL_law_268 rfl ?_
    refine j_iload_n S.1 dL_law_269 rfl ?_
    refine q_cell S hS.1 hS.2.1 hS.2.2.1 hS.2.2.2 (by omega) (Nat.le_of_ble_eq_true rfl) dL_law_270 (fun r => ?_)
    refine j_iconst S.1 2 dL_law_273 (by decide) ?_
    refine j_ishr S.1 (r >>> (2 &&& 31)) dL_law_274 rfl ?_
    refine j_sipush S.1 (nI 256) dL_law_275 (by decide) ?_
    refine q_below S (by decide) (by decide) (Nat.le_of_ble_eq_true rfl) dL_law_278 (fun j hj => ?_)
    refine q_tie S i j (by omega) hj (Nat.le_of_ble_eq_true rfl) dL_law_281 ?_
    refine j_pop S.1 dL_law_284 rfl ?_
    refine j_iinc S.1 (nI (i + 1)) (lvL b Z ta (some (.int (nI (i + 1))) :: List.replicate 14 none)) dL_law_285 rfl (nI_1 i) (by decide) rfl rfl ?_
    refine j_goto S.1 260 dL_law_288 (by decide) ?_
    exact ih (i + 1) _ (by omega) (ties8_set h8 hj i)
end LT
