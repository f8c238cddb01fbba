/-! THE LAW's other calls: below, cell, Math.abs; what a block of it stands in -/
section LM
variable {X : Cx} {Z : Zx} {ta pc : Nat} {f : Nat → Int32} {tok : Nat → List Int32} {ties : List Int32} {lv : List (Option Value)} {rest : List Value}
theorem q_below (S : LX X Z ta) {v : Int32} {n : Nat} (h0 : 0 < n) (hn : n < 2 ^ 31) (hcat : (rest.map fun v => v.category).sum ≤ 8) (hd : decode code pc = .ok (.invokestatic 18, 3)) (kk : ∀ j, j < n → J X 18 (FW Z (WL Z tok ties) ta f) (pc + 3) lv (.int (nI j) :: rest)) : J X 18 (FW Z (WL Z tok ties) ta f) pc lv (.int (nI n) :: .int v :: rest) := by
  refine L_cSi S.1 (n := 2) (As := [.int v, .int (nI n)]) (rest := rest) (k_L_below X.l Z v h0 hn) ⟨_, _, _, _, rfl, gL_law_L_below, rfl, rfl, by decide +kernel, ⟨Nat.le_of_ble_eq_true rfl, Nat.le_of_ble_eq_true rfl⟩⟩ rfl hcat rfl hd (fun r hr => ?_) (fun H H1 h _ hk => h.keep hk)
  obtain ⟨j, hj, rfl⟩ := hr
  exact kk j hj
theorem q_cell (S : LX X Z ta) {b L : Nat} {xs : Nat → Int32} (hL : L < 2 ^ 31) (hX : va_X b L xs X.s X.s.heap) (hbl : b < X.s.heap.size) (hbA : ¬ X.A b) {k : Nat} (hk : k < 2 ^ 31) (hcat : (rest.map fun v => v.category).sum ≤ 8) (hd : decode code pc = .ok (.invokestatic 12, 3)) (kk : ∀ r : Int32, J X 18 (FW Z (WL Z tok ties) ta f) (pc + 3) lv (.int r :: rest)) : J X 18 (FW Z (WL Z tok ties) ta f) pc lv (.int (nI k) :: .ref b :: rest) :=
  L_cell S.1 hL hX hbl hbA hk ⟨_, _, _, _, rfl, gL_law_L_cell, rfl, rfl, by decide +kernel, ⟨Nat.le_of_ble_eq_true rfl, Nat.le_of_ble_eq_true rfl⟩⟩ hcat hd (fun H H1 h _ hk => h.keep hk) kk
theorem q_abs (S : LX X Z ta) {x : UInt64} (hn : vf_n64 (x &&& 0x7fffffffffffffff)) {w : Heap → Prop} (hcat : (rest.map fun v => v.category).sum ≤ 8) (hd : decode code pc = .ok (.invokestatic 77, 3)) (kk : J X 18 w (pc + 3) lv (.double (x &&& 0x7fffffffffffffff) :: rest)) : J X 18 w pc lv (.double x :: rest) := by
  intro H locs ls hw hS hl
  refine va_absW S.1.ex S.1.by (by rw [S.1.ml]; exact hl.1.symm) S.1.ow (S.1.ts _ (by decide +kernel)) (S.1.ts _ (by decide +kernel)) (S.1.ts _ (by decide +kernel)) (S.1.ts (Cond.code yJ9_abs_294c1 cJ9_abs_294c1 2 (some .double)) ?_) hn (by rw [S.1.rm]; exact Nat.le_of_ble_eq_true rfl) (by rw [S.1.rm]; exact Nat.le_trans (Nat.add_le_add_right hcat 13) (Nat.le_of_ble_eq_true rfl)) hd (kk H locs ls hw hS hl)
  decide +kernel
end LM
