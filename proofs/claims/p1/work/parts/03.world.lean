/-! THE SYSTEM'S CELLS AS ONE PICTURE: 76 cells at fixed addresses; raw contents; what they mean (lists) -/
def up {α : Type} (f : Nat → α) (k : Nat) (v : α) : Nat → α := fun j => if j = k then v else f j
theorem up_self {α : Type} (f : Nat → α) (k : Nat) (v : α) : up f k v k = v := if_pos rfl
theorem up_ne {α : Type} {f : Nat → α} {k j : Nat} {v : α} (h : j ≠ k) : up f k v j = f j := if_neg h
/-- rows (size, contents), programs (fault, its place), the compiler's two numbers -/
abbrev Raw : Type := (Nat → Int32 × (Nat → Int32)) × (Nat → Int32 × Int32) × Int32 × Int32
abbrev St : Type := (Nat → List Int32) × (Nat → Int32 × Int32) × Int32 × Int32
def St.row (σ : St) (r : Nat) : List Int32 := σ.1 r
def St.fa (σ : St) (i : Nat) : Int32 := (σ.2.1 i).1
def St.fp (σ : St) (i : Nat) : Int32 := (σ.2.1 i).2
def St.gs (σ : St) : Int32 := σ.2.2.1
def St.is (σ : St) : Int32 := σ.2.2.2
def St.setRow (σ : St) (r : Nat) (l : List Int32) : St := (up σ.1 r l, σ.2)
def St.setFa (σ : St) (i : Nat) (v : Int32) : St := (σ.1, up σ.2.1 i (v, (σ.2.1 i).2), σ.2.2)
def St.setFp (σ : St) (i : Nat) (v : Int32) : St := (σ.1, up σ.2.1 i ((σ.2.1 i).1, v), σ.2.2)
def St.setGs (σ : St) (v : Int32) : St := (σ.1, σ.2.1, v, σ.2.2.2)
def St.setIs (σ : St) (v : Int32) : St := (σ.1, σ.2.1, σ.2.2.1, v)
def cap (r : Nat) : Nat := if r < 2 then 8 else if r < 6 then 32 else if r = 6 then 1312 else if r = 7 then 41 else if r % 2 = 0 then 40 else 32
theorem cap_le (r : Nat) : cap r ≤ 1312 := by unfold cap; (repeat' split) <;> omega
theorem cap_pos (r : Nat) : 8 ≤ cap r := by unfold cap; (repeat' split) <;> omega
def ro (r : Nat) : Nat := 16 + 2 * r
def rc (r : Nat) : Nat := 17 + 2 * r
def po (i : Nat) : Nat := 5 + i
def co (t : Nat) : Nat := 3 + t
def cell (Z : Zx) (ρ : Raw) (k : Nat) : va_E :=
  if k = 0 then .inr (4, [.ref (Z.ad 1), .ref (Z.ad 2), .ref (Z.ad (ro 0)), .ref (Z.ad (co 0)), .ref (Z.ad (po 10)), .ref (Z.ad (ro 1)), .ref (Z.ad (co 1))])
  else if k = 1 then .inl (Z.cP, 10, .inr (.inr (.inr (.inr (fun i => some (Z.ad (po i)))))))
  else if k = 2 then .inr (1, [.ref (Z.ad (ro 6)), .ref (Z.ad (ro 7)), .int ρ.2.2.1, .int ρ.2.2.2])
  else if k < 5 then .inr (0, [.ref (Z.ad (ro (2 + 2 * (k - 3)))), .ref (Z.ad (ro (3 + 2 * (k - 3))))])
  else if k < 16 then .inr (2, [.ref (Z.ad (ro (8 + 2 * (k - 5)))), .ref (Z.ad (ro (9 + 2 * (k - 5)))), .int (ρ.2.1 (k - 5)).1, .int (ρ.2.1 (k - 5)).2])
  else if k % 2 = 0 then .inr (3, [.ref (Z.ad (k + 1)), .int (ρ.1 ((k - 16) / 2)).1])
  else .inl (Z.cI, cap ((k - 16) / 2), .inl (ρ.1 ((k - 16) / 2)).2)
theorem cell_loom (Z : Zx) (ρ : Raw) : cell Z ρ 0 = .inr (4, [.ref (Z.ad 1), .ref (Z.ad 2), .ref (Z.ad (ro 0)), .ref (Z.ad (co 0)), .ref (Z.ad (po 10)), .ref (Z.ad (ro 1)), .ref (Z.ad (co 1))]) := rfl
theorem cell_progs (Z : Zx) (ρ : Raw) : cell Z ρ 1 = .inl (Z.cP, 10, .inr (.inr (.inr (.inr (fun i => some (Z.ad (po i))))))) := rfl
theorem cell_comp (Z : Zx) (ρ : Raw) : cell Z ρ 2 = .inr (1, [.ref (Z.ad (ro 6)), .ref (Z.ad (ro 7)), .int ρ.2.2.1, .int ρ.2.2.2]) := rfl
theorem cell_cloth (Z : Zx) (ρ : Raw) {t : Nat} (h : t < 2) : cell Z ρ (co t) = .inr (0, [.ref (Z.ad (ro (2 + 2 * t))), .ref (Z.ad (ro (3 + 2 * t)))]) := by
  unfold cell co
  rw [if_neg (by omega), if_neg (by omega), if_neg (by omega), if_pos (by omega), show 3 + t - 3 = t by omega]
theorem cell_prog (Z : Zx) (ρ : Raw) {i : Nat} (h : i < 11) : cell Z ρ (po i) = .inr (2, [.ref (Z.ad (ro (8 + 2 * i))), .ref (Z.ad (ro (9 + 2 * i))), .int (ρ.2.1 i).1, .int (ρ.2.1 i).2]) := by
  unfold cell po
  rw [if_neg (by omega), if_neg (by omega), if_neg (by omega), if_neg (by omega), if_pos (by omega), show 5 + i - 5 = i by omega]
theorem cell_row (Z : Zx) (ρ : Raw) (r : Nat) : cell Z ρ (ro r) = .inr (3, [.ref (Z.ad (rc r)), .int (ρ.1 r).1]) := by
  unfold cell ro rc
  rw [if_neg (by omega), if_neg (by omega), if_neg (by omega), if_neg (by omega), if_neg (by omega), if_pos (by omega), show (16 + 2 * r - 16) / 2 = r by omega, show 16 + 2 * r + 1 = 17 + 2 * r by omega]
theorem cell_arr (Z : Zx) (ρ : Raw) (r : Nat) : cell Z ρ (rc r) = .inl (Z.cI, cap r, .inl (ρ.1 r).2) := by
  unfold cell rc
  rw [if_neg (by omega), if_neg (by omega), if_neg (by omega), if_neg (by omega), if_neg (by omega), if_neg (by omega), show (17 + 2 * r - 16) / 2 = r by omega]
def wl (Z : Zx) (ρ : Raw) : va_W := (List.range 76).map (fun k => (Z.ad k, cell Z ρ k))
theorem wl_get (Z : Zx) (ρ : Raw) {k : Nat} (h : k < 76) : (wl Z ρ)[k]? = some (Z.ad k, cell Z ρ k) := by
  unfold wl
  rw [List.getElem?_map, List.getElem?_range h]
  rfl
theorem wl_out {Z : Zx} {ρ : Raw} {k : Nat} {q : Nat × va_E} (h : (wl Z ρ)[k]? = some q) : k < 76 ∧ q = (Z.ad k, cell Z ρ k) := by
  have hl := (List.getElem?_eq_some_iff.mp h).1
  have hk : k < 76 := by unfold wl at hl; simpa using hl
  rw [wl_get Z ρ hk] at h
  exact ⟨hk, (Option.some.inj h).symm⟩
theorem wl_set {Z : Zx} {ρ ρ' : Raw} {k : Nat} {e : va_E} (hk : k < 76) (he : cell Z ρ' k = e) (ho : ∀ j, j < 76 → j ≠ k → cell Z ρ' j = cell Z ρ j) : (wl Z ρ).set k (Z.ad k, e) = wl Z ρ' := by
  apply List.ext_getElem?
  intro j
  by_cases hj : j < 76
  · rw [wl_get Z ρ' hj]
    by_cases hjk : j = k
    · subst hjk
      rw [List.getElem?_set_self (by unfold wl; simpa using hj), he]
    · rw [List.getElem?_set_ne (Ne.symm hjk), wl_get Z ρ hj, ho j hj hjk]
  · rw [List.getElem?_eq_none (by unfold wl; simp; omega), List.getElem?_eq_none (by unfold wl; simp; omega)]
theorem wl_D {Z : Zx} {ρ : Raw} {A : Nat → Prop} (h : AdOk Z A) : va_D A (wl Z ρ) := by
  refine ⟨fun i j p q hi hj hpq => ?_, fun k q hk => ?_⟩
  · obtain ⟨h1, rfl⟩ := wl_out hi
    obtain ⟨h2, rfl⟩ := wl_out hj
    exact h.1 i j h1 h2 hpq
  · obtain ⟨h1, rfl⟩ := wl_out hk
    exact h.2 k h1
/-- the raw picture -/
def WR (Z : Zx) (ρ : Raw) (H : Heap) : Prop := va_P Z.D vwCl (wl Z ρ) H
theorem WR.one {Z : Zx} {ρ : Raw} {H : Heap} (h : WR Z ρ H) {k : Nat} (hk : k < 76) {e : va_E} (he : cell Z ρ k = e) : va_P Z.D vwCl [(Z.ad k, e)] H := by
  subst he
  exact va_P.sub h [k] (by simp [wl_get Z ρ hk])
def Rep (ρ : Raw) (σ : St) : Prop := (∀ r : Nat, r < 30 → (σ.row r).length ≤ cap r ∧ (ρ.1 r).1 = nI (σ.row r).length ∧ ∀ j : Nat, j < (σ.row r).length → (ρ.1 r).2 j = (σ.row r).getD j 0) ∧ ρ.2 = σ.2
/-- the picture -/
def Wd (Z : Zx) (σ : St) (H : Heap) : Prop := ∃ ρ : Raw, Rep ρ σ ∧ WR Z ρ H
theorem Wd.cap {Z : Zx} {σ : St} {H : Heap} (h : Wd Z σ H) {r : Nat} (hr : r < 30) : (σ.row r).length ≤ cap r := by
  obtain ⟨ρ, h1, -⟩ := h
  exact (h1.1 r hr).1
theorem rd_loom {Z : Zx} {σ : St} (H : Heap) (h : Wd Z σ H) : va_P Z.D vwCl [(Z.ad 0, .inr (4, [.ref (Z.ad 1), .ref (Z.ad 2), .ref (Z.ad (ro 0)), .ref (Z.ad (co 0)), .ref (Z.ad (po 10)), .ref (Z.ad (ro 1)), .ref (Z.ad (co 1))]))] H := by
  obtain ⟨ρ, -, h⟩ := h
  exact h.one (by omega) (cell_loom Z ρ)
theorem rd_progs {Z : Zx} {σ : St} (H : Heap) (h : Wd Z σ H) : va_P Z.D vwCl [(Z.ad 1, .inl (Z.cP, 10, .inr (.inr (.inr (.inr (fun i => some (Z.ad (po i))))))))] H := by
  obtain ⟨ρ, -, h⟩ := h
  exact h.one (by omega) (cell_progs Z ρ)
theorem rd_comp {Z : Zx} {σ : St} (H : Heap) (h : Wd Z σ H) : va_P Z.D vwCl [(Z.ad 2, .inr (1, [.ref (Z.ad (ro 6)), .ref (Z.ad (ro 7)), .int σ.gs, .int σ.is]))] H := by
  obtain ⟨ρ, h1, h⟩ := h
  have e := cell_comp Z ρ
  rw [h1.2] at e
  exact h.one (by omega) e
theorem rd_cloth {Z : Zx} {σ : St} {t : Nat} (ht : t < 2) (H : Heap) (h : Wd Z σ H) : va_P Z.D vwCl [(Z.ad (co t), .inr (0, [.ref (Z.ad (ro (2 + 2 * t))), .ref (Z.ad (ro (3 + 2 * t)))]))] H := by
  obtain ⟨ρ, -, h⟩ := h
  exact h.one (by unfold co; omega) (cell_cloth Z ρ ht)
theorem rd_prog {Z : Zx} {σ : St} {i : Nat} (hi : i < 11) (H : Heap) (h : Wd Z σ H) : va_P Z.D vwCl [(Z.ad (po i), .inr (2, [.ref (Z.ad (ro (8 + 2 * i))), .ref (Z.ad (ro (9 + 2 * i))), .int (σ.fa i), .int (σ.fp i)]))] H := by
  obtain ⟨ρ, h1, h⟩ := h
  have e := cell_prog Z ρ hi
  rw [h1.2] at e
  exact h.one (by unfold po; omega) e
theorem rd_row {Z : Zx} {σ : St} {r : Nat} (hr : r < 30) (H : Heap) (h : Wd Z σ H) : va_P Z.D vwCl [(Z.ad (ro r), .inr (3, [.ref (Z.ad (rc r)), .int (nI (σ.row r).length)]))] H := by
  obtain ⟨ρ, h1, h⟩ := h
  have e := cell_row Z ρ r
  rw [(h1.1 r hr).2.1] at e
  exact h.one (by unfold ro; omega) e
theorem rr_row {Z : Zx} {ρ : Raw} {r : Nat} (hr : r < 30) (H : Heap) (h : WR Z ρ H) : va_P Z.D vwCl [(Z.ad (ro r), .inr (3, [.ref (Z.ad (rc r)), .int (ρ.1 r).1]))] H :=
  h.one (by unfold ro; omega) (cell_row Z ρ r)
theorem rr_arr {Z : Zx} {ρ : Raw} {r : Nat} (hr : r < 30) (H : Heap) (h : WR Z ρ H) : va_P Z.D vwCl [(Z.ad (rc r), .inl (Z.cI, cap r, .inl (ρ.1 r).2))] H :=
  h.one (by unfold rc; omega) (cell_arr Z ρ r)
/-! ## raw changes -/
def Raw.setSize (ρ : Raw) (r : Nat) (v : Int32) : Raw := (up ρ.1 r (v, (ρ.1 r).2), ρ.2)
def Raw.setAt (ρ : Raw) (r : Nat) (f : Nat → Int32) : Raw := (up ρ.1 r ((ρ.1 r).1, f), ρ.2)
def Raw.setP (ρ : Raw) (i : Nat) (v : Int32 × Int32) : Raw := (ρ.1, up ρ.2.1 i v, ρ.2.2)
def Raw.setC (ρ : Raw) (v : Int32 × Int32) : Raw := (ρ.1, ρ.2.1, v)
theorem cell_apart {Z : Zx} {ρ : Raw} {r j : Nat} (hj : j < 76) (h1 : j ≠ ro r) (h2 : j ≠ rc r) (q : Int32 × (Nat → Int32)) : cell Z (up ρ.1 r q, ρ.2) j = cell Z ρ j := by
  unfold ro at h1; unfold rc at h2
  unfold cell
  dsimp only
  by_cases c : j < 16
  · simp only [show ∀ a b : va_E, (if j < 16 then a else b) = a from fun a b => if_pos c]
  · rw [up_ne (show (j - 16) / 2 ≠ r by omega)]
theorem wl_size {Z : Zx} {ρ : Raw} {r : Nat} (hr : r < 30) (v : Int32) : (wl Z ρ).set (ro r) (Z.ad (ro r), .inr (3, [.ref (Z.ad (rc r)), .int v])) = wl Z (ρ.setSize r v) := by
  refine wl_set (by unfold ro; omega) ?_ (fun j hj hne => ?_)
  · rw [cell_row, Raw.setSize]; dsimp only; rw [up_self]
  · by_cases h : j = rc r
    · subst h
      rw [cell_arr, cell_arr, Raw.setSize]; dsimp only; rw [up_self]
    · exact cell_apart hj hne h _
theorem wl_cells {Z : Zx} {ρ : Raw} {r : Nat} (hr : r < 30) (f : Nat → Int32) : (wl Z ρ).set (rc r) (Z.ad (rc r), .inl (Z.cI, cap r, .inl f)) = wl Z (ρ.setAt r f) := by
  refine wl_set (by unfold rc; omega) ?_ (fun j hj hne => ?_)
  · rw [cell_arr, Raw.setAt]; dsimp only; rw [up_self]
  · by_cases h : j = ro r
    · subst h
      rw [cell_row, cell_row, Raw.setAt]; dsimp only; rw [up_self]
    · exact cell_apart hj h hne _
theorem wl_prog {Z : Zx} {ρ : Raw} {i : Nat} (hi : i < 11) (v : Int32 × Int32) : (wl Z ρ).set (po i) (Z.ad (po i), .inr (2, [.ref (Z.ad (ro (8 + 2 * i))), .ref (Z.ad (ro (9 + 2 * i))), .int v.1, .int v.2])) = wl Z (ρ.setP i v) := by
  refine wl_set (by unfold po; omega) ?_ (fun j hj hne => ?_)
  · rw [cell_prog Z _ hi, Raw.setP]; dsimp only; rw [up_self]
  · unfold po at hne
    unfold cell Raw.setP
    dsimp only
    by_cases c : j - 5 = i
    · have : j < 5 := by omega
      simp only [show ∀ a b : va_E, (if j < 5 then a else b) = a from fun a b => if_pos this]
    · rw [up_ne c]
theorem wl_comp {Z : Zx} {ρ : Raw} (v : Int32 × Int32) : (wl Z ρ).set 2 (Z.ad 2, .inr (1, [.ref (Z.ad (ro 6)), .ref (Z.ad (ro 7)), .int v.1, .int v.2])) = wl Z (ρ.setC v) := by
  refine wl_set (by omega) rfl (fun j hj hne => ?_)
  unfold cell Raw.setC
  dsimp only
  by_cases c : j = 2
  · exact absurd c hne
  · simp only [if_neg c]
