/-! WHAT A ROW's METHODS ANSWER, as lists -/
theorem J.raw {X : Cx} {Z : Zx} {nL pc : Nat} {σ : St} {lv : List (Option Value)} {st : List Value} (k : ∀ ρ : Raw, Rep ρ σ → J X nL (WR Z ρ) pc lv st) : J X nL (Wd Z σ) pc lv st := fun H locs ls hw hS hl => by
  obtain ⟨ρ, h1, h2⟩ := hw
  exact k ρ h1 H locs ls h2 hS hl
/-- what the lengths are at most, at hand in a walk -/
theorem J.caps {X : Cx} {Z : Zx} {nL pc : Nat} {σ : St} {lv : List (Option Value)} {st : List Value} (k : (∀ r : Nat, r < 30 → (σ.row r).length ≤ cap r) → J X nL (Wd Z σ) pc lv st) : J X nL (Wd Z σ) pc lv st := fun H locs ls hw hS hl => k (fun _ hr => hw.cap hr) H locs ls hw hS hl
/-- the places that one list of locals names, the other names too -/
def lle : List (Option Value) → List (Option Value) → Prop
  | [], _ => True
  | none :: t, [] => lle t []
  | none :: t, _ :: u => lle t u
  | some v :: t, some u :: q => v = u ∧ lle t q
  | some _ :: _, none :: _ => False
  | some _ :: _, [] => False
theorem lle_get : ∀ {a b : List (Option Value)}, lle a b → ∀ (i : Nat) (v : Value), lget a i = some v → lget b i = some v
  | [], _, _, i, v, h => by cases i <;> cases h
  | none :: t, [], hl, 0, v, h => by cases h
  | none :: t, [], hl, i + 1, v, h => by
    have h1 := lle_get (a := t) (b := []) hl i v h
    cases i <;> cases h1
  | none :: t, _ :: u, hl, 0, v, h => by cases h
  | none :: t, _ :: u, hl, i + 1, v, h => lle_get (a := t) (b := u) hl i v h
  | some w :: t, some u :: q, hl, 0, v, h => by
    obtain ⟨rfl, -⟩ := hl
    exact h
  | some w :: t, some u :: q, hl, i + 1, v, h => lle_get (a := t) (b := q) hl.2 i v h
  | some w :: t, none :: q, hl, _, _, _ => hl.elim
  | some w :: t, [], hl, _, _, _ => hl.elim
theorem J.less {X : Cx} {nL pc : Nat} {w : Heap → Prop} {lv : List (Option Value)} {st : List Value} (lv' : List (Option Value)) (h : lle lv' lv) (k : J X nL w pc lv' st) : J X nL w pc lv st := J.fewer (lle_get h) k
def atI (l : List Int32) (i : Int32) : Int32 := if i < 0 then 0 else l.getD i.toNatClampNeg 0
def putI (l : List Int32) (i v : Int32) : List Int32 := if i < 0 then l else l.set i.toNatClampNeg v
def addI (c : Nat) (l : List Int32) (v : Int32) : List Int32 := if l.length < c then l ++ [v] else l
def cutI (l : List Int32) (n : Int32) : List Int32 := if n < 0 then [] else l.take n.toNatClampNeg
theorem getD_out {l : List Int32} {i : Nat} (h : l.length ≤ i) : l.getD i 0 = 0 := by
  rw [List.getD_eq_getElem?_getD, List.getElem?_eq_none h]
  rfl
theorem nI_neg {n : Nat} (h : n < 2 ^ 31) : ¬ nI n < 0 := nI_pos h
theorem atI_neg {l : List Int32} {i : Int32} (h : i < 0) : atI l i = 0 := if_pos h
theorem atI_nI (l : List Int32) {j : Nat} (h : j < 2 ^ 31) : atI l (nI j) = l.getD j 0 := by
  unfold atI
  rw [if_neg (nI_pos h), nI_clamp h]
theorem atI_out {l : List Int32} {i : Int32} (hl : l.length < 2 ^ 31) (h : nI l.length ≤ i) : atI l i = 0 := by
  by_cases h0 : i < 0
  · exact atI_neg h0
  · obtain ⟨j, hj, rfl⟩ := nI_of h0
    rw [atI_nI l hj]
    rw [nI_leI hl hj] at h
    exact getD_out h
theorem putI_neg {l : List Int32} {i v : Int32} (h : i < 0) : putI l i v = l := if_pos h
theorem putI_nI (l : List Int32) (v : Int32) {j : Nat} (h : j < 2 ^ 31) : putI l (nI j) v = l.set j v := by
  unfold putI
  rw [if_neg (nI_pos h), nI_clamp h]
theorem putI_out {l : List Int32} {i v : Int32} (hl : l.length < 2 ^ 31) (h : nI l.length ≤ i) : putI l i v = l := by
  by_cases h0 : i < 0
  · exact putI_neg h0
  · obtain ⟨j, hj, rfl⟩ := nI_of h0
    rw [putI_nI l v hj]
    rw [nI_leI hl hj] at h
    exact List.set_eq_of_length_le h
theorem putI_len (l : List Int32) (i v : Int32) : (putI l i v).length = l.length := by
  unfold putI
  split
  · rfl
  · exact List.length_set
theorem addI_lt {c : Nat} {l : List Int32} {v : Int32} (h : l.length < c) : addI c l v = l ++ [v] := if_pos h
theorem addI_ge {c : Nat} {l : List Int32} {v : Int32} (h : ¬ l.length < c) : addI c l v = l := if_neg h
theorem cutI_neg {l : List Int32} {n : Int32} (h : n < 0) : cutI l n = [] := if_pos h
theorem cutI_nI (l : List Int32) {j : Nat} (h : j < 2 ^ 31) : cutI l (nI j) = l.take j := by
  unfold cutI
  rw [if_neg (nI_pos h), nI_clamp h]
theorem Rep.len {ρ : Raw} {σ : St} (h : Rep ρ σ) {r : Nat} (hr : r < 30) : (σ.row r).length < 2 ^ 31 := by
  have h1 := (h.1 r hr).1
  have h2 := cap_le r
  omega
theorem cap_lt (r : Nat) : cap r < 2 ^ 31 := by
  have h2 := cap_le r
  omega
theorem St.row_set (σ : St) (r j : Nat) (l : List Int32) : (σ.setRow r l).row j = if j = r then l else σ.row j := rfl
theorem St.row_self (σ : St) (r : Nat) (l : List Int32) : (σ.setRow r l).row r = l := if_pos rfl
theorem St.row_ne (σ : St) {r j : Nat} (l : List Int32) (h : j ≠ r) : (σ.setRow r l).row j = σ.row j := if_neg h
theorem St.setRow_same (σ : St) (r : Nat) : σ.setRow r (σ.row r) = σ := by
  unfold St.setRow St.row
  refine Prod.ext (funext fun j => ?_) rfl
  dsimp only [up]
  split
  · rename_i h; rw [h]
  · rfl
theorem St.setRow_twice (σ : St) (r : Nat) (l l' : List Int32) : (σ.setRow r l).setRow r l' = σ.setRow r l' := by
  unfold St.setRow
  refine Prod.ext (funext fun j => ?_) rfl
  dsimp only [up]
  split <;> rfl
/-- one row is another one -/
theorem Rep.row {ρ ρ' : Raw} {σ : St} (h : Rep ρ σ) {r : Nat} {l : List Int32} (h2 : ρ'.2 = ρ.2) (ho : ∀ j, j ≠ r → ρ'.1 j = ρ.1 j) (hc : l.length ≤ cap r) (hs : (ρ'.1 r).1 = nI l.length) (hv : ∀ j, j < l.length → (ρ'.1 r).2 j = l.getD j 0) : Rep ρ' (σ.setRow r l) := by
  refine ⟨fun j hj => ?_, h2.trans h.2⟩
  rw [St.row_set]
  by_cases e : j = r
  · subst e
    rw [if_pos rfl]
    exact ⟨hc, hs, hv⟩
  · rw [if_neg e, ho j e]
    exact h.1 j hj
theorem Rep.put {ρ : Raw} {σ : St} (h : Rep ρ σ) {r i : Nat} (hr : r < 30) (hi : i < (σ.row r).length) (v : Int32) : Rep (ρ.setAt r (upd (ρ.1 r).2 i v)) (σ.setRow r ((σ.row r).set i v)) := by
  obtain ⟨h1, h2, h3⟩ := h.1 r hr
  refine h.row rfl (fun j hj => up_ne hj) (by rw [List.length_set]; exact h1) (by rw [Raw.setAt]; dsimp only; rw [up_self, List.length_set]; exact h2) (fun j hj => ?_)
  rw [List.length_set] at hj
  rw [Raw.setAt]; dsimp only; rw [up_self]
  dsimp only [upd]
  by_cases e : j = i
  · subst e
    rw [if_pos rfl, List.getD_eq_getElem?_getD, List.getElem?_set_self hj]
    rfl
  · rw [if_neg e, h3 j hj, List.getD_eq_getElem?_getD, List.getD_eq_getElem?_getD, List.getElem?_set_ne (Ne.symm e)]
theorem Rep.add {ρ : Raw} {σ : St} (h : Rep ρ σ) {r : Nat} (hr : r < 30) (hi : (σ.row r).length < cap r) (v : Int32) : Rep ((ρ.setAt r (upd (ρ.1 r).2 (σ.row r).length v)).setSize r (nI ((σ.row r).length + 1))) (σ.setRow r (σ.row r ++ [v])) := by
  obtain ⟨h1, h2, h3⟩ := h.1 r hr
  refine h.row rfl (fun j hj => (up_ne hj).trans (up_ne hj)) (by simp; omega) (by rw [Raw.setSize]; dsimp only; rw [up_self]; simp) (fun j hj => ?_)
  rw [Raw.setSize, Raw.setAt]; dsimp only; rw [up_self]; dsimp only; rw [up_self]
  dsimp only [upd]
  simp only [List.length_append, List.length_cons, List.length_nil] at hj
  by_cases e : j = (σ.row r).length
  · subst e
    rw [if_pos rfl, List.getD_eq_getElem?_getD, List.getElem?_append_right (Nat.le_refl _), Nat.sub_self]
    rfl
  · rw [if_neg e, h3 j (by omega), List.getD_eq_getElem?_getD, List.getD_eq_getElem?_getD, List.getElem?_append_left (by omega)]
theorem Rep.cut {ρ : Raw} {σ : St} (h : Rep ρ σ) {r n : Nat} (hr : r < 30) (hn : n ≤ (σ.row r).length) : Rep (ρ.setSize r (nI n)) (σ.setRow r ((σ.row r).take n)) := by
  obtain ⟨h1, h2, h3⟩ := h.1 r hr
  have hl : ((σ.row r).take n).length = n := by rw [List.length_take]; omega
  refine h.row rfl (fun j hj => up_ne hj) (by rw [hl]; omega) (by rw [Raw.setSize]; dsimp only; rw [up_self, hl]) (fun j hj => ?_)
  rw [hl] at hj
  rw [Raw.setSize]; dsimp only; rw [up_self]; dsimp only
  rw [h3 j (by omega), List.getD_eq_getElem?_getD, List.getD_eq_getElem?_getD, List.getElem?_take_of_lt hj]
theorem Rep.fault {ρ : Raw} {σ : St} (h : Rep ρ σ) (i : Nat) (v : Int32) : Rep (ρ.setP i (v, (ρ.2.1 i).2)) (σ.setFa i v) := ⟨h.1, by rw [Raw.setP, St.setFa]; dsimp only; rw [h.2]⟩
theorem Rep.place {ρ : Raw} {σ : St} (h : Rep ρ σ) (i : Nat) (v : Int32) : Rep (ρ.setP i ((ρ.2.1 i).1, v)) (σ.setFp i v) := ⟨h.1, by rw [Raw.setP, St.setFp]; dsimp only; rw [h.2]⟩
theorem Rep.gs {ρ : Raw} {σ : St} (h : Rep ρ σ) (v : Int32) : Rep (ρ.setC (v, ρ.2.2.2)) (σ.setGs v) := ⟨h.1, by rw [Raw.setC, St.setGs]; dsimp only; rw [h.2]⟩
theorem Rep.is {ρ : Raw} {σ : St} (h : Rep ρ σ) (v : Int32) : Rep (ρ.setC (ρ.2.2.1, v)) (σ.setIs v) := ⟨h.1, by rw [Raw.setC, St.setIs]; dsimp only; rw [h.2]⟩
/-! ## the writes as rows -/
section JW
variable {X : Cx} {Z : Zx} {cc : ByteArray} {nL : Nat} {Ts : List Cond} {own : String} {R : Room} {pc index : Nat} {lv : List (Option Value)} {rest : List Value}
theorem j_putSize (S : Fx X Z cc nL Ts own R) (hA : AdOk Z X.A) {ρ : Raw} {r : Nat} (hr : r < 30) {v : Int32} (hin : ∀ q ∈ u_ws RX3 TX3 2, q ∈ Ts) (hlink : Cond.fieldLink own index "TreadleLoom$Row" "size" "I" ∈ Ts) (hd : decode cc pc = .ok (.putfield index, 3)) (kk : J X nL (WR Z (ρ.setSize r v)) (pc + 3) lv rest) : J X nL (WR Z ρ) pc lv (.int v :: .ref (Z.ad (ro r)) :: rest) :=
  j_put S (C := RX3) (T := TX3) (N := 2) (ty := .int) (ref := "TreadleLoom$Row") (W0 := wl Z ρ) (q0 := ro r) tyX3 tyX3_ok nmX3 hin (wl_D hA) (fun _ h => h) ((wl_get Z ρ (by unfold ro; omega)).trans (by rw [cell_row])) rfl 1 (by decide) hlink rfl rfl (by decide +kernel) rfl rfl (Nat.le_of_ble_eq_true rfl) hd (fun H h => by
    have e := wl_size (Z := Z) (ρ := ρ) hr v
    unfold WR
    rw [← e]
    exact h) kk
theorem j_putFault (S : Fx X Z cc nL Ts own R) (hA : AdOk Z X.A) {σ : St} {i : Nat} (hi : i < 11) {v : Int32} (hin : ∀ q ∈ u_ws RX2 TX2 4, q ∈ Ts) (hlink : Cond.fieldLink own index "TreadleLoom$Program" "fault" "I" ∈ Ts) (hd : decode cc pc = .ok (.putfield index, 3)) (kk : J X nL (Wd Z (σ.setFa i v)) (pc + 3) lv rest) : J X nL (Wd Z σ) pc lv (.int v :: .ref (Z.ad (po i)) :: rest) := by
  refine J.raw (fun ρ hρ => ?_)
  exact j_put S (C := RX2) (T := TX2) (N := 4) (ty := .int) (ref := "TreadleLoom$Program") (W0 := wl Z ρ) (q0 := po i) tyX2 tyX2_ok nmX2 hin (wl_D hA) (fun _ h => h) ((wl_get Z ρ (by unfold po; omega)).trans (by rw [cell_prog Z ρ hi])) rfl 2 (by decide) hlink rfl rfl (by decide +kernel) rfl rfl (Nat.le_of_ble_eq_true rfl) hd (fun H h => ⟨_, hρ.fault i v, by
    have e := wl_prog (Z := Z) (ρ := ρ) hi (v, (ρ.2.1 i).2)
    unfold WR
    rw [← e]
    exact h⟩) kk
theorem j_putPlace (S : Fx X Z cc nL Ts own R) (hA : AdOk Z X.A) {σ : St} {i : Nat} (hi : i < 11) {v : Int32} (hin : ∀ q ∈ u_ws RX2 TX2 4, q ∈ Ts) (hlink : Cond.fieldLink own index "TreadleLoom$Program" "faultPlace" "I" ∈ Ts) (hd : decode cc pc = .ok (.putfield index, 3)) (kk : J X nL (Wd Z (σ.setFp i v)) (pc + 3) lv rest) : J X nL (Wd Z σ) pc lv (.int v :: .ref (Z.ad (po i)) :: rest) := by
  refine J.raw (fun ρ hρ => ?_)
  exact j_put S (C := RX2) (T := TX2) (N := 4) (ty := .int) (ref := "TreadleLoom$Program") (W0 := wl Z ρ) (q0 := po i) tyX2 tyX2_ok nmX2 hin (wl_D hA) (fun _ h => h) ((wl_get Z ρ (by unfold po; omega)).trans (by rw [cell_prog Z ρ hi])) rfl 3 (by decide) hlink rfl rfl (by decide +kernel) rfl rfl (Nat.le_of_ble_eq_true rfl) hd (fun H h => ⟨_, hρ.place i v, by
    have e := wl_prog (Z := Z) (ρ := ρ) hi ((ρ.2.1 i).1, v)
    unfold WR
    rw [← e]
    exact h⟩) kk
theorem j_putGs (S : Fx X Z cc nL Ts own R) (hA : AdOk Z X.A) {σ : St} {v : Int32} (hin : ∀ q ∈ u_ws RX1 TX1 4, q ∈ Ts) (hlink : Cond.fieldLink own index "TreadleLoom$Compiler" "groupStart" "I" ∈ Ts) (hd : decode cc pc = .ok (.putfield index, 3)) (kk : J X nL (Wd Z (σ.setGs v)) (pc + 3) lv rest) : J X nL (Wd Z σ) pc lv (.int v :: .ref (Z.ad 2) :: rest) := by
  refine J.raw (fun ρ hρ => ?_)
  exact j_put S (C := RX1) (T := TX1) (N := 4) (ty := .int) (ref := "TreadleLoom$Compiler") (W0 := wl Z ρ) (q0 := 2) tyX1 tyX1_ok nmX1 hin (wl_D hA) (fun _ h => h) ((wl_get Z ρ (by omega)).trans (by rw [cell_comp Z ρ])) rfl 2 (by decide) hlink rfl rfl (by decide +kernel) rfl rfl (Nat.le_of_ble_eq_true rfl) hd (fun H h => ⟨_, hρ.gs v, by
    have e := wl_comp (Z := Z) (ρ := ρ) (v, ρ.2.2.2)
    unfold WR
    rw [← e]
    exact h⟩) kk
theorem j_putIs (S : Fx X Z cc nL Ts own R) (hA : AdOk Z X.A) {σ : St} {v : Int32} (hin : ∀ q ∈ u_ws RX1 TX1 4, q ∈ Ts) (hlink : Cond.fieldLink own index "TreadleLoom$Compiler" "itemStart" "I" ∈ Ts) (hd : decode cc pc = .ok (.putfield index, 3)) (kk : J X nL (Wd Z (σ.setIs v)) (pc + 3) lv rest) : J X nL (Wd Z σ) pc lv (.int v :: .ref (Z.ad 2) :: rest) := by
  refine J.raw (fun ρ hρ => ?_)
  exact j_put S (C := RX1) (T := TX1) (N := 4) (ty := .int) (ref := "TreadleLoom$Compiler") (W0 := wl Z ρ) (q0 := 2) tyX1 tyX1_ok nmX1 hin (wl_D hA) (fun _ h => h) ((wl_get Z ρ (by omega)).trans (by rw [cell_comp Z ρ])) rfl 3 (by decide) hlink rfl rfl (by decide +kernel) rfl rfl (Nat.le_of_ble_eq_true rfl) hd (fun H h => ⟨_, hρ.is v, by
    have e := wl_comp (Z := Z) (ρ := ρ) (ρ.2.2.1, v)
    unfold WR
    rw [← e]
    exact h⟩) kk
theorem j_rowStore (S : Fx X Z cc nL Ts own R) (hA : AdOk Z X.A) {ρ : Raw} {r : Nat} (hr : r < 30) {i v : Int32} (hin : vp_in i (cap r)) (hd : decode cc pc = .ok (.iastore, 1)) (kk : J X nL (WR Z (ρ.setAt r (upd (ρ.1 r).2 i.toNatClampNeg v))) (pc + 1) lv rest) : J X nL (WR Z ρ) pc lv (.int v :: .int i :: .ref (Z.ad (rc r)) :: rest) :=
  j_iastore S (W0 := wl Z ρ) (q0 := rc r) (wl_D hA) (fun _ h => h) ((wl_get Z ρ (by unfold rc; omega)).trans (by rw [cell_arr])) hin hd (fun H h => by
    have e := wl_cells (Z := Z) (ρ := ρ) hr (upd (ρ.1 r).2 i.toNatClampNeg v)
    unfold WR
    rw [← e]
    exact h) kk
end JW
theorem j_ldcw {X : Cx} {Z : Zx} {cc : ByteArray} {nL : Nat} {Ts : List Cond} {own : String} {R : Room} {w : Heap → Prop} {pc : Nat} {lv : List (Option Value)} {rest : List Value} (S : Fx X Z cc nL Ts own R) {index : Nat} {v : Int32} (hc : Cond.constant own index v ∈ Ts) (hd : decode cc pc = .ok (.ldc_w index, 3)) (k : J X nL w (pc + 3) lv (.int v :: rest)) : J X nL w pc lv rest :=
  fun H locs ls hw hS hl => lv_ldcw S.ex S.by S.ow (S.ts _ hc) hd (k H locs ls hw hS hl)
