/-! THE LOOM: tokens of ten programs and a tie-up; all else follows -/
abbrev Tab : Type := Nat → List Int32 × Int32 × Int32
def blkT (T : Tab) : Blk := fun b => ((T b).1, (T b).2.1)
def tabB (tok : Nat → List Int32) : Nat → Tab
  | 0 => fun _ => ([], 0, -1)
  | k + 1 => up (tabB tok k) (4 + k) (runC (blkT (tabB tok k)) (4 + k) (tok (4 + k)))
def res (tok : Nat → List Int32) (i : Nat) : List Int32 × Int32 × Int32 := if i < 4 then runC (blkT (tabB tok 6)) i (tok i) else tabB tok 6 i
def num (tok : Nat → List Int32) (i : Nat) : List Int32 := (res tok i).1
def EE (tok : Nat → List Int32) (ties : List Int32) : List Int32 := wE ties (num tok 0) (num tok 1) (num tok 1).length
def PP (tok : Nat → List Int32) (ties : List Int32) : List Int32 := wP ties (num tok 0) (num tok 1) (num tok 1).length
def ToksOk (tok : Nat → List Int32) : Prop := ∀ i, i < 10 → ∀ x ∈ tok i, tokOk x
def Good (σ : St) (tok : Nat → List Int32) (i : Nat) : Prop := σ.row (9 + 2 * i) = (res tok i).1 ∧ σ.fa i = (res tok i).2.1 ∧ σ.fp i = (res tok i).2.2
/-- the rows that are written by hand hold these -/
def Hand (σ : St) (tok : Nat → List Int32) (ties : List Int32) : Prop := (∀ i, i < 10 → σ.row (8 + 2 * i) = tok i) ∧ ToksOk tok ∧ σ.row 0 = ties ∧ ties.length = 8
def Cons (σ : St) (tok : Nat → List Int32) (ties : List Int32) : Prop := Hand σ tok ties ∧ (∀ i, i < 10 → Good σ tok i) ∧ σ.row 2 = EE tok ties ∧ σ.row 3 = PP tok ties
def WL (Z : Zx) (tok : Nat → List Int32) (ties : List Int32) (H : Heap) : Prop := ∃ σ : St, Cons σ tok ties ∧ Wd Z σ H
theorem J.WL {X : Cx} {Z : Zx} {nL pc : Nat} {tok : Nat → List Int32} {ties : List Int32} {lv : List (Option Value)} {st : List Value} (k : ∀ σ : St, Cons σ tok ties → J X nL (Wd Z σ) pc lv st) : J X nL (WL Z tok ties) pc lv st := fun H locs ls hw hS hl => by
  obtain ⟨σ, h1, h2⟩ := hw
  exact k σ h1 H locs ls h2 hS hl
theorem rd_loomL {Z : Zx} {tok : Nat → List Int32} {ties : List Int32} (H : Heap) (h : WL Z tok ties H) : va_P Z.D vwCl [(Z.ad 0, .inr (4, [.ref (Z.ad 1), .ref (Z.ad 2), .ref (Z.ad (ro 0)), .ref (Z.ad (co 0)), .ref (Z.ad (po 10)), .ref (Z.ad (ro 1)), .ref (Z.ad (co 1))]))] H := by
  obtain ⟨σ, -, h⟩ := h
  exact rd_loom H h
/-! ## what a run depends on -/
theorem blockC_cong {B B' : Blk} {own b : Nat} {c : Cst} (h : ¬ (4 ≤ own ∧ own ≤ b) → B b = B' b) : blockC B own c b = blockC B' own c b := by
  unfold blockC
  by_cases q : 4 ≤ own ∧ own ≤ b
  · rw [if_pos q, if_pos q]
  · rw [if_neg q, if_neg q, h q]
theorem readC_cong {B B' : Blk} {own k : Nat} {c : Cst} (hk : tokN k) (h : ∀ b, 4 ≤ b → b < 10 → (4 ≤ own → b < own) → B b = B' b) : readC B own c k = readC B' own c k := by
  unfold readC
  have hk2 := hk
  unfold tokN at hk2
  by_cases h1 : k ≤ 7
  · rw [if_pos h1, if_pos h1]
  by_cases h2 : k = 10
  · rw [if_neg h1, if_neg h1, if_pos h2, if_pos h2]
  by_cases h3 : k = 11
  · rw [if_neg h1, if_neg h1, if_neg h2, if_neg h2, if_pos h3, if_pos h3]
  by_cases h4 : 44 ≤ k
  · rw [if_neg h1, if_neg h1, if_neg h2, if_neg h2, if_neg h3, if_neg h3, if_pos h4, if_pos h4]
    exact blockC_cong (fun q => h (k - 40) (by omega) (by omega) (fun q4 => by omega))
  · rw [if_neg h1, if_neg h1, if_neg h2, if_neg h2, if_neg h3, if_neg h3, if_neg h4, if_neg h4]
theorem runF_cong {B B' : Blk} {own : Nat} (h : ∀ b, 4 ≤ b → b < 10 → (4 ≤ own → b < own) → B b = B' b) : ∀ (ts : List Int32) (k : Nat) (c : Cst), (∀ x ∈ ts, tokOk x) → runF B own ts k c = runF B' own ts k c
  | [], _, _, _ => rfl
  | t :: ts, k, c, ht => by
    obtain ⟨j, hj, rfl⟩ := ht t List.mem_cons_self
    have hj50 := hj.lt
    rw [runF, runF, nI_clamp (by omega), readC_cong hj h]
    rw [runF_cong h ts (k + 1) _ (fun x hx => ht x (List.mem_cons_of_mem _ hx))]
theorem runC_cong {B B' : Blk} {own : Nat} {ts : List Int32} (h : ∀ b, 4 ≤ b → b < 10 → (4 ≤ own → b < own) → B b = B' b) (ht : ∀ x ∈ ts, tokOk x) : runC B own ts = runC B' own ts := runF_cong h ts 0 _ ht
theorem tabB_later (tok : Nat → List Int32) : ∀ (j k b : Nat), b < 4 + k → tabB tok (k + j) b = tabB tok k b
  | 0, _, _, _ => rfl
  | j + 1, k, b, h => by
    rw [← Nat.add_assoc, tabB, up_ne (by omega)]
    exact tabB_later tok j k b h
/-- a block's result, by what the smaller ones came to -/
theorem res_block {tok : Nat → List Int32} {i : Nat} (h4 : 4 ≤ i) (hi : i < 10) {B : Blk} (hB : ∀ b, 4 ≤ b → b < i → B b = ((res tok b).1, (res tok b).2.1)) (ht : ∀ x ∈ tok i, tokOk x) : runC B i (tok i) = res tok i := by
  obtain ⟨k, rfl⟩ : ∃ k, i = 4 + k := ⟨i - 4, by omega⟩
  unfold res
  rw [if_neg (by omega)]
  have e1 : tabB tok 6 (4 + k) = tabB tok (k + 1) (4 + k) := by
    have := tabB_later tok (6 - (k + 1)) (k + 1) (4 + k) (by omega)
    rw [show k + 1 + (6 - (k + 1)) = 6 by omega] at this
    exact this
  rw [e1, tabB, up_self]
  refine runC_cong (fun b hb4 hb10 hb => ?_) ht
  have hbk := hb (by omega)
  rw [hB b hb4 hbk]
  unfold blkT res
  rw [if_neg (by omega)]
  have := tabB_later tok (6 - k) k b (by omega)
  rw [show k + (6 - k) = 6 by omega] at this
  rw [this]
theorem res_prog {tok : Nat → List Int32} {i : Nat} (hi : i < 4) {B : Blk} (hB : ∀ b, 4 ≤ b → b < 10 → B b = ((res tok b).1, (res tok b).2.1)) (ht : ∀ x ∈ tok i, tokOk x) : runC B i (tok i) = res tok i := by
  have e : res tok i = runC (blkT (tabB tok 6)) i (tok i) := if_pos hi
  rw [e]
  refine runC_cong (fun b hb4 hb10 hb => ?_) ht
  rw [hB b hb4 hb10]
  unfold blkT res
  rw [if_neg (by omega)]
/-- the result of i asks its own tokens, those of blocks, and of smaller ones only if it is a block -/
theorem tabB_cong {tok tok' : Nat → List Int32} : ∀ (k : Nat), (∀ b, 4 ≤ b → b < 4 + k → tok b = tok' b) → ∀ b, tabB tok k b = tabB tok' k b
  | 0, _, _ => rfl
  | k + 1, h, b => by
    have ih := tabB_cong k (fun b hb1 hb2 => h b hb1 (by omega))
    rw [tabB, tabB, h (4 + k) (by omega) (by omega), show tabB tok k = tabB tok' k from funext ih]
theorem res_cong {tok tok' : Nat → List Int32} {i : Nat} (hi : tok i = tok' i) (h : ∀ b, 4 ≤ b → b < 10 → (4 ≤ i → b ≤ i) → tok b = tok' b) : res tok i = res tok' i := by
  unfold res
  by_cases h4 : i < 4
  · rw [if_pos h4, if_pos h4, hi, show tabB tok 6 = tabB tok' 6 from funext (tabB_cong 6 (fun b h1 h2 => h b h1 (by omega) (fun q => by omega)))]
  · rw [if_neg h4, if_neg h4]
    rcases Nat.lt_or_ge i 10 with h10 | h10
    · obtain ⟨k, rfl⟩ : ∃ k, i = 4 + k := ⟨i - 4, by omega⟩
      have e : ∀ t : Nat → List Int32, tabB t 6 (4 + k) = tabB t (k + 1) (4 + k) := fun t => by
        have := tabB_later t (6 - (k + 1)) (k + 1) (4 + k) (by omega)
        rw [show k + 1 + (6 - (k + 1)) = 6 by omega] at this
        exact this
      rw [e, e]
      exact tabB_cong (k + 1) (fun b h1 h2 => h b h1 (by omega) (fun _ => by omega)) _
    · have e : ∀ (t : Nat → List Int32) (k : Nat), k ≤ 6 → tabB t k i = ([], 0, -1) := by
        intro t k
        induction k with
        | zero => intro _; rfl
        | succ k ih => intro hk; rw [tabB, up_ne (by omega)]; exact ih (by omega)
      rw [e tok 6 (Nat.le_refl _), e tok' 6 (Nat.le_refl _)]
/-! ## what a compilation leaves -/
theorem setCP_row (σ : St) (c : Cst) {t r : Nat} (l : List Int32) (u v : Int32) (h6 : r ≠ 6) (h7 : r ≠ 7) (ht : r ≠ 9 + 2 * t) : ((σ.setC c).setProg t l u v).row r = σ.row r := by
  show (if r = 9 + 2 * t then l else (σ.setC c).row r) = _
  rw [if_neg ht, setC_ne σ c h6 h7]
theorem setCP_num (σ : St) (c : Cst) (t : Nat) (l : List Int32) (u v : Int32) : ((σ.setC c).setProg t l u v).row (9 + 2 * t) = l := if_pos rfl
theorem setCP_fa (σ : St) (c : Cst) (t : Nat) (l : List Int32) (u v : Int32) : ((σ.setC c).setProg t l u v).fa t = u := by
  show (if t = t then (u, v) else _ : Int32 × Int32).1 = u
  rw [if_pos rfl]
theorem setCP_fp (σ : St) (c : Cst) (t : Nat) (l : List Int32) (u v : Int32) : ((σ.setC c).setProg t l u v).fp t = v := by
  show (if t = t then (u, v) else _ : Int32 × Int32).2 = v
  rw [if_pos rfl]
theorem setCP_fa_ne (σ : St) (c : Cst) {t i : Nat} (l : List Int32) (u v : Int32) (h : i ≠ t) : ((σ.setC c).setProg t l u v).fa i = σ.fa i := by
  show (if i = t then (u, v) else _ : Int32 × Int32).1 = _
  rw [if_neg h]; rfl
theorem setCP_fp_ne (σ : St) (c : Cst) {t i : Nat} (l : List Int32) (u v : Int32) (h : i ≠ t) : ((σ.setC c).setProg t l u v).fp i = σ.fp i := by
  show (if i = t then (u, v) else _ : Int32 × Int32).2 = _
  rw [if_neg h]; rfl
theorem Hand.comp {σ : St} {tok : Nat → List Int32} {ties : List Int32} (h : Hand σ tok ties) (c : Cst) {t : Nat} (l : List Int32) (u v : Int32) : Hand ((σ.setC c).setProg t l u v) tok ties :=
  ⟨fun i hi => (setCP_row σ c l u v (by omega) (by omega) (by omega)).trans (h.1 i hi), h.2.1, (setCP_row σ c l u v (by omega) (by omega) (by omega)).trans h.2.2.1, h.2.2.2⟩
theorem Good.comp_ne {σ : St} {tok : Nat → List Int32} {i : Nat} (h : Good σ tok i) (c : Cst) {t : Nat} (l : List Int32) (u v : Int32) (hi : i ≠ t) : Good ((σ.setC c).setProg t l u v) tok i :=
  ⟨(setCP_row σ c l u v (by omega) (by omega) (by omega)).trans h.1, (setCP_fa_ne σ c l u v hi).trans h.2.1, (setCP_fp_ne σ c l u v hi).trans h.2.2⟩
theorem Good.comp_self {σ : St} {tok : Nat → List Int32} (c : Cst) (t : Nat) {r : List Int32 × Int32 × Int32} (h : r = res tok t) : Good ((σ.setC c).setProg t r.1 r.2.1 r.2.2) tok t := by
  subst h
  exact ⟨setCP_num _ _ _ _ _ _, setCP_fa _ _ _ _ _ _, setCP_fp _ _ _ _ _ _⟩
theorem Good.blk {σ : St} {tok : Nat → List Int32} {i : Nat} (h : Good σ tok i) : blkOf σ i = ((res tok i).1, (res tok i).2.1) := by
  unfold blkOf
  rw [h.1, h.2.1]
/-- after weaving all is as the tokens and the tie-up have it -/
theorem Cons.woven {σ : St} {tok : Nat → List Int32} {ties : List Int32} (h : Hand σ tok ties) (hG : ∀ i, i < 10 → Good σ tok i) : Cons (σ.setCl 0 (wE (σ.row 0) (σ.row 9) (σ.row 11) (σ.row 11).length) (wP (σ.row 0) (σ.row 9) (σ.row 11) (σ.row 11).length)) tok ties := by
  have e9 : σ.row 9 = num tok 0 := (hG 0 (by omega)).1
  have e11 : σ.row 11 = num tok 1 := (hG 1 (by omega)).1
  refine ⟨⟨fun i hi => (setCl_ne σ _ _ (by omega) (by omega)).trans (h.1 i hi), h.2.1, (setCl_ne σ _ _ (by omega) (by omega)).trans h.2.2.1, h.2.2.2⟩, fun i hi => ⟨(setCl_ne σ _ _ (by omega) (by omega)).trans (hG i hi).1, (hG i hi).2.1, (hG i hi).2.2⟩, ?_, ?_⟩
  · rw [show (2 : Nat) = 2 + 2 * 0 from rfl, setCl_e, e9, e11, h.2.2.1]; rfl
  · rw [show (3 : Nat) = 3 + 2 * 0 from rfl, setCl_p, e9, e11, h.2.2.1]; rfl
/-- the trial's cloth, the trial's tie-up and the draft are nobody's -/
theorem Cons.trial {σ : St} {tok : Nat → List Int32} {ties : List Int32} (h : Cons σ tok ties) (E P : List Int32) : Cons (σ.setCl 1 E P) tok ties :=
  ⟨⟨fun i hi => (setCl_ne σ _ _ (by omega) (by omega)).trans (h.1.1 i hi), h.1.2.1, (setCl_ne σ _ _ (by omega) (by omega)).trans h.1.2.2.1, h.1.2.2.2⟩, fun i hi => ⟨(setCl_ne σ _ _ (by omega) (by omega)).trans (h.2.1 i hi).1, (h.2.1 i hi).2⟩, (setCl_ne σ _ _ (by omega) (by omega)).trans h.2.2.1, (setCl_ne σ _ _ (by omega) (by omega)).trans h.2.2.2⟩
theorem Cons.row1 {σ : St} {tok : Nat → List Int32} {ties : List Int32} (h : Cons σ tok ties) (l : List Int32) : Cons (σ.setRow 1 l) tok ties :=
  ⟨⟨fun i hi => (St.row_ne σ l (by omega)).trans (h.1.1 i hi), h.1.2.1, (St.row_ne σ l (by omega)).trans h.1.2.2.1, h.1.2.2.2⟩, fun i hi => ⟨(St.row_ne σ l (by omega)).trans (h.2.1 i hi).1, (h.2.1 i hi).2⟩, (St.row_ne σ l (by omega)).trans h.2.2.1, (St.row_ne σ l (by omega)).trans h.2.2.2⟩
theorem Cons.row28 {σ : St} {tok : Nat → List Int32} {ties : List Int32} (h : Cons σ tok ties) (l : List Int32) : Cons (σ.setRow 28 l) tok ties :=
  ⟨⟨fun i hi => (St.row_ne σ l (by omega)).trans (h.1.1 i hi), h.1.2.1, (St.row_ne σ l (by omega)).trans h.1.2.2.1, h.1.2.2.2⟩, fun i hi => ⟨(St.row_ne σ l (by omega)).trans (h.2.1 i hi).1, (h.2.1 i hi).2⟩, (St.row_ne σ l (by omega)).trans h.2.2.1, (St.row_ne σ l (by omega)).trans h.2.2.2⟩
theorem Cons.draft {σ : St} {tok : Nat → List Int32} {ties : List Int32} (h : Cons σ tok ties) (c : Cst) (l : List Int32) (u v : Int32) : Cons ((σ.setC c).setProg 10 l u v) tok ties :=
  ⟨h.1.comp c l u v, fun i hi => (h.2.1 i hi).comp_ne c l u v (by omega), (setCP_row σ c l u v (by omega) (by omega) (by omega)).trans h.2.2.1, (setCP_row σ c l u v (by omega) (by omega) (by omega)).trans h.2.2.2⟩
/-! ## tie-ups -/
def sshr (x p : Int32) : Int32 := x >>> (p &&& 31)
def swOne (s a b : Int32) : Int32 := s ^^^ (shl ((sshr s a ^^^ sshr s b) &&& 1) a ||| shl ((sshr s a ^^^ sshr s b) &&& 1) b)
def swT (ties : List Int32) (a b : Int32) : Nat → List Int32
  | 0 => []
  | k + 1 => swT ties a b k ++ [swOne (ties.getD k 0) a b]
theorem swT_len (ties : List Int32) (a b : Int32) : ∀ k, (swT ties a b k).length = k
  | 0 => rfl
  | k + 1 => by rw [swT, List.length_append, swT_len ties a b k]; rfl
def diffT (l l' : List Int32) : Int32 := foldN (fun a k => if l.getD k 0 = l'.getD k 0 then a else a + 1) 8
def flipT (ties : List Int32) (k : Nat) (s : Int32) : List Int32 := ties.set k (ties.getD k 0 ^^^ shl 1 s)
/-! ## answers -/
def colourI (tok : Nat → List Int32) (ties : List Int32) (x y : Nat) : Int32 := if isUpI (EE tok ties) x y = true then (num tok 2).getD (x % (num tok 2).length) 0 else (num tok 3).getD (y % (num tok 3).length) 0
def seenY (tok : Nat → List Int32) (ties : List Int32) (c : Int32) (x : Nat) (a : Int32) : Nat → Int32
  | 0 => a
  | y + 1 => if colourI tok ties x y = c then seenY tok ties c x a y + 1 else seenY tok ties c x a y
def seenX (tok : Nat → List Int32) (ties : List Int32) (c : Int32) : Nat → Int32
  | 0 => 0
  | x + 1 => seenY tok ties c x (seenX tok ties c x) (PP tok ties).length
def seenI (tok : Nat → List Int32) (ties : List Int32) (c : Int32) : Int32 := seenX tok ties c (EE tok ties).length
def whereI (E P : List Int32) (m : Nat) (b : Bool) : Int32 :=
  if firstRunI (if b = true then E else P) m < 0 then -1 else if b = true then 100 * firstRunI E m + firstI (runS (atI E (firstRunI E m)) m) else 100 * firstI (runS (atI P (firstRunI P m)) m) + firstRunI P m
def clothI (tok : Nat → List Int32) (ties : List Int32) (k : Nat) : Int32 := match k with
  | 0 => nI (EE tok ties).length
  | 1 => nI (PP tok ties).length
  | 2 => countBitsI (EE tok ties)
  | 3 => longestC (EE tok ties) (PP tok ties)
  | 4 => countRunsI (EE tok ties) 1
  | 5 => countRunsI (PP tok ties) 1
  | 6 => distinctI (num tok 0)
  | 7 => distinctI (num tok 1)
  | 8 => distinctI (EE tok ties)
  | _ => distinctI (PP tok ties)
def progI (tok : Nat → List Int32) (i k : Nat) : Int32 := match k with
  | 0 => nI (tok i).length
  | 1 => nI (num tok i).length
  | 2 => (res tok i).2.1
  | _ => (res tok i).2.2
def fieldI (tok : Nat → List Int32) (ties : List Int32) (x y k : Nat) : Int32 := match k with
  | 0 => b2i (isUpI (EE tok ties) x y)
  | 1 => colourI tok ties x y
  | _ => floatI (EE tok ties) (PP tok ties) x y
def floatsI (E P : List Int32) (m : Nat) : Int32 := countRunsI E m + countRunsI P m
def repeatI (E P : List Int32) (b : Bool) : Int32 := if hasF E P = true then (if b = true then periodI E else periodI P) else 0
def reachI (E P : List Int32) (b : Bool) : Int32 := if hasF E P = true then (if b = true then bitC (endsR E P false) else bitC (picksR E P false)) else 0
def changedI (E E' : List Int32) : Int32 := foldN (fun a i => a + bitC (E.getD i 0 ^^^ E'.getD i 0)) E.length
def mixI (d : Int64) (v : Int32) : Int64 := d * 31 + v.toInt64
