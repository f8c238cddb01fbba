/-! THE COMPILER's STATE: numbers, outer starts, the group's start, the item's start; what each step does to it -/
abbrev Cst : Type := List Int32 × List Nat × Nat × Option Nat
def optI : Option Nat → Int32
  | none => -1
  | some i => nI i
def St.setC (σ : St) (c : Cst) : St := (fun j => if j = 6 then c.1 else if j = 7 then c.2.1.map nI else σ.1 j, σ.2.1, nI c.2.2.1, optI c.2.2.2)
def CInv (c : Cst) : Prop := c.1.length ≤ 1312 ∧ c.2.2.1 ≤ c.1.length ∧ (∀ i, c.2.2.2 = some i → i ≤ c.1.length) ∧ (∀ o ∈ c.2.1, o ≤ c.1.length) ∧ c.2.1.length ≤ 41
theorem setC_6 (σ : St) (c : Cst) : (σ.setC c).row 6 = c.1 := rfl
theorem setC_7 (σ : St) (c : Cst) : (σ.setC c).row 7 = c.2.1.map nI := rfl
theorem setC_ne (σ : St) (c : Cst) {r : Nat} (h6 : r ≠ 6) (h7 : r ≠ 7) : (σ.setC c).row r = σ.row r := by
  show (if r = 6 then _ else if r = 7 then _ else _) = _
  rw [if_neg h6, if_neg h7]; rfl
theorem setC_row6 (σ : St) (c : Cst) (l : List Int32) : (σ.setC c).setRow 6 l = σ.setC (l, c.2) := by
  refine Prod.ext (funext fun j => ?_) rfl
  show (if j = 6 then l else if j = 6 then _ else _) = (if j = 6 then l else _)
  by_cases h : j = 6
  · rw [if_pos h, if_pos h]
  · rw [if_neg h, if_neg h, if_neg h]
theorem setC_row7 (σ : St) (c : Cst) (o : List Nat) : (σ.setC c).setRow 7 (o.map nI) = σ.setC (c.1, o, c.2.2) := by
  refine Prod.ext (funext fun j => ?_) rfl
  show (if j = 7 then o.map nI else if j = 6 then _ else if j = 7 then _ else _) = (if j = 6 then _ else if j = 7 then _ else _)
  by_cases h : j = 7
  · subst h; rfl
  · rw [if_neg h]
    by_cases h6 : j = 6
    · rw [if_pos h6, if_pos h6]
    · rw [if_neg h6, if_neg h6, if_neg h, if_neg h]
theorem setC_gs (σ : St) (c : Cst) (g : Nat) : (σ.setC c).setGs (nI g) = σ.setC (c.1, c.2.1, g, c.2.2.2) := rfl
theorem setC_is (σ : St) (c : Cst) (i : Option Nat) : (σ.setC c).setIs (optI i) = σ.setC (c.1, c.2.1, c.2.2.1, i) := rfl
theorem setC_start (σ : St) : (((σ.setRow 6 []).setRow 7 []).setGs 0).setIs (-1) = σ.setC ([], [], 0, none) := by
  refine Prod.ext (funext fun j => ?_) rfl
  show (if j = 7 then ([] : List Int32) else if j = 6 then [] else σ.1 j) = (if j = 6 then [] else if j = 7 then [] else σ.1 j)
  by_cases h : j = 7
  · subst h; rfl
  · rw [if_neg h]
    by_cases h6 : j = 6
    · rw [if_pos h6, if_pos h6]
    · rw [if_neg h6, if_neg h6, if_neg h]
def roomC (c : Cst) (m : Nat) : Bool := decide (c.1.length - c.2.2.1 + m ≤ 32)
def beginC (c : Cst) : Cst := (c.1, c.2.1, c.2.2.1, some c.1.length)
def addC (c : Cst) (v : Int32) : Cst := (addI 1312 c.1 v, c.2)
def openC (c : Cst) : Cst := (c.1, if c.2.1.length < 41 then c.2.1 ++ [c.2.2.1] else c.2.1, c.1.length, none)
def closeC (c : Cst) : Cst := (c.1, c.2.1.take (c.2.1.length - 1), c.2.1.getD (c.2.1.length - 1) 0, some c.2.2.1)
def numberC (c : Cst) (v : Int32) : Int32 × Cst := if roomC c 1 = true then (0, addC (beginC c) v) else (5, c)
def closeG (c : Cst) : Int32 × Cst := if c.2.1.length = 0 then (2, c) else (if roomC (closeC c) 0 = true then 0 else 5, closeC c)
def addAllC (c : Cst) (l : List Int32) : Cst := (addAllI 1312 c.1 l, c.2)
/-- what the blocks are: numbers, fault -/
abbrev Blk : Type := Nat → List Int32 × Int32
def blockC (B : Blk) (own : Nat) (c : Cst) (b : Nat) : Int32 × Cst :=
  if 4 ≤ own ∧ own ≤ b then (4, c) else if (B b).2 = 0 then (if roomC c (B b).1.length = true then (0, addAllC (beginC c) (B b).1) else (5, c)) else (6, c)
def mirN (l : List Int32) (top : Nat) : Nat → List Int32
  | 0 => l
  | t + 1 => addI 1312 (mirN l top t) ((mirN l top t).getD (top - t) 0)
def mirrorC (c : Cst) : Int32 × Cst := if roomC c (c.1.length - 2 - c.2.2.1) = true then (0, (mirN c.1 (c.1.length - 2) (c.1.length - 2 - c.2.2.1), c.2.1, c.2.2.1, some c.1.length)) else (5, c)
def raiseN (l : List Int32) (i : Nat) (d : Int32) : Nat → List Int32
  | 0 => l
  | t + 1 => (raiseN l i d t).set (i + t) (((raiseN l i d t).getD (i + t) 0 + d) &&& 7)
def raiseC (c : Cst) (i : Nat) (d : Int32) : Cst := (raiseN c.1 i d (c.1.length - i), c.2)
def repN (l : List Int32) (i : Nat) : Nat → List Int32
  | 0 => l
  | t + 1 => addI 1312 (repN l i t) ((repN l i t).getD (i + t) 0)
def repeatC (c : Cst) (i k : Nat) : Int32 × Cst := if roomC c ((c.1.length - i) * k) = true then (0, (repN c.1 i ((c.1.length - i) * k), c.2)) else (5, c)
def changeC (c : Cst) (k : Nat) : Int32 × Cst := match c.2.2.2 with
  | none => (1, c)
  | some i => if k = 30 then (0, (turnI c.1 i, c.2)) else if k = 31 then mirrorC c else if k = 32 then (0, raiseC c i 1) else if k = 33 then (0, raiseC c i (-1)) else repeatC c i (k - 21)
def readC (B : Blk) (own : Nat) (c : Cst) (k : Nat) : Int32 × Cst :=
  if k ≤ 7 then numberC c (nI k) else if k = 10 then (0, openC c) else if k = 11 then closeG c else if 44 ≤ k then blockC B own c (k - 40) else changeC c k
def tokN (k : Nat) : Prop := k ≤ 7 ∨ k = 10 ∨ k = 11 ∨ (22 ≤ k ∧ k ≤ 33) ∨ (44 ≤ k ∧ k ≤ 49)
def tokOk (t : Int32) : Prop := ∃ k : Nat, tokN k ∧ t = nI k
theorem tokN.lt {k : Nat} (h : tokN k) : k < 50 := by unfold tokN at h; omega
def runF (B : Blk) (own : Nat) : List Int32 → Nat → Cst → List Int32 × Int32 × Int32
  | [], k, c => if c.2.1.length = 0 then (addAllI 32 [] c.1, 0, -1) else ([], 3, nI k)
  | t :: ts, k, c => if (readC B own c t.toNatClampNeg).1 = 0 then runF B own ts (k + 1) (readC B own c t.toNatClampNeg).2 else ([], (readC B own c t.toNatClampNeg).1, nI k)
def runC (B : Blk) (own : Nat) (toks : List Int32) : List Int32 × Int32 × Int32 := runF B own toks 0 ([], [], 0, none)
theorem addI_len {c : Nat} {l : List Int32} {v : Int32} (h : l.length ≤ c) : l.length ≤ (addI c l v).length ∧ (addI c l v).length ≤ c := by
  unfold addI
  split
  · rw [List.length_append]; simp; omega
  · omega
theorem addAllI_ge {c : Nat} {l src : List Int32} (h : l.length ≤ c) : l.length ≤ (addAllI c l src).length := by
  unfold addAllI
  rw [List.length_take, List.length_append]
  omega
theorem mirN_len {l : List Int32} (top : Nat) (h : l.length ≤ 1312) : ∀ t, l.length ≤ (mirN l top t).length ∧ (mirN l top t).length ≤ 1312
  | 0 => ⟨Nat.le_refl _, h⟩
  | t + 1 => by
    have h1 := mirN_len top h t
    have h2 := addI_len (v := (mirN l top t).getD (top - t) 0) h1.2
    rw [mirN]
    omega
theorem repN_len {l : List Int32} (i : Nat) (h : l.length ≤ 1312) : ∀ t, l.length ≤ (repN l i t).length ∧ (repN l i t).length ≤ 1312
  | 0 => ⟨Nat.le_refl _, h⟩
  | t + 1 => by
    have h1 := repN_len i h t
    have h2 := addI_len (v := (repN l i t).getD (i + t) 0) h1.2
    rw [repN]
    omega
theorem raiseN_len (l : List Int32) (i : Nat) (d : Int32) : ∀ t, (raiseN l i d t).length = l.length
  | 0 => rfl
  | t + 1 => by rw [raiseN, List.length_set, raiseN_len l i d t]
/-- more numbers, the same marks -/
theorem CInv.grow {c : Cst} (h : CInv c) {l : List Int32} {it : Option Nat} (h1 : c.1.length ≤ l.length) (h2 : l.length ≤ 1312) (hi : ∀ i, it = some i → i ≤ l.length) : CInv (l, c.2.1, c.2.2.1, it) :=
  ⟨h2, Nat.le_trans h.2.1 h1, hi, fun o ho => Nat.le_trans (h.2.2.2.1 o ho) h1, h.2.2.2.2⟩
theorem CInv.begin {c : Cst} (h : CInv c) : CInv (beginC c) := h.grow (Nat.le_refl _) h.1 (fun i e => by cases e; exact Nat.le_refl _)
theorem CInv.add {c : Cst} (h : CInv c) (v : Int32) : CInv (addC c v) := by
  have h1 := addI_len (v := v) h.1
  exact h.grow (it := c.2.2.2) h1.1 h1.2 (fun i e => Nat.le_trans (h.2.2.1 i e) h1.1)
theorem CInv.addAll {c : Cst} (h : CInv c) (l : List Int32) : CInv (addAllC c l) :=
  h.grow (it := c.2.2.2) (addAllI_ge h.1) (addAllI_len _ _ _) (fun i e => Nat.le_trans (h.2.2.1 i e) (addAllI_ge h.1))
theorem CInv.opn {c : Cst} (h : CInv c) : CInv (openC c) := by
  refine ⟨h.1, Nat.le_refl _, fun i e => (by cases e), fun o ho => ?_, ?_⟩
  · unfold openC at ho
    dsimp only at ho
    split at ho
    · rcases List.mem_append.mp ho with q | q
      · exact h.2.2.2.1 o q
      · rw [List.mem_singleton.mp q]; exact h.2.1
    · exact h.2.2.2.1 o ho
  · unfold openC
    dsimp only
    split
    · rw [List.length_append]; simp; omega
    · exact h.2.2.2.2
theorem getD_mem_or {l : List Nat} {i : Nat} : l.getD i 0 ∈ l ∨ l.getD i 0 = 0 := by
  rw [List.getD_eq_getElem?_getD]
  cases h : l[i]? with
  | none => exact Or.inr rfl
  | some x => exact Or.inl (List.mem_of_getElem? h)
theorem CInv.close {c : Cst} (h : CInv c) : CInv (closeC c) := by
  refine ⟨h.1, ?_, fun i e => ?_, fun o ho => h.2.2.2.1 o (List.mem_of_mem_take ho), ?_⟩
  · rcases getD_mem_or (l := c.2.1) (i := c.2.1.length - 1) with q | q
    · exact h.2.2.2.1 _ q
    · show c.2.1.getD (c.2.1.length - 1) 0 ≤ _
      rw [q]; exact Nat.zero_le _
  · cases e; exact h.2.1
  · show (c.2.1.take (c.2.1.length - 1)).length ≤ 41
    rw [List.length_take]
    have := h.2.2.2.2
    omega
theorem CInv.read {B : Blk} {own : Nat} {c : Cst} (h : CInv c) (k : Nat) : CInv (readC B own c k).2 := by
  unfold readC numberC closeG blockC changeC mirrorC repeatC
  repeat' split
  all_goals first
    | exact h
    | exact h.begin.add _
    | exact h.opn
    | exact h.close
    | exact h.begin.addAll _
    | exact h.grow (it := c.2.2.2) (mirN_len _ h.1 _).1 (mirN_len _ h.1 _).2 (fun i e => Nat.le_trans (h.2.2.1 i e) (mirN_len _ h.1 _).1)
    | exact h.grow (mirN_len _ h.1 _).1 (mirN_len _ h.1 _).2 (fun i e => by cases e; exact (mirN_len _ h.1 _).1)
    | exact h.grow (it := c.2.2.2) (repN_len _ h.1 _).1 (repN_len _ h.1 _).2 (fun i e => Nat.le_trans (h.2.2.1 i e) (repN_len _ h.1 _).1)
    | exact h.grow (it := c.2.2.2) (Nat.le_of_eq (turnN_len _ _ _).symm) (by dsimp only [turnI]; rw [turnN_len]; exact h.1) (fun i e => Nat.le_trans (h.2.2.1 i e) (Nat.le_of_eq (turnN_len _ _ _).symm))
    | exact h.grow (it := c.2.2.2) (Nat.le_of_eq (raiseN_len _ _ _ _).symm) (by rw [raiseN_len]; exact h.1) (fun i e => Nat.le_trans (h.2.2.1 i e) (Nat.le_of_eq (raiseN_len _ _ _ _).symm))
def St.setProg (σ : St) (t : Nat) (num : List Int32) (fa fp : Int32) : St := (up σ.1 (9 + 2 * t) num, up σ.2.1 t (fa, fp), σ.2.2)
theorem setProg_eq (σ : St) (t : Nat) (num : List Int32) (fa fp : Int32) : ((σ.setRow (9 + 2 * t) num).setFa t fa).setFp t fp = σ.setProg t num fa fp := by
  refine Prod.ext rfl (Prod.ext (funext fun j => ?_) rfl)
  show (if j = t then ((if t = t then _ else _ : Int32 × Int32).1, fp) else if j = t then _ else _) = (if j = t then (fa, fp) else _)
  rw [if_pos rfl]
  by_cases h : j = t
  · rw [if_pos h, if_pos h]
  · rw [if_neg h, if_neg h, if_neg h]; rfl
theorem cap_odd {t : Nat} (h : t < 11) : cap (9 + 2 * t) = 32 := by unfold cap; rw [if_neg (by omega), if_neg (by omega), if_neg (by omega), if_neg (by omega), if_neg (by omega)]
theorem cap_even {t : Nat} (h : t < 11) : cap (8 + 2 * t) = 40 := by unfold cap; rw [if_neg (by omega), if_neg (by omega), if_neg (by omega), if_neg (by omega), if_pos (by omega)]
theorem optI_n1 {it : Option Nat} (h : ∀ i, it = some i → i < 2 ^ 31) : optI it = -1 ↔ it = none := by
  cases it with
  | none => exact ⟨fun _ => rfl, fun _ => rfl⟩
  | some i =>
    refine ⟨fun e => ?_, fun e => by cases e⟩
    have h1 := nI_pos (h i rfl)
    rw [show nI i = -1 from e] at h1
    exact absurd (by decide) h1
theorem roomC_t {c : Cst} {m : Nat} (h : CInv c) (hm : m ≤ 20000) : ¬ (32 : Int32) < nI c.1.length - nI c.2.2.1 + nI m ↔ roomC c m = true := by
  have h1 := h.1
  have h2 := h.2.1
  rw [pk_sub h2, nI_add, nI32, nI_ltI (by omega) (by omega)]
  unfold roomC
  rw [decide_eq_true_eq]
  omega
theorem mir_num {n g : Nat} {y : Int32} (hn : n ≤ 1312) (hg : g ≤ n) (h1 : 2 ≤ n → y = nI (n - 2)) (h2 : n < 2 → y < 0) (h3 : n < 2 → y = nI n - 2) : (if (0 : Int32) < y - nI g then y - nI g else 0) = nI (n - 2 - g) := by
  by_cases h : 2 ≤ n
  · rw [h1 h]
    by_cases hg2 : g ≤ n - 2
    · rw [pk_sub hg2]
      by_cases h0 : n - 2 - g = 0
      · rw [h0, if_neg (by decide)]; rfl
      · rw [if_pos (by rw [← nI_0]; exact (nI_ltI (by omega) (by omega)).mpr (by omega))]
    · rw [if_neg (fun q => Int32.lt_irrefl (Int32.lt_trans q (pk_sneg (by omega) (by omega)))), show n - 2 - g = 0 by omega]; rfl
  · have hn2 : n < 2 := by omega
    rw [h3 hn2, show n - 2 - g = 0 by omega]
    have hc : (n = 0 ∧ g = 0) ∨ (n = 1 ∧ g = 0) ∨ (n = 1 ∧ g = 1) := by omega
    rcases hc with ⟨rfl, rfl⟩ | ⟨rfl, rfl⟩ | ⟨rfl, rfl⟩ <;> decide
