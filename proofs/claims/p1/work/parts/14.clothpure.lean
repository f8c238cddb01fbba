/-! THE CLOTH: what weaving makes, and what is asked of it -/
def upB (ti th tr : List Int32) (x y : Nat) : Bool := bitI (atI ti (tr.getD y 0)) (th.getD x 0)
def inE (ti th tr l : List Int32) (y : Nat) : Nat → List Int32
  | 0 => l
  | x + 1 => if upB ti th tr x y = true then (inE ti th tr l y x).set x ((inE ti th tr l y x).getD x 0 ||| shl 1 (nI y)) else inE ti th tr l y x
def wE (ti th tr : List Int32) : Nat → List Int32
  | 0 => List.replicate th.length 0
  | y + 1 => inE ti th tr (wE ti th tr y) y th.length
def dnF (ti th tr : List Int32) (y : Nat) : Nat → Int32
  | 0 => 0
  | x + 1 => if upB ti th tr x y = true then dnF ti th tr y x else dnF ti th tr y x ||| shl 1 (nI x)
def wP (ti th tr : List Int32) : Nat → List Int32
  | 0 => []
  | y + 1 => wP ti th tr y ++ [dnF ti th tr y th.length]
theorem inE_len (ti th tr l : List Int32) (y : Nat) : ∀ x, (inE ti th tr l y x).length = l.length
  | 0 => rfl
  | x + 1 => by
    rw [inE]
    split
    · rw [List.length_set, inE_len ti th tr l y x]
    · exact inE_len ti th tr l y x
theorem wE_len (ti th tr : List Int32) : ∀ y, (wE ti th tr y).length = th.length
  | 0 => List.length_replicate
  | y + 1 => by rw [wE, inE_len, wE_len ti th tr y]
theorem wP_len (ti th tr : List Int32) : ∀ y, (wP ti th tr y).length = y
  | 0 => rfl
  | y + 1 => by rw [wP, List.length_append, wP_len ti th tr y]; rfl
def St.setCl (σ : St) (t : Nat) (E P : List Int32) : St := (fun j => if j = 2 + 2 * t then E else if j = 3 + 2 * t then P else σ.1 j, σ.2)
theorem setCl_e (σ : St) (t : Nat) (E P : List Int32) : (σ.setCl t E P).row (2 + 2 * t) = E := if_pos rfl
theorem setCl_p (σ : St) (t : Nat) (E P : List Int32) : (σ.setCl t E P).row (3 + 2 * t) = P := by
  show (if 3 + 2 * t = 2 + 2 * t then E else if 3 + 2 * t = 3 + 2 * t then P else _) = P
  rw [if_neg (by omega), if_pos rfl]
theorem setCl_ne (σ : St) {t r : Nat} (E P : List Int32) (h1 : r ≠ 2 + 2 * t) (h2 : r ≠ 3 + 2 * t) : (σ.setCl t E P).row r = σ.row r := by
  show (if r = 2 + 2 * t then E else if r = 3 + 2 * t then P else _) = _
  rw [if_neg h1, if_neg h2]; rfl
theorem setCl_re (σ : St) (t : Nat) (E P E' : List Int32) : (σ.setCl t E P).setRow (2 + 2 * t) E' = σ.setCl t E' P := by
  refine Prod.ext (funext fun j => ?_) rfl
  show (if j = 2 + 2 * t then E' else if j = 2 + 2 * t then E else _) = (if j = 2 + 2 * t then E' else _)
  by_cases h : j = 2 + 2 * t
  · rw [if_pos h, if_pos h]
  · rw [if_neg h, if_neg h, if_neg h]
theorem setCl_rp (σ : St) (t : Nat) (E P P' : List Int32) : (σ.setCl t E P).setRow (3 + 2 * t) P' = σ.setCl t E P' := by
  refine Prod.ext (funext fun j => ?_) rfl
  show (if j = 3 + 2 * t then P' else if j = 2 + 2 * t then E else if j = 3 + 2 * t then P else _) = (if j = 2 + 2 * t then E else if j = 3 + 2 * t then P' else _)
  by_cases h : j = 3 + 2 * t
  · rw [if_pos h, if_neg (by omega), if_pos h]
  · rw [if_neg h]
    by_cases h2 : j = 2 + 2 * t
    · rw [if_pos h2, if_pos h2]
    · rw [if_neg h2, if_neg h2, if_neg h, if_neg h]
theorem setCl_of (σ : St) (t : Nat) (E : List Int32) : σ.setRow (2 + 2 * t) E = σ.setCl t E (σ.row (3 + 2 * t)) := by
  refine Prod.ext (funext fun j => ?_) rfl
  show (if j = 2 + 2 * t then E else σ.1 j) = (if j = 2 + 2 * t then E else if j = 3 + 2 * t then σ.1 (3 + 2 * t) else σ.1 j)
  by_cases h : j = 2 + 2 * t
  · rw [if_pos h, if_pos h]
  · rw [if_neg h, if_neg h]
    by_cases h2 : j = 3 + 2 * t
    · rw [if_pos h2, h2]
    · rw [if_neg h2]
theorem addI_repl {c i : Nat} (h : i < c) : addI c (List.replicate i 0) 0 = List.replicate (i + 1) 0 := by
  rw [addI_lt (by rw [List.length_replicate]; exact h), List.replicate_succ']
def nxF (l : List Int32) (mem : Int32) (bk : Bool) : Nat → Int32
  | 0 => 0
  | i + 1 => if bitI mem (nI i) = true then nxF l mem bk i ||| (if bk = true then l.getD i 0 ^^^ (-1) else l.getD i 0) else nxF l mem bk i
def nextI (l : List Int32) (mem : Int32) (n : Nat) (bk : Bool) : Int32 := nxF l mem bk l.length &&& fullI (nI n)
def moreI (E P : List Int32) (bk : Bool) (x : Int32) : Int32 := x ||| nextI P (nextI E x P.length bk) E.length bk
def erF (E P : List Int32) (bk : Bool) : Nat → Int32 → Int32
  | 0, x => x
  | f + 1, x => if moreI E P bk x = x then x else erF E P bk f (moreI E P bk x)
def endsR (E P : List Int32) (bk : Bool) : Int32 := erF E P bk 32 1
def picksR (E P : List Int32) (bk : Bool) : Int32 := nextI E (endsR E P bk) P.length bk
def allR (E P : List Int32) (bk : Bool) : Bool := endsR E P bk == fullI (nI E.length) && picksR E P bk == fullI (nI P.length)
def hasF (E P : List Int32) : Bool := decide (0 < E.length ∧ 0 < P.length)
def connI (E P : List Int32) : Bool := hasF E P && (allR E P false && allR E P true)
def isUpI (E : List Int32) (x y : Nat) : Bool := bitI (E.getD x 0) (nI y)
def floatI (E P : List Int32) (x y : Nat) : Int32 := if isUpI E x y = true then aroundI (E.getD x 0) y else aroundI (P.getD y 0) x
def longestC (E P : List Int32) : Int32 := if longestI E < longestI P then longestI P else longestI E
theorem b2i_eq {a b : Int32} : (if a = b then b2i true else b2i false) = b2i (a == b) := by
  by_cases h : a = b
  · rw [if_pos h, beq_iff_eq.mpr h]
  · rw [if_neg h, beq_eq_false_iff_ne.mpr h]
