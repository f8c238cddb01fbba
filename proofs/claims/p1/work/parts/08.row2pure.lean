/-! LOOPS OVER A ROW -/
def addAllI (c : Nat) (l src : List Int32) : List Int32 := (l ++ src).take c
theorem addAllI_0 {c : Nat} {l src : List Int32} (h : l.length ≤ c) : addAllI c l (src.take 0) = l := by
  unfold addAllI
  rw [List.take_zero, List.append_nil, List.take_of_length_le h]
theorem addAllI_step {c i : Nat} {l src : List Int32} (h : i < src.length) : addI c (addAllI c l (src.take i)) (src.getD i 0) = addAllI c l (src.take (i + 1)) := by
  unfold addAllI addI
  have e : src.take (i + 1) = src.take i ++ [src.getD i 0] := by
    rw [List.take_succ_eq_append_getElem h, List.getD_eq_getElem?_getD, List.getElem?_eq_getElem h]
    rfl
  rw [e, ← List.append_assoc]
  generalize l ++ src.take i = a
  generalize src.getD i 0 = x
  by_cases h1 : a.length < c
  · rw [List.take_of_length_le (by omega), if_pos h1, List.take_of_length_le (by simp; omega)]
  · rw [if_neg (by rw [List.length_take]; omega), List.take_append_of_le_length (by omega)]
theorem addAllI_len (c : Nat) (l src : List Int32) : (addAllI c l src).length ≤ c := by
  unfold addAllI
  rw [List.length_take]
  omega
def hasPer (l : List Int32) (p : Nat) : Bool := allF (fun i => l.getD i 0 == l.getD (i - p) 0) (l.length - p) p
def periodI (l : List Int32) : Int32 := findI (fun p => hasPer l p) (nI l.length) (l.length - 1) 1
def firstPl (l : List Int32) (v : Int32) : Int32 := findI (fun i => l.getD i 0 == v) (-1) l.length 0
def distinctI (l : List Int32) : Int32 := foldN (fun a i => if firstPl l (l.getD i 0) = nI i then a + 1 else a) l.length
/-- java.lang.Integer.bitCount -/
def bitC1 (x : Int32) : Int32 := x - (ush x 1 &&& 1431655765)
def bitC2 (x : Int32) : Int32 := (x &&& 858993459) + (ush x 2 &&& 858993459)
def bitC3 (x : Int32) : Int32 := (x + ush x 4) &&& 252645135
def bitC4 (x : Int32) : Int32 := x + ush x 8
def bitC5 (x : Int32) : Int32 := x + ush x 16
def bitC (x : Int32) : Int32 := bitC5 (bitC4 (bitC3 (bitC2 (bitC1 x)))) &&& 63
def countBitsI (l : List Int32) : Int32 := foldN (fun a i => a + bitC (l.getD i 0)) l.length
def countRunsI (l : List Int32) (m : Nat) : Int32 := foldN (fun a i => a + bitC (runS (l.getD i 0) m)) l.length
def firstRunI (l : List Int32) (m : Nat) : Int32 := findI (fun i => !(runS (l.getD i 0) m == 0)) (-1) l.length 0
def longestI (l : List Int32) : Int32 := foldN (fun a i => if a < lrunI (l.getD i 0) then lrunI (l.getD i 0) else a) l.length
/-- the order turned round from k on: two ends swapped, t times -/
def turnN (l : List Int32) (k : Nat) : Nat → List Int32
  | 0 => l
  | t + 1 => ((turnN l k t).set (k + t) ((turnN l k t).getD (l.length - 1 - t) 0)).set (l.length - 1 - t) ((turnN l k t).getD (k + t) 0)
def turnI (l : List Int32) (k : Nat) : List Int32 := turnN l k ((l.length - k) / 2)
theorem turnN_len (l : List Int32) (k : Nat) : ∀ t, (turnN l k t).length = l.length
  | 0 => rfl
  | t + 1 => by rw [turnN, List.length_set, List.length_set, turnN_len l k t]
theorem turn_exit {n k t : Nat} {y : Int32} (hn : n < 2 ^ 31) (hk : k < 2 ^ 30) (ht : t = (n - k) / 2) (hy : t < n → y = nI (n - 1 - t)) (hy0 : n ≤ t → y < 0) : y ≤ nI (k + t) := by
  rcases Nat.lt_or_ge t n with q | q
  · rw [hy q, nI_leI (by omega) (by omega)]
    omega
  · exact Int32.le_of_lt (Int32.lt_of_lt_of_le (hy0 q) (nI_pos' (by omega)))
