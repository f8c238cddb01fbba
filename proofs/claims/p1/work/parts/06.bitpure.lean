/-! SETS OF BITS: what the functions over one int answer -/
def ush (x p : Int32) : Int32 := (x.toUInt32 >>> (p.toUInt32 &&& Int32.toUInt32 31)).toInt32
def shl (x p : Int32) : Int32 := x <<< (p &&& 31)
def b2i (b : Bool) : Int32 := if b = true then 1 else 0
theorem b2i_0 {b : Bool} : b2i b = 0 ↔ b = false := by cases b <;> decide
theorem b2i_n0 {b : Bool} : ¬ b2i b = 0 ↔ b = true := by cases b <;> decide
theorem b2i_nar (b : Bool) : narrow .boolean (.int (b2i b)) = .int (b2i b) := by cases b <;> rfl
def bitI (x p : Int32) : Bool := !(ush x p &&& 1 == 0)
theorem bitI_f {x p : Int32} (h : ush x p &&& 1 = 0) : b2i (bitI x p) = 0 := by unfold bitI; rw [h]; rfl
theorem bitI_t {x p : Int32} (h : ¬ ush x p &&& 1 = 0) : b2i (bitI x p) = 1 := by
  unfold bitI
  rw [beq_eq_false_iff_ne.mpr h]
  rfl
def fullI (n : Int32) : Int32 := if 0 < n then ush (-1) (32 - n) else 0
def findI (p : Nat → Bool) (d : Int32) : Nat → Nat → Int32
  | 0, _ => d
  | f + 1, i => if p i = true then nI i else findI p d f (i + 1)
def allF (p : Nat → Bool) : Nat → Nat → Bool
  | 0, _ => true
  | f + 1, i => p i && allF p f (i + 1)
def foldN (g : Int32 → Nat → Int32) : Nat → Int32
  | 0 => 0
  | k + 1 => g (foldN g k) k
def firstI (x : Int32) : Int32 := findI (fun k => bitI x (nI k)) (-1) 32 0
/-- x and x moved by 1, by 2, .. -/
def follow (x : Int32) : Nat → Int32
  | 0 => x
  | k + 1 => follow x k &&& ush x (nI (k + 1))
def runS (x : Int32) (m : Nat) : Int32 := follow x (min m 32 - 1) &&& (shl x 1 ^^^ (-1))
def lrF : Nat → Int32 → Nat
  | 0, _ => 0
  | f + 1, x => if x = 0 then 0 else lrF f (x &&& ush x 1) + 1
def lrunI (x : Int32) : Int32 := nI (lrF 32 x)
def upF (x : Int32) : Nat → Nat → Nat
  | 0, _ => 0
  | f + 1, i => if bitI x (nI i) = true then upF x f (i + 1) + 1 else 0
def downF (x : Int32) : Nat → Nat
  | 0 => 0
  | i + 1 => if bitI x (nI i) = true then downF x i + 1 else 0
theorem upF_le (x : Int32) : ∀ f i, upF x f i ≤ f
  | 0, _ => Nat.le_refl _
  | f + 1, i => by
    rw [upF]
    split
    · have := upF_le x f (i + 1); omega
    · omega
theorem downF_le (x : Int32) : ∀ i, downF x i ≤ i
  | 0 => Nat.le_refl _
  | i + 1 => by
    rw [downF]
    split
    · have := downF_le x i; omega
    · omega
theorem lrF_le : ∀ f x, lrF f x ≤ f
  | 0, _ => Nat.le_refl _
  | f + 1, x => by
    rw [lrF]
    split
    · omega
    · have := lrF_le f (x &&& ush x 1); omega
def aroundI (x : Int32) (k : Nat) : Int32 := nI (upF x (32 - k) k + downF x k)
theorem nI32 : (32 : Int32) = nI 32 := rfl
theorem nI_0m : nI 0 + (-1) < 0 := by decide
theorem nI_0s : nI 0 - 1 < 0 := by decide
