/-! BITS of an Int32 (the first rows pasted from the kit's BITS, COUNTS), and how many there are -/
def bt (x : Int32) (i : Nat) : Bool := x.toBitVec.getLsbD i
theorem b_ext {x y : Int32} (h : ∀ i, i < 32 → bt x i = bt y i) : x = y := Int32.toBitVec_inj.mp (BitVec.eq_of_getLsbD_eq (fun i hi => h i hi))
theorem b_or (x y : Int32) (i : Nat) : bt (x ||| y) i = (bt x i || bt y i) := by unfold bt; rw [Int32.toBitVec_or, BitVec.getLsbD_or]
theorem b_and (x y : Int32) (i : Nat) : bt (x &&& y) i = (bt x i && bt y i) := by unfold bt; rw [Int32.toBitVec_and, BitVec.getLsbD_and]
theorem b_xor (x y : Int32) (i : Nat) : bt (x ^^^ y) i = (bt x i ^^ bt y i) := by unfold bt; rw [Int32.toBitVec_xor, BitVec.getLsbD_xor]
theorem b_big {x : Int32} {i : Nat} (h : 32 ≤ i) : bt x i = false := BitVec.getLsbD_of_ge _ _ h
theorem b_m1 : ∀ i, i < 32 → bt (-1) i = true := by decide +kernel
theorem b_0 (i : Nat) : bt 0 i = false := BitVec.getLsbD_zero
theorem s_l : ∀ n, n < 32 → ((nI n &&& 31).toBitVec.smod 32).toNat = n := by decide +kernel
theorem s_u : ∀ n, n < 32 → (((nI n).toUInt32 &&& Int32.toUInt32 31).toBitVec % 32).toNat = n := by decide +kernel
theorem b_shl (n : Nat) (hn : n < 32) (x : Int32) {i : Nat} (hi : i < 32) : bt (shl x (nI n)) i = (decide (n ≤ i) && bt x (i - n)) := by
  unfold bt shl
  rw [Int32.toBitVec_shiftLeft]
  show (x.toBitVec <<< ((nI n &&& 31).toBitVec.smod 32).toNat).getLsbD i = _
  rw [s_l n hn, BitVec.getLsbD_shiftLeft]
  rcases Nat.lt_or_ge i n with h | h
  · simp [h, Nat.not_le.mpr h]
  · simp [hi, h, Nat.not_lt.mpr h]
theorem b_ushr (n : Nat) (hn : n < 32) (x : Int32) (i : Nat) : bt (ush x (nI n)) i = bt x (n + i) := by
  show (x.toUInt32 >>> ((nI n).toUInt32 &&& Int32.toUInt32 31)).toBitVec.getLsbD i = x.toUInt32.toBitVec.getLsbD (n + i)
  rw [UInt32.toBitVec_shiftRight]
  show (x.toUInt32.toBitVec >>> (((nI n).toUInt32 &&& Int32.toUInt32 31).toBitVec % 32).toNat).getLsbD i = _
  rw [s_u n hn, BitVec.getLsbD_ushiftRight]
theorem b_sshr (n : Nat) (hn : n < 32) (x : Int32) {i : Nat} (hi : i < 32) : bt (sshr x (nI n)) i = if n + i < 32 then bt x (n + i) else bt x 31 := by
  unfold bt sshr
  rw [Int32.toBitVec_shiftRight]
  show (x.toBitVec.sshiftRight ((nI n &&& 31).toBitVec.smod 32).toNat).getLsbD i = _
  rw [s_l n hn, BitVec.getLsbD_sshiftRight, BitVec.msb_eq_getLsbD_last]
  simp [hi]
theorem b_1 : ∀ i, bt 1 i = decide (i = 0) := fun i => by
  rcases Nat.lt_or_ge i 32 with h | h
  · exact (by decide +kernel : ∀ i, i < 32 → bt 1 i = decide (i = 0)) i h
  · rw [b_big h, decide_eq_false (by omega)]
theorem b_and1 {x : Int32} : (x &&& 1 = 0) ↔ bt x 0 = false := by
  constructor
  · intro h
    have e : bt (x &&& 1) 0 = bt 0 0 := by rw [h]
    rw [b_and, b_1, b_0] at e
    simpa using e
  · intro h
    apply b_ext
    intro i _
    rw [b_and, b_1, b_0]
    by_cases q : i = 0
    · rw [q, h]; rfl
    · rw [decide_eq_false q, Bool.and_false]
theorem b_bitI (x : Int32) {k : Nat} (h : k < 32) : bitI x (nI k) = bt x k := by
  unfold bitI
  cases e : bt x k
  · have h1 : ush x (nI k) &&& 1 = 0 := b_and1.mpr (by rw [b_ushr k h, Nat.add_zero]; exact e)
    rw [h1]; rfl
  · have h1 : ¬ ush x (nI k) &&& 1 = 0 := fun q => by
      have := b_and1.mp q
      rw [b_ushr k h, Nat.add_zero, e] at this
      cases this
    rw [beq_eq_false_iff_ne.mpr h1]; rfl
theorem b_nat {x : Int32} (i : Nat) : bt x i = x.toBitVec.toNat.testBit i := rfl
/-! ===== how many places have a property ===== -/
def fb_ct (p : Nat → Bool) : Nat → Nat
  | 0 => 0
  | n + 1 => fb_ct p n + (if p n then 1 else 0)
theorem fb_ct_succ (p : Nat → Bool) (n : Nat) : fb_ct p (n + 1) = fb_ct p n + (if p n then 1 else 0) := rfl
theorem fb_ct_le (p : Nat → Bool) : ∀ n, fb_ct p n ≤ n
  | 0 => Nat.le_refl _
  | n + 1 => by
    have h := fb_ct_le p n
    rw [fb_ct_succ]
    split <;> omega
theorem fb_ct_cong {p q : Nat → Bool} : ∀ {n : Nat}, (∀ k, k < n → p k = q k) → fb_ct p n = fb_ct q n
  | 0, _ => rfl
  | n + 1, h => by
    rw [fb_ct_succ, fb_ct_succ, fb_ct_cong (fun k hk => h k (by omega)), h n (by omega)]
theorem fb_ct_zero {p : Nat → Bool} : ∀ {n : Nat}, fb_ct p n = 0 → ∀ k, k < n → p k = false
  | 0, _, k, hk => absurd hk (Nat.not_lt_zero k)
  | n + 1, h, k, hk => by
    rw [fb_ct_succ] at h
    have h1 : fb_ct p n = 0 := by omega
    cases e : p n
    · rcases Nat.lt_or_ge k n with q | q
      · exact fb_ct_zero h1 k q
      · rw [show k = n by omega]; exact e
    · rw [e] at h; simp at h
theorem fb_ct_none {p : Nat → Bool} : ∀ {n : Nat}, (∀ k, k < n → p k = false) → fb_ct p n = 0
  | 0, _ => rfl
  | n + 1, h => by
    rw [fb_ct_succ, fb_ct_none (fun k hk => h k (by omega)), h n (by omega)]
    rfl
/-- none behind m -/
theorem fb_ct_cut {p : Nat → Bool} {m : Nat} : ∀ {n : Nat}, m ≤ n → (∀ k, m ≤ k → k < n → p k = false) → fb_ct p n = fb_ct p m
  | 0, hm, _ => by rw [show m = 0 by omega]
  | n + 1, hm, h => by
    rcases Nat.eq_or_lt_of_le hm with q | q
    · rw [q]
    · rw [fb_ct_succ, fb_ct_cut (n := n) (by omega) (fun k h1 h2 => h k h1 (by omega)), h n (by omega) (by omega)]
      rfl
/-! ===== java.lang.Integer.bitCount counts the bits ===== -/
theorem bc_and4 (x m : Nat) : x &&& (1 + 4 * m) = x % 2 + 4 * (x / 4 &&& m) := by
  apply Nat.eq_of_testBit_eq
  intro i
  rw [Nat.testBit_and]
  rcases Nat.lt_or_ge i 2 with h | h
  · have : i = 0 ∨ i = 1 := by omega
    rcases this with rfl | rfl
    · simp only [Nat.testBit_zero]
      rw [show (1 + 4 * m) % 2 = 1 by omega, show (x % 2 + 4 * (x / 4 &&& m)) % 2 = x % 2 by omega]
      simp
    · rw [Nat.testBit_succ, Nat.testBit_succ, Nat.testBit_succ, Nat.testBit_zero, Nat.testBit_zero, Nat.testBit_zero]
      rw [show (1 + 4 * m) / 2 % 2 = 0 by omega, show (x % 2 + 4 * (x / 4 &&& m)) / 2 % 2 = 0 by omega]
      simp
  · obtain ⟨j, rfl⟩ : ∃ j, i = j + 1 + 1 := ⟨i - 2, by omega⟩
    rw [Nat.testBit_succ, Nat.testBit_succ, Nat.testBit_succ, Nat.testBit_succ, Nat.testBit_succ, Nat.testBit_succ]
    rw [show (1 + 4 * m) / 2 / 2 = m by omega, show (x % 2 + 4 * (x / 4 &&& m)) / 2 / 2 = x / 4 &&& m by omega, show x / 2 / 2 = x / 4 by omega, Nat.testBit_and]
theorem bc_and (k : Nat) (x m : Nat) : x &&& (2 ^ k - 1 + 2 ^ (k + k) * m) = x % 2 ^ k + 2 ^ (k + k) * (x / 2 ^ (k + k) &&& m) := by
  apply Nat.eq_of_testBit_eq
  intro i
  have h1 : 2 ^ k ≤ 2 ^ (k + k) := Nat.pow_le_pow_right (by decide) (by omega)
  have h0 : 0 < 2 ^ k := Nat.two_pow_pos k
  have hm : x % 2 ^ k < 2 ^ (k + k) := Nat.lt_of_lt_of_le (Nat.mod_lt _ h0) h1
  rw [Nat.testBit_and, Nat.add_comm (2 ^ k - 1), Nat.add_comm (x % 2 ^ k), Nat.testBit_two_pow_mul_add _ (by omega), Nat.testBit_two_pow_mul_add _ hm, Nat.testBit_two_pow_sub_one, Nat.testBit_mod_two_pow]
  split
  · rename_i q
    exact Bool.and_comm _ _
  · rename_i q
    rw [Nat.testBit_and, Nat.testBit_div_two_pow, show i - (k + k) + (k + k) = i by omega]
def bcM (k : Nat) : Nat → Nat
  | 0 => 0
  | t + 1 => 2 ^ k - 1 + 2 ^ (k + k) * bcM k t
def bcS1 : Nat → Nat → Nat
  | 0, _ => 0
  | t + 1, n => (n % 2 + n / 2 % 2) + 4 * bcS1 t (n / 4)
def bcS2 : Nat → Nat → Nat
  | 0, _ => 0
  | t + 1, n => (n % 2 + n / 2 % 2 + n / 4 % 2 + n / 8 % 2) + 16 * bcS2 t (n / 16)
def bcS3 : Nat → Nat → Nat
  | 0, _ => 0
  | t + 1, n => (n % 2 + n / 2 % 2 + n / 4 % 2 + n / 8 % 2 + n / 16 % 2 + n / 32 % 2 + n / 64 % 2 + n / 128 % 2) + 256 * bcS3 t (n / 256)
theorem bc_1 : ∀ (t n : Nat), n < 4 ^ t → (n / 2 &&& bcM 1 t) ≤ n ∧ n - (n / 2 &&& bcM 1 t) = bcS1 t n
  | 0, n, h => by
    have : n = 0 := by simpa using h
    subst this
    exact ⟨Nat.le_of_eq rfl, rfl⟩
  | t + 1, n, h => by
    have h4 : n / 4 < 4 ^ t := by rw [Nat.pow_succ] at h; omega
    have ih := bc_1 t (n / 4) h4
    have e := bc_and 1 (n / 2) (bcM 1 t)
    rw [show n / 2 / 2 ^ (1 + 1) = n / 4 / 2 by omega] at e
    rw [bcM, bcS1, e]
    simp only [Nat.reducePow, Nat.reduceAdd] at *
    omega
theorem bc_1d (t n : Nat) : bcS1 t n % 4 ≤ 2 := by
  cases t with
  | zero => exact Nat.zero_le _
  | succ t => rw [bcS1]; omega
theorem bc_2 : ∀ (t n : Nat), (bcS1 (2 * t) n &&& bcM 2 t) + (bcS1 (2 * t) n / 4 &&& bcM 2 t) = bcS2 t n
  | 0, n => by simp [bcS1, bcM, bcS2]
  | t + 1, n => by
    have ih := bc_2 t (n / 16)
    have e : bcS1 (2 * (t + 1)) n = (n % 2 + n / 2 % 2) + 4 * ((n / 4 % 2 + n / 8 % 2) + 4 * bcS1 (2 * t) (n / 16)) := by
      rw [show 2 * (t + 1) = 2 * t + 1 + 1 by omega, bcS1, bcS1, show n / 4 / 2 = n / 8 by omega, show n / 4 / 4 = n / 16 by omega]
    have e1 := bc_and 2 (bcS1 (2 * (t + 1)) n) (bcM 2 t)
    have e2 := bc_and 2 (bcS1 (2 * (t + 1)) n / 4) (bcM 2 t)
    rw [bcM, bcS2, e1, e2]
    simp only [Nat.reducePow, Nat.reduceAdd] at *
    generalize bcS1 (2 * t) (n / 16) = X at *
    rw [e, show (n % 2 + n / 2 % 2 + 4 * (n / 4 % 2 + n / 8 % 2 + 4 * X)) / 16 = X by omega, show (n % 2 + n / 2 % 2 + 4 * (n / 4 % 2 + n / 8 % 2 + 4 * X)) / 4 / 16 = X / 4 by omega]
    omega
theorem bc_2d (t n : Nat) : bcS2 t n % 16 ≤ 4 := by
  cases t with
  | zero => exact Nat.zero_le _
  | succ t =>
    rw [bcS2, Nat.add_mul_mod_self_left]
    have h0 := Nat.mod_lt n (y := 2) (by decide)
    have h1 := Nat.mod_lt (n / 2) (y := 2) (by decide)
    have h2 := Nat.mod_lt (n / 4) (y := 2) (by decide)
    have h3 := Nat.mod_lt (n / 8) (y := 2) (by decide)
    exact Nat.le_trans (Nat.mod_le _ _) (by omega)
theorem bc_3 : ∀ (t n : Nat), (bcS2 (2 * t) n + bcS2 (2 * t) n / 16 &&& bcM 4 t) = bcS3 t n
  | 0, n => by simp [bcS2, bcM, bcS3]
  | t + 1, n => by
    have ih := bc_3 t (n / 256)
    have hd := bc_2d (2 * t) (n / 256)
    have e : bcS2 (2 * (t + 1)) n = (n % 2 + n / 2 % 2 + n / 4 % 2 + n / 8 % 2) + 16 * ((n / 16 % 2 + n / 32 % 2 + n / 64 % 2 + n / 128 % 2) + 16 * bcS2 (2 * t) (n / 256)) := by
      rw [show 2 * (t + 1) = 2 * t + 1 + 1 by omega, bcS2, bcS2, show n / 16 / 2 = n / 32 by omega, show n / 16 / 4 = n / 64 by omega, show n / 16 / 8 = n / 128 by omega, show n / 16 / 16 = n / 256 by omega]
    have e1 := bc_and 4 (bcS2 (2 * (t + 1)) n + bcS2 (2 * (t + 1)) n / 16) (bcM 4 t)
    rw [bcM, bcS3, e1]
    simp only [Nat.reducePow, Nat.reduceAdd] at *
    generalize bcS2 (2 * t) (n / 256) = X at *
    have d0 := Nat.mod_lt n (y := 2) (by decide)
    have d1 := Nat.mod_lt (n / 2) (y := 2) (by decide)
    have d2 := Nat.mod_lt (n / 4) (y := 2) (by decide)
    have d3 := Nat.mod_lt (n / 8) (y := 2) (by decide)
    have d4 := Nat.mod_lt (n / 16) (y := 2) (by decide)
    have d5 := Nat.mod_lt (n / 32) (y := 2) (by decide)
    have d6 := Nat.mod_lt (n / 64) (y := 2) (by decide)
    have d7 := Nat.mod_lt (n / 128) (y := 2) (by decide)
    rw [e]
    generalize hp : n % 2 + n / 2 % 2 + n / 4 % 2 + n / 8 % 2 = p
    generalize hq : n / 16 % 2 + n / 32 % 2 + n / 64 % 2 + n / 128 % 2 = q
    have hp4 : p ≤ 4 := by omega
    have hq4 : q ≤ 4 := by omega
    rw [show p + n / 16 % 2 + n / 32 % 2 + n / 64 % 2 + n / 128 % 2 = p + q by omega]
    clear hp hq d0 d1 d2 d3 d4 d5 d6 d7 e e1
    have k1 : (p + 16 * (q + 16 * X)) / 16 = q + 16 * X := by omega
    rw [k1]
    have k2 : (p + 16 * (q + 16 * X) + (q + 16 * X)) % 16 = p + q := by omega
    have k3 : (p + 16 * (q + 16 * X) + (q + 16 * X)) / 256 = X + X / 16 := by omega
    rw [k2, k3, ih]
theorem bc_3d (t n : Nat) : bcS3 t n % 256 ≤ 8 := by
  cases t with
  | zero => exact Nat.zero_le _
  | succ t =>
    rw [bcS3, Nat.add_mul_mod_self_left]
    exact Nat.le_trans (Nat.mod_le _ _) (by omega)
/-- in Nat -/
def bcN (n : Nat) : Nat :=
  let a := n - (n / 2 &&& 1431655765)
  let b := (a &&& 858993459) + (a / 4 &&& 858993459)
  let c := b + b / 16 &&& 252645135
  let d := c + c / 256
  let e := d + d / 65536
  e &&& 63
theorem bc_N {n : Nat} (h : n < 2 ^ 32) : bcN n = fb_ct (fun i => n.testBit i) 32 := by
  have h1 := bc_1 16 n (Nat.lt_of_lt_of_eq h (by decide))
  have h2 := bc_2 8 n
  have h3 := bc_3 4 n
  rw [show bcM 1 16 = 1431655765 by decide] at h1
  rw [show bcM 2 8 = 858993459 by decide] at h2
  rw [show bcM 4 4 = 252645135 by decide] at h3
  unfold bcN
  dsimp only
  rw [h1.2, h2, h3]
  have e4 : bcS3 4 n = bcS3 1 n + 256 * (bcS3 1 (n / 256) + 256 * (bcS3 1 (n / 65536) + 256 * bcS3 1 (n / 16777216))) := by
    simp only [bcS3, Nat.div_div_eq_div_mul, Nat.reduceMul, Nat.mul_zero, Nat.add_zero]
  have b0 := bc_3d 1 n
  have b1 := bc_3d 1 (n / 256)
  have b2 := bc_3d 1 (n / 65536)
  have b3 := bc_3d 1 (n / 16777216)
  have c0 : bcS3 1 n ≤ 8 := by simp only [bcS3]; omega
  have c1 : bcS3 1 (n / 256) ≤ 8 := by simp only [bcS3]; omega
  have c2 : bcS3 1 (n / 65536) ≤ 8 := by simp only [bcS3]; omega
  have c3 : bcS3 1 (n / 16777216) ≤ 8 := by simp only [bcS3]; omega
  have ct : fb_ct (fun i => n.testBit i) 32 = bcS3 1 n + bcS3 1 (n / 256) + bcS3 1 (n / 65536) + bcS3 1 (n / 16777216) := by
    have hb : ∀ i, (if n.testBit i = true then 1 else 0) = n / 2 ^ i % 2 := fun i => by
      rw [Nat.testBit_eq_decide_div_mod_eq]
      have := Nat.mod_lt (n / 2 ^ i) (y := 2) (by decide)
      split
      · rename_i q; rw [decide_eq_true_eq] at q; exact q.symm
      · rename_i q; rw [decide_eq_true_eq] at q; omega
    simp only [fb_ct, hb, bcS3, Nat.div_div_eq_div_mul, Nat.reduceMul, Nat.reducePow, Nat.mul_zero, Nat.add_zero, Nat.zero_add, Nat.div_one]
    ac_rfl
  rw [ct, e4, show (63 : Nat) = 2 ^ 6 - 1 by decide, Nat.and_two_pow_sub_one_eq_mod]
  generalize bcS3 1 n = p at *
  generalize bcS3 1 (n / 256) = q at *
  generalize bcS3 1 (n / 65536) = r at *
  generalize bcS3 1 (n / 16777216) = s at *
  clear h1 h2 h3 e4 b0 b1 b2 b3 ct
  have k1 : (p + 256 * (q + 256 * (r + 256 * s))) / 256 = q + 256 * (r + 256 * s) := by omega
  rw [k1]
  have k2 : (p + 256 * (q + 256 * (r + 256 * s)) + (q + 256 * (r + 256 * s))) / 65536 = r + s + 256 * s := by omega
  rw [k2]
  omega
theorem b_nI (a : Nat) {i : Nat} (h : i < 32) : bt (nI a) i = a.testBit i := by
  show (BitVec.ofNat 32 a).getLsbD i = _
  rw [BitVec.getLsbD_ofNat, decide_eq_true h, Bool.true_and]
theorem tb_big {a k : Nat} (h : a < 2 ^ 32) (hk : 32 ≤ k) : a.testBit k = false := Nat.testBit_lt_two_pow (Nat.lt_of_lt_of_le h (Nat.pow_le_pow_right (by decide) hk))
theorem nb_ush {a k : Nat} (h : a < 2 ^ 32) (hk : k < 32) : ush (nI a) (nI k) = nI (a / 2 ^ k) := b_ext fun i hi => by
  rw [b_ushr k hk, b_nI _ hi, Nat.testBit_div_two_pow]
  rcases Nat.lt_or_ge (k + i) 32 with q | q
  · rw [b_nI _ q, Nat.add_comm]
  · rw [b_big q, tb_big h (by omega)]
theorem nb_and (a b : Nat) : nI a &&& nI b = nI (a &&& b) := b_ext fun i hi => by rw [b_and, b_nI _ hi, b_nI _ hi, b_nI _ hi, Nat.testBit_and]
theorem bitC_nI {n : Nat} (h : n < 2 ^ 32) : bitC (nI n) = nI (bcN n) := by
  have h1 := (bc_1 16 n (Nat.lt_of_lt_of_eq h (by decide))).1
  rw [show bcM 1 16 = 1431655765 by decide] at h1
  have e1 : bitC1 (nI n) = nI (n - (n / 2 &&& 1431655765)) := by
    show nI n - (ush (nI n) (nI 1) &&& nI 1431655765) = _
    rw [nb_ush h (by decide), nb_and, pk_sub (by simpa using h1)]
  unfold bcN bitC
  dsimp only
  rw [e1]
  generalize ha : n - (n / 2 &&& 1431655765) = a
  have hab : a < 2 ^ 32 := by omega
  have e2 : bitC2 (nI a) = nI ((a &&& 858993459) + (a / 4 &&& 858993459)) := by
    show (nI a &&& nI 858993459) + (ush (nI a) (nI 2) &&& nI 858993459) = _
    rw [nb_ush hab (by decide), nb_and, nb_and, nI_add]
  rw [e2]
  have m1 : a &&& 858993459 ≤ 858993459 := Nat.and_le_right
  have m2 : a / 4 &&& 858993459 ≤ 858993459 := Nat.and_le_right
  generalize hb : (a &&& 858993459) + (a / 4 &&& 858993459) = b
  have hbb : b < 2 ^ 32 := by omega
  have e3 : bitC3 (nI b) = nI (b + b / 16 &&& 252645135) := by
    show (nI b + ush (nI b) (nI 4)) &&& nI 252645135 = _
    rw [nb_ush hbb (by decide), nI_add, nb_and]
  rw [e3]
  have m3 : b + b / 16 &&& 252645135 ≤ 252645135 := Nat.and_le_right
  generalize hc : (b + b / 16 &&& 252645135) = c at *
  have e4 : bitC4 (nI c) = nI (c + c / 256) := by
    show nI c + ush (nI c) (nI 8) = _
    rw [nb_ush (by omega) (by decide), nI_add]
  rw [e4]
  have e5 : bitC5 (nI (c + c / 256)) = nI (c + c / 256 + (c + c / 256) / 65536) := by
    show nI (c + c / 256) + ush (nI (c + c / 256)) (nI 16) = _
    rw [nb_ush (by omega) (by decide), nI_add]
  rw [e5]
  show nI _ &&& nI 63 = _
  rw [nb_and]
/-- bitCount is the number of bits -/
theorem bitC_ct (x : Int32) : bitC x = nI (fb_ct (bt x) 32) := by
  have hx : x = nI x.toBitVec.toNat := by
    apply Int32.toBitVec_inj.mp
    show x.toBitVec = BitVec.ofNat 32 _
    rw [BitVec.ofNat_toNat, BitVec.setWidth_eq]
  have hl : x.toBitVec.toNat < 2 ^ 32 := x.toBitVec.isLt
  have e : bitC x = nI (bcN x.toBitVec.toNat) := by
    have := bitC_nI hl
    rwa [← hx] at this
  rw [e, bc_N hl]
  rfl
theorem bitC_0 {x : Int32} : bitC x = 0 ↔ x = 0 := by
  rw [bitC_ct]
  have hle := fb_ct_le (bt x) 32
  constructor
  · intro h
    have h0 : fb_ct (bt x) 32 = 0 := (nI_eq (by omega) (by omega)).mp h
    exact b_ext fun i hi => by rw [fb_ct_zero h0 i hi, b_0]
  · rintro rfl
    rw [fb_ct_none (fun k _ => b_0 k)]
    rfl
