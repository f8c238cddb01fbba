/-! THE CLOTH BY ITS FIELDS; runs of bits -/
theorem set_getD0 {l : List Int32} {i j : Nat} {v : Int32} : (l.set i v).getD j 0 = if i = j ∧ i < l.length then v else l.getD j 0 := by
  rw [List.getD_eq_getElem?_getD, List.getD_eq_getElem?_getD, List.getElem?_set]
  by_cases h : i = j
  · subst h
    by_cases h2 : i < l.length
    · rw [if_pos rfl, if_pos h2, if_pos ⟨rfl, h2⟩]; rfl
    · rw [if_pos rfl, if_neg h2, if_neg (fun q => h2 q.2), List.getElem?_eq_none (by omega)]
  · rw [if_neg h, if_neg (fun q => h q.1)]
theorem b_one {y i : Nat} (hy : y < 32) (hi : i < 32) : bt (shl 1 (nI y)) i = decide (i = y) := by
  rw [b_shl y hy 1 hi, b_1]
  by_cases h : i = y
  · subst h; simp
  · rw [decide_eq_false h]
    by_cases q : y ≤ i
    · rw [decide_eq_true q, decide_eq_false (by omega)]; rfl
    · rw [decide_eq_false q]; rfl
theorem inE_bt {ti th tr l : List Int32} {y x i : Nat} (hy : y < 32) (hi : i < 32) (hx : x < l.length) : ∀ X, bt ((inE ti th tr l y X).getD x 0) i = (bt (l.getD x 0) i || (decide (x < X) && decide (i = y) && upB ti th tr x y))
  | 0 => by rw [inE, decide_eq_false (Nat.not_lt_zero x)]; simp
  | X + 1 => by
    have ih := inE_bt (ti := ti) (th := th) (tr := tr) hy hi hx X
    have hl := inE_len ti th tr l y X
    rw [inE]
    by_cases h : upB ti th tr X y = true
    · rw [if_pos h, set_getD0, hl]
      by_cases e : X = x
      · subst e
        rw [if_pos ⟨rfl, by omega⟩, b_or, ih, b_one hy hi, decide_eq_false (Nat.lt_irrefl X), decide_eq_true (Nat.lt_succ_self X), h]
        simp
      · rw [if_neg (fun q => e q.1), ih]
        by_cases q : x < X
        · rw [decide_eq_true q, decide_eq_true (show x < X + 1 by omega)]
        · rw [decide_eq_false q, decide_eq_false (show ¬ x < X + 1 by omega)]
    · rw [if_neg h, ih]
      by_cases e : x = X
      · rw [e, (Bool.not_eq_true _).mp h]
        simp
      · by_cases q : x < X
        · rw [decide_eq_true q, decide_eq_true (show x < X + 1 by omega)]
        · rw [decide_eq_false q, decide_eq_false (show ¬ x < X + 1 by omega)]
theorem wE_bt {ti th tr : List Int32} {x i : Nat} (hi : i < 32) (hx : x < th.length) : ∀ Y, Y ≤ 32 → bt ((wE ti th tr Y).getD x 0) i = (decide (i < Y) && upB ti th tr x i)
  | 0, _ => by
    rw [wE, List.getD_eq_getElem?_getD, List.getElem?_replicate]
    simp [hx, b_0]
  | Y + 1, hY => by
    rw [wE, inE_bt (by omega) hi (by rw [wE_len]; exact hx), wE_bt hi hx Y (by omega), decide_eq_true hx]
    by_cases e : i = Y
    · subst e; simp
    · rw [decide_eq_false e]
      by_cases q : i < Y
      · rw [decide_eq_true q, decide_eq_true (show i < Y + 1 by omega)]; simp
      · rw [decide_eq_false q, decide_eq_false (show ¬ i < Y + 1 by omega)]; simp
theorem dnF_bt {ti th tr : List Int32} {y i : Nat} (hi : i < 32) : ∀ X, X ≤ 32 → bt (dnF ti th tr y X) i = (decide (i < X) && !upB ti th tr i y)
  | 0, _ => by rw [dnF, b_0, decide_eq_false (Nat.not_lt_zero i)]; rfl
  | X + 1, hX => by
    have ih := dnF_bt (ti := ti) (th := th) (tr := tr) (y := y) hi X (by omega)
    rw [dnF]
    by_cases h : upB ti th tr X y = true
    · rw [if_pos h, ih]
      by_cases e : i = X
      · rw [e, h, decide_eq_false (Nat.lt_irrefl X)]; simp
      · by_cases q : i < X
        · rw [decide_eq_true q, decide_eq_true (show i < X + 1 by omega)]
        · rw [decide_eq_false q, decide_eq_false (show ¬ i < X + 1 by omega)]
    · rw [if_neg h, b_or, ih, b_one (by omega) hi]
      by_cases e : i = X
      · rw [e, (Bool.not_eq_true _).mp h, decide_eq_false (Nat.lt_irrefl X)]; simp
      · rw [decide_eq_false e]
        by_cases q : i < X
        · rw [decide_eq_true q, decide_eq_true (show i < X + 1 by omega)]; simp
        · rw [decide_eq_false q, decide_eq_false (show ¬ i < X + 1 by omega)]; simp
theorem wP_get {ti th tr : List Int32} {y : Nat} : ∀ Y, y < Y → (wP ti th tr Y).getD y 0 = dnF ti th tr y th.length
  | 0, h => absurd h (Nat.not_lt_zero y)
  | Y + 1, h => by
    have hl := wP_len ti th tr Y
    rw [wP, List.getD_eq_getElem?_getD]
    by_cases e : y = Y
    · rw [e, List.getElem?_append_right (by omega), hl, Nat.sub_self]; rfl
    · rw [List.getElem?_append_left (by omega), ← List.getD_eq_getElem?_getD, wP_get Y (by omega)]
/-! ## runs -/
def isRun (x : Int32) (i L : Nat) : Prop := ∀ j, j < L → bt x (i + j) = true
theorem isRun.top {x : Int32} {i L h : Nat} (r : isRun x i L) (hL : 0 < L) (hb : ∀ k, h ≤ k → bt x k = false) : i + L ≤ h := by
  have h1 := r (L - 1) (by omega)
  rcases Nat.lt_or_ge (i + (L - 1)) h with q | q
  · omega
  · rw [hb _ q] at h1; cases h1
theorem upF_run (x : Int32) : ∀ f i, i + f ≤ 32 → isRun x i (upF x f i)
  | 0, i, _ => fun j hj => absurd hj (Nat.not_lt_zero j)
  | f + 1, i, h => by
    rw [upF, b_bitI x (show i < 32 by omega)]
    intro j hj
    by_cases q : bt x i = true
    · rw [if_pos q] at hj
      cases j with
      | zero => exact q
      | succ j =>
        have := upF_run x f (i + 1) (by omega) j (by omega)
        rwa [show i + 1 + j = i + (j + 1) by omega] at this
    · rw [if_neg q] at hj
      exact absurd hj (Nat.not_lt_zero j)
theorem downF_run (x : Int32) : ∀ k, k ≤ 32 → isRun x (k - downF x k) (downF x k)
  | 0, _ => fun j hj => absurd hj (Nat.not_lt_zero j)
  | k + 1, h => by
    have hle := downF_le x k
    rw [downF, b_bitI x (show k < 32 by omega)]
    intro j hj
    by_cases q : bt x k = true
    · rw [if_pos q] at hj ⊢
      rw [show k + 1 - (downF x k + 1) = k - downF x k by omega]
      rcases Nat.lt_or_ge j (downF x k) with q2 | q2
      · exact downF_run x k (by omega) j q2
      · rw [show k - downF x k + j = k by omega]; exact q
    · rw [if_neg q] at hj
      exact absurd hj (Nat.not_lt_zero j)
/-- the run around k -/
theorem around_run {x : Int32} {k : Nat} (hk : k < 32) (h : bt x k = true) : ∃ i L, 1 ≤ L ∧ L ≤ 32 ∧ isRun x i L ∧ aroundI x k = nI L := by
  have h1 := upF_run x (32 - k) k (by omega)
  have h2 := downF_run x k (by omega)
  have hd := downF_le x k
  have hu := upF_le x (32 - k) k
  have hu1 : 1 ≤ upF x (32 - k) k := by
    rw [show 32 - k = (31 - k) + 1 by omega, upF, b_bitI x hk, if_pos h]
    omega
  refine ⟨k - downF x k, upF x (32 - k) k + downF x k, by omega, by omega, ?_, rfl⟩
  intro j hj
  rcases Nat.lt_or_ge j (downF x k) with q | q
  · exact h2 j q
  · have := h1 (j - downF x k) (by omega)
    rwa [show k + (j - downF x k) = k - downF x k + j by omega] at this
theorem bt_two (x : Int32) (i : Nat) : bt (x &&& ush x 1) i = (bt x i && bt x (1 + i)) := by
  rw [b_and]
  exact congrArg (bt x i && ·) (b_ushr 1 (by decide) x i)
theorem ne_bit {x : Int32} (h : x ≠ 0) : ∃ i, i < 32 ∧ bt x i = true := by
  refine Classical.byContradiction fun q => h (b_ext fun i hi => ?_)
  rw [b_0]
  cases e : bt x i
  · rfl
  · exact absurd ⟨i, hi, e⟩ q
theorem bit_ne {x : Int32} {i : Nat} (h : bt x i = true) : x ≠ 0 := fun e => by rw [e, b_0] at h; cases h
/-- no run is longer than what lrF finds -/
theorem lrF_ge : ∀ (f : Nat) (x : Int32) (i L : Nat), L ≤ f → isRun x i L → L ≤ lrF f x
  | 0, _, _, L, h, _ => by rw [lrF]; exact h
  | f + 1, x, i, L, h, r => by
    cases L with
    | zero => exact Nat.zero_le _
    | succ L =>
      have h0 := r 0 (by omega)
      rw [lrF, if_neg (bit_ne h0)]
      have := lrF_ge f (x &&& ush x 1) i L (by omega) (fun j hj => by
        rw [bt_two, r j (by omega), show 1 + (i + j) = i + (j + 1) by omega, r (j + 1) (by omega)]; rfl)
      omega
/-- and there is one that long -/
theorem lrF_is : ∀ (f : Nat) (x : Int32), 1 ≤ lrF f x → ∃ i, isRun x i (lrF f x)
  | 0, _, h => absurd h (by rw [lrF]; decide)
  | f + 1, x, h => by
    rw [lrF] at h ⊢
    by_cases e : x = 0
    · rw [if_pos e] at h; exact absurd h (by decide)
    · rw [if_neg e]
      rcases Nat.eq_zero_or_pos (lrF f (x &&& ush x 1)) with q | q
      · obtain ⟨i, _, hb⟩ := ne_bit e
        exact ⟨i, fun j hj => by rw [q] at hj; rw [show j = 0 by omega]; exact hb⟩
      · obtain ⟨i, r⟩ := lrF_is f _ q
        refine ⟨i, fun j hj => ?_⟩
        rcases Nat.lt_or_ge j (lrF f (x &&& ush x 1)) with q2 | q2
        · have := r j q2
          rw [bt_two, Bool.and_eq_true] at this
          exact this.1
        · have := r (lrF f (x &&& ush x 1) - 1) (by omega)
          rw [bt_two, Bool.and_eq_true] at this
          have h2 := this.2
          rwa [show 1 + (i + (lrF f (x &&& ush x 1) - 1)) = i + j by omega] at h2
theorem follow_bt {x : Int32} {i : Nat} : ∀ m, m < 32 → (bt (follow x m) i = true ↔ isRun x i (m + 1))
  | 0, _ => ⟨fun h j hj => by rw [show j = 0 by omega]; exact h, fun h => h 0 (by omega)⟩
  | m + 1, hm => by
    have ih := follow_bt (x := x) (i := i) m (by omega)
    rw [follow, b_and, Bool.and_eq_true, ih, b_ushr (m + 1) hm]
    constructor
    · rintro ⟨h1, h2⟩ j hj
      rcases Nat.lt_or_ge j (m + 1) with q | q
      · exact h1 j q
      · rw [show i + j = m + 1 + i by omega]; exact h2
    · intro h
      exact ⟨fun j hj => h j (by omega), by have := h (m + 1) (by omega); rwa [show i + (m + 1) = m + 1 + i by omega] at this⟩
/-- the starts of runs of at least m -/
theorem runS_bt {x : Int32} {m i : Nat} (h1 : 1 ≤ m) (hm : m ≤ 32) (hi : i < 32) : bt (runS x m) i = true ↔ isRun x i m ∧ (0 < i → bt x (i - 1) = false) := by
  have e : min m 32 - 1 = m - 1 := by omega
  have hs : bt (shl x 1) i = (decide (1 ≤ i) && bt x (i - 1)) := b_shl 1 (by decide) x hi
  unfold runS
  rw [e, b_and, Bool.and_eq_true, follow_bt (m - 1) (by omega), Nat.sub_add_cancel h1, b_xor, b_m1 i hi, hs]
  constructor
  · rintro ⟨a, b⟩
    refine ⟨a, fun h0 => ?_⟩
    rw [decide_eq_true (show 1 ≤ i by omega)] at b
    cases q : bt x (i - 1)
    · rfl
    · rw [q] at b; simp at b
  · rintro ⟨a, b⟩
    refine ⟨a, ?_⟩
    by_cases h0 : 0 < i
    · rw [b h0]; simp
    · rw [decide_eq_false (by omega)]; simp
/-- a run of m somewhere: a start of one -/
theorem run_start {x : Int32} {m : Nat} (h1 : 1 ≤ m) : ∀ i, isRun x i m → ∃ k, isRun x k m ∧ (0 < k → bt x (k - 1) = false)
  | 0, r => ⟨0, r, fun h => absurd h (Nat.lt_irrefl 0)⟩
  | i + 1, r => by
    cases q : bt x i
    · exact ⟨i + 1, r, fun _ => q⟩
    · refine run_start h1 i fun j hj => ?_
      cases j with
      | zero => exact q
      | succ j =>
        have := r j (by omega)
        rwa [show i + 1 + j = i + (j + 1) by omega] at this
theorem run_S {x : Int32} {m i : Nat} (h1 : 1 ≤ m) (hm : m ≤ 32) (r : isRun x i m) : runS x m ≠ 0 := by
  obtain ⟨k, r2, h⟩ := run_start h1 i r
  have hk : k < 32 := by
    have h0 := r2 0 (by omega)
    rcases Nat.lt_or_ge (k + 0) 32 with q | q
    · exact q
    · rw [b_big q] at h0; cases h0
  exact bit_ne ((runS_bt h1 hm hk).mpr ⟨r2, h⟩)
/-! ## the first of them -/
theorem findI_some {p : Nat → Bool} {d : Int32} : ∀ (f i : Nat), (∃ j, i ≤ j ∧ j < i + f ∧ p j = true) → ∃ j, i ≤ j ∧ j < i + f ∧ p j = true ∧ (∀ k, i ≤ k → k < j → p k = false) ∧ findI p d f i = nI j
  | 0, i, h => by obtain ⟨j, a, b, _⟩ := h; omega
  | f + 1, i, h => by
    rw [findI]
    by_cases q : p i = true
    · exact ⟨i, Nat.le_refl _, by omega, q, fun k a b => by omega, if_pos q⟩
    · rw [if_neg q]
      obtain ⟨j, a, b, c⟩ := h
      have hj : i ≠ j := fun e => q (e ▸ c)
      obtain ⟨j2, a2, b2, c2, d2, e2⟩ := findI_some (p := p) (d := d) f (i + 1) ⟨j, by omega, by omega, c⟩
      refine ⟨j2, by omega, by omega, c2, fun k h1 h2 => ?_, e2⟩
      by_cases e : k = i
      · rw [e]; exact Bool.not_eq_true _ ▸ q
      · exact d2 k (by omega) h2
theorem findI_none {p : Nat → Bool} {d : Int32} : ∀ (f i : Nat), (∀ j, i ≤ j → j < i + f → p j = false) → findI p d f i = d
  | 0, _, _ => rfl
  | f + 1, i, h => by
    rw [findI, h i (Nat.le_refl _) (by omega), if_neg (by decide)]
    exact findI_none f (i + 1) (fun j a b => h j (by omega) (by omega))
theorem findI_or (p : Nat → Bool) (d : Int32) (f i : Nat) : (∃ j, i ≤ j ∧ j < i + f ∧ p j = true ∧ (∀ k, i ≤ k → k < j → p k = false) ∧ findI p d f i = nI j) ∨ ((∀ j, i ≤ j → j < i + f → p j = false) ∧ findI p d f i = d) := by
  by_cases h : ∃ j, i ≤ j ∧ j < i + f ∧ p j = true
  · exact Or.inl (findI_some f i h)
  · have h2 : ∀ j, i ≤ j → j < i + f → p j = false := fun j a b => by
      cases e : p j
      · rfl
      · exact absurd ⟨j, a, b, e⟩ h
    exact Or.inr ⟨h2, findI_none f i h2⟩
theorem allF_iff {p : Nat → Bool} : ∀ (f i : Nat), allF p f i = true ↔ ∀ j, i ≤ j → j < i + f → p j = true
  | 0, i => ⟨fun _ j a b => by omega, fun _ => rfl⟩
  | f + 1, i => by
    rw [allF, Bool.and_eq_true, allF_iff f (i + 1)]
    constructor
    · rintro ⟨h1, h2⟩ j a b
      by_cases e : j = i
      · rw [e]; exact h1
      · exact h2 j (by omega) (by omega)
    · intro h
      exact ⟨h i (Nat.le_refl _) (by omega), fun j a b => h j (by omega) (by omega)⟩
def sumN (g : Nat → Nat) : Nat → Nat
  | 0 => 0
  | n + 1 => sumN g n + g n
theorem foldN_sum (g : Nat → Nat) : ∀ n, foldN (fun a i => a + nI (g i)) n = nI (sumN g n)
  | 0 => rfl
  | n + 1 => by rw [foldN, foldN_sum g n, nI_add]; rfl
theorem sumN_le {g : Nat → Nat} {b : Nat} : ∀ n, (∀ i, i < n → g i ≤ b) → sumN g n ≤ b * n
  | 0, _ => Nat.zero_le _
  | n + 1, h => by
    have h1 := sumN_le (g := g) (b := b) n (fun i hi => h i (by omega))
    have h2 := h n (by omega)
    rw [sumN, Nat.mul_succ]
    omega
theorem sumN_pos {g : Nat → Nat} : ∀ n, 0 < sumN g n ↔ ∃ i, i < n ∧ 0 < g i
  | 0 => ⟨fun h => absurd h (Nat.lt_irrefl 0), fun ⟨i, h, _⟩ => absurd h (Nat.not_lt_zero i)⟩
  | n + 1 => by
    have ih := sumN_pos (g := g) n
    rw [sumN]
    constructor
    · intro h
      by_cases q : 0 < g n
      · exact ⟨n, by omega, q⟩
      · obtain ⟨i, a, b⟩ := ih.mp (by omega)
        exact ⟨i, by omega, b⟩
    · rintro ⟨i, a, b⟩
      by_cases q : i = n
      · rw [← q]; omega
      · have := ih.mpr ⟨i, by omega, b⟩
        omega
