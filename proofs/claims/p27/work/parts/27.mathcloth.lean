/-! WHAT THE LAW ASKS OF A CLOTH -/
def upL (tok : Nat → List Int32) (ties : List Int32) (x y : Nat) : Bool := upB ties (num tok 0) (num tok 1) x y
theorem EE_len (tok : Nat → List Int32) (ties : List Int32) : (EE tok ties).length = (num tok 0).length := wE_len _ _ _ _
theorem PP_len (tok : Nat → List Int32) (ties : List Int32) : (PP tok ties).length = (num tok 1).length := wP_len _ _ _ _
theorem th_le (tok : Nat → List Int32) : (num tok 0).length ≤ 32 := num_len tok (by decide)
theorem tr_le (tok : Nat → List Int32) : (num tok 1).length ≤ 32 := num_len tok (by decide)
theorem EE_bt {tok : Nat → List Int32} {ties : List Int32} {x : Nat} (hx : x < (num tok 0).length) (i : Nat) : bt ((EE tok ties).getD x 0) i = (decide (i < (num tok 1).length) && upL tok ties x i) := by
  have h := tr_le tok
  rcases Nat.lt_or_ge i 32 with q | q
  · exact wE_bt q hx _ h
  · rw [b_big q, decide_eq_false (by omega)]; rfl
theorem PP_bt {tok : Nat → List Int32} {ties : List Int32} {y : Nat} (hy : y < (num tok 1).length) (i : Nat) : bt ((PP tok ties).getD y 0) i = (decide (i < (num tok 0).length) && !upL tok ties i y) := by
  have h := th_le tok
  show bt ((wP ties (num tok 0) (num tok 1) (num tok 1).length).getD y 0) i = _
  rw [wP_get _ hy]
  rcases Nat.lt_or_ge i 32 with q | q
  · exact dnF_bt q _ h
  · rw [b_big q, decide_eq_false (by omega)]; rfl
theorem isUp_EE {tok : Nat → List Int32} {ties : List Int32} {x y : Nat} (hx : x < (num tok 0).length) (hy : y < (num tok 1).length) : isUpI (EE tok ties) x y = upL tok ties x y := by
  have h := tr_le tok
  unfold isUpI
  rw [b_bitI _ (by omega), EE_bt hx, decide_eq_true hy]
  rfl
/-! ## the longest float -/
def maxN (g : Nat → Nat) : Nat → Nat
  | 0 => 0
  | n + 1 => if maxN g n < g n then g n else maxN g n
theorem maxN_le {g : Nat → Nat} {b : Nat} : ∀ n, (∀ i, i < n → g i ≤ b) → maxN g n ≤ b
  | 0, _ => Nat.zero_le _
  | n + 1, h => by
    rw [maxN]
    split
    · exact h n (by omega)
    · exact maxN_le n (fun i hi => h i (by omega))
theorem maxN_ge {g : Nat → Nat} : ∀ n i, i < n → g i ≤ maxN g n
  | 0, i, h => absurd h (Nat.not_lt_zero i)
  | n + 1, i, h => by
    rw [maxN]
    rcases Nat.lt_or_ge i n with q | q
    · have := maxN_ge (g := g) n i q
      split <;> omega
    · rw [show i = n by omega]
      split <;> omega
theorem maxN_is {g : Nat → Nat} : ∀ n, 0 < maxN g n → ∃ i, i < n ∧ g i = maxN g n
  | 0, h => absurd h (Nat.lt_irrefl 0)
  | n + 1, h => by
    rw [maxN] at h ⊢
    split
    · exact ⟨n, by omega, rfl⟩
    · rename_i q
      rw [if_neg q] at h
      obtain ⟨i, a, b⟩ := maxN_is n h
      exact ⟨i, by omega, b⟩
def longN (l : List Int32) : Nat := maxN (fun i => lrF 32 (l.getD i 0)) l.length
theorem longN_le (l : List Int32) : longN l ≤ 32 := maxN_le _ (fun _ _ => lrF_le _ _)
theorem foldN_cong {g g' : Int32 → Nat → Int32} : ∀ n, (∀ i, i < n → ∀ a, g a i = g' a i) → foldN g n = foldN g' n
  | 0, _ => rfl
  | n + 1, h => by rw [foldN, foldN, foldN_cong n (fun i hi => h i (by omega)), h n (by omega)]
theorem longestI_N (l : List Int32) : longestI l = nI (longN l) := by
  unfold longestI longN
  generalize l.length = n
  induction n with
  | zero => rfl
  | succ n ih =>
    have h1 : maxN (fun i => lrF 32 (l.getD i 0)) n ≤ 32 := maxN_le _ (fun _ _ => lrF_le _ _)
    have h2 : lrF 32 (l.getD n 0) ≤ 32 := lrF_le _ _
    rw [foldN, ih, maxN]
    unfold lrunI
    by_cases q : maxN (fun i => lrF 32 (l.getD i 0)) n < lrF 32 (l.getD n 0)
    · rw [if_pos ((nI_ltI (by omega) (by omega)).mpr q), if_pos q]
    · rw [if_neg (fun e => q ((nI_ltI (by omega) (by omega)).mp e)), if_neg q]
def longM (E P : List Int32) : Nat := if longN E < longN P then longN P else longN E
theorem longM_le (E P : List Int32) : longM E P ≤ 32 := by
  have h1 := longN_le E
  have h2 := longN_le P
  unfold longM
  split <;> omega
theorem longC_N (E P : List Int32) : longestC E P = nI (longM E P) := by
  have h1 := longN_le E
  have h2 := longN_le P
  unfold longestC longM
  rw [longestI_N, longestI_N]
  by_cases q : longN E < longN P
  · rw [if_pos ((nI_ltI (by omega) (by omega)).mpr q), if_pos q]
  · rw [if_neg (fun e => q ((nI_ltI (by omega) (by omega)).mp e)), if_neg q]
theorem longM_E (E P : List Int32) : longN E ≤ longM E P := by unfold longM; split <;> omega
theorem longM_P (E P : List Int32) : longN P ≤ longM E P := by unfold longM; split <;> omega
/-- each field lies in a float: at least 1, within its line, no longer than the longest -/
theorem float_fact {tok : Nat → List Int32} {ties : List Int32} {x y : Nat} (hx : x < (num tok 0).length) (hy : y < (num tok 1).length) : ∃ L, floatI (EE tok ties) (PP tok ties) x y = nI L ∧ 1 ≤ L ∧ L ≤ (if upL tok ties x y = true then (num tok 1).length else (num tok 0).length) ∧ L ≤ longM (EE tok ties) (PP tok ties) := by
  have hw := th_le tok
  have hh := tr_le tok
  unfold floatI
  rw [isUp_EE hx hy]
  cases hu : upL tok ties x y
  · rw [if_neg (by decide), if_neg (by decide)]
    have hb : bt ((PP tok ties).getD y 0) x = true := by rw [PP_bt hy, decide_eq_true hx, hu]; rfl
    obtain ⟨i, L, h1, h2, r, e⟩ := around_run (by omega) hb
    refine ⟨L, e, h1, ?_, ?_⟩
    · have := r.top (h := (num tok 0).length) (by omega) (fun k hk => by rw [PP_bt hy, decide_eq_false (by omega)]; rfl)
      omega
    · have h3 := lrF_ge 32 _ i L h2 r
      have h4 := maxN_ge (g := fun j => lrF 32 ((PP tok ties).getD j 0)) (PP tok ties).length y (by rw [PP_len]; exact hy)
      exact Nat.le_trans (Nat.le_trans h3 h4) (longM_P _ _)
  · rw [if_pos rfl, if_pos rfl]
    have hb : bt ((EE tok ties).getD x 0) y = true := by rw [EE_bt hx, decide_eq_true hy, hu]; rfl
    obtain ⟨i, L, h1, h2, r, e⟩ := around_run (by omega) hb
    refine ⟨L, e, h1, ?_, ?_⟩
    · have := r.top (h := (num tok 1).length) (by omega) (fun k hk => by rw [EE_bt hx, decide_eq_false (by omega)]; rfl)
      omega
    · have h3 := lrF_ge 32 _ i L h2 r
      have h4 := maxN_ge (g := fun j => lrF 32 ((EE tok ties).getD j 0)) (EE tok ties).length x (by rw [EE_len]; exact hx)
      exact Nat.le_trans (Nat.le_trans h3 h4) (longM_E _ _)
/-! ## periods -/
theorem period_fact (l : List Int32) : ∃ p, periodI l = nI p ∧ p ≤ l.length ∧ (0 < l.length → 1 ≤ p) ∧ ∀ k, p ≤ k → k < l.length → l.getD k 0 = l.getD (k - p) 0 := by
  unfold periodI
  rcases findI_or (fun p => hasPer l p) (nI l.length) (l.length - 1) 1 with ⟨p, a, b, c, _, e⟩ | ⟨_, e⟩
  · refine ⟨p, e, by omega, fun _ => a, fun k h1 h2 => ?_⟩
    have h3 := (allF_iff (l.length - p) p).mp c k h1 (by omega)
    exact beq_iff_eq.mp h3
  · exact ⟨l.length, e, Nat.le_refl _, fun h => h, fun k h1 h2 => by omega⟩
/-! ## sums over the cloth -/
def upsN (tok : Nat → List Int32) (ties : List Int32) : Nat → Nat := sumN (fun x => fb_ct (upL tok ties x) (num tok 1).length)
theorem sumN_cong {g g' : Nat → Nat} : ∀ n, (∀ i, i < n → g i = g' i) → sumN g n = sumN g' n
  | 0, _ => rfl
  | n + 1, h => by rw [sumN, sumN, sumN_cong n (fun i hi => h i (by omega)), h n (by omega)]
theorem ups_fact (tok : Nat → List Int32) (ties : List Int32) : countBitsI (EE tok ties) = nI (upsN tok ties (num tok 0).length) := by
  have hh := tr_le tok
  unfold countBitsI upsN
  rw [foldN_cong (g' := fun a i => a + nI (fb_ct (bt ((EE tok ties).getD i 0)) 32)) _ (fun i _ a => by rw [bitC_ct]), foldN_sum, EE_len]
  congr 1
  refine sumN_cong _ fun x hx => ?_
  rw [fb_ct_cut hh (fun k h1 _ => by rw [EE_bt hx, decide_eq_false (by omega)]; rfl)]
  exact fb_ct_cong fun k hk => by rw [EE_bt hx, decide_eq_true hk]; rfl
theorem fold_one (S : Nat → Int32) (k : Nat) : ∀ n, foldN (fun a c => a + (if k = c then S c + 1 else S c)) n = foldN (fun a c => a + S c) n + (if k < n then 1 else 0)
  | 0 => by rw [if_neg (Nat.not_lt_zero k)]; rfl
  | n + 1 => by
    rw [foldN, foldN, fold_one S k n]
    by_cases e : k = n
    · rw [if_pos e, if_neg (by omega), if_pos (by omega), Int32.add_zero, Int32.add_assoc]
    · rw [if_neg e]
      by_cases q : k < n
      · rw [if_pos q, if_pos (by omega), Int32.add_assoc, Int32.add_assoc, Int32.add_comm 1]
      · rw [if_neg q, if_neg (by omega), Int32.add_zero, Int32.add_zero]
theorem colour_lo8 (tok : Nat → List Int32) (ties : List Int32) (x y : Nat) : lo8 (colourI tok ties x y) := by
  unfold colourI
  split
  · exact all8_getD (num_all8 tok (by decide)) _
  · exact all8_getD (num_all8 tok (by decide)) _
theorem seenY_sum (tok : Nat → List Int32) (ties : List Int32) (x : Nat) (A : Nat → Int32) : ∀ Y, foldN (fun a c => a + seenY tok ties (nI c) x (A c) Y) 8 = foldN (fun a c => a + A c) 8 + nI Y
  | 0 => by
    show _ = _ + (0 : Int32)
    rw [Int32.add_zero]
    rfl
  | Y + 1 => by
    obtain ⟨k, hk, e⟩ := lo8_nat (colour_lo8 tok ties x Y)
    rw [foldN_cong (g' := fun a c => a + (if k = c then seenY tok ties (nI c) x (A c) Y + 1 else seenY tok ties (nI c) x (A c) Y)) 8 (fun c hc a => by
      rw [seenY, e]
      by_cases q : k = c
      · rw [if_pos q, if_pos (by rw [q])]
      · rw [if_neg q, if_neg (fun r => q ((nI_eq (by omega) (by omega)).mp r))]), fold_one (fun c => seenY tok ties (nI c) x (A c) Y) k 8, seenY_sum tok ties x A Y, if_pos hk, Int32.add_assoc, nI_1]
theorem seen_sum (tok : Nat → List Int32) (ties : List Int32) : foldN (fun a c => a + seenI tok ties (nI c)) 8 = nI (num tok 0).length * nI (num tok 1).length := by
  unfold seenI
  rw [EE_len]
  generalize (num tok 0).length = w
  induction w with
  | zero =>
    show foldN (fun a c => a + 0) 8 = _
    rw [pk_mul, Nat.zero_mul]
    rfl
  | succ x ih =>
    show foldN (fun a c => a + seenY tok ties (nI c) x (seenX tok ties (nI c) x) (PP tok ties).length) 8 = _
    rw [seenY_sum tok ties x (fun c => seenX tok ties (nI c) x), ih, PP_len, pk_mul, pk_mul, nI_add, Nat.succ_mul]
/-! ## where a run is -/
theorem firstRun_or (l : List Int32) (m : Nat) : (∃ j, j < l.length ∧ runS (l.getD j 0) m ≠ 0 ∧ firstRunI l m = nI j) ∨ ((∀ j, j < l.length → runS (l.getD j 0) m = 0) ∧ firstRunI l m = -1) := by
  unfold firstRunI
  rcases findI_or (fun i => !(runS (l.getD i 0) m == 0)) (-1) l.length 0 with ⟨j, _, b, c, _, e⟩ | ⟨h, e⟩
  · refine Or.inl ⟨j, by omega, fun q => ?_, e⟩
    rw [q] at c
    exact absurd c (by decide)
  · refine Or.inr ⟨fun j hj => ?_, e⟩
    have := h j (Nat.zero_le j) (by omega)
    rw [Bool.not_eq_false', beq_iff_eq] at this
    exact this
theorem firstI_ne {x : Int32} (h : x ≠ 0) : ∃ b, b < 32 ∧ firstI x = nI b := by
  obtain ⟨i, hi, hb⟩ := ne_bit h
  obtain ⟨j, _, a, _, _, e⟩ := findI_some (p := fun k => bitI x (nI k)) (d := -1) 32 0 ⟨i, Nat.zero_le _, by omega, by rw [b_bitI x hi]; exact hb⟩
  exact ⟨j, by omega, e⟩
theorem lt0_m1 : (-1 : Int32) < 0 := by decide
theorem where_ge {E P : List Int32} {m : Nat} {b : Bool} (hE : E.length ≤ 32) (hP : P.length ≤ 32) (h : ∃ j, j < (if b = true then E else P).length ∧ runS ((if b = true then E else P).getD j 0) m ≠ 0) : ¬ whereI E P m b < 0 := by
  obtain ⟨j, hj, hr⟩ := h
  unfold whereI
  rcases firstRun_or (if b = true then E else P) m with ⟨k, hk, hr2, e⟩ | ⟨h0, _⟩
  · have hk32 : k < 32 := by
      cases b
      · exact Nat.lt_of_lt_of_le hk hP
      · exact Nat.lt_of_lt_of_le hk hE
    rw [e, if_neg (nI_pos (by omega))]
    cases b
    · rw [if_neg (by decide)] at e hr2 ⊢
      rw [e, atI_nI _ (by omega)]
      obtain ⟨c, hc, e2⟩ := firstI_ne hr2
      rw [e2, show (100 : Int32) = nI 100 from rfl, pk_mul, nI_add]
      exact nI_pos (by omega)
    · rw [if_pos rfl] at e hr2 ⊢
      rw [e, atI_nI _ (by omega)]
      obtain ⟨c, hc, e2⟩ := firstI_ne hr2
      rw [e2, show (100 : Int32) = nI 100 from rfl, pk_mul, nI_add]
      exact nI_pos (by omega)
  · exact absurd (h0 j hj) hr
theorem where_lt {E P : List Int32} {m : Nat} {b : Bool} (h : ∀ j, j < (if b = true then E else P).length → runS ((if b = true then E else P).getD j 0) m = 0) : whereI E P m b < 0 := by
  unfold whereI
  rcases firstRun_or (if b = true then E else P) m with ⟨k, hk, hr2, _⟩ | ⟨_, e⟩
  · exact absurd (h k hk) hr2
  · rw [e, if_pos lt0_m1]; exact lt0_m1
def runsN (l : List Int32) (m : Nat) : Nat := sumN (fun i => fb_ct (bt (runS (l.getD i 0) m)) 32) l.length
theorem countRuns_N (l : List Int32) (m : Nat) : countRunsI l m = nI (runsN l m) := by
  unfold countRunsI runsN
  rw [foldN_cong (g' := fun a i => a + nI (fb_ct (bt (runS (l.getD i 0) m)) 32)) _ (fun i _ a => by rw [bitC_ct]), foldN_sum]
theorem runsN_le {l : List Int32} (h : l.length ≤ 32) (m : Nat) : runsN l m ≤ 1024 := by
  have := sumN_le (g := fun i => fb_ct (bt (runS (l.getD i 0) m)) 32) (b := 32) l.length (fun i _ => fb_ct_le _ _)
  unfold runsN
  omega
theorem runsN_pos {l : List Int32} {m : Nat} : 0 < runsN l m ↔ ∃ j, j < l.length ∧ runS (l.getD j 0) m ≠ 0 := by
  unfold runsN
  rw [sumN_pos]
  constructor
  · rintro ⟨i, a, b⟩
    refine ⟨i, a, fun e => ?_⟩
    rw [e, fb_ct_none (fun k _ => b_0 k)] at b
    exact absurd b (by decide)
  · rintro ⟨i, a, b⟩
    refine ⟨i, a, Nat.pos_of_ne_zero fun e => b ?_⟩
    exact b_ext fun k hk => by rw [fb_ct_zero e k hk, b_0]
/-- where(1, true) finds one just where there is one -/
theorem where_one {E P : List Int32} (hE : E.length ≤ 32) (hP : P.length ≤ 32) : (¬ whereI E P 1 true < 0) ↔ (0 : Int32) < countRunsI E 1 := by
  have hl := runsN_le hE 1
  rw [countRuns_N, ← nI_0, nI_ltI (by omega) (by omega), runsN_pos]
  constructor
  · intro h
    refine Classical.byContradiction fun q => h (where_lt fun j hj => ?_)
    exact Classical.byContradiction fun r => q ⟨j, hj, r⟩
  · intro h
    exact where_ge hE hP h
/-- the longest float is found among the ends or among the picks -/
theorem where_long {E P : List Int32} (hE : E.length ≤ 32) (hP : P.length ≤ 32) (h : 0 < longM E P) : ¬ whereI E P (longM E P) true < 0 ∨ ¬ whereI E P (longM E P) false < 0 := by
  have hle := longM_le E P
  have hc : longM E P = longN E ∨ longM E P = longN P := by unfold longM; split; exact Or.inr rfl; exact Or.inl rfl
  have key : ∀ l : List Int32, longM E P = longN l → ∃ j, j < l.length ∧ runS (l.getD j 0) (longM E P) ≠ 0 := fun l e => by
    obtain ⟨j, a, b⟩ := maxN_is (g := fun i => lrF 32 (l.getD i 0)) l.length (by rw [e] at h; exact h)
    have b2 : lrF 32 (l.getD j 0) = longM E P := b.trans e.symm
    obtain ⟨i, r⟩ := lrF_is 32 (l.getD j 0) (by omega)
    rw [b2] at r
    exact ⟨j, a, run_S h hle r⟩
  rcases hc with e | e
  · exact Or.inl (where_ge hE hP (key E e))
  · exact Or.inr (where_ge hE hP (key P e))
/-! ## columns and rows that differ -/
theorem firstPl_iff {l : List Int32} (hl : l.length ≤ 32) {i : Nat} (hi : i < l.length) : firstPl l (l.getD i 0) = nI i ↔ ∀ j, j < i → l.getD j 0 ≠ l.getD i 0 := by
  unfold firstPl
  obtain ⟨j, _, a, c, d, e⟩ := findI_some (p := fun k => l.getD k 0 == l.getD i 0) (d := -1) l.length 0 ⟨i, Nat.zero_le _, by omega, beq_self_eq_true _⟩
  rw [e, nI_eq (by omega) (by omega)]
  constructor
  · intro q k hk r
    have := d k (Nat.zero_le _) (by omega)
    rw [r, beq_self_eq_true] at this
    cases this
  · intro h
    rcases Nat.lt_trichotomy j i with q | q | q
    · exact absurd (beq_iff_eq.mp c) (h j q)
    · exact q
    · have := d i (Nat.zero_le _) q
      rw [beq_self_eq_true] at this
      cases this
theorem distinct_N (l : List Int32) : distinctI l = nI (fb_ct (fun i => decide (firstPl l (l.getD i 0) = nI i)) l.length) := by
  unfold distinctI
  generalize l.length = n
  induction n with
  | zero => rfl
  | succ n ih =>
    rw [foldN, ih, fb_ct_succ]
    by_cases q : firstPl l (l.getD n 0) = nI n
    · rw [if_pos q, if_pos (by rw [decide_eq_true q]), nI_1]
    · rw [if_neg q, if_neg (by rw [decide_eq_false q]; decide)]; rfl
theorem fb_ct_sub {p q : Nat → Bool} : ∀ {n : Nat}, (∀ k, k < n → p k = true → q k = true) → fb_ct p n ≤ fb_ct q n
  | 0, _ => Nat.le_refl _
  | n + 1, h => by
    have h1 := fb_ct_sub (n := n) (p := p) (q := q) (fun k hk => h k (by omega))
    have h2 := h n (by omega)
    rw [fb_ct_succ, fb_ct_succ]
    cases hp : p n <;> cases hq : q n <;> simp_all <;> omega
/-- what is told by a row has no more kinds than the row -/
theorem distinct_le {a b : List Int32} (hl : a.length = b.length) (hb : b.length ≤ 32) (h : ∀ i j, i < b.length → j < b.length → b.getD i 0 = b.getD j 0 → a.getD i 0 = a.getD j 0) : ¬ distinctI b < distinctI a := by
  have hle := fb_ct_le (fun i => decide (firstPl a (a.getD i 0) = nI i)) a.length
  have hle2 := fb_ct_le (fun i => decide (firstPl b (b.getD i 0) = nI i)) b.length
  rw [distinct_N, distinct_N, nI_ltI (by omega) (by omega), hl]
  refine Nat.not_lt.mpr (fb_ct_sub fun k hk hp => ?_)
  rw [decide_eq_true_eq] at hp ⊢
  rw [firstPl_iff (by omega) (by omega)] at hp
  rw [firstPl_iff hb hk]
  exact fun j hj e => hp j hj (h j k (by omega) hk e)
theorem EE_kinds (tok : Nat → List Int32) (ties : List Int32) : ¬ distinctI (num tok 0) < distinctI (EE tok ties) := by
  refine distinct_le (EE_len _ _) (th_le tok) fun i j hi hj e => ?_
  exact b_ext fun k _ => by rw [EE_bt hi, EE_bt hj]; unfold upL upB; rw [e]
theorem PP_kinds (tok : Nat → List Int32) (ties : List Int32) : ¬ distinctI (num tok 1) < distinctI (PP tok ties) := by
  refine distinct_le (PP_len _ _) (tr_le tok) fun i j hi hj e => ?_
  exact b_ext fun k _ => by rw [PP_bt hi, PP_bt hj]; unfold upL upB; rw [e]
/-! ## what hangs together -/
theorem bitC_full : ∀ n, n < 33 → bitC (fullI (nI n)) = nI n := by decide +kernel
theorem conn_reach {E P : List Int32} (hE : E.length ≤ 32) (hP : P.length ≤ 32) (h : connI E P = true) : reachI E P true = nI E.length ∧ reachI E P false = nI P.length := by
  unfold connI allR at h
  rw [Bool.and_eq_true, Bool.and_eq_true, Bool.and_eq_true] at h
  obtain ⟨h1, ⟨h2, h3⟩, _⟩ := h
  unfold reachI
  rw [if_pos h1, if_pos h1, if_pos rfl, if_neg (by decide), beq_iff_eq.mp h2, beq_iff_eq.mp h3]
  exact ⟨bitC_full _ (by omega), bitC_full _ (by omega)⟩
