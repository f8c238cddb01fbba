/-! TIE-UPS: to swap twice is nothing; what differs -/
theorem ext_getD {l l' : List Int32} (h : l.length = l'.length) (h2 : ∀ k, k < l.length → l.getD k 0 = l'.getD k 0) : l = l' := by
  refine List.ext_getElem h fun k h3 h4 => ?_
  have := h2 k h3
  rwa [List.getD_eq_getElem?_getD, List.getD_eq_getElem?_getD, List.getElem?_eq_getElem h3, List.getElem?_eq_getElem h4] at this
theorem swOne_bt (s : Int32) {a b i : Nat} (ha : a < 32) (hb : b < 32) (hi : i < 32) : bt (swOne s (nI a) (nI b)) i = (bt s i ^^ ((bt s a ^^ bt s b) && (decide (i = a) || decide (i = b)))) := by
  have hd : ∀ j, bt ((sshr s (nI a) ^^^ sshr s (nI b)) &&& 1) j = ((bt s a ^^ bt s b) && decide (j = 0)) := fun j => by
    rw [b_and, b_1]
    by_cases e : j = 0
    · subst e
      rw [b_xor, b_sshr a ha s (by decide), b_sshr b hb s (by decide), if_pos (by omega), if_pos (by omega), Nat.add_zero, Nat.add_zero]
    · rw [decide_eq_false e, Bool.and_false, Bool.and_false]
  unfold swOne
  rw [b_xor, b_or, b_shl a ha _ hi, b_shl b hb _ hi, hd, hd]
  congr 1
  have k : ∀ c : Nat, (decide (c ≤ i) && decide (i - c = 0)) = decide (i = c) := fun c => by
    by_cases e : i = c
    · subst e; simp
    · rw [decide_eq_false e]
      by_cases q : c ≤ i
      · rw [decide_eq_false (show ¬ i - c = 0 by omega), Bool.and_false]
      · rw [decide_eq_false q, Bool.false_and]
  cases (bt s a ^^ bt s b)
  · simp
  · simp only [Bool.true_and]
    rw [k a, k b]
theorem swOne_twice (s : Int32) {a b : Nat} (ha : a < 32) (hb : b < 32) : swOne (swOne s (nI a) (nI b)) (nI b) (nI a) = s := b_ext fun i hi => by
  rw [swOne_bt _ hb ha hi, swOne_bt s ha hb hi, swOne_bt s ha hb hb, swOne_bt s ha hb ha]
  by_cases e : a = b
  · subst e; simp
  · have e2 : ¬ b = a := fun q => e q.symm
    simp only [e, e2, decide_true, decide_false]
    cases bt s a <;> cases bt s b <;> cases bt s i <;> cases decide (i = a) <;> cases decide (i = b) <;> rfl
theorem swT_get (ties : List Int32) (a b : Int32) {k : Nat} : ∀ n, k < n → (swT ties a b n).getD k 0 = swOne (ties.getD k 0) a b
  | 0, h => absurd h (Nat.not_lt_zero k)
  | n + 1, h => by
    have hl := swT_len ties a b n
    rw [swT, List.getD_eq_getElem?_getD]
    by_cases e : k = n
    · rw [e, List.getElem?_append_right (by omega), hl, Nat.sub_self]; rfl
    · rw [List.getElem?_append_left (by omega), ← List.getD_eq_getElem?_getD, swT_get ties a b n (by omega)]
theorem swT_twice {ties : List Int32} (h : ties.length = 8) {a b : Nat} (ha : a < 32) (hb : b < 32) : swT (swT ties (nI a) (nI b) 8) (nI b) (nI a) 8 = ties := by
  refine ext_getD (by rw [swT_len, h]) fun k hk => ?_
  rw [swT_len] at hk
  rw [swT_get _ _ _ 8 hk, swT_get _ _ _ 8 hk, swOne_twice _ ha hb]
def diffN (l l' : List Int32) : Nat := fb_ct (fun k => !decide (l.getD k 0 = l'.getD k 0)) 8
theorem diffT_N (l l' : List Int32) : diffT l l' = nI (diffN l l') := by
  unfold diffT diffN
  generalize 8 = n
  induction n with
  | zero => rfl
  | succ n ih =>
    rw [foldN, ih, fb_ct_succ]
    by_cases q : l.getD n 0 = l'.getD n 0
    · rw [if_pos q, if_neg (by rw [decide_eq_true q]; decide)]; rfl
    · rw [if_neg q, if_pos (by rw [decide_eq_false q]; rfl), nI_1]
theorem diffT_sym (l l' : List Int32) : diffT l l' = diffT l' l := foldN_cong _ fun i _ a => by
  by_cases q : l.getD i 0 = l'.getD i 0
  · rw [if_pos q, if_pos q.symm]
  · rw [if_neg q, if_neg (fun e => q e.symm)]
theorem diffT_0 {l l' : List Int32} (h : l.length = 8) (h' : l'.length = 8) (hd : diffT l l' = 0) : l = l' := by
  have hle := fb_ct_le (fun k => !decide (l.getD k 0 = l'.getD k 0)) 8
  rw [diffT_N] at hd
  have h0 : diffN l l' = 0 := (nI_eq (by unfold diffN; omega) (by omega)).mp hd
  refine ext_getD (by omega) fun k hk => ?_
  have := fb_ct_zero h0 k (by omega)
  rw [Bool.not_eq_false', decide_eq_true_eq] at this
  exact this
theorem changed_sym {E E' : List Int32} (h : E.length = E'.length) : changedI E E' = changedI E' E := by
  unfold changedI
  rw [h]
  exact foldN_cong _ fun i _ a => by rw [Int32.xor_comm]
theorem changed_same (E : List Int32) : changedI E E = 0 := by
  unfold changedI
  rw [foldN_cong (g' := fun a _ => a + nI 0) _ (fun i _ a => by rw [Int32.xor_self, bitC_0.mpr rfl]; rfl), foldN_sum (fun _ => 0)]
  generalize E.length = n
  induction n with
  | zero => rfl
  | succ n ih => exact ih
/-! ## ties of 0 to 255 -/
def ties8 (ties : List Int32) : Prop := ∀ k, k < 8 → ∃ n, n < 256 ∧ ties.getD k 0 = nI n
theorem shl_one : ∀ o, o < 8 → shl 1 (nI o) = nI (2 ^ o) := by decide +kernel
theorem nb_xor (a b : Nat) : nI a ^^^ nI b = nI (a ^^^ b) := b_ext fun i hi => by rw [b_xor, b_nI _ hi, b_nI _ hi, b_nI _ hi, Nat.testBit_xor]
theorem flip_lt {n o : Nat} (hn : n < 256) (ho : o < 8) : ∃ m, m < 256 ∧ nI n ^^^ shl 1 (nI o) = nI m := by
  refine ⟨n ^^^ 2 ^ o, Nat.xor_lt_two_pow (n := 8) hn (Nat.lt_of_lt_of_le (Nat.pow_lt_pow_right (by decide) ho) (by decide)), ?_⟩
  rw [shl_one o ho, nb_xor]
theorem ties8_set {ties : List Int32} (h : ties8 ties) {n : Nat} (hn : n < 256) (k : Nat) : ties8 (ties.set k (nI n)) := fun j hj => by
  rw [set_getD0]
  split
  · exact ⟨n, hn, rfl⟩
  · exact h j hj
theorem set_back (ties : List Int32) (k : Nat) (v : Int32) : (ties.set k v).set k (ties.getD k 0) = ties := by
  refine ext_getD (by rw [List.length_set, List.length_set]) fun j hj => ?_
  rw [List.length_set, List.length_set] at hj
  rw [set_getD0, List.length_set]
  by_cases e : k = j
  · subst e; rw [if_pos ⟨rfl, hj⟩]
  · rw [if_neg (fun q => e q.1), set_getD0, if_neg (fun q => e q.1)]
theorem set_self (ties : List Int32) {k : Nat} (h : k < ties.length) (v : Int32) : (ties.set k v).getD k 0 = v := by rw [set_getD0, if_pos ⟨rfl, h⟩]
/-- one field as the law asks it: the tie of the pick's treadle, at the end's shaft -/
theorem up_law {tok : Nat → List Int32} {ties : List Int32} {x y a b : Nat} (ha : (num tok 0).getD x 0 = nI a) (hb : (num tok 1).getD y 0 = nI b) (ha8 : a < 8) (hb8 : b < 8) : sshr (ties.getD b 0) (nI a) &&& 1 = b2i (upL tok ties x y) := by
  have e : upL tok ties x y = bt (ties.getD b 0) a := by
    unfold upL upB
    rw [ha, hb, atI_nI _ (by omega), b_bitI _ (by omega)]
  rw [e]
  apply b_ext
  intro i hi
  rw [b_and, b_1]
  by_cases q : i = 0
  · subst q
    rw [b_sshr a (by omega) _ (by decide), if_pos (by omega), Nat.add_zero]
    cases bt (ties.getD b 0) a <;> rfl
  · rw [decide_eq_false q, Bool.and_false]
    unfold b2i
    split
    · rw [b_1, decide_eq_false q]
    · rw [b_0]
/-- v & 0x7fffffff, and what is left of it -/
theorem below_nat (v : Int32) : ∃ m, m < 2 ^ 31 ∧ v &&& 2147483647 = nI m := by
  obtain ⟨n, hn, e⟩ : ∃ n, n < 2 ^ 32 ∧ v = nI n := ⟨v.toBitVec.toNat, v.toBitVec.isLt, Int32.toBitVec_inj.mp (by show _ = BitVec.ofNat 32 _; simp)⟩
  refine ⟨n &&& 2147483647, Nat.lt_of_le_of_lt Nat.and_le_right (by decide), ?_⟩
  rw [e, show (2147483647 : Int32) = nI 2147483647 from rfl, nb_and]
