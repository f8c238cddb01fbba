/-! THE MEAN: what dividing and multiplying back leaves (over the library's laws of rounding; in units of 2^-1074) -/
abbrev fZ (d : Jvm.FP.Core.Datum) : Int := Jvm.FP.Core.zval Jvm.FP.Core.b64 d
abbrev fM (d : Jvm.FP.Core.Datum) : Nat := Jvm.FP.Core.zmag Jvm.FP.Core.b64 d
abbrev fV (a : UInt64) : Jvm.FP.Core.Datum := Jvm.FP.Core.val64 a
abbrev fFit (d : Jvm.FP.Core.Datum) : Prop := Jvm.FP.Core.fits Jvm.FP.Core.b64 d
theorem f_qmin : Jvm.FP.Core.b64.qmin = -1074 := by decide +kernel
theorem f_qmax : Jvm.FP.Core.b64.qmax = 971 := by decide +kernel
theorem f_p : Jvm.FP.Core.b64.p = 53 := rfl
theorem f_tails : Jvm.FP.Core.b64.tails = 2 ^ 52 := by decide +kernel
/-- K * 2^-40 is a number of the format -/
theorem f_V {K : Nat} (hK : K < 2 ^ 53) : ∃ c q, fFit (.fin false c q) ∧ fM (.fin false c q) = K * 2 ^ 1034 := by
  rcases Nat.eq_zero_or_pos K with h0 | h0
  · subst h0
    refine ⟨0, Jvm.FP.Core.b64.qmin, Jvm.FP.Core.zero_fits Jvm.FP.Core.good_b64 false, ?_⟩
    show 0 * _ = _
    rw [Nat.zero_mul, Nat.zero_mul]
  · have hl : K.log2 < 53 := (Nat.log2_lt (by omega)).mpr hK
    have h1 : 2 ^ K.log2 ≤ K := Nat.log2_self_le (by omega)
    have h2 : K < 2 ^ (K.log2 + 1) := Nat.lt_log2_self
    have e1 : 2 ^ (K.log2 + 1) * 2 ^ (52 - K.log2) = 2 ^ 53 := by rw [← Nat.pow_add]; congr 1; omega
    have e2 : 2 ^ K.log2 * 2 ^ (52 - K.log2) = 2 ^ 52 := by rw [← Nat.pow_add]; congr 1; omega
    have hp := Nat.two_pow_pos (52 - K.log2)
    refine ⟨K * 2 ^ (52 - K.log2), -40 - ((52 - K.log2 : Nat) : Int), ⟨?_, ?_, ?_, Or.inr ?_⟩, ?_⟩
    · rw [f_p, ← e1]; exact Nat.mul_lt_mul_of_pos_right h2 hp
    · rw [f_qmin]; omega
    · rw [f_qmax]; omega
    · rw [f_tails, ← e2]; exact Nat.mul_le_mul_right _ h1
    · show K * 2 ^ (52 - K.log2) * 2 ^ (-40 - ((52 - K.log2 : Nat) : Int) - Jvm.FP.Core.b64.qmin).toNat = _
      rw [f_qmin, Nat.mul_assoc, ← Nat.pow_add]
      congr 2
      omega
/-- an int that isn't negative, as a double -/
theorem f_i2d {a : Nat} (ha : a < 2 ^ 31) : ∃ c q, fV (FP.i2d (nI a)) = .fin false c q ∧ fFit (.fin false c q) ∧ fM (.fin false c q) = a * 2 ^ 1074 := by
  have hs : Jvm.FP.Core.sgn (fV (FP.i2d (nI a))) = false := by
    show Jvm.FP.Core.sgn (Jvm.FP.Core.val64 (Jvm.FP.Core.i2d (nI a))) = false
    rw [Jvm.FP.Core.val64_i2d, nI_toInt ha]
    show Jvm.FP.Core.sgn (Jvm.FP.Core.roundRatio _ (decide ((a : Int) < 0)) _ _ _) = false
    rw [Jvm.FP.Core.sgn_roundRatio]
    exact decide_eq_false (by omega)
  have hz := Jvm.FP.Core.DInt_zval (Jvm.FP.Core.i2d_int (nI a))
  have hf := Jvm.FP.Core.val64_fits (FP.i2d (nI a))
  obtain ⟨s, c, q, e⟩ := Jvm.FP.Core.i2d_fin (nI a)
  have e' : fV (FP.i2d (nI a)) = .fin s c q := e
  rw [e'] at hs
  have hs2 : s = false := hs
  subst hs2
  refine ⟨c, q, e', ?_, ?_⟩
  · rw [← e']; exact hf
  · rw [e, nI_toInt ha] at hz
    have h1 : ((Jvm.FP.Core.zmag Jvm.FP.Core.b64 (.fin false c q) : Nat) : Int) = (a : Int) * (Jvm.FP.Core.one64 : Int) := hz
    have h2 : ((Jvm.FP.Core.zmag Jvm.FP.Core.b64 (.fin false c q) : Nat) : Int) = ((a * Jvm.FP.Core.one64 : Nat) : Int) := by rw [h1, Int.natCast_mul]
    exact Int.ofNat_inj.mp h2
theorem f_ninf {d : Jvm.FP.Core.Datum} {K : Nat} (hK : K < 2 ^ 53) (h : fM d ≤ K * 2 ^ 1034) (s : Bool) : d ≠ .inf s := by
  rintro rfl
  have e : fM (.inf s) = Jvm.FP.Core.b64.tails * 2 ^ (Jvm.FP.Core.b64.exps - 2) := rfl
  have h3 : (2 ^ 53) * 2 ^ 1034 ≤ Jvm.FP.Core.b64.tails * 2 ^ (Jvm.FP.Core.b64.exps - 2) := by decide +kernel
  have h4 : K * 2 ^ 1034 < (2 ^ 53) * 2 ^ 1034 := Nat.mul_lt_mul_of_pos_right hK (Nat.two_pow_pos _)
  rw [e] at h
  exact absurd (Nat.le_trans h3 h) (Nat.not_le.mpr h4)
/-- the quotient lies between -/
theorem f_div {a f K L : Nat} (ha : a < 2 ^ 31) (hf : f < 2 ^ 31) (h0 : 0 < f) (hK : K < 2 ^ 53) (hL : L < 2 ^ 53) (h1 : L * f ≤ a * 2 ^ 40) (h2 : a * 2 ^ 40 ≤ K * f) :
    ∃ c q, fV (FP.ddiv (FP.i2d (nI a)) (FP.i2d (nI f))) = .fin false c q ∧ fFit (.fin false c q) ∧ L * 2 ^ 1034 ≤ fM (.fin false c q) ∧ fM (.fin false c q) ≤ K * 2 ^ 1034 := by
  obtain ⟨c, q, ea, fa, ma⟩ := f_i2d ha
  obtain ⟨d, r, ef, ff, mf⟩ := f_i2d hf
  have hq := fa.2.1
  have hr := ff.2.1
  have hr2 := ff.2.2.1
  rw [f_qmin] at hq hr
  rw [f_qmax] at hr2
  have mc : c * 2 ^ (q + 1074).toNat = a * 2 ^ 1074 := by
    have : c * 2 ^ (q - Jvm.FP.Core.b64.qmin).toNat = a * 2 ^ 1074 := ma
    rwa [f_qmin, show q - -1074 = q + 1074 by omega] at this
  have md : d * 2 ^ (r + 1074).toNat = f * 2 ^ 1074 := by
    have : d * 2 ^ (r - Jvm.FP.Core.b64.qmin).toNat = f * 2 ^ 1074 := mf
    rwa [f_qmin, show r - -1074 = r + 1074 by omega] at this
  have hd : 0 < d := by
    rcases Nat.eq_zero_or_pos d with e | e
    · rw [e, Nat.zero_mul] at md
      have := Nat.mul_pos h0 (Nat.two_pow_pos 1074)
      omega
    · exact e
  have ev : fV (FP.ddiv (FP.i2d (nI a)) (FP.i2d (nI f))) = Jvm.FP.Core.roundRatio Jvm.FP.Core.b64 (false != false) c d (q - r) := by
    show Jvm.FP.Core.val64 (Jvm.FP.Core.ddiv (FP.i2d (nI a)) (FP.i2d (nI f))) = _
    rw [Jvm.FP.Core.val64_ddiv, show Jvm.FP.Core.val64 (FP.i2d (nI a)) = _ from ea, show Jvm.FP.Core.val64 (FP.i2d (nI f)) = _ from ef]
    show (if d = 0 then _ else _) = _
    rw [if_neg (by omega)]
  have hu : Jvm.FP.Core.inUnits c (q - r) (-2148) * 2 ^ (r + 1074).toNat = a * 2 ^ 1074 * 2 ^ 2148 := by
    unfold Jvm.FP.Core.inUnits
    rw [← mc, Nat.mul_assoc, Nat.mul_assoc, ← Nat.pow_add, ← Nat.pow_add]
    congr 2
    omega
  have hx := Nat.two_pow_pos (r + 1074).toNat
  have key : ∀ M : Nat, (M * 2 ^ 1034 * 2 ^ 1074 * d) * 2 ^ (r + 1074).toNat = M * f * (2 ^ 1034 * 2 ^ 1074 * 2 ^ 1074) := fun M => by
    
    rw [Nat.mul_assoc _ d, md]
    generalize (2 : Nat) ^ 1034 = u
    generalize (2 : Nat) ^ 1074 = v
    ac_rfl
  have key2 : a * 2 ^ 1074 * 2 ^ 2148 = a * 2 ^ 40 * (2 ^ 1034 * 2 ^ 1074 * 2 ^ 1074) := by
    rw [Nat.mul_assoc, Nat.mul_assoc, ← Nat.pow_add, ← Nat.pow_add, ← Nat.pow_add, ← Nat.pow_add]
  obtain ⟨ck, qk, fk, mk⟩ := f_V hK
  obtain ⟨cl, ql, fl, ml⟩ := f_V hL
  have e0 : (Jvm.FP.Core.b64.qmin - -2148).toNat = 1074 := by rw [f_qmin]; rfl
  have up := Jvm.FP.Core.zmag_roundRatio_le Jvm.FP.Core.good_b64 (s := false != false) (A := c) (e := q - r) (e0 := -2148) hd fk Jvm.FP.Core.Datum.noConfusion (by rw [f_qmin]; omega) (by omega) (by
    refine Nat.le_of_mul_le_mul_right ?_ hx
    rw [e0, show Jvm.FP.Core.zmag Jvm.FP.Core.b64 (.fin false ck qk) = _ from mk, hu, key, key2]
    exact Nat.mul_le_mul_right _ h2)
  have lo := Jvm.FP.Core.zmag_roundRatio_ge Jvm.FP.Core.good_b64 (s := false != false) (A := c) (e := q - r) (e0 := -2148) hd fl (by rw [f_qmin]; omega) (by omega) (by
    refine Nat.le_of_mul_le_mul_right ?_ hx
    rw [e0, show Jvm.FP.Core.zmag Jvm.FP.Core.b64 (.fin false cl ql) = _ from ml, hu, key, key2]
    exact Nat.mul_le_mul_right _ h1)
  rw [show Jvm.FP.Core.zmag Jvm.FP.Core.b64 (.fin false ck qk) = _ from mk] at up
  rw [show Jvm.FP.Core.zmag Jvm.FP.Core.b64 (.fin false cl ql) = _ from ml] at lo
  have hfit := Jvm.FP.Core.val64_fits (FP.ddiv (FP.i2d (nI a)) (FP.i2d (nI f)))
  have hsg := Jvm.FP.Core.sgn_roundRatio Jvm.FP.Core.b64 (false != false) c d (q - r)
  rcases Jvm.FP.Core.roundRatio_cases Jvm.FP.Core.b64 (false != false) c d (q - r) with ⟨c9, q9, e9⟩ | e9
  · rw [e9] at ev up lo
    rw [show Jvm.FP.Core.val64 (FP.ddiv (FP.i2d (nI a)) (FP.i2d (nI f))) = _ from ev] at hfit
    exact ⟨c9, q9, ev, hfit, lo, up⟩
  · exact absurd e9 (f_ninf hK up _)
/-- and multiplied back -/
theorem f_mul {a f K L : Nat} (ha : a < 2 ^ 31) (hf : f < 2 ^ 31) (h0 : 0 < f) (hK : K < 2 ^ 53) (hL : L < 2 ^ 53) (h1 : L * f ≤ a * 2 ^ 40) (h2 : a * 2 ^ 40 ≤ K * f) (hKf : K * f < 2 ^ 53) :
    ∃ c q, fV (FP.dmul (FP.ddiv (FP.i2d (nI a)) (FP.i2d (nI f))) (FP.i2d (nI f))) = .fin false c q ∧ fFit (.fin false c q) ∧ L * f * 2 ^ 1034 ≤ fM (.fin false c q) ∧ fM (.fin false c q) ≤ K * f * 2 ^ 1034 := by
  obtain ⟨c, q, ea, fa, lo, up⟩ := f_div ha hf h0 hK hL h1 h2
  obtain ⟨d, r, ef, ff, mf⟩ := f_i2d hf
  have hLf : L * f < 2 ^ 53 := Nat.lt_of_le_of_lt h1 (Nat.lt_of_le_of_lt h2 hKf)
  obtain ⟨p1, p2, p3⟩ := Jvm.FP.Core.product_units fa ff
  have ev : fV (FP.dmul (FP.ddiv (FP.i2d (nI a)) (FP.i2d (nI f))) (FP.i2d (nI f))) = Jvm.FP.Core.roundRatio Jvm.FP.Core.b64 (false != false) (c * d) 1 (q + r) := by
    show Jvm.FP.Core.val64 (Jvm.FP.Core.dmul (FP.ddiv (FP.i2d (nI a)) (FP.i2d (nI f))) (FP.i2d (nI f))) = _
    rw [Jvm.FP.Core.val64_dmul, show Jvm.FP.Core.val64 (FP.ddiv (FP.i2d (nI a)) (FP.i2d (nI f))) = _ from ea, show Jvm.FP.Core.val64 (FP.i2d (nI f)) = _ from ef, p1]
    rfl
  obtain ⟨ck, qk, fk, mk⟩ := f_V hKf
  obtain ⟨cl, ql, fl, ml⟩ := f_V hLf
  have e0 : (Jvm.FP.Core.b64.qmin - 2 * Jvm.FP.Core.b64.qmin).toNat = 1074 := by rw [f_qmin]; rfl
  have q0 : 2 * Jvm.FP.Core.b64.qmin ≤ Jvm.FP.Core.b64.qmin := by rw [f_qmin]; omega
  have mf2 : Jvm.FP.Core.zmag Jvm.FP.Core.b64 (.fin false d r) = f * 2 ^ 1074 := mf
  have up2 := Jvm.FP.Core.zmag_roundRatio_le Jvm.FP.Core.good_b64 (s := false != false) (A := c * d) (B := 1) (e := q + r) (e0 := 2 * Jvm.FP.Core.b64.qmin) (by decide) fk Jvm.FP.Core.Datum.noConfusion q0 p2 (by
    rw [e0, show Jvm.FP.Core.zmag Jvm.FP.Core.b64 (.fin false ck qk) = _ from mk, p3, mf2, Nat.mul_one]
    refine Nat.le_trans (Nat.mul_le_mul_right _ up) (Nat.le_of_eq ?_)
    generalize (2 : Nat) ^ 1034 = u
    generalize (2 : Nat) ^ 1074 = v
    ac_rfl)
  have lo2 := Jvm.FP.Core.zmag_roundRatio_ge Jvm.FP.Core.good_b64 (s := false != false) (A := c * d) (B := 1) (e := q + r) (e0 := 2 * Jvm.FP.Core.b64.qmin) (by decide) fl q0 p2 (by
    rw [e0, show Jvm.FP.Core.zmag Jvm.FP.Core.b64 (.fin false cl ql) = _ from ml, p3, mf2, Nat.mul_one]
    refine Nat.le_trans (Nat.le_of_eq ?_) (Nat.mul_le_mul_right _ lo)
    generalize (2 : Nat) ^ 1034 = u
    generalize (2 : Nat) ^ 1074 = v
    ac_rfl)
  rw [show Jvm.FP.Core.zmag Jvm.FP.Core.b64 (.fin false ck qk) = _ from mk] at up2
  rw [show Jvm.FP.Core.zmag Jvm.FP.Core.b64 (.fin false cl ql) = _ from ml] at lo2
  have hfit := Jvm.FP.Core.val64_fits (FP.dmul (FP.ddiv (FP.i2d (nI a)) (FP.i2d (nI f))) (FP.i2d (nI f)))
  rcases Jvm.FP.Core.roundRatio_cases Jvm.FP.Core.b64 (false != false) (c * d) 1 (q + r) with ⟨c9, q9, e9⟩ | e9
  · rw [e9] at ev up2 lo2
    rw [show Jvm.FP.Core.val64 (FP.dmul (FP.ddiv (FP.i2d (nI a)) (FP.i2d (nI f))) (FP.i2d (nI f))) = _ from ev] at hfit
    exact ⟨c9, q9, ev, hfit, lo2, up2⟩
  · exact absurd e9 (f_ninf hKf up2 _)
def fpX (a f : Nat) : UInt64 := FP.dsub (FP.dmul (FP.ddiv (FP.i2d (nI a)) (FP.i2d (nI f))) (FP.i2d (nI f))) (FP.i2d (nI a))
/-- so the difference is at most f * 2^-40 -/
theorem f_sub {a f : Nat} (ha : a ≤ 1024) (hf : f ≤ 2048) (h0 : 0 < f) : fV (fpX a f) ≠ .nan ∧ fZ (fV (fpX a f)) ≤ ((f * 2 ^ 1034 : Nat) : Int) ∧ -((f * 2 ^ 1034 : Nat) : Int) ≤ fZ (fV (fpX a f)) := by
  have hdm := Nat.div_add_mod (a * 2 ^ 40) f
  have hml := Nat.mod_lt (a * 2 ^ 40) h0
  generalize hL : a * 2 ^ 40 / f = L at hdm
  have hLf : L * f + a * 2 ^ 40 % f = a * 2 ^ 40 := by rw [Nat.mul_comm]; exact hdm
  have hKf : (L + 1) * f = L * f + f := Nat.succ_mul L f
  have hLle : L ≤ a * 2 ^ 40 := by rw [← hL]; exact Nat.div_le_self _ _
  obtain ⟨c, q, ep, fp, lo, up⟩ := f_mul (a := a) (f := f) (K := L + 1) (L := L) (by omega) (by omega) h0 (by omega) (by omega) (by omega) (by omega) (by omega)
  obtain ⟨d, r, ea, fa, ma⟩ := f_i2d (a := a) (by omega)
  obtain ⟨cv, qv, fv, mv⟩ := f_V (K := f) (by omega)
  have ev : fV (fpX a f) = Jvm.FP.Core.round Jvm.FP.Core.b64 (Jvm.FP.Core.exactSum (.fin false c q) (Jvm.FP.Core.negate (.fin false d r))) := by
    show Jvm.FP.Core.val64 (Jvm.FP.Core.dsub _ _) = _
    rw [Jvm.FP.Core.val64_dsub, show Jvm.FP.Core.val64 (FP.dmul _ _) = _ from ep, show Jvm.FP.Core.val64 (FP.i2d (nI a)) = _ from ea]
  have zp : fZ (.fin false c q) = ((fM (.fin false c q) : Nat) : Int) := rfl
  have za : fZ (Jvm.FP.Core.negate (.fin false d r)) = -((a * 2 ^ 1074 : Nat) : Int) := by
    show Jvm.FP.Core.zval _ _ = _
    rw [Jvm.FP.Core.zval_negate, ← ma]
    rfl
  have zv : fZ (.fin false cv qv) = ((f * 2 ^ 1034 : Nat) : Int) := by rw [← mv]; rfl
  have zn : fZ (Jvm.FP.Core.negate (.fin false cv qv)) = -((f * 2 ^ 1034 : Nat) : Int) := by
    show Jvm.FP.Core.zval _ _ = _
    rw [Jvm.FP.Core.zval_negate]
    exact congrArg _ zv
  have ea2 : a * 2 ^ 1074 = a * 2 ^ 40 * 2 ^ 1034 := by rw [Nat.mul_assoc, ← Nat.pow_add]
  have u1 : fM (.fin false c q) ≤ a * 2 ^ 1074 + f * 2 ^ 1034 := by
    refine Nat.le_trans up ?_
    rw [ea2, ← Nat.add_mul]
    exact Nat.mul_le_mul_right _ (by omega)
  have l1 : a * 2 ^ 1074 ≤ fM (.fin false c q) + f * 2 ^ 1034 := by
    refine Nat.le_trans ?_ (Nat.add_le_add_right lo _)
    rw [ea2, ← Nat.add_mul]
    exact Nat.mul_le_mul_right _ (by omega)
  have hfx : ∃ s c' q', Jvm.FP.Core.Datum.fin false c q = .fin s c' q' := ⟨_, _, _, rfl⟩
  have hfy : ∃ s c' q', Jvm.FP.Core.negate (.fin false d r) = .fin s c' q' := ⟨_, _, _, rfl⟩
  generalize hA : a * 2 ^ 1074 = A at *
  generalize hF : f * 2 ^ 1034 = Fq at *
  generalize hM : fM (.fin false c q) = M at *
  refine ⟨?_, ?_, ?_⟩
  · exact (Jvm.FP.Core.notNaN_iff _).mp (Jvm.FP.Core.dsub_out (Jvm.FP.Core.DFin.notNaN ⟨_, _, _, ep⟩) ⟨_, _, _, ea⟩)
  · rw [ev, ← zv]
    refine Jvm.FP.Core.sum_le Jvm.FP.Core.good_b64 hfx hfy fp (Jvm.FP.Core.negate_fits fa) fv Jvm.FP.Core.Datum.noConfusion ?_
    rw [show Jvm.FP.Core.zval _ (.fin false c q) = _ from zp, show Jvm.FP.Core.zval _ (Jvm.FP.Core.negate (.fin false d r)) = _ from za, show Jvm.FP.Core.zval _ (.fin false cv qv) = _ from zv]
    omega
  · rw [ev, ← zn]
    refine Jvm.FP.Core.sum_ge Jvm.FP.Core.good_b64 hfx hfy fp (Jvm.FP.Core.negate_fits fa) (Jvm.FP.Core.negate_fits fv) (Jvm.FP.Core.negate_ne_nan Jvm.FP.Core.Datum.noConfusion) ?_
    rw [show Jvm.FP.Core.zval _ (.fin false c q) = _ from zp, show Jvm.FP.Core.zval _ (Jvm.FP.Core.negate (.fin false d r)) = _ from za, show Jvm.FP.Core.zval _ (Jvm.FP.Core.negate (.fin false cv qv)) = _ from zn]
    omega
/-- its magnitude is below a thousandth -/
theorem fp_small {a f : Nat} (ha : a ≤ 1024) (hf : f ≤ 2048) (h0 : 0 < f) : Jvm.FP.Core.dcmp (fpX a f &&& 0x7fffffffffffffff) 4562254508917369340 = some .lt := by
  obtain ⟨h1, h2, h3⟩ := f_sub ha hf h0
  have h4 := Jvm.FP.Core.mask_ne_nan h1
  have hT : Jvm.FP.Core.val64 4562254508917369340 ≠ .nan := by decide +kernel
  have hz : fZ (Jvm.FP.Core.val64 (fpX a f &&& 0x7fffffffffffffff)) ≤ ((f * 2 ^ 1034 : Nat) : Int) := by
    have e1 : fM (Jvm.FP.Core.val64 (fpX a f &&& 0x7fffffffffffffff)) = fM (fV (fpX a f)) := by
      show Jvm.FP.Core.zmag _ _ = Jvm.FP.Core.zmag _ _
      rw [Jvm.FP.Core.zmag_bits h4, Jvm.FP.Core.zmag_bits h1]
      congr 1
      rw [UInt64.toNat_and]
      have e : (0x7fffffffffffffff : UInt64).toNat = 2 ^ 63 - 1 := rfl
      rw [e, Nat.and_two_pow_sub_one_eq_mod, Nat.mod_mod]
    have e2 : (fZ (fV (fpX a f))).natAbs = fM (fV (fpX a f)) := Jvm.FP.Core.natAbs_signed _ _
    have e3 : (fZ (Jvm.FP.Core.val64 (fpX a f &&& 0x7fffffffffffffff))).natAbs = fM (Jvm.FP.Core.val64 (fpX a f &&& 0x7fffffffffffffff)) := Jvm.FP.Core.natAbs_signed _ _
    generalize f * 2 ^ 1034 = F at *
    omega
  have hb : ((2048 * 2 ^ 1034 : Nat) : Int) < Jvm.FP.Core.zval Jvm.FP.Core.b64 (Jvm.FP.Core.val64 4562254508917369340) := by decide +kernel
  have hl : ((f * 2 ^ 1034 : Nat) : Int) ≤ ((2048 * 2 ^ 1034 : Nat) : Int) := Int.ofNat_le.mpr (Nat.mul_le_mul_right _ hf)
  rw [Jvm.FP.Core.dcmp_zval h4 hT, Jvm.FP.Core.compare_ite]
  rw [if_pos (Int.lt_of_le_of_lt hz (Int.lt_of_le_of_lt hl hb))]
theorem fp_num {a f : Nat} (ha : a ≤ 1024) (hf : f ≤ 2048) (h0 : 0 < f) : vf_n64 (FP.dmul (FP.ddiv (FP.i2d (nI a)) (FP.i2d (nI f))) (FP.i2d (nI f))) ∧ vf_n64 (fpX a f) ∧ vf_n64 (fpX a f &&& 0x7fffffffffffffff) := by
  obtain ⟨h1, _, _⟩ := f_sub ha hf h0
  have hdm := Nat.div_add_mod (a * 2 ^ 40) f
  have hml := Nat.mod_lt (a * 2 ^ 40) h0
  generalize hL : a * 2 ^ 40 / f = L at hdm
  have hLf : L * f + a * 2 ^ 40 % f = a * 2 ^ 40 := by rw [Nat.mul_comm]; exact hdm
  have hKf : (L + 1) * f = L * f + f := Nat.succ_mul L f
  have hLle : L ≤ a * 2 ^ 40 := by rw [← hL]; exact Nat.div_le_self _ _
  obtain ⟨c, q, ep, fp, lo, up⟩ := f_mul (a := a) (f := f) (K := L + 1) (L := L) (by omega) (by omega) h0 (by omega) (by omega) (by omega) (by omega) (by omega)
  exact ⟨n64_of (Jvm.FP.Core.DFin.notNaN ⟨_, _, _, ep⟩), n64_of ((Jvm.FP.Core.notNaN_iff _).mpr h1), n64_of ((Jvm.FP.Core.notNaN_iff _).mpr (Jvm.FP.Core.mask_ne_nan h1))⟩
