/-! THE MODEL whose programs are empty: what it is made of -/
abbrev eL (m : Int32) (e : Nat) (c : Int32) : va_E := .inr (10, [.int m, .ref e, .int c])
abbrev eO (G : RG) (n : Nat) (f : Nat → Option Nat) : va_E := .inl (G.cO, n, .inr (.inr (.inr (.inr f))))
abbrev eR (G : RG) (n : Nat) (f : Nat → Option Nat) : va_E := .inl (G.cR, n, .inr (.inr (.inr (.inr f))))
abbrev eI (G : RG) (n : Nat) (f : Nat → Int32) : va_E := .inl (G.Z.cI, n, .inl f)
abbrev e8 (tv : Int32) (pl ka ta : Nat) : va_E := .inr (8, [.int tv, .ref pl, .ref ka, .ref ta])
def tie0 (k : Nat) : Int32 := (1 : Int32) <<< Int32.ofNat k
def Mo (G : RG) (mo ka ta : Nat) (tv : Int32) (M : Wl) : Prop := ∃ (pl pe : Nat) (f kn : Nat → Option Nat) (tf : Nat → Int32), (mo, e8 tv pl ka ta) ∈ M ∧ (pl, eL 10 pe 10) ∈ M ∧ (pe, eO G 10 f) ∈ M ∧ (∀ p, p < 10 → ∃ t, f p = some t ∧ (t, eL 0 G.e0 0) ∈ M) ∧ (ta, eI G 8 tf) ∈ M ∧ (∀ k, k < 8 → tf k = tie0 k) ∧ (ka, eR G 10 kn) ∈ M ∧ ∀ p q, p < 10 → kn p = some q → Rd G mo (nI p) q M
theorem Rd.mono {G : RG} {mo q : Nat} {p : Int32} {M N : Wl} (h : Rd G mo p q M) (hK : Kp M [] N) : Rd G mo p q N := by
  obtain ⟨q1, q2, q3, q4, a0, a1, a2, a3, a4⟩ := h
  exact ⟨q1, q2, q3, q4, hK _ _ List.not_mem_nil a0, hK _ _ List.not_mem_nil a1, hK _ _ List.not_mem_nil a2, hK _ _ List.not_mem_nil a3, hK _ _ List.not_mem_nil a4⟩
theorem Mo.mono {G : RG} {mo ka ta : Nat} {tv : Int32} {M N : Wl} (h : Mo G mo ka ta tv M) (hK : Kp M [] N) : Mo G mo ka ta tv N := by
  obtain ⟨pl, pe, f, kn, tf, h0, h1, h2, h3, h4, h5, h6, h7⟩ := h
  have k := fun (b : Nat) (x : va_E) (h9 : (b, x) ∈ M) => hK b x List.not_mem_nil h9
  exact ⟨pl, pe, f, kn, tf, k _ _ h0, k _ _ h1, k _ _ h2, fun p hp => (h3 p hp).imp fun t h9 => ⟨h9.1, k _ _ h9.2⟩, k _ _ h4, h5, k _ _ h6, fun p q hp hq => (h7 p q hp hq).mono hK⟩
/-- what is neither a model nor a row of readings stays -/
theorem nin2 {A : Nat → Prop} {G : RG} {M : Wl} {mo ka b : Nat} {x y : va_E} {kn : Nat → Option Nat} (hD : va_D A M) (h0 : (mo, y) ∈ M) (h6 : (ka, eR G 10 kn) ∈ M) (hb : (b, x) ∈ M) (n0 : x ≠ y) (n6 : x ≠ eR G 10 kn) : b ∉ [mo, ka] := fun h9 => by
  simp only [List.mem_cons, List.not_mem_nil, or_false] at h9
  rcases h9 with h9 | h9
  · exact In.ne hD hb h0 n0 h9
  · exact In.ne hD hb h6 n6 h9
theorem nOR {G : RG} (h : G.cO ≠ G.cR) {n k : Nat} {f g : Nat → Option Nat} : eO G n f ≠ eR G k g := fun e => h (by
  injection e with e
  exact (Prod.mk.inj e).1)
theorem Rd.keep {A : Nat → Prop} {G : RG} {mo ka q m' : Nat} {p : Int32} {M N : Wl} {tv : Int32} {pl k9 t9 : Nat} {kn : Nat → Option Nat} (hOR : G.cO ≠ G.cR) (hD : va_D A M) (h0 : (mo, e8 tv pl k9 t9) ∈ M) (h6 : (ka, eR G 10 kn) ∈ M) (h : Rd G m' p q M) (hK : Kp M [mo, ka] N) : Rd G m' p q N := by
  obtain ⟨q1, q2, q3, q4, a0, a1, a2, a3, a4⟩ := h
  exact ⟨q1, q2, q3, q4, hK _ _ (nin2 hD h0 h6 a0 (by simp) (by simp)) a0, hK _ _ (nin2 hD h0 h6 a1 (by simp) (by simp)) a1, hK _ _ (nin2 hD h0 h6 a2 (by simp) (nOR hOR)) a2, hK _ _ (nin2 hD h0 h6 a3 (by simp) (by simp)) a3, hK _ _ (nin2 hD h0 h6 a4 (by simp) (by simp)) a4⟩
/-- a model after a change at its own cell and its row of readings alone -/
theorem Mo.keep {A : Nat → Prop} {G : RG} {mo ka ta pl pe : Nat} {tv tv' : Int32} {f kn kn' : Nat → Option Nat} {tf : Nat → Int32} {M N : Wl} (hOR : G.cO ≠ G.cR) (hD : va_D A M) (h0 : (mo, e8 tv pl ka ta) ∈ M) (h1 : (pl, eL 10 pe 10) ∈ M) (h2 : (pe, eO G 10 f) ∈ M) (h3 : ∀ p, p < 10 → ∃ t, f p = some t ∧ (t, eL 0 G.e0 0) ∈ M) (h4 : (ta, eI G 8 tf) ∈ M) (h5 : ∀ k, k < 8 → tf k = tie0 k) (h6 : (ka, eR G 10 kn) ∈ M) (hK : Kp M [mo, ka] N) (g0 : (mo, e8 tv' pl ka ta) ∈ N) (g6 : (ka, eR G 10 kn') ∈ N) (g7 : ∀ p q, p < 10 → kn' p = some q → Rd G mo (nI p) q N) : Mo G mo ka ta tv' N :=
  ⟨pl, pe, f, kn', tf, g0, hK _ _ (nin2 hD h0 h6 h1 (by simp) (by simp)) h1, hK _ _ (nin2 hD h0 h6 h2 (by simp) (nOR hOR)) h2, fun p hp => (h3 p hp).imp fun t h9 => ⟨h9.1, hK _ _ (nin2 hD h0 h6 h9.2 (by simp) (by simp)) h9.2⟩, hK _ _ (nin2 hD h0 h6 h4 (by simp) (by simp)) h4, h5, g6, g7⟩
/-- a treadle's shafts, when so many steps are made of them -/
def twA (n k : Nat) : Nat → Int32
  | 0 => 0
  | i + 1 => twA n k i ||| ((1 : Int32) <<< (nI ((k + i) % n) &&& 31))
def twO (n u k : Nat) : Int32 := if k < n then twA n k u else 0
def twL (n u : Nat) : Nat → List Int32
  | 0 => []
  | k + 1 => twL n u k ++ [twO n u k]
theorem twL_len (n u : Nat) : ∀ k, (twL n u k).length = k
  | 0 => rfl
  | k + 1 => by rw [twL, List.length_append, twL_len n u k]; rfl
