/-! rows over the list: fields and places written, objects and arrays made, casts, statics, calls -/
section RK
variable {X : Cx} {G : RG} {cc : ByteArray} {nL : Nat} {Ts : List Cond} {own : String} {R : Room} {M : Wl} {pc k n : Nat} {lv : List (Option Value)} {rest st : List Value}
/-- what may lie in a row of objects -/
def AnyO (G : RG) (M : Wl) (x : Nat) : Prop := (∃ (ci : Nat) (fs : List Value) (r : vw_C), (x, .inr (ci, fs)) ∈ M ∧ vwCl[ci]? = some r ∧ r.1 ∈ objC) ∨ (∃ (N : Nat) (f : Nat → Int32), (x, .inl (G.Z.cI, N, .inl f)) ∈ M) ∨ ∃ k : Nat, k < 256 ∧ x = G.bx k
theorem AnyO.up {M' : Wl} {x a : Nat} {e : va_E} (h : AnyO G M x) (hU : Up M a e M') (hne : x ≠ a) : AnyO G M' x := by
  rcases h with ⟨ci, fs, r, h1, h2, h3⟩ | ⟨N, f, h1⟩ | h
  · exact Or.inl ⟨ci, fs, r, hU.2 _ _ hne h1, h2, h3⟩
  · exact Or.inr (Or.inl ⟨N, f, hU.2 _ _ hne h1⟩)
  · exact Or.inr (Or.inr h)
theorem AnyO.nu {M' : Wl} {x a : Nat} {e : va_E} (h : AnyO G M x) (hU : Nu M a e M') : AnyO G M' x := by
  rcases h with ⟨ci, fs, r, h1, h2, h3⟩ | ⟨N, f, h1⟩ | h
  · exact Or.inl ⟨ci, fs, r, (hU.2 _ _ h1).1, h2, h3⟩
  · exact Or.inr (Or.inl ⟨N, f, (hU.2 _ _ h1).1⟩)
  · exact Or.inr (Or.inr h)
theorem AnyO.kp {M' : Wl} {x : Nat} {E : List Nat} (h : AnyO G M x) (hK : Kp M E M') (hne : x ∉ E) : AnyO G M' x := by
  rcases h with ⟨ci, fs, r, h1, h2, h3⟩ | ⟨N, f, h1⟩ | h
  · exact Or.inl ⟨ci, fs, r, hK _ _ hne h1, h2, h3⟩
  · exact Or.inr (Or.inl ⟨N, f, hK _ _ hne h1⟩)
  · exact Or.inr (Or.inr h)
theorem AnyO.any {x : Nat} (S : Gx X G cc nL Ts own R) (h : AnyO G M x) : ∀ H locs, PL G.Z X.A M H → va_S X.A X.s.heap H locs → va_Any "java/lang/Object" X.s H x := fun H locs hw hS => by
  have hO := S.2.1.obj
  rcases h with ⟨ci, fs, r, h1, h2, h3⟩ | ⟨N, f, h1⟩ | ⟨k, hk, rfl⟩
  · exact va_rAny S.1.K (PL.g h1 H hw) (q0 := 0) rfl h2 (fun comp c0 e1 e2 => vb_asgC (hO _ h3) comp c0 e1 e2)
  · have hc : H[x]? = some (vp_cell G.Z.cI (N, .inl f)) := PL.g h1 H hw 0 _ rfl
    have hf : X.s.vm.findClass "[I" = some G.Z.cI := (S.2.1.1.2 0 (G.Z.cI, .int) rfl).2
    obtain ⟨kC, hkC, -⟩ := Vm.findClass_spec hf
    exact ⟨_, hc, rfl, ⟨kC, hkC⟩, fun comp e1 => vb_asgC (hO "[I" (.tail _ (.tail _ (.tail _ (.head _))))) comp _ e1 hf⟩
  · have hB := (S.2.2.1.kept hS.2.1).2.2.2.2.2.2.2.1.1 k hk
    obtain ⟨cell, g1, g2, g3, g4⟩ := hB
    obtain ⟨kC, hkC, -⟩ := Vm.findClass_spec g3
    exact ⟨cell, g1, g2, ⟨kC, hkC⟩, fun comp e1 => vb_asgC (hO RJ6 (.tail _ (.tail _ (.head _)))) comp _ e1 g3⟩
theorem m_get (S : Gx X G cc nL Ts own R) {a ci index N : Nat} {fs : List Value} {C ref : String} {T : u_T} {v : Value} (hin : ∀ q ∈ u_ws C T N, q ∈ Ts) (ha : (a, .inr (ci, fs)) ∈ M) (hc : vwCl[ci]? = some (C, T, N)) (k0 : Nat) (hk0 : k0 < N) (hlink : Cond.fieldLink own index ref (T k0).2.1 (T k0).2.2.1 ∈ Ts) (hsame : ∀ x, X.s.fieldFound? (T k0).1 (T k0).2.1 (T k0).2.2.1 = some x → X.s.fieldFound? ref (T k0).2.1 (T k0).2.2.1 = some x) (hv : fs[k0]? = some v) (hd : decode cc pc = .ok (.getfield index, 3)) (kk : J (X.at k n) nL (PL G.Z X.A M) (pc + 3) lv (v :: rest)) : J (X.at k n) nL (PL G.Z X.A M) pc lv (.ref a :: rest) :=
  fun H locs ls hw hS hl => va_get S.1.ex S.1.by S.1.ts hin S.1.ow S.1.K (PL.g ha H hw) 0 rfl hc k0 hk0 (S.1.ts _ hlink) hsame hv hd (kk H locs ls hw hS hl)
theorem m_aconst {X : Cx} {Z : Zx} (S : Fx X Z cc nL Ts own R) {w : Heap → Prop} (hd : decode cc pc = .ok (.aconst_null, 1)) (kk : J X nL w (pc + 1) lv (.null :: rest)) : J X nL w pc lv rest :=
  fun H locs ls hw hS hl => lv_null S.ex S.by hd (kk H locs ls hw hS hl)
theorem m_ldcw {X : Cx} {Z : Zx} {cc : ByteArray} {nL : Nat} {Ts : List Cond} {own : String} {R : Room} {w : Heap → Prop} {pc : Nat} {lv : List (Option Value)} {rest : List Value} (S : Fx X Z cc nL Ts own R) {index : Nat} {v : Int32} (hc : Cond.constant own index v ∈ Ts) (hd : decode cc pc = .ok (.ldc_w index, 3)) (k : J X nL w (pc + 3) lv (.int v :: rest)) : J X nL w pc lv rest :=
  fun H locs ls hw hS hl => lv_ldcw S.ex S.by S.ow (S.ts _ hc) hd (k H locs ls hw hS hl)
theorem m_lconst {X : Cx} {Z : Zx} (S : Fx X Z cc nL Ts own R) {w : Heap → Prop} {i : Fin 2} (v : Int64) (hd : decode cc pc = .ok (.lconst i, 1)) (hv : Int64.ofNat (i : Nat) = v) (kk : J X nL w (pc + 1) lv (.long v :: rest)) : J X nL w pc lv rest :=
  fun H locs ls hw hS hl => lv_lconst S.ex S.by hd hv (kk H locs ls hw hS hl)
theorem m_dup_x1 {X : Cx} {Z : Zx} (S : Fx X Z cc nL Ts own R) {w : Heap → Prop} {va vb : Value} (hd : decode cc pc = .ok (.dup_x1, 1)) (h1 : va.category = 1) (h2 : vb.category = 1) (kk : J X nL w (pc + 1) lv (va :: vb :: va :: rest)) : J X nL w pc lv (va :: vb :: rest) :=
  fun H locs ls hw hS hl => lv_dup_x1 S.ex S.by hd h1 h2 (kk H locs ls hw hS hl)
theorem m_acmp_eqT (S : Gx X G cc nL Ts own R) {x y : Nat} {off : Int} (tgt : Nat) (hd : decode cc pc = .ok (.if_acmp .eq off, 3)) (ht : (pc : Int) + off = (tgt : Int)) (h : x = y) (kk : J (X.at k n) nL (PL G.Z X.A M) tgt lv rest) : J (X.at k n) nL (PL G.Z X.A M) pc lv (.ref y :: .ref x :: rest) :=
  fun H locs ls hw hS hl => lv_acmp_eq (rx := some x) (ry := some y) S.1.ex S.1.by hd ht (fun _ => kk H locs ls hw hS hl) (fun h9 => absurd (congrArg some h) h9)
theorem m_acmp_eqF (S : Gx X G cc nL Ts own R) {x y : Nat} {off : Int} {tgt : Nat} (hd : decode cc pc = .ok (.if_acmp .eq off, 3)) (ht : (pc : Int) + off = (tgt : Int)) (h : x ≠ y) (kk : J (X.at k n) nL (PL G.Z X.A M) (pc + 3) lv rest) : J (X.at k n) nL (PL G.Z X.A M) pc lv (.ref y :: .ref x :: rest) :=
  fun H locs ls hw hS hl => lv_acmp_eq (rx := some x) (ry := some y) S.1.ex S.1.by hd ht (fun h9 => absurd (Option.some.inj h9) h) (fun _ => kk H locs ls hw hS hl)
theorem m_acmp_neF (S : Gx X G cc nL Ts own R) {x y : Nat} {off : Int} {tgt : Nat} (hd : decode cc pc = .ok (.if_acmp .ne off, 3)) (ht : (pc : Int) + off = (tgt : Int)) (h : x = y) (kk : J (X.at k n) nL (PL G.Z X.A M) (pc + 3) lv rest) : J (X.at k n) nL (PL G.Z X.A M) pc lv (.ref y :: .ref x :: rest) :=
  fun H locs ls hw hS hl => lv_acmp_ne (rx := some x) (ry := some y) S.1.ex S.1.by hd ht (fun h9 => absurd (congrArg some h) h9) (fun _ => kk H locs ls hw hS hl)
end RK
