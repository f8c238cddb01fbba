/-! rows over the list: fields and places written, objects and arrays made, casts, statics, calls -/
section RK
variable {X : Cx} {G : RG} {cc : ByteArray} {nL : Nat} {Ts : List Cond} {own : String} {R : Room} {M : Wl} {pc k n : Nat} {lv : List (Option Value)} {rest st : List Value}
theorem m_put (S : Gx X G cc nL Ts own R) {a ci index N : Nat} {fs : List Value} {C ref : String} {T : u_T} {v : Value} {ty : FieldType} (ty0 : Nat → FieldType) (hty : ∀ k, k < N → parseFieldDescriptor (T k).2.2.1 = some (ty0 k)) (hnm : ∀ a, a < N → ∀ b, b < N → a ≠ b → (T a).2.1 ≠ (T b).2.1) (hin : ∀ q ∈ u_ws C T N, q ∈ Ts) (ha : (a, .inr (ci, fs)) ∈ M) (hc : vwCl[ci]? = some (C, T, N)) (k0 : Nat) (hk0 : k0 < N) (hlink : Cond.fieldLink own index ref (T k0).2.1 (T k0).2.2.1 ∈ Ts) (hsame : ∀ x, X.s.fieldFound? (T k0).1 (T k0).2.1 (T k0).2.2.1 = some x → X.s.fieldFound? ref (T k0).2.1 (T k0).2.2.1 = some x) (hfin : (T k0).2.2.2 = false) (hdt : parseFieldDescriptor (T k0).2.2.1 = some ty) (hna : narrow ty v = v) (hfit : fits ty v = true) (hl0 : k0 < fs.length) (hd : decode cc pc = .ok (.putfield index, 3)) (kk : ∀ M' : Wl, va_D X.A M' → Up M a (.inr (ci, fs.set k0 v)) M' → J (X.at k n) nL (PL G.Z X.A M') (pc + 3) lv rest) : J (X.at k n) nL (PL G.Z X.A M) pc lv (v :: .ref a :: rest) := by
  intro H locs ls hw hS hl
  obtain ⟨i, hi⟩ := List.getElem?_of_mem ha
  exact va_put S.1.ex S.1.by S.1.ts hin ty0 hty hnm S.1.ow S.1.K hw.2 hw.1 hS i hi hc k0 hk0 (S.1.ts _ hlink) hsame hfin hdt hna hfit hl0 hd (fun H1 locs1 hP1 hD1 hS1 => kk _ hD1 (Up.of hi) H1 locs1 ls ⟨hD1, hP1⟩ hS1 hl)
theorem m_putF (S : Gx X G cc nL Ts own R) {a ci index N : Nat} {fs : List Value} {C ref : String} {T : u_T} {v : Value} {ty : FieldType} (ty0 : Nat → FieldType) (hty : ∀ k, k < N → parseFieldDescriptor (T k).2.2.1 = some (ty0 k)) (hnm : ∀ a, a < N → ∀ b, b < N → a ≠ b → (T a).2.1 ≠ (T b).2.1) (hin : ∀ q ∈ u_ws C T N, q ∈ Ts) (ha : (a, .inr (ci, fs)) ∈ M) (hc : vwCl[ci]? = some (C, T, N)) (k0 : Nat) (hk0 : k0 < N) (hlink : Cond.fieldLink own index ref (T k0).2.1 (T k0).2.2.1 ∈ Ts) (hsame : ∀ x, X.s.fieldFound? (T k0).1 (T k0).2.1 (T k0).2.2.1 = some x → X.s.fieldFound? ref (T k0).2.1 (T k0).2.2.1 = some x) (hfin : (T k0).2.2.2 = true) (hin2 : X.meth.name = "<init>") (hdecl : (T k0).1 = own) (hdt : parseFieldDescriptor (T k0).2.2.1 = some ty) (hna : narrow ty v = v) (hfit : fits ty v = true) (hl0 : k0 < fs.length) (hd : decode cc pc = .ok (.putfield index, 3)) (kk : ∀ M' : Wl, va_D X.A M' → Up M a (.inr (ci, fs.set k0 v)) M' → J (X.at k n) nL (PL G.Z X.A M') (pc + 3) lv rest) : J (X.at k n) nL (PL G.Z X.A M) pc lv (v :: .ref a :: rest) := by
  intro H locs ls hw hS hl
  obtain ⟨i, hi⟩ := List.getElem?_of_mem ha
  exact va_putF S.1.ex S.1.by S.1.ts hin ty0 hty hnm S.1.ow S.1.K hw.2 hw.1 hS i hi hc k0 hk0 (S.1.ts _ hlink) hsame hfin hin2 hdecl hdt hna hfit hl0 hd (fun H1 locs1 hP1 hD1 hS1 => kk _ hD1 (Up.of hi) H1 locs1 ls ⟨hD1, hP1⟩ hS1 hl)
theorem m_new (S : Gx X G cc nL Ts own R) {C : String} {T : u_T} {N ci index : Nat} (hin : ∀ w ∈ u_ws C T N, w ∈ Ts) (ty : Nat → FieldType) (hty : ∀ k, k < N → parseFieldDescriptor (T k).2.2.1 = some (ty k)) (hcl : Cond.classLink own index C ∈ Ts) (hinst : Cond.instantiable C N ∈ Ts) (hini : Cond.initialized C ∈ Ts) (hc : vwCl[ci]? = some (C, T, N)) {fs : List Value} (hfs : ∀ j, j < N → defaultValue (ty j) = vp_V fs j) (hcells : k + 1 ≤ R.cells) (hslots : n + N ≤ R.slots) (hd : decode cc pc = .ok (.new index, 3)) (kk : ∀ (q : Nat) (M' : Wl), va_D X.A M' → Nu M q (.inr (ci, fs)) M' → J (X.at (k + 1) (n + N)) nL (PL G.Z X.A M') (pc + 3) lv (.ref q :: rest)) : J (X.at k n) nL (PL G.Z X.A M) pc lv rest := by
  intro H locs ls hw hS hl
  show W X.p X.l X.e X.R X.s X.m X.args X.below X.meth X.c H locs k n X.Q (F0 X.m pc ls rest)
  exact va_new S.1.ex S.1.by S.1.ts hin ty hty S.1.ow (S.1.ts _ hcl) (S.1.ts _ hinst) (S.1.ts _ hini) S.1.K hw.2 hw.1 hS S.2.2.2 hc hfs (by show k + 1 ≤ X.R.cells; rw [S.1.rm]; exact hcells) (by show n + _ ≤ X.R.slots; rw [S.1.rm]; exact hslots) hd (fun q H1 hP1 hD1 hS1 => show W X.p X.l X.e X.R X.s X.m X.args X.below X.meth X.c H1 locs (k + 1) (n + N) X.Q (F0 X.m (pc + 3) ls (.ref q :: rest)) from kk q _ hD1 (Nu.of hD1) H1 locs ls ⟨hD1, hP1⟩ hS1 hl)
theorem m_newi (S : Gx X G cc nL Ts own R) {z : Int32} {N : Nat} (harr : Cond.arrayClass .int ∈ Ts) (hz : ¬ z < 0) (hN : z.toNatClampNeg = N) (hbytes : N * 4 ≤ 536870912) (hcells : k + 1 ≤ R.cells) (hslots : n + N ≤ R.slots) (hd : decode cc pc = .ok (.newarray .int, 2)) (kk : ∀ (q : Nat) (M' : Wl), va_D X.A M' → Nu M q (.inl (G.Z.cI, N, .inl (fun _ => 0))) M' → J (X.at (k + 1) (n + N)) nL (PL G.Z X.A M') (pc + 2) lv (.ref q :: rest)) : J (X.at k n) nL (PL G.Z X.A M) pc lv (.int z :: rest) := by
  intro H locs ls hw hS hl
  show W X.p X.l X.e X.R X.s X.m X.args X.below X.meth X.c H locs k n X.Q (F0 X.m pc ls (.int z :: rest))
  refine va_newa (atype := .int) (ty := .int) (N' := N) (a0 := (N, .inl (fun _ => 0))) S.1.ex S.1.by (S.1.ts _ harr) rfl S.2.1.1 hw.2 hw.1 hS S.2.2.2 (fun _ => rfl) hz hN hbytes (by show k + 1 ≤ X.R.cells; rw [S.1.rm]; exact hcells) (by show n + _ ≤ X.R.slots; rw [S.1.rm]; exact hslots) hd (fun q cA H1 hK hP1 hD1 hS1 => ?_)
  have hc : G.Z.cI = cA := Option.some.inj ((S.2.1.1.2 0 (G.Z.cI, .int) rfl).2.symm.trans (hK.2 4 (cA, .int) rfl).2)
  subst hc
  show W X.p X.l X.e X.R X.s X.m X.args X.below X.meth X.c H1 locs (k + 1) (n + N) X.Q (F0 X.m (pc + 2) ls (.ref q :: rest))
  exact kk q _ hD1 (Nu.of hD1) H1 locs ls ⟨hD1, hP1⟩ hS1 hl
theorem m_newl (S : Gx X G cc nL Ts own R) {z : Int32} {N : Nat} (harr : Cond.arrayClass .long ∈ Ts) (hz : ¬ z < 0) (hN : z.toNatClampNeg = N) (hbytes : N * 8 ≤ 536870912) (hcells : k + 1 ≤ R.cells) (hslots : n + N ≤ R.slots) (hd : decode cc pc = .ok (.newarray .long, 2)) (kk : ∀ (q : Nat) (M' : Wl), va_D X.A M' → Nu M q (.inl (G.cL, N, .inr (.inl (fun _ => 0)))) M' → J (X.at (k + 1) (n + N)) nL (PL G.Z X.A M') (pc + 2) lv (.ref q :: rest)) : J (X.at k n) nL (PL G.Z X.A M) pc lv (.int z :: rest) := by
  intro H locs ls hw hS hl
  show W X.p X.l X.e X.R X.s X.m X.args X.below X.meth X.c H locs k n X.Q (F0 X.m pc ls (.int z :: rest))
  refine va_newa (atype := .long) (ty := .long) (N' := N) (a0 := (N, .inr (.inl (fun _ => 0)))) S.1.ex S.1.by (S.1.ts _ harr) rfl S.2.1.1 hw.2 hw.1 hS S.2.2.2 (fun _ => rfl) hz hN hbytes (by show k + 1 ≤ X.R.cells; rw [S.1.rm]; exact hcells) (by show n + _ ≤ X.R.slots; rw [S.1.rm]; exact hslots) hd (fun q cA H1 hK hP1 hD1 hS1 => ?_)
  have hc : G.cL = cA := Option.some.inj ((S.2.1.1.2 3 (G.cL, .long) rfl).2.symm.trans (hK.2 4 (cA, .long) rfl).2)
  subst hc
  show W X.p X.l X.e X.R X.s X.m X.args X.below X.meth X.c H1 locs (k + 1) (n + N) X.Q (F0 X.m (pc + 2) ls (.ref q :: rest))
  exact kk q _ hD1 (Nu.of hD1) H1 locs ls ⟨hD1, hP1⟩ hS1 hl
theorem m_newq (S : Gx X G cc nL Ts own R) {C : String} {index t0 : Nat} {cA0 : ClassId} {z : Int32} {N : Nat} (hcl : Cond.classLink own index C ∈ Ts) (hao : va_AO C X.s) (ht : (tysR G)[t0]? = some (cA0, .object C)) (hz : ¬ z < 0) (hN : z.toNatClampNeg = N) (hbytes : N * 4 ≤ 536870912) (hcells : k + 1 ≤ R.cells) (hslots : n + N ≤ R.slots) (hd : decode cc pc = .ok (.anewarray index, 3)) (kk : ∀ (q : Nat) (M' : Wl), va_D X.A M' → Nu M q (.inl (cA0, N, .inr (.inr (.inr (.inr (fun _ => none)))))) M' → J (X.at (k + 1) (n + N)) nL (PL G.Z X.A M') (pc + 3) lv (.ref q :: rest)) : J (X.at k n) nL (PL G.Z X.A M) pc lv (.int z :: rest) := by
  intro H locs ls hw hS hl
  show W X.p X.l X.e X.R X.s X.m X.args X.below X.meth X.c H locs k n X.Q (F0 X.m pc ls (.int z :: rest))
  refine va_newq (N' := N) S.1.ex S.1.by S.1.ow (S.1.ts _ hcl) hao S.2.1.1 hw.2 hw.1 hS S.2.2.2 hz hN hbytes (by show k + 1 ≤ X.R.cells; rw [S.1.rm]; exact hcells) (by show n + _ ≤ X.R.slots; rw [S.1.rm]; exact hslots) hd (fun q cA H1 hK hP1 hD1 hS1 => ?_)
  have hc : cA0 = cA := by
    obtain ⟨kA, comp, -, -, -, g4⟩ := (S.2.1.1.2 t0 _ ht).2
    obtain ⟨kB, comp', -, -, -, l4⟩ := (hK.2 4 (cA, .object C) rfl).2
    exact Option.some.inj (g4.symm.trans l4)
  subst hc
  show W X.p X.l X.e X.R X.s X.m X.args X.below X.meth X.c H1 locs (k + 1) (n + N) X.Q (F0 X.m (pc + 3) ls (.ref q :: rest))
  exact kk q _ hD1 (Nu.of hD1) H1 locs ls ⟨hD1, hP1⟩ hS1 hl
theorem m_iastore (S : Gx X G cc nL Ts own R) {a N k0 : Nat} {f : Nat → Int32} {i x : Int32} (ha : (a, .inl (G.Z.cI, N, .inl f)) ∈ M) (hin : vp_in i N) (hk : i.toNatClampNeg = k0) (hd : decode cc pc = .ok (.iastore, 1)) (kk : ∀ M' : Wl, va_D X.A M' → Up M a (.inl (G.Z.cI, N, .inl (upd f k0 x))) M' → J (X.at k n) nL (PL G.Z X.A M') (pc + 1) lv rest) : J (X.at k n) nL (PL G.Z X.A M) pc lv (.int x :: .int i :: .ref a :: rest) := by
  subst hk
  intro H locs ls hw hS hl
  obtain ⟨j, hj⟩ := List.getElem?_of_mem ha
  exact va_iast S.1.ex S.1.by S.2.1.1 hw.2 hw.1 hS j 0 hj rfl hin hd (fun H1 locs1 hP1 hD1 hS1 => kk _ hD1 (Up.of hj) H1 locs1 ls ⟨hD1, hP1⟩ hS1 hl)
theorem m_lastore (S : Gx X G cc nL Ts own R) {a N k0 : Nat} {f : Nat → Int64} {i : Int32} {x : Int64} (ha : (a, .inl (G.cL, N, .inr (.inl f))) ∈ M) (hin : vp_in i N) (hk : i.toNatClampNeg = k0) (hd : decode cc pc = .ok (.lastore, 1)) (kk : ∀ M' : Wl, va_D X.A M' → Up M a (.inl (G.cL, N, .inr (.inl (vp_updL f k0 x)))) M' → J (X.at k n) nL (PL G.Z X.A M') (pc + 1) lv rest) : J (X.at k n) nL (PL G.Z X.A M) pc lv (.long x :: .int i :: .ref a :: rest) := by
  subst hk
  intro H locs ls hw hS hl
  obtain ⟨j, hj⟩ := List.getElem?_of_mem ha
  exact va_last S.1.ex S.1.by S.2.1.1 hw.2 hw.1 hS j 3 hj rfl hin hd (fun H1 locs1 hP1 hD1 hS1 => kk _ hD1 (Up.of hj) H1 locs1 ls ⟨hD1, hP1⟩ hS1 hl)
theorem m_aastore (S : Gx X G cc nL Ts own R) {a N k0 t0 v : Nat} {cA : ClassId} {E : String} {f : Nat → Option Nat} {i : Int32} (ha : (a, .inl (cA, N, .inr (.inr (.inr (.inr f))))) ∈ M) (ht : (tysR G)[t0]? = some (cA, .object E)) (hr : ∀ H locs, PL G.Z X.A M H → va_S X.A X.s.heap H locs → va_Any E X.s H v) (hin : vp_in i N) (hk : i.toNatClampNeg = k0) (hd : decode cc pc = .ok (.aastore, 1)) (kk : ∀ M' : Wl, va_D X.A M' → Up M a (.inl (cA, N, .inr (.inr (.inr (.inr (va_up f k0 (some v))))))) M' → J (X.at k n) nL (PL G.Z X.A M') (pc + 1) lv rest) : J (X.at k n) nL (PL G.Z X.A M) pc lv (.ref v :: .int i :: .ref a :: rest) := by
  subst hk
  intro H locs ls hw hS hl
  obtain ⟨j, hj⟩ := List.getElem?_of_mem ha
  exact va_astqM S.1.ex S.1.by S.2.1.1 hw.2 hw.1 hS j t0 hj ht (hr H locs hw hS) hin hd (fun H1 locs1 hP1 hD1 hS1 => kk _ hD1 (Up.of hj) H1 locs1 ls ⟨hD1, hP1⟩ hS1 hl)
theorem m_aastoreN (S : Gx X G cc nL Ts own R) {a N k0 t0 : Nat} {cA : ClassId} {E : String} {f : Nat → Option Nat} {i : Int32} (ha : (a, .inl (cA, N, .inr (.inr (.inr (.inr f))))) ∈ M) (ht : (tysR G)[t0]? = some (cA, .object E)) (hin : vp_in i N) (hk : i.toNatClampNeg = k0) (hd : decode cc pc = .ok (.aastore, 1)) (kk : ∀ M' : Wl, va_D X.A M' → Up M a (.inl (cA, N, .inr (.inr (.inr (.inr (va_up f k0 none)))))) M' → J (X.at k n) nL (PL G.Z X.A M') (pc + 1) lv rest) : J (X.at k n) nL (PL G.Z X.A M) pc lv (.null :: .int i :: .ref a :: rest) := by
  subst hk
  intro H locs ls hw hS hl
  obtain ⟨j, hj⟩ := List.getElem?_of_mem ha
  exact va_astqN S.1.ex S.1.by S.2.1.1 hw.2 hw.1 hS j t0 hj ht hin hd (fun H1 locs1 hP1 hD1 hS1 => kk _ hD1 (Up.of hj) H1 locs1 ls ⟨hD1, hP1⟩ hS1 hl)
theorem m_aaload (S : Gx X G cc nL Ts own R) {a N t0 : Nat} {cA : ClassId} {E : String} {f : Nat → Option Nat} {i : Int32} {v : Value} (ha : (a, .inl (cA, N, .inr (.inr (.inr (.inr f))))) ∈ M) (ht : (tysR G)[t0]? = some (cA, .object E)) (hin : vp_in i N) (hv : va_rf (f i.toNatClampNeg) = v) (hd : decode cc pc = .ok (.aaload, 1)) (kk : J (X.at k n) nL (PL G.Z X.A M) (pc + 1) lv (v :: rest)) : J (X.at k n) nL (PL G.Z X.A M) pc lv (.int i :: .ref a :: rest) := by
  subst hv
  intro H locs ls hw hS hl
  exact va_aldq S.1.ex S.1.by S.2.1.1 (PL.g ha H hw) 0 t0 rfl ht hin hd (kk H locs ls hw hS hl)
theorem m_iaload (S : Gx X G cc nL Ts own R) {a N : Nat} {f : Nat → Int32} {i v : Int32} (ha : (a, .inl (G.Z.cI, N, .inl f)) ∈ M) (hin : vp_in i N) (hv : f i.toNatClampNeg = v) (hd : decode cc pc = .ok (.iaload, 1)) (kk : J (X.at k n) nL (PL G.Z X.A M) (pc + 1) lv (.int v :: rest)) : J (X.at k n) nL (PL G.Z X.A M) pc lv (.int i :: .ref a :: rest) := by
  subst hv
  intro H locs ls hw hS hl
  exact va_iald S.1.ex S.1.by S.2.1.1 (PL.g ha H hw) 0 0 rfl rfl hin hd (kk H locs ls hw hS hl)
theorem m_alen (S : Gx X G cc nL Ts own R) {a t0 : Nat} {cA : ClassId} {x : vp_A} {ty : FieldType} {v : Int32} (ha : (a, .inl (cA, x)) ∈ M) (ht : (tysR G)[t0]? = some (cA, ty)) (hv : Int32.ofNat x.1 = v) (hd : decode cc pc = .ok (.arraylength, 1)) (kk : J (X.at k n) nL (PL G.Z X.A M) (pc + 1) lv (.int v :: rest)) : J (X.at k n) nL (PL G.Z X.A M) pc lv (.ref a :: rest) :=
  fun H locs ls hw hS hl => va_alen S.1.ex S.1.by S.2.1.1 (PL.g ha H hw) 0 t0 rfl ht hv hd (kk H locs ls hw hS hl)
theorem m_slen (S : Gx X G cc nL Ts own R) {t N : Nat} {ty : FieldType} {f : Nat → Value} {v : Int32} (hT : va_T ty t N f X.A X.s X.s.heap) (hv : Int32.ofNat N = v) (hd : decode cc pc = .ok (.arraylength, 1)) (kk : J (X.at k n) nL (PL G.Z X.A M) (pc + 1) lv (.int v :: rest)) : J (X.at k n) nL (PL G.Z X.A M) pc lv (.ref t :: rest) :=
  fun H locs ls hw hS hl => va_tlen S.1.ex S.1.by hT hS hv hd (kk H locs ls hw hS hl)
theorem m_gets (S : Gx X G cc nL Ts own R) {C nm d ref : String} {v : Value} {index : Nat} (hZ : va_Z C nm d v X.A X.s X.s.heap) (hlink : Cond.fieldLink own index ref nm d ∈ Ts) (hsame : C = ref) (hd : decode cc pc = .ok (.getstatic index, 3)) (kk : J (X.at k n) nL (PL G.Z X.A M) (pc + 3) lv (v :: rest)) : J (X.at k n) nL (PL G.Z X.A M) pc lv rest := by
  subst hsame
  exact fun H locs ls hw hS hl => va_gets S.1.ex S.1.by hZ hS S.1.ow (S.1.ts _ hlink) (fun x h => h) hd (kk H locs ls hw hS hl)
theorem m_cast (S : Gx X G cc nL Ts own R) {a ci index N : Nat} {fs : List Value} {C : String} {T : u_T} (ha : (a, .inr (ci, fs)) ∈ M) (hc : vwCl[ci]? = some (C, T, N)) (hlink : Cond.classLink own index C ∈ Ts) (hd : decode cc pc = .ok (.checkcast index, 3)) (kk : J (X.at k n) nL (PL G.Z X.A M) (pc + 3) lv (.ref a :: rest)) : J (X.at k n) nL (PL G.Z X.A M) pc lv (.ref a :: rest) :=
  fun H locs ls hw hS hl => va_castS S.1.ex S.1.by S.1.ow (S.1.ts _ hlink) (S.1.K.1 ci _ hc).2 (va_recv S.1.K (PL.g ha H hw) hc (q0 := 0) rfl) hd (kk H locs ls hw hS hl)
theorem m_castA (S : Gx X G cc nL Ts own R) {a index : Nat} {x : vp_A} (ha : (a, .inl (G.Z.cI, x)) ∈ M) (hlink : Cond.classLink own index "[I" ∈ Ts) (hd : decode cc pc = .ok (.checkcast index, 3)) (kk : J (X.at k n) nL (PL G.Z X.A M) (pc + 3) lv (.ref a :: rest)) : J (X.at k n) nL (PL G.Z X.A M) pc lv (.ref a :: rest) :=
  fun H locs ls hw hS hl => va_castA S.1.ex S.1.by S.1.ow (S.1.ts _ hlink) (PL.g ha H hw) 0 rfl (S.2.1.1.2 0 (G.Z.cI, .int) rfl).2 hd (kk H locs ls hw hS hl)
theorem m_castY (S : Gx X G cc nL Ts own R) {a ci index N : Nat} {fs : List Value} {C E : String} {T : u_T} (ha : (a, .inr (ci, fs)) ∈ M) (hc : vwCl[ci]? = some (C, T, N)) (hlink : Cond.classLink own index E ∈ Ts) (hca : va_Nw (.castable C E) X.s) (hd : decode cc pc = .ok (.checkcast index, 3)) (kk : J (X.at k n) nL (PL G.Z X.A M) (pc + 3) lv (.ref a :: rest)) : J (X.at k n) nL (PL G.Z X.A M) pc lv (.ref a :: rest) :=
  fun H locs ls hw hS hl => va_castY S.1.ex S.1.by S.1.ow (S.1.ts _ hlink) hca (va_recv S.1.K (PL.g ha H hw) hc (q0 := 0) rfl) hd (kk H locs ls hw hS hl)
theorem m_clone (S : Gx X G cc nL Ts own R) {a index N : Nat} {f : Nat → Int32} (h1 : Cond.methodLink own index ⟨"[I", "clone", "()Ljava/lang/Object;"⟩ ∈ Ts) (h2 : Cond.sameMethod "[I" sO "clone" "()Ljava/lang/Object;" ∈ Ts) (h3 : Cond.native ⟨sO, "clone", "()Ljava/lang/Object;"⟩ ∈ Ts) (h4 : Cond.instanceMethod ⟨sO, "clone", "()Ljava/lang/Object;"⟩ ∈ Ts) (h5 : Cond.selects "[I" ⟨"[I", "clone", "()Ljava/lang/Object;"⟩ ⟨sO, "clone", "()Ljava/lang/Object;"⟩ ∈ Ts) (ha : (a, .inl (G.Z.cI, N, .inl f)) ∈ M) (hcells : k + 1 ≤ R.cells) (hslots : n + N ≤ R.slots) (hf : 1 ≤ R.frames) (hlo : (rest.map fun v => v.category).sum + 14 ≤ R.locals) (hd : decode cc pc = .ok (.invokevirtual index, 3)) (kk : ∀ (q : Nat) (M' : Wl), va_D X.A M' → Nu M q (.inl (G.Z.cI, N, .inl f)) M' → J (X.at (k + 1) (n + N)) nL (PL G.Z X.A M') (pc + 3) lv (.ref q :: rest)) : J (X.at k n) nL (PL G.Z X.A M) pc lv (.ref a :: rest) := by
  intro H locs ls hw hS hl
  show W X.p X.l X.e X.R X.s X.m X.args X.below X.meth X.c H locs k n X.Q (F0 X.m pc ls (.ref a :: rest))
  obtain ⟨j, hj⟩ := List.getElem?_of_mem ha
  refine va_clone S.1.ex S.1.by (by rw [S.1.ml]; exact hl.1.symm) S.1.ow (S.1.ts _ h1) (S.1.ts _ h2) (S.1.ts _ h3) (S.1.ts _ h4) (S.1.ts _ h5) (S.2.1.2.2.2.2.2.1 ("[I", "java/lang/Cloneable") (by simp)) S.2.1.1 hw.2 hw.1 hS S.2.2.2 j 0 (x := (N, .inl f)) (ty := .int) hj rfl (S.2.1.1.2 0 (G.Z.cI, .int) rfl).2 (fun i v hv => ?_) (by rw [S.1.rm]; exact hf) (by rw [S.1.rm]; exact hlo) (by show k + 1 ≤ X.R.cells; rw [S.1.rm]; exact hcells) (by show n + _ ≤ X.R.slots; rw [S.1.rm]; exact hslots) hd (fun q H1 _ hP1 hD1 hS1 => show W X.p X.l X.e X.R X.s X.m X.args X.below X.meth X.c H1 locs (k + 1) (n + N) X.Q (F0 X.m (pc + 3) ls (.ref q :: rest)) from kk q _ hD1 (Nu.of hD1) H1 locs ls ⟨hD1, hP1⟩ hS1 hl)
  rw [vp_cell_i] at hv
  have hlt : i < N := by
    have h9 := (Array.getElem?_eq_some_iff.mp hv).1
    rwa [arrV_size] at h9
  rw [arrV_read _ _ hlt] at hv
  cases hv
  rfl
theorem m_ifnull (S : Gx X G cc nL Ts own R) {a : Nat} {off : Int} (hd : decode cc pc = .ok (.ifnull off, 3)) (kk : J (X.at k n) nL (PL G.Z X.A M) (pc + 3) lv rest) : J (X.at k n) nL (PL G.Z X.A M) pc lv (.ref a :: rest) :=
  fun H locs ls hw hS hl => lv_ifnull S.1.ex S.1.by hd (kk H locs ls hw hS hl)
theorem m_ifnullN (S : Gx X G cc nL Ts own R) {off : Int} (tgt : Nat) (hd : decode cc pc = .ok (.ifnull off, 3)) (ht : (pc : Int) + off = (tgt : Int)) (kk : J (X.at k n) nL (PL G.Z X.A M) tgt lv rest) : J (X.at k n) nL (PL G.Z X.A M) pc lv (.null :: rest) :=
  fun H locs ls hw hS hl => lv_ifnullN S.1.ex S.1.by hd ht (kk H locs ls hw hS hl)
theorem m_ifnonnull (S : Gx X G cc nL Ts own R) {a : Nat} {off : Int} (tgt : Nat) (hd : decode cc pc = .ok (.ifnonnull off, 3)) (ht : (pc : Int) + off = (tgt : Int)) (kk : J (X.at k n) nL (PL G.Z X.A M) tgt lv rest) : J (X.at k n) nL (PL G.Z X.A M) pc lv (.ref a :: rest) :=
  fun H locs ls hw hS hl => lv_ifnonnull S.1.ex S.1.by hd ht (kk H locs ls hw hS hl)
theorem m_ifnonnullN (S : Gx X G cc nL Ts own R) {off : Int} (hd : decode cc pc = .ok (.ifnonnull off, 3)) (kk : J (X.at k n) nL (PL G.Z X.A M) (pc + 3) lv rest) : J (X.at k n) nL (PL G.Z X.A M) pc lv (.null :: rest) :=
  fun H locs ls hw hS hl => lv_ifnonnullN S.1.ex S.1.by hd (kk H locs ls hw hS hl)
theorem m_objInit (S : Gx X G cc nL Ts own R) {a : Nat} {index : Nat} (h1 : Cond.methodLink own index objectInit ∈ Ts) (h2 : Cond.instanceMethod objectInit ∈ Ts) (h3 : Cond.code objectInit ⟨#[0xb1]⟩ 1 none ∈ Ts) (hf : 1 ≤ R.frames) (hlo : (rest.map fun v => v.category).sum + 12 ≤ R.locals) (hd : decode cc pc = .ok (.invokespecial index, 3)) (kk : J (X.at k n) nL (PL G.Z X.A M) (pc + 3) lv rest) : J (X.at k n) nL (PL G.Z X.A M) pc lv (.ref a :: rest) := by
  intro H locs ls hw hS hl
  show W X.p X.l X.e X.R X.s X.m X.args X.below X.meth X.c H locs k n X.Q (F0 X.m pc ls (.ref a :: rest))
  refine W.objInit S.1.ex S.1.by S.1.ow (S.1.ts _ h1) (S.1.ts _ h2) (S.1.ts _ h3) rfl (by rw [S.1.ml]; exact hl.1) rfl hd (by rw [S.1.rm]; exact hf) (by have h9 := hlo; rw [← S.1.rm] at h9; show 2 * 0 + _ + 12 ≤ X.R.locals; omega) ?_
  exact kk H locs ls hw hS hl
end RK
