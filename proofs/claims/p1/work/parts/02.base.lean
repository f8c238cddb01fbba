/-! what the tables say of the nest mates' fields and methods -/
abbrev nF : List (String × Nat × String × String × String × String) := [("TreadleLoom", 160, "TreadleLoom$Cloth", "ends", "LTreadleLoom$Row;", "TreadleLoom"), ("TreadleLoom", 163, "TreadleLoom$Cloth", "picks", "LTreadleLoom$Row;", "TreadleLoom"), ("TreadleLoom", 56, "TreadleLoom$Program", "tokens", "LTreadleLoom$Row;", "TreadleLoom"), ("TreadleLoom", 62, "TreadleLoom$Row", "size", "I", "TreadleLoom"), ("TreadleLoom", 80, "TreadleLoom$Program", "numbers", "LTreadleLoom$Row;", "TreadleLoom"), ("TreadleLoom", 83, "TreadleLoom$Program", "fault", "I", "TreadleLoom"), ("TreadleLoom", 86, "TreadleLoom$Program", "faultPlace", "I", "TreadleLoom"), ("TreadleLoom$Cloth", 26, "TreadleLoom$Row", "size", "I", "TreadleLoom"), ("TreadleLoom$Compiler", 33, "TreadleLoom$Program", "tokens", "LTreadleLoom$Row;", "TreadleLoom"), ("TreadleLoom$Compiler", 38, "TreadleLoom$Row", "size", "I", "TreadleLoom"), ("TreadleLoom$Compiler", 89, "TreadleLoom$Program", "fault", "I", "TreadleLoom"), ("TreadleLoom$Compiler", 92, "TreadleLoom$Program", "numbers", "LTreadleLoom$Row;", "TreadleLoom")]
abbrev nM : List (String × Nat × MethodName × String) := [("TreadleLoom", 15, yX2_init, "TreadleLoom"), ("TreadleLoom", 18, yX1_init, "TreadleLoom"), ("TreadleLoom", 37, yX0_init, "TreadleLoom"), ("TreadleLoom$Cloth", 37, yX4_hasBit, "TreadleLoom"), ("TreadleLoom$Cloth", 48, yX4_runAround, "TreadleLoom"), ("TreadleLoom$Cloth", 76, yX4_fullSet, "TreadleLoom"), ("TreadleLoom$Row", 57, yX4_runStarts, "TreadleLoom"), ("TreadleLoom$Row", 62, yX4_longestRun, "TreadleLoom")]
def NW (U : State) : Prop := (∀ q ∈ nF, va_Nw (.fieldLinkNest q.1 q.2.1 q.2.2.1 q.2.2.2.1 q.2.2.2.2.1 q.2.2.2.2.2) U) ∧ ∀ q ∈ nM, va_Nw (.methodLinkNest q.1 q.2.1 q.2.2.1 q.2.2.2) U
theorem NW.warm {s U : State} (hW : s.WarmedH U.vm) (h : NW s) : NW U := ⟨fun q hq => va_Nw.warmF hW (h.1 q hq), fun q hq => va_Nw.warmM hW (h.2 q hq)⟩
theorem NW.same {u U : State} (hv : u.vm = U.vm) (h : NW u) : NW U := ⟨fun q hq => va_Nw.same rfl hv (h.1 q hq), fun q hq => va_Nw.same rfl hv (h.2 q hq)⟩
/-! THE WALK OVER A PICTURE: J at a place of a method's code, over any heap that holds the picture; its rows; contracts by pictures. -/
/-- the locals by their places -/
def lvP : Nat → List (Option Value) → List (Nat × Value)
  | _, [] => []
  | i, none :: t => lvP (i + 1) t
  | i, some v :: t => (i, v) :: lvP (i + 1) t
def lget : List (Option Value) → Nat → Option Value
  | [], _ => none
  | x :: _, 0 => x
  | _ :: t, n + 1 => lget t n
def lset : List (Option Value) → Nat → Option Value → List (Option Value)
  | [], _, _ => []
  | _ :: t, 0, v => v :: t
  | x :: t, n + 1, v => x :: lset t n v
/-- the place ahead holds no long or double -/
def lok (lv : List (Option Value)) : Nat → Bool
  | 0 => true
  | k + 1 => match lget lv k with
    | some v => v.category == 1
    | none => true
theorem lvP_mem {j : Nat} {v : Value} : ∀ {i : Nat} {lv : List (Option Value)}, (j, v) ∈ lvP i lv ↔ i ≤ j ∧ lget lv (j - i) = some v
  | i, [] => by simp [lvP, lget]
  | i, none :: t => by
    rw [lvP, lvP_mem (i := i + 1) (lv := t)]
    constructor
    · rintro ⟨h1, h2⟩
      refine ⟨by omega, ?_⟩
      obtain ⟨k, rfl⟩ : ∃ k, j = i + 1 + k := ⟨j - (i + 1), by omega⟩
      rw [show i + 1 + k - i = k + 1 by omega]
      rw [show i + 1 + k - (i + 1) = k by omega] at h2
      exact h2
    · rintro ⟨h1, h2⟩
      rcases Nat.eq_or_lt_of_le h1 with h | h
      · subst h
        rw [Nat.sub_self] at h2
        cases h2
      · obtain ⟨k, rfl⟩ : ∃ k, j = i + 1 + k := ⟨j - (i + 1), by omega⟩
        rw [show i + 1 + k - i = k + 1 by omega] at h2
        exact ⟨by omega, by rw [show i + 1 + k - (i + 1) = k by omega]; exact h2⟩
  | i, some u :: t => by
    rw [lvP, List.mem_cons, lvP_mem (i := i + 1) (lv := t)]
    constructor
    · rintro (h | ⟨h1, h2⟩)
      · cases h
        exact ⟨Nat.le_refl _, by rw [Nat.sub_self]; rfl⟩
      · refine ⟨by omega, ?_⟩
        obtain ⟨k, rfl⟩ : ∃ k, j = i + 1 + k := ⟨j - (i + 1), by omega⟩
        rw [show i + 1 + k - i = k + 1 by omega]
        rw [show i + 1 + k - (i + 1) = k by omega] at h2
        exact h2
    · rintro ⟨h1, h2⟩
      rcases Nat.eq_or_lt_of_le h1 with h | h
      · subst h
        rw [Nat.sub_self] at h2
        cases h2
        exact Or.inl rfl
      · obtain ⟨k, rfl⟩ : ∃ k, j = i + 1 + k := ⟨j - (i + 1), by omega⟩
        rw [show i + 1 + k - i = k + 1 by omega] at h2
        exact Or.inr ⟨by omega, by rw [show i + 1 + k - (i + 1) = k by omega]; exact h2⟩
theorem lget_lset {v : Option Value} : ∀ {lv : List (Option Value)} {i j : Nat}, j ≠ i → lget (lset lv i v) j = lget lv j
  | [], _, _, _ => rfl
  | _ :: _, 0, 0, h => absurd rfl h
  | _ :: _, 0, _ + 1, _ => rfl
  | _ :: _, _ + 1, 0, _ => rfl
  | _ :: t, i + 1, j + 1, h => lget_lset (lv := t) (fun q => h (congrArg (· + 1) q))
theorem lget_lset_self {v w : Value} : ∀ {lv : List (Option Value)} {i : Nat}, lget (lset lv i (some v)) i = some w → w = v
  | [], _, h => by cases h
  | _ :: _, 0, h => (Option.some.inj h).symm
  | _ :: t, i + 1, h => lget_lset_self (lv := t) h
theorem lget_lset_none {w : Value} : ∀ {lv : List (Option Value)} {i : Nat}, ¬ lget (lset lv i none) i = some w
  | [], _, h => by cases h
  | _ :: _, 0, h => by cases h
  | _ :: t, i + 1, h => lget_lset_none (lv := t) h
def lvF (ls : Array Slot) (nL : Nat) (lv : List (Option Value)) : Prop := lv_has ls nL (lvP 0 lv)
theorem lvF.at {ls : Array Slot} {nL : Nat} {lv : List (Option Value)} (h : lvF ls nL lv) {i : Nat} {v : Value} (hi : lget lv i = some v) : ls[i]? = some (.val v) :=
  h.2.2 (i, v) (lvP_mem.mpr ⟨Nat.zero_le _, hi⟩)
theorem lvF.mono {ls : Array Slot} {nL : Nat} {lv lv' : List (Option Value)} (h : lvF ls nL lv) (hh : ∀ i v, lget lv' i = some v → lget lv i = some v) : lvF ls nL lv' :=
  ⟨h.1, h.2.1, fun q hq => h.2.2 q (lvP_mem.mpr ⟨Nat.zero_le _, hh _ _ (lvP_mem.mp hq).2⟩)⟩
theorem lvF.st1 {ls : Array Slot} {nL i : Nat} {v : Value} {lv : List (Option Value)} (hok : lok lv i = true) (h : lv_has ls nL ((i, v) :: (lvP 0 lv).filter (fun q => !(q.1 == i) && !(q.1 + 1 == i && q.2.category == 2)))) : lvF ls nL (lset lv i (some v)) := by
  refine ⟨h.1, h.2.1, fun q hq => h.2.2 q ?_⟩
  obtain ⟨j, w⟩ := q
  have hj := (lvP_mem.mp hq).2
  rw [Nat.sub_zero] at hj
  by_cases e : j = i
  · subst e
    rw [lget_lset_self hj]
    exact List.mem_cons_self
  · rw [lget_lset e] at hj
    refine List.mem_cons_of_mem _ (List.mem_filter.mpr ⟨lvP_mem.mpr ⟨Nat.zero_le _, hj⟩, ?_⟩)
    simp only [Bool.and_eq_true, Bool.not_eq_true', beq_eq_false_iff_ne, Bool.and_eq_false_iff]
    refine ⟨e, ?_⟩
    by_cases e2 : j + 1 = i
    · subst e2
      refine Or.inr ?_
      rw [lok, hj] at hok
      have h1 : w.category = 1 := eq_of_beq hok
      rw [h1]
      decide
    · exact Or.inl e2
theorem lvF.st2 {ls : Array Slot} {nL i : Nat} {v : Value} {lv : List (Option Value)} (hok : lok lv i = true) (h : lv_has ls nL ((i, v) :: (lvP 0 lv).filter (fun q => !(q.1 == i) && (!(q.1 == i + 1) && !(q.1 + 1 == i && q.2.category == 2))))) : lvF ls nL (lset (lset lv i (some v)) (i + 1) none) := by
  refine ⟨h.1, h.2.1, fun q hq => h.2.2 q ?_⟩
  obtain ⟨j, w⟩ := q
  have hj := (lvP_mem.mp hq).2
  rw [Nat.sub_zero] at hj
  by_cases e3 : j = i + 1
  · subst e3
    exact absurd hj lget_lset_none
  · rw [lget_lset e3] at hj
    by_cases e : j = i
    · subst e
      rw [lget_lset_self hj]
      exact List.mem_cons_self
    · rw [lget_lset e] at hj
      refine List.mem_cons_of_mem _ (List.mem_filter.mpr ⟨lvP_mem.mpr ⟨Nat.zero_le _, hj⟩, ?_⟩)
      simp only [Bool.and_eq_true, Bool.not_eq_true', beq_eq_false_iff_ne, Bool.and_eq_false_iff]
      refine ⟨e, e3, ?_⟩
      by_cases e2 : j + 1 = i
      · subst e2
        refine Or.inr ?_
        rw [lok, hj] at hok
        have h1 : w.category = 1 := eq_of_beq hok
        rw [h1]
        decide
      · exact Or.inl e2
/-- what a walk stands in: program, launch, world's env, room, start, method, its arguments, the frames below, method and code, what may change, the cells and slots made, what is sought -/
abbrev Cx : Type := Program × Launch × Env × Room × State × MethodId × Array Value × List Frame × Method × Code × (Nat → Prop) × Nat × Nat × (State → Prop)
def Cx.p (X : Cx) : Program := X.1
def Cx.l (X : Cx) : Launch := X.2.1
def Cx.e (X : Cx) : Env := X.2.2.1
def Cx.R (X : Cx) : Room := X.2.2.2.1
def Cx.s (X : Cx) : State := X.2.2.2.2.1
def Cx.m (X : Cx) : MethodId := X.2.2.2.2.2.1
def Cx.args (X : Cx) : Array Value := X.2.2.2.2.2.2.1
def Cx.below (X : Cx) : List Frame := X.2.2.2.2.2.2.2.1
def Cx.meth (X : Cx) : Method := X.2.2.2.2.2.2.2.2.1
def Cx.c (X : Cx) : Code := X.2.2.2.2.2.2.2.2.2.1
def Cx.A (X : Cx) : Nat → Prop := X.2.2.2.2.2.2.2.2.2.2.1
def Cx.k (X : Cx) : Nat := X.2.2.2.2.2.2.2.2.2.2.2.1
def Cx.n (X : Cx) : Nat := X.2.2.2.2.2.2.2.2.2.2.2.2.1
def Cx.Q (X : Cx) : State → Prop := X.2.2.2.2.2.2.2.2.2.2.2.2.2
def J (X : Cx) (nL : Nat) (w : Heap → Prop) (pc : Nat) (lv : List (Option Value)) (st : List Value) : Prop :=
  ∀ (H : Heap) (locs : List Loc) (ls : Array Slot), w H → va_S X.A X.s.heap H locs → lvF ls nL lv → W X.p X.l X.e X.R X.s X.m X.args X.below X.meth X.c H locs X.k X.n X.Q (F0 X.m pc ls st)
/-- the classes' addresses in the tables, the cells' addresses, the array classes -/
abbrev Zx : Type := va_G × (Nat → Nat) × ClassId × ClassId
def Zx.D (Z : Zx) : va_G := Z.1
def Zx.ad (Z : Zx) : Nat → Nat := Z.2.1
def Zx.cI (Z : Zx) : ClassId := Z.2.2.1
def Zx.cP (Z : Zx) : ClassId := Z.2.2.2
abbrev tysOf (Z : Zx) : List (ClassId × FieldType) := [(Z.cI, .int), (Z.cP, .object RX2)]
/-- what every row needs of where it stands -/
def Fx (X : Cx) (Z : Zx) (cc : ByteArray) (nL : Nat) (Ts : List Cond) (own : String) (R : Room) : Prop :=
  CallFix X.p X.m X.c cc nL X.s X.args Ts own ∧ va_K Z.D vwCl (tysOf Z) X.s ∧ X.R = R ∧ X.k ≤ R.cells ∧ X.n ≤ R.slots ∧ X.meth.locks = false ∧ NW X.s
section JI
variable {X : Cx} {Z : Zx} {cc : ByteArray} {nL : Nat} {Ts : List Cond} {own : String} {R : Room} {w : Heap → Prop} {pc : Nat} {lv : List (Option Value)} {rest : List Value}
theorem Fx.ex (S : Fx X Z cc nL Ts own R) : X.p.tables.exec = Jvm.exec := S.1.1
theorem Fx.by (S : Fx X Z cc nL Ts own R) : X.c.code = cc := S.1.2.1
theorem Fx.ml (S : Fx X Z cc nL Ts own R) : X.c.maxLocals = nL := S.1.2.2.1
theorem Fx.ow (S : Fx X Z cc nL Ts own R) : X.s.vm.findClass own = some X.m.cls := S.1.2.2.2.1
theorem Fx.ts (S : Fx X Z cc nL Ts own R) : ∀ w ∈ Ts, w.before X.args X.s = true := S.1.2.2.2.2
theorem Fx.K (S : Fx X Z cc nL Ts own R) : va_K Z.D vwCl (tysOf Z) X.s := S.2.1
theorem Fx.rm (S : Fx X Z cc nL Ts own R) : X.R = R := S.2.2.1
theorem Fx.lk (S : Fx X Z cc nL Ts own R) : X.meth.locks = false := S.2.2.2.2.2.1
theorem Fx.nw (S : Fx X Z cc nL Ts own R) : NW X.s := S.2.2.2.2.2.2
theorem J.mono {w' : Heap → Prop} {st : List Value} (h : ∀ H, w H → w' H) (k : J X nL w' pc lv st) : J X nL w pc lv st := fun H locs ls hw hS hl => k H locs ls (h H hw) hS hl
theorem J.fewer {lv' : List (Option Value)} {st : List Value} (hh : ∀ i v, lget lv' i = some v → lget lv i = some v) (k : J X nL w pc lv' st) : J X nL w pc lv st := fun H locs ls hw hS hl => k H locs ls hw hS (hl.mono hh)
theorem J.ex {α : Type} {q : α → Heap → Prop} {st : List Value} (k : ∀ a, J X nL (q a) pc lv st) : J X nL (fun H => ∃ a, q a H) pc lv st := fun H locs ls hw hS hl => by
  obtain ⟨a, ha⟩ := hw
  exact k a H locs ls ha hS hl
theorem J.and {P : Prop} {st : List Value} (k : P → J X nL w pc lv st) : J X nL (fun H => P ∧ w H) pc lv st := fun H locs ls hw hS hl => k hw.1 H locs ls hw.2 hS hl
theorem j_iconst (S : Fx X Z cc nL Ts own R) {n : Int} (v : Int32) (hd : decode cc pc = .ok (.iconst n, 1)) (hv : Int32.ofInt n = v) (k : J X nL w (pc + 1) lv (.int v :: rest)) : J X nL w pc lv rest :=
  fun H locs ls hw hS hl => lv_iconst S.ex S.by hd hv (k H locs ls hw hS hl)
theorem j_bipush (S : Fx X Z cc nL Ts own R) {n : Int} (v : Int32) (hd : decode cc pc = .ok (.bipush n, 2)) (hv : (Int8.ofInt n).toInt32 = v) (k : J X nL w (pc + 2) lv (.int v :: rest)) : J X nL w pc lv rest :=
  fun H locs ls hw hS hl => lv_bipush S.ex S.by hd hv (k H locs ls hw hS hl)
theorem j_sipush (S : Fx X Z cc nL Ts own R) {n : Int} (v : Int32) (hd : decode cc pc = .ok (.sipush n, 3)) (hv : (Int16.ofInt n).toInt32 = v) (k : J X nL w (pc + 3) lv (.int v :: rest)) : J X nL w pc lv rest :=
  fun H locs ls hw hS hl => lv_sipush S.ex S.by hd hv (k H locs ls hw hS hl)
theorem j_ldc (S : Fx X Z cc nL Ts own R) {index : Nat} {v : Int32} (hc : Cond.constant own index v ∈ Ts) (hd : decode cc pc = .ok (.ldc index, 2)) (k : J X nL w (pc + 2) lv (.int v :: rest)) : J X nL w pc lv rest :=
  fun H locs ls hw hS hl => lv_ldc S.ex S.by S.ow (S.ts _ hc) hd (k H locs ls hw hS hl)
theorem j_ldc2 (S : Fx X Z cc nL Ts own R) {index : Nat} {v : Int64} (hc : Cond.constantLong own index v ∈ Ts) (hd : decode cc pc = .ok (.ldc2_w index, 3)) (k : J X nL w (pc + 3) lv (.long v :: rest)) : J X nL w pc lv rest :=
  fun H locs ls hw hS hl => lv_ldc2 S.ex S.by S.ow (S.ts _ hc) hd (k H locs ls hw hS hl)
theorem j_iload_n (S : Fx X Z cc nL Ts own R) {i : Fin 4} {v : Int32} (hd : decode cc pc = .ok (.iload_n i, 1)) (hg : lget lv i.val = some (.int v)) (k : J X nL w (pc + 1) lv (.int v :: rest)) : J X nL w pc lv rest :=
  fun H locs ls hw hS hl => lv_iload_n S.ex S.by hd rfl (hl.at hg) (k H locs ls hw hS hl)
theorem j_iload (S : Fx X Z cc nL Ts own R) {i : Nat} {v : Int32} (hd : decode cc pc = .ok (.iload i, 2)) (hg : lget lv i = some (.int v)) (k : J X nL w (pc + 2) lv (.int v :: rest)) : J X nL w pc lv rest :=
  fun H locs ls hw hS hl => lv_iload S.ex S.by hd (hl.at hg) (k H locs ls hw hS hl)
theorem j_lload_n (S : Fx X Z cc nL Ts own R) {i : Fin 4} {v : Int64} (hd : decode cc pc = .ok (.lload_n i, 1)) (hg : lget lv i.val = some (.long v)) (k : J X nL w (pc + 1) lv (.long v :: rest)) : J X nL w pc lv rest :=
  fun H locs ls hw hS hl => lv_lload_n S.ex S.by hd rfl (hl.at hg) (k H locs ls hw hS hl)
theorem j_aload_n (S : Fx X Z cc nL Ts own R) {i : Fin 4} {v : Nat} (hd : decode cc pc = .ok (.aload_n i, 1)) (hg : lget lv i.val = some (.ref v)) (k : J X nL w (pc + 1) lv (.ref v :: rest)) : J X nL w pc lv rest :=
  fun H locs ls hw hS hl => lv_aload_n S.ex S.by hd rfl (hl.at hg) (k H locs ls hw hS hl)
theorem j_aload (S : Fx X Z cc nL Ts own R) {i : Nat} {v : Nat} (hd : decode cc pc = .ok (.aload i, 2)) (hg : lget lv i = some (.ref v)) (k : J X nL w (pc + 2) lv (.ref v :: rest)) : J X nL w pc lv rest :=
  fun H locs ls hw hS hl => lv_aload S.ex S.by hd (hl.at hg) (k H locs ls hw hS hl)
theorem j_istore_n (S : Fx X Z cc nL Ts own R) {i : Fin 4} {v : Int32} (lv' : List (Option Value)) (hd : decode cc pc = .ok (.istore_n i, 1)) (hn : i.val < nL) (hok : lok lv i.val = true) (hl' : lset lv i.val (some (.int v)) = lv') (k : J X nL w (pc + 1) lv' rest) : J X nL w pc lv (.int v :: rest) := by
  subst hl'
  exact fun H locs ls hw hS hl => lv_istore_n S.ex S.by hd rfl hl hn rfl (fun ls' hl' => k H locs ls' hw hS (lvF.st1 hok hl'))
theorem j_istore (S : Fx X Z cc nL Ts own R) {i : Nat} {v : Int32} (lv' : List (Option Value)) (hd : decode cc pc = .ok (.istore i, 2)) (hn : i < nL) (hok : lok lv i = true) (hl' : lset lv i (some (.int v)) = lv') (k : J X nL w (pc + 2) lv' rest) : J X nL w pc lv (.int v :: rest) := by
  subst hl'
  exact fun H locs ls hw hS hl => lv_istore S.ex S.by hd hl hn rfl (fun ls' hl' => k H locs ls' hw hS (lvF.st1 hok hl'))
theorem j_astore_n (S : Fx X Z cc nL Ts own R) {i : Fin 4} {v : Nat} (lv' : List (Option Value)) (hd : decode cc pc = .ok (.astore_n i, 1)) (hn : i.val < nL) (hok : lok lv i.val = true) (hl' : lset lv i.val (some (.ref v)) = lv') (k : J X nL w (pc + 1) lv' rest) : J X nL w pc lv (.ref v :: rest) := by
  subst hl'
  exact fun H locs ls hw hS hl => lv_astore_n S.ex S.by hd rfl hl hn rfl (fun ls' hl' => k H locs ls' hw hS (lvF.st1 hok hl'))
theorem j_astore (S : Fx X Z cc nL Ts own R) {i : Nat} {v : Nat} (lv' : List (Option Value)) (hd : decode cc pc = .ok (.astore i, 2)) (hn : i < nL) (hok : lok lv i = true) (hl' : lset lv i (some (.ref v)) = lv') (k : J X nL w (pc + 2) lv' rest) : J X nL w pc lv (.ref v :: rest) := by
  subst hl'
  exact fun H locs ls hw hS hl => lv_astore S.ex S.by hd hl hn rfl (fun ls' hl' => k H locs ls' hw hS (lvF.st1 hok hl'))
theorem j_lstore_n (S : Fx X Z cc nL Ts own R) {i : Fin 4} {v : Int64} (lv' : List (Option Value)) (hd : decode cc pc = .ok (.lstore_n i, 1)) (hn : i.val + 1 < nL) (hok : lok lv i.val = true) (hl' : lset (lset lv i.val (some (.long v))) (i.val + 1) none = lv') (k : J X nL w (pc + 1) lv' rest) : J X nL w pc lv (.long v :: rest) := by
  subst hl'
  exact fun H locs ls hw hS hl => lv_lstore_n S.ex S.by hd rfl hl hn rfl (fun ls' hl' => k H locs ls' hw hS (lvF.st2 hok hl'))
theorem j_iinc (S : Fx X Z cc nL Ts own R) {i : Nat} {n : Int} {x : Int32} (v : Int32) (lv' : List (Option Value)) (hd : decode cc pc = .ok (.iinc i n, 3)) (hg : lget lv i = some (.int x)) (hv : x + Int32.ofInt n = v) (hn : i < nL) (hok : lok lv i = true) (hl' : lset lv i (some (.int v)) = lv') (k : J X nL w (pc + 3) lv' rest) : J X nL w pc lv rest := by
  subst hl'
  intro H locs ls hw hS hl
  obtain ⟨q, hq⟩ := List.getElem?_of_mem (lvP_mem (i := 0).mpr ⟨Nat.zero_le _, hg⟩)
  exact lv_iinc S.ex S.by hd hl hq hv hn rfl (fun ls' hl' => k H locs ls' hw hS (lvF.st1 hok hl'))
theorem j_iadd (S : Fx X Z cc nL Ts own R) {x y : Int32} (v : Int32) (hd : decode cc pc = .ok (.iadd, 1)) (hv : x + y = v) (k : J X nL w (pc + 1) lv (.int v :: rest)) : J X nL w pc lv (.int y :: .int x :: rest) := by
  subst hv
  exact fun H locs ls hw hS hl => lv_iadd S.ex S.by hd (k H locs ls hw hS hl)
theorem j_isub (S : Fx X Z cc nL Ts own R) {x y : Int32} (v : Int32) (hd : decode cc pc = .ok (.isub, 1)) (hv : x - y = v) (k : J X nL w (pc + 1) lv (.int v :: rest)) : J X nL w pc lv (.int y :: .int x :: rest) := by
  subst hv
  exact fun H locs ls hw hS hl => lv_isub S.ex S.by hd (k H locs ls hw hS hl)
theorem j_imul (S : Fx X Z cc nL Ts own R) {x y : Int32} (v : Int32) (hd : decode cc pc = .ok (.imul, 1)) (hv : x * y = v) (k : J X nL w (pc + 1) lv (.int v :: rest)) : J X nL w pc lv (.int y :: .int x :: rest) := by
  subst hv
  exact fun H locs ls hw hS hl => lv_imul S.ex S.by hd (k H locs ls hw hS hl)
theorem j_iand (S : Fx X Z cc nL Ts own R) {x y : Int32} (v : Int32) (hd : decode cc pc = .ok (.iand, 1)) (hv : x &&& y = v) (k : J X nL w (pc + 1) lv (.int v :: rest)) : J X nL w pc lv (.int y :: .int x :: rest) := by
  subst hv
  exact fun H locs ls hw hS hl => lv_iand S.ex S.by hd (k H locs ls hw hS hl)
theorem j_ior (S : Fx X Z cc nL Ts own R) {x y : Int32} (v : Int32) (hd : decode cc pc = .ok (.ior, 1)) (hv : x ||| y = v) (k : J X nL w (pc + 1) lv (.int v :: rest)) : J X nL w pc lv (.int y :: .int x :: rest) := by
  subst hv
  exact fun H locs ls hw hS hl => lv_ior S.ex S.by hd (k H locs ls hw hS hl)
theorem j_ixor (S : Fx X Z cc nL Ts own R) {x y : Int32} (v : Int32) (hd : decode cc pc = .ok (.ixor, 1)) (hv : x ^^^ y = v) (k : J X nL w (pc + 1) lv (.int v :: rest)) : J X nL w pc lv (.int y :: .int x :: rest) := by
  subst hv
  exact fun H locs ls hw hS hl => lv_ixor S.ex S.by hd (k H locs ls hw hS hl)
theorem j_ishl (S : Fx X Z cc nL Ts own R) {x y : Int32} (v : Int32) (hd : decode cc pc = .ok (.ishl, 1)) (hv : x <<< (y &&& 31) = v) (k : J X nL w (pc + 1) lv (.int v :: rest)) : J X nL w pc lv (.int y :: .int x :: rest) := by
  subst hv
  exact fun H locs ls hw hS hl => lv_ishl S.ex S.by hd (k H locs ls hw hS hl)
theorem j_ishr (S : Fx X Z cc nL Ts own R) {x y : Int32} (v : Int32) (hd : decode cc pc = .ok (.ishr, 1)) (hv : x >>> (y &&& 31) = v) (k : J X nL w (pc + 1) lv (.int v :: rest)) : J X nL w pc lv (.int y :: .int x :: rest) := by
  subst hv
  exact fun H locs ls hw hS hl => lv_ishr S.ex S.by hd (k H locs ls hw hS hl)
theorem j_iushr (S : Fx X Z cc nL Ts own R) {x y : Int32} (v : Int32) (hd : decode cc pc = .ok (.iushr, 1)) (hv : (x.toUInt32 >>> (y.toUInt32 &&& Int32.toUInt32 31)).toInt32 = v) (k : J X nL w (pc + 1) lv (.int v :: rest)) : J X nL w pc lv (.int y :: .int x :: rest) :=
  fun H locs ls hw hS hl => lv_iushr S.ex S.by hd hv (k H locs ls hw hS hl)
theorem j_irem (S : Fx X Z cc nL Ts own R) {x y : Int32} (v : Int32) (hd : decode cc pc = .ok (.irem, 1)) (hne : ¬ y = 0) (hv : x - x / y * y = v) (k : J X nL w (pc + 1) lv (.int v :: rest)) : J X nL w pc lv (.int y :: .int x :: rest) := by
  subst hv
  exact fun H locs ls hw hS hl => lv_irem S.ex S.by hd hne (k H locs ls hw hS hl)
theorem j_idiv (S : Fx X Z cc nL Ts own R) {x y : Int32} (v : Int32) (hd : decode cc pc = .ok (.idiv, 1)) (hne : ¬ y = 0) (hv : x / y = v) (k : J X nL w (pc + 1) lv (.int v :: rest)) : J X nL w pc lv (.int y :: .int x :: rest) := by
  subst hv
  exact fun H locs ls hw hS hl => lv_idiv S.ex S.by hd hne (k H locs ls hw hS hl)
theorem j_i2l (S : Fx X Z cc nL Ts own R) {x : Int32} (v : Int64) (hd : decode cc pc = .ok (.i2l, 1)) (hv : x.toInt64 = v) (k : J X nL w (pc + 1) lv (.long v :: rest)) : J X nL w pc lv (.int x :: rest) :=
  fun H locs ls hw hS hl => lv_i2l S.ex S.by hd hv (k H locs ls hw hS hl)
theorem j_i2d (S : Fx X Z cc nL Ts own R) {x : Int32} (hd : decode cc pc = .ok (.i2d, 1)) (k : J X nL w (pc + 1) lv (.double (FP.i2d x) :: rest)) : J X nL w pc lv (.int x :: rest) :=
  fun H locs ls hw hS hl => lv_i2d S.ex S.by hd (k H locs ls hw hS hl)
theorem j_ladd (S : Fx X Z cc nL Ts own R) {x y : Int64} (v : Int64) (hd : decode cc pc = .ok (.ladd, 1)) (hv : x + y = v) (k : J X nL w (pc + 1) lv (.long v :: rest)) : J X nL w pc lv (.long y :: .long x :: rest) := by
  subst hv
  exact fun H locs ls hw hS hl => lv_ladd S.ex S.by hd (k H locs ls hw hS hl)
theorem j_lmul (S : Fx X Z cc nL Ts own R) {x y : Int64} (v : Int64) (hd : decode cc pc = .ok (.lmul, 1)) (hv : x * y = v) (k : J X nL w (pc + 1) lv (.long v :: rest)) : J X nL w pc lv (.long y :: .long x :: rest) := by
  subst hv
  exact fun H locs ls hw hS hl => lv_lmul S.ex S.by hd (k H locs ls hw hS hl)
theorem j_lcmp (S : Fx X Z cc nL Ts own R) {x y : Int64} (v : Int32) (hd : decode cc pc = .ok (.lcmp, 1)) (hv : lg_cmp x y = v) (k : J X nL w (pc + 1) lv (.int v :: rest)) : J X nL w pc lv (.long y :: .long x :: rest) := by
  subst hv
  exact fun H locs ls hw hS hl => W.lcmp S.ex S.by hd (k H locs ls hw hS hl)
theorem j_ddiv (S : Fx X Z cc nL Ts own R) {x y : UInt64} (hd : decode cc pc = .ok (.ddiv, 1)) (hne : vf_n64 (FP.ddiv x y)) (k : J X nL w (pc + 1) lv (.double (FP.ddiv x y) :: rest)) : J X nL w pc lv (.double y :: .double x :: rest) :=
  fun H locs ls hw hS hl => lv_ddiv S.ex S.by hd hne (k H locs ls hw hS hl)
theorem j_dmul (S : Fx X Z cc nL Ts own R) {x y : UInt64} (hd : decode cc pc = .ok (.dmul, 1)) (hne : vf_n64 (FP.dmul x y)) (k : J X nL w (pc + 1) lv (.double (FP.dmul x y) :: rest)) : J X nL w pc lv (.double y :: .double x :: rest) :=
  fun H locs ls hw hS hl => lv_dmul S.ex S.by hd hne (k H locs ls hw hS hl)
theorem j_dsub (S : Fx X Z cc nL Ts own R) {x y : UInt64} (hd : decode cc pc = .ok (.dsub, 1)) (hne : vf_n64 (FP.dsub x y)) (k : J X nL w (pc + 1) lv (.double (FP.dsub x y) :: rest)) : J X nL w pc lv (.double y :: .double x :: rest) :=
  fun H locs ls hw hS hl => lv_dsub S.ex S.by hd hne (k H locs ls hw hS hl)
theorem j_dcmp (S : Fx X Z cc nL Ts own R) {x y : UInt64} {op : CmpOp} (v : Int32) (hd : decode cc pc = .ok (.dcmp op, 1)) (hv : Op.cmpValue (FP.dcmp x y) op = v) (k : J X nL w (pc + 1) lv (.int v :: rest)) : J X nL w pc lv (.double y :: .double x :: rest) := by
  subst hv
  exact fun H locs ls hw hS hl => lv_dcmp S.ex S.by hd (k H locs ls hw hS hl)
theorem j_dconst0 (S : Fx X Z cc nL Ts own R) (hd : decode cc pc = .ok (.dconst 0, 1)) (k : J X nL w (pc + 1) lv (.double FP.dconst0 :: rest)) : J X nL w pc lv rest :=
  fun H locs ls hw hS hl => lv_dconst0 S.ex S.by hd (k H locs ls hw hS hl)
theorem j_dup (S : Fx X Z cc nL Ts own R) {v : Value} (hd : decode cc pc = .ok (.dup, 1)) (hc : v.category = 1) (k : J X nL w (pc + 1) lv (v :: v :: rest)) : J X nL w pc lv (v :: rest) :=
  fun H locs ls hw hS hl => lv_dup S.ex S.by hd hc (k H locs ls hw hS hl)
theorem j_dup2 (S : Fx X Z cc nL Ts own R) {v u : Value} (hd : decode cc pc = .ok (.dup2, 1)) (hc : v.category = 1) (hc2 : u.category = 1) (k : J X nL w (pc + 1) lv (v :: u :: v :: u :: rest)) : J X nL w pc lv (v :: u :: rest) :=
  fun H locs ls hw hS hl => lv_dup2_11 S.ex S.by hd hc hc2 (k H locs ls hw hS hl)
theorem j_pop (S : Fx X Z cc nL Ts own R) {v : Value} (hd : decode cc pc = .ok (.pop, 1)) (hc : v.category = 1) (k : J X nL w (pc + 1) lv rest) : J X nL w pc lv (v :: rest) :=
  fun H locs ls hw hS hl => lv_pop S.ex S.by hd hc (k H locs ls hw hS hl)
theorem j_goto (S : Fx X Z cc nL Ts own R) {off : Int} (tgt : Nat) (hd : decode cc pc = .ok (.goto off, 3)) (ht : (pc : Int) + off = (tgt : Int)) (k : J X nL w tgt lv rest) : J X nL w pc lv rest :=
  fun H locs ls hw hS hl => lv_goto S.ex S.by hd ht (k H locs ls hw hS hl)
theorem j_table (S : Fx X Z cc nL Ts own R) {dflt lo hi : Int} {offs : Array Int} {len : Nat} {x : Int32} {off : Int} (tgt : Nat) (hd : decode cc pc = .ok (.tableswitch dflt lo hi offs, len)) (h1 : ¬ x.toInt < lo) (h2 : ¬ hi < x.toInt) (ho : offs[(x.toInt - lo).toNat]? = some off) (ht : (pc : Int) + off = (tgt : Int)) (k : J X nL w tgt lv rest) : J X nL w pc lv (.int x :: rest) :=
  fun H locs ls hw hS hl => lv_tableIn S.ex S.by hd h1 h2 ho ht (k H locs ls hw hS hl)
theorem j_tableOut (S : Fx X Z cc nL Ts own R) {dflt lo hi : Int} {offs : Array Int} {len : Nat} {x : Int32} (tgt : Nat) (hd : decode cc pc = .ok (.tableswitch dflt lo hi offs, len)) (h : x.toInt < lo ∨ hi < x.toInt) (ht : (pc : Int) + dflt = (tgt : Int)) (k : J X nL w tgt lv rest) : J X nL w pc lv (.int x :: rest) :=
  fun H locs ls hw hS hl => lv_tableOut S.ex S.by hd h ht (k H locs ls hw hS hl)
theorem j_lookup (S : Fx X Z cc nL Ts own R) {dflt : Int} {ps : Array (Int × Int)} {len : Nat} {x : Int32} {off : Int} (tgt : Nat) (hd : decode cc pc = .ok (.lookupswitch dflt ps, len)) (hp : (ps.toList.zip (ps.toList.drop 1)).all (fun (a, next) => a.1 < next.1) = true) (ho : Op.lookupswitch.offset ps.toList dflt x.toInt = off) (ht : (pc : Int) + off = (tgt : Int)) (k : J X nL w tgt lv rest) : J X nL w pc lv (.int x :: rest) :=
  fun H locs ls hw hS hl => lv_lookup S.ex S.by hd hp ho ht (k H locs ls hw hS hl)
theorem j_if_eq (S : Fx X Z cc nL Ts own R) {x : Int32} {off : Int} (tgt : Nat) (hd : decode cc pc = .ok (.ifCond .eq off, 3)) (ht : (pc : Int) + off = (tgt : Int)) (kt : x = 0 → J X nL w tgt lv rest) (kf : ¬ x = 0 → J X nL w (pc + 3) lv rest) : J X nL w pc lv (.int x :: rest) :=
  fun H locs ls hw hS hl => lv_if_eq S.ex S.by hd ht (fun h => kt h H locs ls hw hS hl) (fun h => kf h H locs ls hw hS hl)
theorem j_icmp_eq (S : Fx X Z cc nL Ts own R) {x y : Int32} {off : Int} (tgt : Nat) (hd : decode cc pc = .ok (.if_icmp .eq off, 3)) (ht : (pc : Int) + off = (tgt : Int)) (kt : x = y → J X nL w tgt lv rest) (kf : ¬ x = y → J X nL w (pc + 3) lv rest) : J X nL w pc lv (.int y :: .int x :: rest) :=
  fun H locs ls hw hS hl => lv_icmp_eq S.ex S.by hd ht (fun h => kt h H locs ls hw hS hl) (fun h => kf h H locs ls hw hS hl)
theorem j_if_ne (S : Fx X Z cc nL Ts own R) {x : Int32} {off : Int} (tgt : Nat) (hd : decode cc pc = .ok (.ifCond .ne off, 3)) (ht : (pc : Int) + off = (tgt : Int)) (kt : ¬ x = 0 → J X nL w tgt lv rest) (kf : x = 0 → J X nL w (pc + 3) lv rest) : J X nL w pc lv (.int x :: rest) :=
  fun H locs ls hw hS hl => lv_if_ne S.ex S.by hd ht (fun h => kt h H locs ls hw hS hl) (fun h => kf h H locs ls hw hS hl)
theorem j_icmp_ne (S : Fx X Z cc nL Ts own R) {x y : Int32} {off : Int} (tgt : Nat) (hd : decode cc pc = .ok (.if_icmp .ne off, 3)) (ht : (pc : Int) + off = (tgt : Int)) (kt : ¬ x = y → J X nL w tgt lv rest) (kf : x = y → J X nL w (pc + 3) lv rest) : J X nL w pc lv (.int y :: .int x :: rest) :=
  fun H locs ls hw hS hl => lv_icmp_ne S.ex S.by hd ht (fun h => kt h H locs ls hw hS hl) (fun h => kf h H locs ls hw hS hl)
theorem j_if_lt (S : Fx X Z cc nL Ts own R) {x : Int32} {off : Int} (tgt : Nat) (hd : decode cc pc = .ok (.ifCond .lt off, 3)) (ht : (pc : Int) + off = (tgt : Int)) (kt : x < 0 → J X nL w tgt lv rest) (kf : ¬ x < 0 → J X nL w (pc + 3) lv rest) : J X nL w pc lv (.int x :: rest) :=
  fun H locs ls hw hS hl => lv_if_lt S.ex S.by hd ht (fun h => kt h H locs ls hw hS hl) (fun h => kf h H locs ls hw hS hl)
theorem j_icmp_lt (S : Fx X Z cc nL Ts own R) {x y : Int32} {off : Int} (tgt : Nat) (hd : decode cc pc = .ok (.if_icmp .lt off, 3)) (ht : (pc : Int) + off = (tgt : Int)) (kt : x < y → J X nL w tgt lv rest) (kf : ¬ x < y → J X nL w (pc + 3) lv rest) : J X nL w pc lv (.int y :: .int x :: rest) :=
  fun H locs ls hw hS hl => lv_icmp_lt S.ex S.by hd ht (fun h => kt h H locs ls hw hS hl) (fun h => kf h H locs ls hw hS hl)
theorem j_if_ge (S : Fx X Z cc nL Ts own R) {x : Int32} {off : Int} (tgt : Nat) (hd : decode cc pc = .ok (.ifCond .ge off, 3)) (ht : (pc : Int) + off = (tgt : Int)) (kt : 0 ≤ x → J X nL w tgt lv rest) (kf : ¬ 0 ≤ x → J X nL w (pc + 3) lv rest) : J X nL w pc lv (.int x :: rest) :=
  fun H locs ls hw hS hl => lv_if_ge S.ex S.by hd ht (fun h => kt h H locs ls hw hS hl) (fun h => kf h H locs ls hw hS hl)
theorem j_icmp_ge (S : Fx X Z cc nL Ts own R) {x y : Int32} {off : Int} (tgt : Nat) (hd : decode cc pc = .ok (.if_icmp .ge off, 3)) (ht : (pc : Int) + off = (tgt : Int)) (kt : y ≤ x → J X nL w tgt lv rest) (kf : ¬ y ≤ x → J X nL w (pc + 3) lv rest) : J X nL w pc lv (.int y :: .int x :: rest) :=
  fun H locs ls hw hS hl => lv_icmp_ge S.ex S.by hd ht (fun h => kt h H locs ls hw hS hl) (fun h => kf h H locs ls hw hS hl)
theorem j_if_gt (S : Fx X Z cc nL Ts own R) {x : Int32} {off : Int} (tgt : Nat) (hd : decode cc pc = .ok (.ifCond .gt off, 3)) (ht : (pc : Int) + off = (tgt : Int)) (kt : 0 < x → J X nL w tgt lv rest) (kf : ¬ 0 < x → J X nL w (pc + 3) lv rest) : J X nL w pc lv (.int x :: rest) :=
  fun H locs ls hw hS hl => lv_if_gt S.ex S.by hd ht (fun h => kt h H locs ls hw hS hl) (fun h => kf h H locs ls hw hS hl)
theorem j_icmp_gt (S : Fx X Z cc nL Ts own R) {x y : Int32} {off : Int} (tgt : Nat) (hd : decode cc pc = .ok (.if_icmp .gt off, 3)) (ht : (pc : Int) + off = (tgt : Int)) (kt : y < x → J X nL w tgt lv rest) (kf : ¬ y < x → J X nL w (pc + 3) lv rest) : J X nL w pc lv (.int y :: .int x :: rest) :=
  fun H locs ls hw hS hl => lv_icmp_gt S.ex S.by hd ht (fun h => kt h H locs ls hw hS hl) (fun h => kf h H locs ls hw hS hl)
theorem j_if_le (S : Fx X Z cc nL Ts own R) {x : Int32} {off : Int} (tgt : Nat) (hd : decode cc pc = .ok (.ifCond .le off, 3)) (ht : (pc : Int) + off = (tgt : Int)) (kt : x ≤ 0 → J X nL w tgt lv rest) (kf : ¬ x ≤ 0 → J X nL w (pc + 3) lv rest) : J X nL w pc lv (.int x :: rest) :=
  fun H locs ls hw hS hl => lv_if_le S.ex S.by hd ht (fun h => kt h H locs ls hw hS hl) (fun h => kf h H locs ls hw hS hl)
theorem j_icmp_le (S : Fx X Z cc nL Ts own R) {x y : Int32} {off : Int} (tgt : Nat) (hd : decode cc pc = .ok (.if_icmp .le off, 3)) (ht : (pc : Int) + off = (tgt : Int)) (kt : x ≤ y → J X nL w tgt lv rest) (kf : ¬ x ≤ y → J X nL w (pc + 3) lv rest) : J X nL w pc lv (.int y :: .int x :: rest) :=
  fun H locs ls hw hS hl => lv_icmp_le S.ex S.by hd ht (fun h => kt h H locs ls hw hS hl) (fun h => kf h H locs ls hw hS hl)
end JI
/-! ## contracts by pictures -/
/-- the cells' addresses are apart, and may change -/
def AdOk (Z : Zx) (A : Nat → Prop) : Prop := (∀ i j : Nat, i < 76 → j < 76 → Z.ad i = Z.ad j → i = j) ∧ ∀ k : Nat, k < 76 → A (Z.ad k)
abbrev Pw (Z : Zx) (w : Heap → Prop) (av : List Value) : Array Value → State → Prop := va_Pc av (fun U => w U.heap ∧ va_K Z.D vwCl (tysOf Z) U ∧ NW U)
abbrev Qi (w' : Heap → Prop) (A : Nat → Prop) (post : Int32 → Prop) : Array Value → State → Outcome → State → Prop := va_Qi (fun (r : Int32) (_ : Unit) => post r) (fun _ t => w' t.heap) A
abbrev Ql (w' : Heap → Prop) (A : Nat → Prop) (post : Int64 → Prop) : Array Value → State → Outcome → State → Prop := va_Ql (fun (r : Int64) (_ : Unit) => post r) (fun _ t => w' t.heap) A
abbrev Qd (w' : Heap → Prop) (A : Nat → Prop) (post : UInt64 → Prop) : Array Value → State → Outcome → State → Prop := va_Qd (fun (r : UInt64) (_ : Unit) => post r) (fun _ t => w' t.heap) A
abbrev Qv (w' : Heap → Prop) (A : Nat → Prop) : Array Value → State → Outcome → State → Prop := va_Qv (fun (_ : Unit) => True) (fun _ t => w' t.heap) A
abbrev Qr (w' : Heap → Prop) (A : Nat → Prop) (a0 : Nat) : Array Value → State → Outcome → State → Prop := va_Qr (fun (_ : Unit) => True) (fun _ a t => a = a0 ∧ w' t.heap) A
abbrev Km (l : Launch) (Z : Zx) (A : Nat → Prop) (y : MethodName) (ws : List Cond) (rm : Room) (w : Heap → Prop) (av : List Value) (Qc : Array Value → State → Outcome → State → Prop) : Prop := Met l y ws rm (Pw Z w av) Qc 0 0 A
theorem Pw.blind {Z : Zx} {w : Heap → Prop} {av : List Value} : FrameBlind (Pw Z w av) := fun a U g mk q => ⟨q.1, q.2.1, va_K.moved (u := U) (U := U.calling g mk a) (Vm.Alike.refl U.vm) q.2.2.1, NW.same (u := U) (U := U.calling g mk a) rfl q.2.2.2⟩
/-- the locals at a method's start -/
def lvA : List Value → List (Option Value)
  | [] => []
  | v :: t => if v.category = 2 then some v :: none :: lvA t else some v :: lvA t
def lvI (n : Nat) (av : List Value) : List (Option Value) := lvA av ++ List.replicate (n - (lvA av).length) none
theorem lvP_none : ∀ (k i : Nat), lvP i (List.replicate k none) = []
  | 0, _ => rfl
  | k + 1, i => by rw [List.replicate_succ]; exact lvP_none k (i + 1)
theorem lvA_args (k : Nat) : ∀ (av : List Value) (i : Nat), lvP i (lvA av ++ List.replicate k none) = lv_args i av
  | [], i => by rw [lvA, List.nil_append]; exact lvP_none k i
  | v :: t, i => by
    rw [lvA, lv_args]
    by_cases h : v.category = 2
    · rw [if_pos h, if_pos h]
      exact congrArg (fun z => (i, v) :: z) (lvA_args k t (i + 2))
    · rw [if_neg h, if_neg h]
      exact congrArg (fun z => (i, v) :: z) (lvA_args k t (i + 1))
theorem lvI_entry (av : List Value) {n : Nat} (h : (lg_sl av).length ≤ n) : lvF ((lg_sl av ++ List.replicate (n - (lg_sl av).length) Slot.unset).toArray) n (lvI n av) := by
  have h1 := lv_entry av h
  unfold lvF lvI
  rw [lvA_args]
  exact h1
/-- a contract out of a walk -/
theorem Km.of {l : Launch} {Z : Zx} {A : Nat → Prop} {y : MethodName} {ws ws' : List Cond} {rm : Room} {w : Heap → Prop} {av : List Value} {Qc : Array Value → State → Outcome → State → Prop} {cc : ByteArray} {maxL : Nat} {ret : Option FieldType}
    (hy : plainName y.cls = true) (hw : ws = Cond.code y cc maxL ret :: ws') (hL : (lg_sl av).length ≤ maxL) (hA : AdOk Z A)
    (body : ∀ X : Cx, X.l = l → Fx X Z cc maxL ws y.cls rm → AdOk Z X.A → X.meth.sig.returnType = ret → X.A = A → X.Q = MQ X.below Qc X.args X.s 0 0 A → X.k = 0 → X.n = 0 → J X maxL w 0 (lvI maxL av) []) : Km l Z A y ws rm w av Qc := by
  refine Met.ofW (cc := cc) (maxL := maxL) (ret := ret) hy hw ?_
  intro p e s m args below meth c s₁ B hml hv
  obtain ⟨rfl, hw0, hK, hNW⟩ := hv
  have hts := atoms_spec (ws := ws) B.pre
  have hown : s.vm.findClass y.cls = some m.cls := findClass_of_methodNamed B.named
  have hk := body (p, l, e, rm, s, m, av.toArray, below, meth, c, A, 0, 0, MQ below Qc av.toArray s 0 0 A) rfl
    ⟨⟨B.exec, B.bytes, hml, hown, hts⟩, hK, rfl, Nat.zero_le _, Nat.zero_le _, B.notSynchronized, hNW⟩ hA B.returns rfl rfl rfl rfl
  rw [lg_entry_eq]
  exact hk s.heap [] _ hw0 va_S.rf (lvI_entry av hL)
section JC
variable {X : Cx} {Z : Zx} {cc : ByteArray} {nL : Nat} {Ts : List Cond} {own : String} {R : Room} {w w' : Heap → Prop} {pc : Nat} {lv : List (Option Value)} {rest st : List Value}
theorem j_ireturn (S : Fx X Z cc nL Ts own R) {A : Nat → Prop} {post : Int32 → Prop} {v : Int32} {ty : FieldType} (hr : X.meth.sig.returnType = some ty) (hA : X.A = A) (hQ : X.Q = MQ X.below (Qi w' A post) X.args X.s 0 0 A) (hk : X.k = 0) (hn : X.n = 0) (hd : decode cc pc = .ok (.ireturn, 1)) (hna : narrow ty (.int v) = .int v) (hq : post v) (hh : ∀ H, w H → w' H) : J X nL w pc lv [.int v] := by
  intro H locs ls hw hS hl
  rw [hQ, hk, hn]
  subst hA
  exact W.zret S.ex S.by hr hna (fun t ht _ => ⟨⟨v, (), rfl, hq, by show w' t.heap; rw [ht]; exact hh H hw⟩, hS.F ht⟩) hS.2.2 hd S.lk
theorem j_lreturn (S : Fx X Z cc nL Ts own R) {A : Nat → Prop} {post : Int64 → Prop} {v : Int64} (hr : X.meth.sig.returnType = some .long) (hA : X.A = A) (hQ : X.Q = MQ X.below (Ql w' A post) X.args X.s 0 0 A) (hk : X.k = 0) (hn : X.n = 0) (hd : decode cc pc = .ok (.lreturn, 1)) (hq : post v) (hh : ∀ H, w H → w' H) : J X nL w pc lv [.long v] := by
  intro H locs ls hw hS hl
  rw [hQ, hk, hn]
  subst hA
  exact W.lret S.ex S.by hr (fun t ht _ => ⟨⟨v, (), rfl, hq, by show w' t.heap; rw [ht]; exact hh H hw⟩, hS.F ht⟩) hS.2.2 hd S.lk
theorem j_dreturn (S : Fx X Z cc nL Ts own R) {A : Nat → Prop} {post : UInt64 → Prop} {v : UInt64} (hr : X.meth.sig.returnType = some .double) (hA : X.A = A) (hQ : X.Q = MQ X.below (Qd w' A post) X.args X.s 0 0 A) (hk : X.k = 0) (hn : X.n = 0) (hd : decode cc pc = .ok (.dreturn, 1)) (hq : post v) (hh : ∀ H, w H → w' H) : J X nL w pc lv [.double v] := by
  intro H locs ls hw hS hl
  rw [hQ, hk, hn]
  subst hA
  exact W.dret S.ex S.by hr (fun t ht _ => ⟨⟨v, (), rfl, hq, by show w' t.heap; rw [ht]; exact hh H hw⟩, hS.F ht⟩) hS.2.2 hd S.lk
theorem j_return (S : Fx X Z cc nL Ts own R) {A : Nat → Prop} (hr : X.meth.sig.returnType = none) (hA : X.A = A) (hQ : X.Q = MQ X.below (Qv w' A) X.args X.s 0 0 A) (hk : X.k = 0) (hn : X.n = 0) (hd : decode cc pc = .ok (.return_, 1)) (hh : ∀ H, w H → w' H) : J X nL w pc lv [] := by
  intro H locs ls hw hS hl
  rw [hQ, hk, hn]
  subst hA
  exact W.vret S.ex S.by hr (fun t ht _ => ⟨⟨(), rfl, trivial, by show w' t.heap; rw [ht]; exact hh H hw⟩, hS.F ht⟩) hS.2.2 hd S.lk
theorem j_areturn (S : Fx X Z cc nL Ts own R) {A : Nat → Prop} {v : Nat} {cn : String} (hr : X.meth.sig.returnType = some (.object cn)) (hA : X.A = A) (hQ : X.Q = MQ X.below (Qr w' A v) X.args X.s 0 0 A) (hk : X.k = 0) (hn : X.n = 0) (hd : decode cc pc = .ok (.areturn, 1)) (hh : ∀ H, w H → w' H) : J X nL w pc lv [.ref v] := by
  intro H locs ls hw hS hl
  rw [hQ, hk, hn]
  subst hA
  exact W.aret S.ex S.by hr (Or.inl ⟨_, rfl⟩) (Or.inr ⟨v, rfl⟩) (fun t ht _ => ⟨⟨(), v, rfl, trivial, rfl, by show w' t.heap; rw [ht]; exact hh H hw⟩, hS.F ht⟩) hS.2.2 hd S.lk
/-- a field is read -/
theorem j_get (S : Fx X Z cc nL Ts own R) {a ci index N : Nat} {fs : List Value} {C ref : String} {T : u_T} {v : Value} (hin : ∀ q ∈ u_ws C T N, q ∈ Ts) (hg : ∀ H, w H → va_P Z.D vwCl [(a, .inr (ci, fs))] H) (hc : vwCl[ci]? = some (C, T, N)) (k : Nat) (hk : k < N) (hlink : Cond.fieldLink own index ref (T k).2.1 (T k).2.2.1 ∈ Ts) (hsame : (T k).1 = ref) (hv : fs[k]? = some v) (hd : decode cc pc = .ok (.getfield index, 3)) (kk : J X nL w (pc + 3) lv (v :: rest)) : J X nL w pc lv (.ref a :: rest) := by
  intro H locs ls hw hS hl
  refine va_get S.ex S.by S.ts hin S.ow S.K (hg H hw) 0 rfl hc k hk (S.ts _ hlink) (fun x h => ?_) hv hd (kk H locs ls hw hS hl)
  rw [← hsame]
  exact h
/-- a nest mate's field is read -/
theorem j_getN (S : Fx X Z cc nL Ts own R) {a ci index N : Nat} {fs : List Value} {C ref host : String} {T : u_T} {v : Value} (hin : ∀ q ∈ u_ws C T N, q ∈ Ts) (hg : ∀ H, w H → va_P Z.D vwCl [(a, .inr (ci, fs))] H) (hc : vwCl[ci]? = some (C, T, N)) (k : Nat) (hk : k < N) (q0 : Nat) (hlink : nF[q0]? = some (own, index, ref, (T k).2.1, (T k).2.2.1, host)) (hsame : (T k).1 = ref) (hv : fs[k]? = some v) (hd : decode cc pc = .ok (.getfield index, 3)) (kk : J X nL w (pc + 3) lv (v :: rest)) : J X nL w pc lv (.ref a :: rest) := by
  intro H locs ls hw hS hl
  refine va_getN S.ex S.by S.ts hin S.ow S.K (hg H hw) 0 rfl hc k hk (va_Nw.use rfl (S.nw.1 _ (List.mem_of_getElem? hlink))) (fun x h => ?_) hv hd (kk H locs ls hw hS hl)
  rw [← hsame]
  exact h
/-- a field is written: the picture's list of cells -/
theorem j_put (S : Fx X Z cc nL Ts own R) {a ci index N q0 : Nat} {fs : List Value} {C ref : String} {T : u_T} {v : Value} {ty : FieldType} {W0 : va_W} (ty0 : Nat → FieldType) (hty : ∀ k, k < N → parseFieldDescriptor (T k).2.2.1 = some (ty0 k)) (hnm : ∀ a, a < N → ∀ b, b < N → a ≠ b → (T a).2.1 ≠ (T b).2.1) (hin : ∀ q ∈ u_ws C T N, q ∈ Ts) (hD : va_D X.A W0) (hg : ∀ H, w H → va_P Z.D vwCl W0 H) (he : W0[q0]? = some (a, .inr (ci, fs))) (hc : vwCl[ci]? = some (C, T, N)) (k : Nat) (hk : k < N) (hlink : Cond.fieldLink own index ref (T k).2.1 (T k).2.2.1 ∈ Ts) (hsame : (T k).1 = ref) (hfin : (T k).2.2.2 = false) (hdt : parseFieldDescriptor (T k).2.2.1 = some ty) (hn : narrow ty v = v) (hfit : fits ty v = true) (hl0 : k < fs.length) (hd : decode cc pc = .ok (.putfield index, 3)) (hw' : ∀ H, va_P Z.D vwCl (W0.set q0 (a, .inr (ci, fs.set k v))) H → w' H) (kk : J X nL w' (pc + 3) lv rest) : J X nL w pc lv (v :: .ref a :: rest) := by
  intro H locs ls hw hS hl
  refine va_put S.ex S.by S.ts hin ty0 hty hnm S.ow S.K (hg H hw) hD hS q0 he hc k hk (S.ts _ hlink) (fun x h => ?_) hfin hdt hn hfit hl0 hd (fun H1 locs1 hP1 _ hS1 => kk H1 locs1 ls (hw' H1 hP1) hS1 hl)
  rw [← hsame]
  exact h
theorem j_alen (S : Fx X Z cc nL Ts own R) {a t0 : Nat} {cA : ClassId} {x : vp_A} {ty : FieldType} {v : Int32} (hg : ∀ H, w H → va_P Z.D vwCl [(a, .inl (cA, x))] H) (ht : (tysOf Z)[t0]? = some (cA, ty)) (hv : Int32.ofNat x.1 = v) (hd : decode cc pc = .ok (.arraylength, 1)) (kk : J X nL w (pc + 1) lv (.int v :: rest)) : J X nL w pc lv (.ref a :: rest) :=
  fun H locs ls hw hS hl => va_alen S.ex S.by S.K (hg H hw) 0 t0 rfl ht hv hd (kk H locs ls hw hS hl)
theorem j_iaload (S : Fx X Z cc nL Ts own R) {a n : Nat} {f : Nat → Int32} {i v : Int32} (hg : ∀ H, w H → va_P Z.D vwCl [(a, .inl (Z.cI, n, .inl f))] H) (hin : vp_in i n) (hv : f i.toNatClampNeg = v) (hd : decode cc pc = .ok (.iaload, 1)) (kk : J X nL w (pc + 1) lv (.int v :: rest)) : J X nL w pc lv (.int i :: .ref a :: rest) := by
  subst hv
  exact fun H locs ls hw hS hl => va_iald S.ex S.by S.K (hg H hw) 0 0 rfl rfl hin hd (kk H locs ls hw hS hl)
theorem j_aaload (S : Fx X Z cc nL Ts own R) {a n v : Nat} {f : Nat → Option Nat} {i : Int32} (hg : ∀ H, w H → va_P Z.D vwCl [(a, .inl (Z.cP, n, .inr (.inr (.inr (.inr f)))))] H) (hin : vp_in i n) (hv : f i.toNatClampNeg = some v) (hd : decode cc pc = .ok (.aaload, 1)) (kk : J X nL w (pc + 1) lv (.ref v :: rest)) : J X nL w pc lv (.int i :: .ref a :: rest) := by
  intro H locs ls hw hS hl
  refine va_aldq S.ex S.by S.K (hg H hw) 0 1 rfl rfl hin hd ?_
  rw [hv]
  exact kk H locs ls hw hS hl
theorem j_iastore (S : Fx X Z cc nL Ts own R) {a n q0 : Nat} {f : Nat → Int32} {i x : Int32} {W0 : va_W} (hD : va_D X.A W0) (hg : ∀ H, w H → va_P Z.D vwCl W0 H) (he : W0[q0]? = some (a, .inl (Z.cI, n, .inl f))) (hin : vp_in i n) (hd : decode cc pc = .ok (.iastore, 1)) (hw' : ∀ H, va_P Z.D vwCl (W0.set q0 (a, .inl (Z.cI, n, .inl (upd f i.toNatClampNeg x)))) H → w' H) (kk : J X nL w' (pc + 1) lv rest) : J X nL w pc lv (.int x :: .int i :: .ref a :: rest) :=
  fun H locs ls hw hS hl => va_iast S.ex S.by S.K (hg H hw) hD hS q0 0 he rfl hin hd (fun H1 locs1 hP1 _ hS1 => kk H1 locs1 ls (hw' H1 hP1) hS1 hl)
theorem j_max (S : Fx X Z cc nL Ts own R) {index : Nat} {x y : Int32} (v : Int32) (h1 : Cond.methodLink own index Lib.Math.max.name ∈ Ts) (h2 : Cond.static Lib.Math.max.name ∈ Ts) (h3 : Cond.initialized "java/lang/Math" ∈ Ts) (h4 : Cond.code Lib.Math.max.name Lib.Math.max.code 2 (some .int) ∈ Ts) (hR : 1 ≤ R.frames ∧ (rest.map fun v => v.category).sum + 13 ≤ R.locals) (hd : decode cc pc = .ok (.invokestatic index, 3)) (hv : (if x < y then y else x) = v) (kk : J X nL w (pc + 3) lv (.int v :: rest)) : J X nL w pc lv (.int y :: .int x :: rest) := by
  subst hv
  intro H locs ls hw hS hl
  refine va_mmax S.ex S.by (by rw [S.ml]; exact hl.1.symm) S.ow (S.ts _ h1) (S.ts _ h2) (S.ts _ h3) (S.ts _ h4) (by rw [S.rm]; exact hR.1) (by rw [S.rm]; exact hR.2) (by rw [S.rm]; exact S.2.2.2.1) (by rw [S.rm]; exact S.2.2.2.2.1) hd (kk H locs ls hw hS hl)
theorem j_min (S : Fx X Z cc nL Ts own R) {index : Nat} {x y : Int32} (v : Int32) (h1 : Cond.methodLink own index Lib.Math.min.name ∈ Ts) (h2 : Cond.static Lib.Math.min.name ∈ Ts) (h3 : Cond.initialized "java/lang/Math" ∈ Ts) (h4 : Cond.code Lib.Math.min.name Lib.Math.min.code 2 (some .int) ∈ Ts) (hR : 1 ≤ R.frames ∧ (rest.map fun v => v.category).sum + 13 ≤ R.locals) (hd : decode cc pc = .ok (.invokestatic index, 3)) (hv : (if y < x then y else x) = v) (kk : J X nL w (pc + 3) lv (.int v :: rest)) : J X nL w pc lv (.int y :: .int x :: rest) := by
  subst hv
  intro H locs ls hw hS hl
  refine va_mmin S.ex S.by (by rw [S.ml]; exact hl.1.symm) S.ow (S.ts _ h1) (S.ts _ h2) (S.ts _ h3) (S.ts _ h4) (by rw [S.rm]; exact hR.1) (by rw [S.rm]; exact hR.2) (by rw [S.rm]; exact S.2.2.2.1) (by rw [S.rm]; exact S.2.2.2.2.1) hd (kk H locs ls hw hS hl)
/-- what a call asks of the callee's name, words and room -/
abbrev Cw (Ts : List Cond) (own C : String) (R : Room) (index : Nat) (y : MethodName) (ws : List Cond) (rm : Room) (n : Nat) : Prop :=
  ∃ (bytes : ByteArray) (maxL : Nat) (ret : Option FieldType) (ws' : List Cond), ws = Cond.code y bytes maxL ret :: ws' ∧ GoodIn Ts (wsV own index C y ws) ∧ rm.cells = 0 ∧ rm.slots = 0 ∧ (y.cls = C ∧ y.cls ≠ "java/lang/invoke/MethodHandle" ∧ y.cls ≠ "java/lang/invoke/VarHandle" ∧ (parseMethodDescriptor y.desc).map (fun d => d.parameters.length) = some n) ∧ (rm.frames + 1 ≤ R.frames ∧ 8 + (maxL + 11) + rm.locals ≤ R.locals)
abbrev Cs (Ts : List Cond) (own : String) (R : Room) (index : Nat) (y : MethodName) (ws : List Cond) (rm : Room) (n : Nat) : Prop :=
  ∃ (bytes : ByteArray) (maxL : Nat) (ret : Option FieldType) (ws' : List Cond), ws = Cond.code y bytes maxL ret :: ws' ∧ GoodIn Ts (va_wsS own index y ws) ∧ rm.cells = 0 ∧ rm.slots = 0 ∧ (y.cls ≠ "java/lang/invoke/MethodHandle" ∧ y.cls ≠ "java/lang/invoke/VarHandle" ∧ (parseMethodDescriptor y.desc).map (fun d => d.parameters.length) = some n) ∧ (rm.frames + 1 ≤ R.frames ∧ 8 + (maxL + 11) + rm.locals ≤ R.locals)
theorem runV_of (S : Fx X Z cc nL Ts own R) {y : MethodName} {ws : List Cond} {rm : Room} {b ci index n N : Nat} {As fs : List Value} {C : String} {T : u_T} {Qc : Array Value → State → Outcome → State → Prop} (hM : Km X.l Z X.A y ws rm w (.ref b :: As) Qc) (cw : Cw Ts own C R index y ws rm n) (hrc : ∀ H, w H → va_P Z.D vwCl [(b, .inr (ci, fs))] H) (hc : vwCl[ci]? = some (C, T, N)) (hn : As.length = n) (hcat : (rest.map fun v => v.category).sum ≤ 8) (hd : decode cc pc = .ok (.invokevirtual index, 3)) {H : Heap} {locs : List Loc} {ls : Array Slot} (hw : w H) (hl : lvF ls nL lv) :
    va_Run X.p X.l X.e X.R X.s X.m X.args X.below X.meth X.c H locs X.k X.n 0 0 (F0 X.m pc ls (As.reverse ++ .ref b :: rest)) rest (Qc (Value.ref b :: As).toArray) X.A := by
  obtain ⟨bytes, maxL, ret, ws', e1, hG, h0, h1, hy, hR⟩ := cw
  have hrv := va_recv S.K (hrc H hw) hc (q0 := 0) rfl
  refine va_runV (As := As) (rest := rest) S.1 hM (cwV (bytes := bytes) (maxL := maxL) (ret := ret) n S.ts hG e1 h0 h1 hy (by rw [S.rm]; exact hR)) ⟨Pw.blind, hrv, fun U hU hW => ⟨rfl, by rw [hU]; exact hw, va_K.moved hW.alike S.K, NW.warm hW S.nw⟩⟩ rfl hn hl.1 rfl (lv_room hcat) hd ⟨by rw [S.rm]; exact S.2.2.2.1, by rw [S.rm]; exact S.2.2.2.2.1⟩
theorem runS_of (S : Fx X Z cc nL Ts own R) {y : MethodName} {ws : List Cond} {rm : Room} {index n : Nat} {As : List Value} {Qc : Array Value → State → Outcome → State → Prop} (hM : Km X.l Z X.A y ws rm w As Qc) (cw : Cs Ts own R index y ws rm n) (hn : As.length = n) (hcat : (rest.map fun v => v.category).sum ≤ 8) (hd : decode cc pc = .ok (.invokestatic index, 3)) {H : Heap} {locs : List Loc} {ls : Array Slot} (hw : w H) (hl : lvF ls nL lv) :
    va_Run X.p X.l X.e X.R X.s X.m X.args X.below X.meth X.c H locs X.k X.n 0 0 (F0 X.m pc ls (As.reverse ++ rest)) rest (Qc As.toArray) X.A := by
  obtain ⟨bytes, maxL, ret, ws', e1, hG, h0, h1, hy, hR⟩ := cw
  refine va_runS (As := As) (rest := rest) S.1 hM (va_cwS (bytes := bytes) (maxL := maxL) (ret := ret) n S.ts hG e1 h0 h1 hy (by rw [S.rm]; exact hR)) ⟨Pw.blind, fun U hU hW => ⟨rfl, by rw [hU]; exact hw, va_K.moved hW.alike S.K, NW.warm hW S.nw⟩⟩ rfl hn hl.1 rfl (lv_room hcat) hd ⟨by rw [S.rm]; exact S.2.2.2.1, by rw [S.rm]; exact S.2.2.2.2.1⟩
theorem j_cVi (S : Fx X Z cc nL Ts own R) {y : MethodName} {ws : List Cond} {rm : Room} {b ci index n N : Nat} {As fs : List Value} {C : String} {T : u_T} {post : Int32 → Prop} (hM : Km X.l Z X.A y ws rm w (.ref b :: As) (Qi w' X.A post)) (cw : Cw Ts own C R index y ws rm n) (hrc : ∀ H, w H → va_P Z.D vwCl [(b, .inr (ci, fs))] H) (hc : vwCl[ci]? = some (C, T, N)) (hn : As.length = n) (hcat : (rest.map fun v => v.category).sum ≤ 8) (hst : As.reverse ++ .ref b :: rest = st) (hd : decode cc pc = .ok (.invokevirtual index, 3)) (kk : ∀ r : Int32, post r → J X nL w' (pc + 3) lv (.int r :: rest)) : J X nL w pc lv st := by
  subst hst
  intro H locs ls hw hS hl
  exact va_calli (runV_of S hM cw hrc hc hn hcat hd hw hl) hS (fun q _ h => h) (fun q h => h) (fun r _ t H1 locs1 ht hvm hp hb hz hk hS1 => kk r hp H1 locs1 ls (by rw [← ht]; exact hb) hS1 hl)
theorem j_cVl (S : Fx X Z cc nL Ts own R) {y : MethodName} {ws : List Cond} {rm : Room} {b ci index n N : Nat} {As fs : List Value} {C : String} {T : u_T} {post : Int64 → Prop} (hM : Km X.l Z X.A y ws rm w (.ref b :: As) (Ql w' X.A post)) (cw : Cw Ts own C R index y ws rm n) (hrc : ∀ H, w H → va_P Z.D vwCl [(b, .inr (ci, fs))] H) (hc : vwCl[ci]? = some (C, T, N)) (hn : As.length = n) (hcat : (rest.map fun v => v.category).sum ≤ 8) (hst : As.reverse ++ .ref b :: rest = st) (hd : decode cc pc = .ok (.invokevirtual index, 3)) (kk : ∀ r : Int64, post r → J X nL w' (pc + 3) lv (.long r :: rest)) : J X nL w pc lv st := by
  subst hst
  intro H locs ls hw hS hl
  exact va_calll (runV_of S hM cw hrc hc hn hcat hd hw hl) hS (fun q _ h => h) (fun q h => h) (fun r _ t H1 locs1 ht hvm hp hb hz hk hS1 => kk r hp H1 locs1 ls (by rw [← ht]; exact hb) hS1 hl)
theorem j_cVd (S : Fx X Z cc nL Ts own R) {y : MethodName} {ws : List Cond} {rm : Room} {b ci index n N : Nat} {As fs : List Value} {C : String} {T : u_T} {post : UInt64 → Prop} (hM : Km X.l Z X.A y ws rm w (.ref b :: As) (Qd w' X.A post)) (cw : Cw Ts own C R index y ws rm n) (hrc : ∀ H, w H → va_P Z.D vwCl [(b, .inr (ci, fs))] H) (hc : vwCl[ci]? = some (C, T, N)) (hn : As.length = n) (hcat : (rest.map fun v => v.category).sum ≤ 8) (hst : As.reverse ++ .ref b :: rest = st) (hd : decode cc pc = .ok (.invokevirtual index, 3)) (kk : ∀ r : UInt64, post r → J X nL w' (pc + 3) lv (.double r :: rest)) : J X nL w pc lv st := by
  subst hst
  intro H locs ls hw hS hl
  exact va_calld (runV_of S hM cw hrc hc hn hcat hd hw hl) hS (fun q _ h => h) (fun q h => h) (fun r _ t H1 locs1 ht hvm hp hb hz hk hS1 => kk r hp H1 locs1 ls (by rw [← ht]; exact hb) hS1 hl)
theorem j_cVv (S : Fx X Z cc nL Ts own R) {y : MethodName} {ws : List Cond} {rm : Room} {b ci index n N : Nat} {As fs : List Value} {C : String} {T : u_T}  (hM : Km X.l Z X.A y ws rm w (.ref b :: As) (Qv w' X.A)) (cw : Cw Ts own C R index y ws rm n) (hrc : ∀ H, w H → va_P Z.D vwCl [(b, .inr (ci, fs))] H) (hc : vwCl[ci]? = some (C, T, N)) (hn : As.length = n) (hcat : (rest.map fun v => v.category).sum ≤ 8) (hst : As.reverse ++ .ref b :: rest = st) (hd : decode cc pc = .ok (.invokevirtual index, 3)) (kk : J X nL w' (pc + 3) lv rest) : J X nL w pc lv st := by
  subst hst
  intro H locs ls hw hS hl
  exact va_callv (runV_of S hM cw hrc hc hn hcat hd hw hl) hS (fun q _ h => h) (fun q h => h) (fun _ t H1 locs1 ht hvm hp hb hz hk hS1 => kk H1 locs1 ls (by rw [← ht]; exact hb) hS1 hl)
theorem j_cVr (S : Fx X Z cc nL Ts own R) {y : MethodName} {ws : List Cond} {rm : Room} {b ci index n N : Nat} {As fs : List Value} {C : String} {T : u_T} {a0 : Nat} (hM : Km X.l Z X.A y ws rm w (.ref b :: As) (Qr w' X.A a0)) (cw : Cw Ts own C R index y ws rm n) (hrc : ∀ H, w H → va_P Z.D vwCl [(b, .inr (ci, fs))] H) (hc : vwCl[ci]? = some (C, T, N)) (hn : As.length = n) (hcat : (rest.map fun v => v.category).sum ≤ 8) (hst : As.reverse ++ .ref b :: rest = st) (hd : decode cc pc = .ok (.invokevirtual index, 3)) (kk : J X nL w' (pc + 3) lv (.ref a0 :: rest)) : J X nL w pc lv st := by
  subst hst
  intro H locs ls hw hS hl
  exact va_callr (runV_of S hM cw hrc hc hn hcat hd hw hl) hS (fun q _ h => h) (fun q h => h) (fun _ a t H1 locs1 ht hvm hp hb hz hk hS1 => by
    obtain ⟨rfl, hb⟩ := hb
    exact kk H1 locs1 ls (by rw [← ht]; exact hb) hS1 hl)
theorem j_cSi (S : Fx X Z cc nL Ts own R) {y : MethodName} {ws : List Cond} {rm : Room} {index n : Nat} {As : List Value} {post : Int32 → Prop} (hM : Km X.l Z X.A y ws rm w As (Qi w' X.A post)) (cw : Cs Ts own R index y ws rm n) (hn : As.length = n) (hcat : (rest.map fun v => v.category).sum ≤ 8) (hst : As.reverse ++ rest = st) (hd : decode cc pc = .ok (.invokestatic index, 3)) (kk : ∀ r : Int32, post r → J X nL w' (pc + 3) lv (.int r :: rest)) : J X nL w pc lv st := by
  subst hst
  intro H locs ls hw hS hl
  exact va_calli (runS_of S hM cw hn hcat hd hw hl) hS (fun q _ h => h) (fun q h => h) (fun r _ t H1 locs1 ht hvm hp hb hz hk hS1 => kk r hp H1 locs1 ls (by rw [← ht]; exact hb) hS1 hl)
theorem j_cSl (S : Fx X Z cc nL Ts own R) {y : MethodName} {ws : List Cond} {rm : Room} {index n : Nat} {As : List Value} {post : Int64 → Prop} (hM : Km X.l Z X.A y ws rm w As (Ql w' X.A post)) (cw : Cs Ts own R index y ws rm n) (hn : As.length = n) (hcat : (rest.map fun v => v.category).sum ≤ 8) (hst : As.reverse ++ rest = st) (hd : decode cc pc = .ok (.invokestatic index, 3)) (kk : ∀ r : Int64, post r → J X nL w' (pc + 3) lv (.long r :: rest)) : J X nL w pc lv st := by
  subst hst
  intro H locs ls hw hS hl
  exact va_calll (runS_of S hM cw hn hcat hd hw hl) hS (fun q _ h => h) (fun q h => h) (fun r _ t H1 locs1 ht hvm hp hb hz hk hS1 => kk r hp H1 locs1 ls (by rw [← ht]; exact hb) hS1 hl)
theorem j_cSd (S : Fx X Z cc nL Ts own R) {y : MethodName} {ws : List Cond} {rm : Room} {index n : Nat} {As : List Value} {post : UInt64 → Prop} (hM : Km X.l Z X.A y ws rm w As (Qd w' X.A post)) (cw : Cs Ts own R index y ws rm n) (hn : As.length = n) (hcat : (rest.map fun v => v.category).sum ≤ 8) (hst : As.reverse ++ rest = st) (hd : decode cc pc = .ok (.invokestatic index, 3)) (kk : ∀ r : UInt64, post r → J X nL w' (pc + 3) lv (.double r :: rest)) : J X nL w pc lv st := by
  subst hst
  intro H locs ls hw hS hl
  exact va_calld (runS_of S hM cw hn hcat hd hw hl) hS (fun q _ h => h) (fun q h => h) (fun r _ t H1 locs1 ht hvm hp hb hz hk hS1 => kk r hp H1 locs1 ls (by rw [← ht]; exact hb) hS1 hl)
theorem j_cSv (S : Fx X Z cc nL Ts own R) {y : MethodName} {ws : List Cond} {rm : Room} {index n : Nat} {As : List Value}  (hM : Km X.l Z X.A y ws rm w As (Qv w' X.A)) (cw : Cs Ts own R index y ws rm n) (hn : As.length = n) (hcat : (rest.map fun v => v.category).sum ≤ 8) (hst : As.reverse ++ rest = st) (hd : decode cc pc = .ok (.invokestatic index, 3)) (kk : J X nL w' (pc + 3) lv rest) : J X nL w pc lv st := by
  subst hst
  intro H locs ls hw hS hl
  exact va_callv (runS_of S hM cw hn hcat hd hw hl) hS (fun q _ h => h) (fun q h => h) (fun _ t H1 locs1 ht hvm hp hb hz hk hS1 => kk H1 locs1 ls (by rw [← ht]; exact hb) hS1 hl)
theorem j_cSr (S : Fx X Z cc nL Ts own R) {y : MethodName} {ws : List Cond} {rm : Room} {index n : Nat} {As : List Value} {a0 : Nat} (hM : Km X.l Z X.A y ws rm w As (Qr w' X.A a0)) (cw : Cs Ts own R index y ws rm n) (hn : As.length = n) (hcat : (rest.map fun v => v.category).sum ≤ 8) (hst : As.reverse ++ rest = st) (hd : decode cc pc = .ok (.invokestatic index, 3)) (kk : J X nL w' (pc + 3) lv (.ref a0 :: rest)) : J X nL w pc lv st := by
  subst hst
  intro H locs ls hw hS hl
  exact va_callr (runS_of S hM cw hn hcat hd hw hl) hS (fun q _ h => h) (fun q h => h) (fun _ a t H1 locs1 ht hvm hp hb hz hk hS1 => by
    obtain ⟨rfl, hb⟩ := hb
    exact kk H1 locs1 ls (by rw [← ht]; exact hb) hS1 hl)
/-- what a call of a nest mate's static method asks -/
abbrev Cn (Ts : List Cond) (own : String) (R : Room) (index : Nat) (y : MethodName) (ws : List Cond) (rm : Room) (n : Nat) : Prop :=
  ∃ (bytes : ByteArray) (maxL : Nat) (ret : Option FieldType) (ws' : List Cond) (host : String) (q0 : Nat), ws = Cond.code y bytes maxL ret :: ws' ∧ GoodIn Ts ws ∧ rm.cells = 0 ∧ rm.slots = 0 ∧ (nM[q0]? = some (own, index, y, host) ∧ Cond.static y ∈ Ts ∧ Cond.initialized y.cls ∈ Ts) ∧ (y.cls ≠ "java/lang/invoke/MethodHandle" ∧ y.cls ≠ "java/lang/invoke/VarHandle" ∧ (parseMethodDescriptor y.desc).map (fun d => d.parameters.length) = some n) ∧ (rm.frames + 1 ≤ R.frames ∧ 8 + (maxL + 11) + rm.locals ≤ R.locals)
theorem runN_of (S : Fx X Z cc nL Ts own R) {y : MethodName} {ws : List Cond} {rm : Room} {index n : Nat} {As : List Value} {Qc : Array Value → State → Outcome → State → Prop} (hM : Km X.l Z X.A y ws rm w As Qc) (cw : Cn Ts own R index y ws rm n) (hn : As.length = n) (hcat : (rest.map fun v => v.category).sum ≤ 8) (hd : decode cc pc = .ok (.invokestatic index, 3)) {H : Heap} {locs : List Loc} {ls : Array Slot} (hw : w H) (hl : lvF ls nL lv) :
    va_Run X.p X.l X.e X.R X.s X.m X.args X.below X.meth X.c H locs X.k X.n 0 0 (F0 X.m pc ls (As.reverse ++ rest)) rest (Qc As.toArray) X.A := by
  obtain ⟨bytes, maxL, ret, ws', host, q0, e1, hG, h0, h1, ⟨hm, hst, hini⟩, hy, hR⟩ := cw
  refine va_runSN (As := As) (rest := rest) S.1 hM ⟨va_cnB (bytes := bytes) (maxL := maxL) (ret := ret) n S.ts hG e1 h0 h1 (S.nw.2 _ (List.mem_of_getElem? hm)) (S.ts _ hini) hy (by rw [S.rm]; exact hR), S.ts _ hst, trivial⟩ ⟨Pw.blind, fun U hU hW => ⟨rfl, by rw [hU]; exact hw, va_K.moved hW.alike S.K, NW.warm hW S.nw⟩⟩ rfl hn hl.1 rfl (lv_room hcat) hd ⟨by rw [S.rm]; exact S.2.2.2.1, by rw [S.rm]; exact S.2.2.2.2.1⟩
theorem j_cNi (S : Fx X Z cc nL Ts own R) {y : MethodName} {ws : List Cond} {rm : Room} {index n : Nat} {As : List Value} {post : Int32 → Prop} (hM : Km X.l Z X.A y ws rm w As (Qi w' X.A post)) (cw : Cn Ts own R index y ws rm n) (hn : As.length = n) (hcat : (rest.map fun v => v.category).sum ≤ 8) (hst : As.reverse ++ rest = st) (hd : decode cc pc = .ok (.invokestatic index, 3)) (kk : ∀ r : Int32, post r → J X nL w' (pc + 3) lv (.int r :: rest)) : J X nL w pc lv st := by
  subst hst
  intro H locs ls hw hS hl
  exact va_calli (runN_of S hM cw hn hcat hd hw hl) hS (fun q _ h => h) (fun q h => h) (fun r _ t H1 locs1 ht hvm hp hb hz hk hS1 => kk r hp H1 locs1 ls (by rw [← ht]; exact hb) hS1 hl)
end JC
