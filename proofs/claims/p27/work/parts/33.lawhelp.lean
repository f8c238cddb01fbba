/-! THE LAW's HELPERS: below, cell, Math.abs of a double -/
/-- a contract out of a walk that changes nothing -/
theorem Km.of0 {l : Launch} {Z : Zx} {y : MethodName} {ws ws' : List Cond} {rm : Room} {av : List Value} {Qc : Array Value → State → Outcome → State → Prop} {cc : ByteArray} {maxL : Nat} {ret : Option FieldType} {Pc : State → Prop} (hbl : FrameBlind (va_Pc av (fun U => Pc U ∧ va_K Z.D vwCl (tysOf Z) U ∧ NW U)))
    (hy : plainName y.cls = true) (hw : ws = Cond.code y cc maxL ret :: ws') (hL : (lg_sl av).length ≤ maxL)
    (body : ∀ X : Cx, X.l = l → Fx X Z cc maxL ws y.cls rm → Pc X.s → X.meth.sig.returnType = ret → X.A = (fun _ => False) → X.Q = MQ X.below Qc X.args X.s 0 0 (fun _ => False) → X.k = 0 → X.n = 0 → J X maxL (fun _ => True) 0 (lvI maxL av) []) : Met l y ws rm (va_Pc av (fun U => Pc U ∧ va_K Z.D vwCl (tysOf Z) U ∧ NW U)) Qc 0 0 (fun _ => False) := by
  refine Met.ofW (cc := cc) (maxL := maxL) (ret := ret) hy hw ?_
  intro p e s m args below meth c s₁ B hml hv
  obtain ⟨rfl, hw0, hK, hNW⟩ := hv
  have hts := atoms_spec (ws := ws) B.pre
  have hown : s.vm.findClass y.cls = some m.cls := findClass_of_methodNamed B.named
  have hk := body (p, l, e, rm, s, m, av.toArray, below, meth, c, (fun _ => False), 0, 0, MQ below Qc av.toArray s 0 0 (fun _ => False)) rfl
    ⟨⟨B.exec, B.bytes, hml, hown, hts⟩, hK, rfl, Nat.zero_le _, Nat.zero_le _, B.notSynchronized, hNW⟩ hw0 B.returns rfl rfl rfl rfl
  rw [lg_entry_eq]
  exact hk s.heap [] _ trivial va_S.rf (lvI_entry av hL)
theorem k_L_below (l : Launch) (Z : Zx) (v : Int32) {n : Nat} (h0 : 0 < n) (hn : n < 2 ^ 31) : Km l Z (fun _ => False) yL_below wsL_below { frames := 0, cells := 0, slots := 0, locals := 0 } (fun _ => True) [.int v, .int (nI n)] (Qi (fun _ => True) (fun _ => False) (fun r => ∃ j, j < n ∧ r = nI j)) := by
  refine Km.of0 (cc := cL_below) (maxL := 2) (ret := some .int) (Pc := fun U => True) (Pw.blind (Z := Z) (w := fun _ => True)) (by decide) rfl (Nat.le_of_ble_eq_true rfl) ?_
  intro X hXl S _ hRT hXA hQ hXk hXn
  obtain ⟨m, hm, e⟩ := below_nat v
  refine j_iload_n S dL_below_0 rfl ?_
  refine j_ldc S (v := 2147483647) (by decide +kernel) dL_below_1 ?_
  refine j_iand S (nI m) dL_below_3 e ?_
  refine j_iload_n S dL_below_4 rfl ?_
  refine j_irem S (nI (m % n)) dL_below_5 (nI_ne0 h0 hn) (pk_rem hm h0 hn) ?_
  exact j_ireturn S hRT hXA hQ hXk hXn dL_below_6 rfl ⟨m % n, Nat.mod_lt m h0, rfl⟩ (fun _ _ => trivial)
theorem j_slen {X : Cx} {Z : Zx} {cc : ByteArray} {nL : Nat} {Ts : List Cond} {own : String} {R : Room} {w : Heap → Prop} {pc : Nat} {lv : List (Option Value)} {rest : List Value} (S : Fx X Z cc nL Ts own R) {b L : Nat} {xs : Nat → Int32} (hX : va_X b L xs X.s X.s.heap) (hbl : b < X.s.heap.size) (hbA : ¬ X.A b) (hd : decode cc pc = .ok (.arraylength, 1)) (kk : J X nL w (pc + 1) lv (.int (nI L) :: rest)) : J X nL w pc lv (.ref b :: rest) :=
  fun H locs ls hw hS hl => va_slen S.ex S.by hX hbl hbA hS hd (kk H locs ls hw hS hl)
theorem j_sld {X : Cx} {Z : Zx} {cc : ByteArray} {nL : Nat} {Ts : List Cond} {own : String} {R : Room} {w : Heap → Prop} {pc : Nat} {lv : List (Option Value)} {rest : List Value} (S : Fx X Z cc nL Ts own R) {b L : Nat} {xs : Nat → Int32} (hX : va_X b L xs X.s X.s.heap) (hbl : b < X.s.heap.size) (hbA : ¬ X.A b) {i : Int32} (hin : vp_in i L) (hd : decode cc pc = .ok (.iaload, 1)) (kk : J X nL w (pc + 1) lv (.int (xs i.toNatClampNeg) :: rest)) : J X nL w pc lv (.int i :: .ref b :: rest) :=
  fun H locs ls hw hS hl => va_sld S.ex S.by hX hbl hbA hS hin hd (kk H locs ls hw hS hl)
theorem Pcell.blind {Z : Zx} {b L : Nat} {xs : Nat → Int32} {av : List Value} : FrameBlind (va_Pc av (fun U => (va_X b L xs U U.heap ∧ b < U.heap.size) ∧ va_K Z.D vwCl (tysOf Z) U ∧ NW U)) :=
  fun a U g mk q => ⟨q.1, ⟨va_X.moved (u := U) (U := U.calling g mk a) (Vm.Alike.refl U.vm) q.2.1.1, q.2.1.2⟩, va_K.moved (u := U) (U := U.calling g mk a) (Vm.Alike.refl U.vm) q.2.2.1, NW.same (u := U) (U := U.calling g mk a) rfl q.2.2.2⟩
theorem k_L_cell (l : Launch) (Z : Zx) {b L : Nat} {xs : Nat → Int32} (hL : L < 2 ^ 31) {k : Nat} (hk : k < 2 ^ 31) : Met l yL_cell wsL_cell { frames := 0, cells := 0, slots := 0, locals := 0 } (va_Pc [.ref b, .int (nI k)] (fun U => (va_X b L xs U U.heap ∧ b < U.heap.size) ∧ va_K Z.D vwCl (tysOf Z) U ∧ NW U)) (Qi (fun _ => True) (fun _ => False) (fun _ => True)) 0 0 (fun _ => False) := by
  refine Km.of0 (cc := cL_cell) (maxL := 2) (ret := some .int) (Pc := fun U => va_X b L xs U U.heap ∧ b < U.heap.size) Pcell.blind (by decide) rfl (Nat.le_of_ble_eq_true rfl) ?_
  intro X hXl S hPc hRT hXA hQ hXk hXn
  have hbA : ¬ X.A b := by rw [hXA]; exact fun h => h
  refine j_iload_n S dL_cell_0 rfl ?_
  refine j_aload_n S dL_cell_1 rfl ?_
  refine j_slen S hPc.1 hPc.2 hbA dL_cell_2 ?_
  refine j_icmp_ge S 12 dL_cell_3 (by decide) (fun h => ?_) (fun h => ?_)
  · refine j_ldc S (v := 790386105) (by decide +kernel) dL_cell_12 ?_
    refine j_iload_n S dL_cell_14 rfl ?_
    refine j_iconst S 3 dL_cell_15 (by decide) ?_
    refine j_iadd S (nI k + 3) dL_cell_16 rfl ?_
    refine j_imul S (790386105 * (nI k + 3)) dL_cell_17 rfl ?_
    exact j_ireturn S hRT hXA hQ hXk hXn dL_cell_18 rfl trivial (fun _ _ => trivial)
  · have hlt : k < L := by
      rw [nI_leI hL hk] at h
      omega
    refine j_aload_n S dL_cell_6 rfl ?_
    refine j_iload_n S dL_cell_7 rfl ?_
    refine j_sld S hPc.1 hPc.2 hbA (vp_in_nI hlt hL) dL_cell_8 ?_
    refine j_goto S 18 dL_cell_9 (by decide) ?_
    exact j_ireturn S hRT hXA hQ hXk hXn dL_cell_18 rfl trivial (fun _ _ => trivial)
/-- the law's call of cell: some int -/
theorem L_cell {X : Cx} {Z : Zx} {cc : ByteArray} {nL : Nat} {Ts : List Cond} {own : String} {R : Room} {w : Heap → Prop} {pc : Nat} {lv : List (Option Value)} {rest : List Value} {ta : Nat} {f : Nat → Int32} {index : Nat} (S : Fx X Z cc nL Ts own R) {b L : Nat} {xs : Nat → Int32} (hL : L < 2 ^ 31) (hX : va_X b L xs X.s X.s.heap) (hbl : b < X.s.heap.size) (hbA : ¬ X.A b) {k : Nat} (hk : k < 2 ^ 31) (cw : Cs Ts own R index yL_cell wsL_cell { frames := 0, cells := 0, slots := 0, locals := 0 } 2) (hcat : (rest.map fun v => v.category).sum ≤ 8) (hd : decode cc pc = .ok (.invokestatic index, 3)) (hw9 : ∀ H H1 : Heap, w H → H.size ≤ H1.size → (∀ q : Nat, q < H.size → H1[q]? = H[q]?) → w H1) (kk : ∀ r : Int32, J X nL (FW Z w ta f) (pc + 3) lv (.int r :: rest)) : J X nL (FW Z w ta f) pc lv (.int (nI k) :: .ref b :: rest) := by
  intro H locs ls hw hS hl
  obtain ⟨bytes, maxL, ret, ws', e1, hG, h0, h1, hy, hR⟩ := cw
  have hXH : va_X b L xs X.s H := hX.kept (hS.2.1 b hbl hbA)
  refine va_calli (st0 := [Value.ref b, .int (nI k)].reverse ++ rest) (va_runS (As := [.ref b, .int (nI k)]) (rest := rest) S.1 (k_L_cell X.l Z hL hk) (va_cwS (bytes := bytes) (maxL := maxL) (ret := ret) 2 S.ts hG e1 h0 h1 hy (by rw [S.rm]; exact hR)) ⟨Pcell.blind, fun U hU hW => ⟨rfl, ⟨by rw [hU]; exact va_X.moved hW.alike hXH, by rw [hU]; exact Nat.lt_of_lt_of_le hbl hS.1⟩, va_K.moved hW.alike S.K, NW.warm hW S.nw⟩⟩ rfl rfl hl.1 rfl (lv_room hcat) hd ⟨by rw [S.rm]; exact S.2.2.2.1, by rw [S.rm]; exact S.2.2.2.2.1⟩) hS (fun q _ h => h.elim) (fun q h => h.elim) (fun r _ t H1 locs1 ht hvm hp hb hz hk hS1 => kk r H1 locs1 ls (hw.keep (fun h => h) hk (hw9 H H1 hw.1 hz (fun q h => hk q h (fun h => h)))) hS1 hl)
theorem abs_bits (x : UInt64) : (x.toInt64 &&& 9223372036854775807).toUInt64 = x &&& 0x7fffffffffffffff := rfl
theorem abs_quiet {x : UInt64} (h : vf_n64 x) : vn_snl2d (x.toInt64 &&& 9223372036854775807) = false := by
  unfold vn_snl2d
  rw [abs_bits]
  have e : x &&& 0x7fffffffffffffff &&& 0x7fffffffffffffff = x &&& 0x7fffffffffffffff := by
    rw [UInt64.and_assoc]
    rfl
  rw [e]
  have h1 : ¬ x &&& 0x7fffffffffffffff > 0x7ff0000000000000 := by
    rw [gt_iff_lt, UInt64.not_lt]
    exact h
  rw [decide_eq_false h1]
  rfl
