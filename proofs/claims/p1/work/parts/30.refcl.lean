/-- the words on arrays of boolean[] -/
theorem m_mna0 {X : Cx} {G : RG} {cc : ByteArray} {nL : Nat} {Ts : List Cond} {own : String} {R : Room} {M : Wl} {pc k n : Nat} {lv : List (Option Value)} {rest : List Value} (S : Gx X G cc nL Ts own R) {index : Nat} (hcl : Cond.classLink own index "[[Z" ∈ Ts) (harr : Cond.arrayClass .boolean ∈ Ts) (hz : AOZ X.s) (hcells : k + 1 ≤ R.cells) (hslots : n ≤ R.slots) (hd : decode cc pc = .ok (.multianewarray index 2, 4)) (kk : ∀ q : Nat, J (X.at (k + 1) n) nL (PL G.Z X.A M) (pc + 4) lv (.ref q :: rest)) : J (X.at k n) nL (PL G.Z X.A M) pc lv (.int 0 :: .int 0 :: rest) := by
  intro H locs ls hw hS hl
  show W X.p X.l X.e X.R X.s X.m X.args X.below X.meth X.c H locs k n X.Q (F0 X.m pc ls (.int 0 :: .int 0 :: rest))
  intro T hT Xs
  have z0 : (0 : Int32).toNatClampNeg = 0 := by decide
  obtain ⟨vm₁, cA, comp, -, fA, fC, hO, -, X', step⟩ := Xs.multianewarray2F S.1.ex S.1.ow (S.1.ts _ hcl) (va_any9 hz) (S.1.ts _ harr) (g := F0 X.m pc ls (.int 0 :: .int 0 :: rest)) rfl (by show decode X.c.code pc = _; rw [S.1.by]; exact hd) rfl (by decide) (by decide) (by rw [z0]; decide) (by rw [z0]; decide) (by rw [z0]; decide) rfl rfl (by show k + (1 + _) ≤ X.R.cells; rw [z0, S.1.rm]; exact hcells) (by show n + _ ≤ X.R.slots; rw [z0, S.1.rm]; exact hslots)
  rw [z0] at X' step
  have hTh : (T.setVm vm₁).heap = H := hT
  obtain ⟨f1, -, -, -⟩ := Jvm.Free.Multi.fill_facts (T.setVm vm₁) cA comp 0 0 (defaultValue .boolean) 0
  have hold : ∀ x : Nat, x < H.size → (Jvm.Free.Multi.fill (T.setVm vm₁) cA comp 0 0 (defaultValue .boolean) 0).heap[x]? = H[x]? := fun x hx => by
    have h9 := Jvm.Free.Multi.fill_old (T.setVm vm₁) cA comp 0 0 (defaultValue .boolean) (a := x) (by rw [hTh]; exact hx) 0
    rw [hTh] at h9
    exact h9
  rw [hTh] at f1
  generalize Jvm.Free.Multi.fill (T.setVm vm₁) cA comp 0 0 (defaultValue .boolean) 0 = F at X' step f1 hold
  have kk9 : W X.p X.l X.e X.R X.s X.m X.args X.below X.meth X.c F.heap locs (k + 1) n X.Q (F0 X.m (pc + 4) ls (.ref T.heap.size :: rest)) := kk T.heap.size F.heap locs ls ⟨hw.1, hw.2.kept (fun j x hx => hold x.1 (hw.2 j x hx).lt)⟩ ⟨Nat.le_trans hS.1 (by omega), fun x h1 h2 => (hold x (Nat.lt_of_lt_of_le h1 hS.1)).trans (hS.2.1 x h1 h2), hS.2.2⟩ hl
  obtain ⟨t, a1, b1⟩ := kk9 F rfl X'
  exact ⟨t, step t a1, b1⟩

set_option maxRecDepth 100000 in
set_option maxHeartbeats 4000000 in
theorem r_X5_init (l : Launch) (G : RG) (A : Nat → Prop) (M : Wl) {a t1 t2 t3 : Nat} (h0 : (a, .inr (5, [.int 0, .int 0, .null])) ∈ M) (h1 : (t1, .inl (G.Z.cI, 0, .inl (fun _ => 0))) ∈ M) (h2 : (t2, .inl (G.Z.cI, 0, .inl (fun _ => 0))) ∈ M) : Kr l G A yX5_init wsX5_init { frames := 1, cells := 1, slots := 0, locals := 20 } M [.ref a, .ref t1, .ref t2, .ref t3] (Gv G A (fun N => ∃ z : Nat, (a, (.inr (5, [.int 0, .int 0, .ref z]) : va_E)) ∈ N ∧ Kp M [a] N)) 1 0 := by
  refine Kr.of (cc := cX5_init) (maxL := 6) (ret := none) (by decide) rfl (Nat.le_of_ble_eq_true rfl) ?_
  intro X hXl S hRT hIN hXA hQ hD
  subst hXl
  subst hXA
  show J (X.at 0 0) 6 (PL G.Z X.A M) 0 [some (.ref a), some (.ref t1), some (.ref t2), some (.ref t3), none, none] []
  have F0 := S.1.at 0 0 (Nat.le_of_ble_eq_true rfl) (Nat.le_of_ble_eq_true rfl)
  have hOR := S.2.1.or
  refine j_aload_n F0 dX5_init_0 rfl ?_
  refine m_objInit S (by decide +kernel) (by decide +kernel) (by decide +kernel) (Nat.le_of_ble_eq_true rfl) (Nat.le_of_ble_eq_true rfl) dX5_init_1 ?_
  refine j_aload_n F0 dX5_init_4 rfl ?_
  refine j_aload_n F0 dX5_init_5 rfl ?_
  refine m_alen S (t0 := 0) (v := 0) h1 rfl (by first | decide | rfl) dX5_init_6 ?_
  refine m_putF S (C := RX5) (T := TX5) (N := 3) (v := .int 0) (ty := .int) tyX5 tyX5_ok nmX5 (by decide +kernel) h0 rfl 0 (by decide) (by decide +kernel) (fun _ h9 => h9) rfl (hIN rfl) rfl (by decide +kernel) rfl rfl (Nat.le_of_ble_eq_true rfl) dX5_init_7 (fun M2 hD3 hU1 => ?_)
  have hU1 : Up M a (.inr (5, [.int 0, .int 0, .null])) M2 := hU1
  have n4 : t1 ≠ a := (In.ne hD h1 h0 (by simp))
  have n5 : t2 ≠ a := (In.ne hD h2 h0 (by simp))
  have h1 := hU1.2 _ _ n4 h1
  have h2 := hU1.2 _ _ n5 h2
  have h0 := hU1.1
  refine j_aload_n F0 dX5_init_10 rfl ?_
  refine j_aload_n F0 dX5_init_11 rfl ?_
  refine m_alen S (t0 := 0) (v := 0) h2 rfl (by first | decide | rfl) dX5_init_12 ?_
  refine m_putF S (C := RX5) (T := TX5) (N := 3) (v := .int 0) (ty := .int) tyX5 tyX5_ok nmX5 (by decide +kernel) h0 rfl 1 (by decide) (by decide +kernel) (fun _ h9 => h9) rfl (hIN rfl) rfl (by decide +kernel) rfl rfl (Nat.le_of_ble_eq_true rfl) dX5_init_13 (fun M7 hD8 hU6 => ?_)
  have hU6 : Up M2 a (.inr (5, [.int 0, .int 0, .null])) M7 := hU6
  have n9 : t1 ≠ a := n4
  have n10 : t2 ≠ a := n5
  have h1 := hU6.2 _ _ n9 h1
  have h2 := hU6.2 _ _ n10 h2
  have h0 := hU6.1
  refine j_aload_n F0 dX5_init_16 rfl ?_
  refine j_aload_n F0 dX5_init_17 rfl ?_
  refine m_get S (C := RX5) (T := TX5) (N := 3) (by decide +kernel) h0 rfl (v := .int 0) 0 (by decide) (by decide +kernel) (fun _ h9 => h9) rfl dX5_init_18 ?_
  refine j_aload_n F0 dX5_init_21 rfl ?_
  refine m_get S (C := RX5) (T := TX5) (N := 3) (by decide +kernel) h0 rfl (v := .int 0) 1 (by decide) (by decide +kernel) (fun _ h9 => h9) rfl dX5_init_22 ?_
  refine m_mna0 S (by decide +kernel) (by decide +kernel) S.2.1.aoz (Nat.le_of_ble_eq_true rfl) (Nat.le_of_ble_eq_true rfl) dX5_init_25 (fun z11 => ?_)
  have F12 := S.1.at 1 0 (Nat.le_of_ble_eq_true rfl) (Nat.le_of_ble_eq_true rfl)
  refine m_putF S (C := RX5) (T := TX5) (N := 3) (v := .ref z11) (ty := (.array (.array .boolean))) tyX5 tyX5_ok nmX5 (by decide +kernel) h0 rfl 2 (by decide) (by decide +kernel) (fun _ h9 => h9) rfl (hIN rfl) rfl (by decide +kernel) rfl rfl (Nat.le_of_ble_eq_true rfl) dX5_init_29 (fun M14 hD15 hU13 => ?_)
  have hU13 : Up M7 a (.inr (5, [.int 0, .int 0, .ref z11])) M14 := hU13
  have n16 : t1 ≠ a := n9
  have n17 : t2 ≠ a := n10
  have h1 := hU13.2 _ _ n16 h1
  have h2 := hU13.2 _ _ n17 h2
  have h0 := hU13.1
  refine j_iconst F12 0 dX5_init_32 (by decide) ?_
  refine j_istore F12 [some (.ref a), some (.ref t1), some (.ref t2), some (.ref t3), some (.int 0), none] dX5_init_33 (by decide) rfl rfl ?_
  refine j_iload F12 dX5_init_35 rfl ?_
  refine j_aload_n F12 dX5_init_37 rfl ?_
  refine m_get S (C := RX5) (T := TX5) (N := 3) (by decide +kernel) h0 rfl (v := .int 0) 0 (by decide) (by decide +kernel) (fun _ h9 => h9) rfl dX5_init_38 ?_
  refine j_icmp_ge F12 100 dX5_init_41 (by decide) (fun _ => ?_) (fun h9 => absurd (by decide) h9)
  have hKp : Kp M [a] M14 := by
    intro b x hb hx
    have hx := hU1.2 _ _ (fun c => hb (by rw [c]; simp)) hx
    have hx := hU6.2 _ _ (fun c => hb (by rw [c]; simp)) hx
    have hx := hU13.2 _ _ (fun c => hb (by rw [c]; simp)) hx
    exact hx
  exact m_return S hRT rfl hQ (Nat.le_of_ble_eq_true rfl) (Nat.le_of_ble_eq_true rfl) dX5_init_100 ⟨z11, h0, hKp⟩

set_option maxRecDepth 100000 in
set_option maxHeartbeats 4000000 in
theorem r_X5_hasFields (l : Launch) (G : RG) (A : Nat → Prop) (M : Wl) {a z : Nat} (h0 : (a, .inr (5, [.int 0, .int 0, .ref z])) ∈ M) : Kr l G A yX5_hasFields wsX5_hasFields { frames := 0, cells := 0, slots := 0, locals := 0 } M [.ref a] (Gi G A (fun v N => (0 : Int32) = v ∧ M = N)) 0 0 := by
  refine Kr.of (cc := cX5_hasFields) (maxL := 1) (ret := (some .boolean)) (by decide) rfl (Nat.le_of_ble_eq_true rfl) ?_
  intro X hXl S hRT hIN hXA hQ hD
  subst hXl
  subst hXA
  show J (X.at 0 0) 1 (PL G.Z X.A M) 0 [some (.ref a)] []
  have F0 := S.1.at 0 0 (Nat.le_of_ble_eq_true rfl) (Nat.le_of_ble_eq_true rfl)
  have hOR := S.2.1.or
  refine j_aload_n F0 dX5_hasFields_0 rfl ?_
  refine m_get S (C := RX5) (T := TX5) (N := 3) (by decide +kernel) h0 rfl (v := .int 0) 0 (by decide) (by decide +kernel) (fun _ h9 => h9) rfl dX5_hasFields_1 ?_
  refine j_if_le F0 18 dX5_hasFields_4 (by decide) (fun _ => ?_) (fun h9 => absurd (by decide) h9)
  refine j_iconst F0 0 dX5_hasFields_18 (by decide) ?_
  exact m_ireturn S hRT rfl hQ (Nat.le_of_ble_eq_true rfl) (Nat.le_of_ble_eq_true rfl) dX5_hasFields_19 rfl ⟨rfl, rfl⟩

set_option maxRecDepth 100000 in
set_option maxHeartbeats 4000000 in
theorem r_X5_ups (l : Launch) (G : RG) (A : Nat → Prop) (M : Wl) {a z : Nat} (h0 : (a, .inr (5, [.int 0, .int 0, .ref z])) ∈ M) : Kr l G A yX5_ups wsX5_ups { frames := 0, cells := 0, slots := 0, locals := 0 } M [.ref a] (Gi G A (fun v N => (0 : Int32) = v ∧ M = N)) 0 0 := by
  refine Kr.of (cc := cX5_ups) (maxL := 3) (ret := (some .int)) (by decide) rfl (Nat.le_of_ble_eq_true rfl) ?_
  intro X hXl S hRT hIN hXA hQ hD
  subst hXl
  subst hXA
  show J (X.at 0 0) 3 (PL G.Z X.A M) 0 [some (.ref a), none, none] []
  have F0 := S.1.at 0 0 (Nat.le_of_ble_eq_true rfl) (Nat.le_of_ble_eq_true rfl)
  have hOR := S.2.1.or
  refine j_iconst F0 0 dX5_ups_0 (by decide) ?_
  refine j_istore_n F0 [some (.ref a), some (.int 0), none] dX5_ups_1 (by decide) rfl rfl ?_
  refine j_iconst F0 0 dX5_ups_2 (by decide) ?_
  refine j_istore_n F0 [some (.ref a), some (.int 0), some (.int 0)] dX5_ups_3 (by decide) rfl rfl ?_
  refine j_iload_n F0 dX5_ups_4 rfl ?_
  refine j_aload_n F0 dX5_ups_5 rfl ?_
  refine m_get S (C := RX5) (T := TX5) (N := 3) (by decide +kernel) h0 rfl (v := .int 0) 0 (by decide) (by decide +kernel) (fun _ h9 => h9) rfl dX5_ups_6 ?_
  refine j_icmp_ge F0 27 dX5_ups_9 (by decide) (fun _ => ?_) (fun h9 => absurd (by decide) h9)
  refine j_iload_n F0 dX5_ups_27 rfl ?_
  exact m_ireturn S hRT rfl hQ (Nat.le_of_ble_eq_true rfl) (Nat.le_of_ble_eq_true rfl) dX5_ups_28 rfl ⟨rfl, rfl⟩

set_option maxRecDepth 100000 in
set_option maxHeartbeats 4000000 in
theorem r_X5_floats (l : Launch) (G : RG) (A : Nat → Prop) (M : Wl) {a z : Nat} (x : Int32) (b : Int32) (h0 : (a, .inr (5, [.int 0, .int 0, .ref z])) ∈ M) : Kr l G A yX5_floats wsX5_floats { frames := 0, cells := 0, slots := 0, locals := 0 } M [.ref a, .int x, .int b] (Gi G A (fun v N => (0 : Int32) = v ∧ M = N)) 0 0 := by
  refine Kr.of (cc := cX5_floats) (maxL := 6) (ret := (some .int)) (by decide) rfl (Nat.le_of_ble_eq_true rfl) ?_
  intro X hXl S hRT hIN hXA hQ hD
  subst hXl
  subst hXA
  show J (X.at 0 0) 6 (PL G.Z X.A M) 0 [some (.ref a), some (.int x), some (.int b), none, none, none] []
  have F0 := S.1.at 0 0 (Nat.le_of_ble_eq_true rfl) (Nat.le_of_ble_eq_true rfl)
  have hOR := S.2.1.or
  refine j_iconst F0 0 dX5_floats_0 (by decide) ?_
  refine j_istore_n F0 [some (.ref a), some (.int x), some (.int b), some (.int 0), none, none] dX5_floats_1 (by decide) rfl rfl ?_
  refine j_iconst F0 0 dX5_floats_2 (by decide) ?_
  refine j_istore F0 [some (.ref a), some (.int x), some (.int b), some (.int 0), some (.int 0), none] dX5_floats_3 (by decide) rfl rfl ?_
  refine j_iload F0 dX5_floats_5 rfl ?_
  refine j_aload_n F0 dX5_floats_7 rfl ?_
  refine m_get S (C := RX5) (T := TX5) (N := 3) (by decide +kernel) h0 rfl (v := .int 0) 0 (by decide) (by decide +kernel) (fun _ h9 => h9) rfl dX5_floats_8 ?_
  refine j_icmp_ge F0 59 dX5_floats_11 (by decide) (fun _ => ?_) (fun h9 => absurd (by decide) h9)
  refine j_iload_n F0 dX5_floats_59 rfl ?_
  exact m_ireturn S hRT rfl hQ (Nat.le_of_ble_eq_true rfl) (Nat.le_of_ble_eq_true rfl) dX5_floats_60 rfl ⟨rfl, rfl⟩

set_option maxRecDepth 100000 in
set_option maxHeartbeats 4000000 in
theorem r_X5_longest (l : Launch) (G : RG) (A : Nat → Prop) (M : Wl) {a z : Nat} (h0 : (a, .inr (5, [.int 0, .int 0, .ref z])) ∈ M) : Kr l G A yX5_longest wsX5_longest { frames := 0, cells := 0, slots := 0, locals := 0 } M [.ref a] (Gi G A (fun v N => (0 : Int32) = v ∧ M = N)) 0 0 := by
  refine Kr.of (cc := cX5_longest) (maxL := 4) (ret := (some .int)) (by decide) rfl (Nat.le_of_ble_eq_true rfl) ?_
  intro X hXl S hRT hIN hXA hQ hD
  subst hXl
  subst hXA
  show J (X.at 0 0) 4 (PL G.Z X.A M) 0 [some (.ref a), none, none, none] []
  have F0 := S.1.at 0 0 (Nat.le_of_ble_eq_true rfl) (Nat.le_of_ble_eq_true rfl)
  have hOR := S.2.1.or
  refine j_iconst F0 0 dX5_longest_0 (by decide) ?_
  refine j_istore_n F0 [some (.ref a), some (.int 0), none, none] dX5_longest_1 (by decide) rfl rfl ?_
  refine j_iconst F0 0 dX5_longest_2 (by decide) ?_
  refine j_istore_n F0 [some (.ref a), some (.int 0), some (.int 0), none] dX5_longest_3 (by decide) rfl rfl ?_
  refine j_iload_n F0 dX5_longest_4 rfl ?_
  refine j_aload_n F0 dX5_longest_5 rfl ?_
  refine m_get S (C := RX5) (T := TX5) (N := 3) (by decide +kernel) h0 rfl (v := .int 0) 0 (by decide) (by decide +kernel) (fun _ h9 => h9) rfl dX5_longest_6 ?_
  refine j_icmp_ge F0 56 dX5_longest_9 (by decide) (fun _ => ?_) (fun h9 => absurd (by decide) h9)
  refine j_iload_n F0 dX5_longest_56 rfl ?_
  exact m_ireturn S hRT rfl hQ (Nat.le_of_ble_eq_true rfl) (Nat.le_of_ble_eq_true rfl) dX5_longest_57 rfl ⟨rfl, rfl⟩

set_option maxRecDepth 100000 in
set_option maxHeartbeats 4000000 in
theorem r_X5_where (l : Launch) (G : RG) (A : Nat → Prop) (M : Wl) {a z : Nat} (x : Int32) (b : Int32) (h0 : (a, .inr (5, [.int 0, .int 0, .ref z])) ∈ M) : Kr l G A yX5_where wsX5_where { frames := 0, cells := 0, slots := 0, locals := 0 } M [.ref a, .int x, .int b] (Gi G A (fun v N => ((-1) : Int32) = v ∧ M = N)) 0 0 := by
  refine Kr.of (cc := cX5_where) (maxL := 7) (ret := (some .int)) (by decide) rfl (Nat.le_of_ble_eq_true rfl) ?_
  intro X hXl S hRT hIN hXA hQ hD
  subst hXl
  subst hXA
  show J (X.at 0 0) 7 (PL G.Z X.A M) 0 [some (.ref a), some (.int x), some (.int b), none, none, none, none] []
  have F0 := S.1.at 0 0 (Nat.le_of_ble_eq_true rfl) (Nat.le_of_ble_eq_true rfl)
  have hOR := S.2.1.or
  refine j_iconst F0 0 dX5_where_0 (by decide) ?_
  refine j_istore_n F0 [some (.ref a), some (.int x), some (.int b), some (.int 0), none, none, none] dX5_where_1 (by decide) rfl rfl ?_
  refine j_iload_n F0 dX5_where_2 rfl ?_
  refine j_iload_n F0 dX5_where_3 rfl ?_
  refine j_if_eq F0 14 dX5_where_4 (by decide) (fun hb1 => ?_) (fun hb1 => ?_)
  · skip
    refine j_aload_n F0 dX5_where_14 rfl ?_
    refine m_get S (C := RX5) (T := TX5) (N := 3) (by decide +kernel) h0 rfl (v := .int 0) 1 (by decide) (by decide +kernel) (fun _ h9 => h9) rfl dX5_where_15 ?_
    refine j_icmp_ge F0 102 dX5_where_18 (by decide) (fun _ => ?_) (fun h9 => absurd (by decide) h9)
    refine j_iconst F0 (-1) dX5_where_102 (by decide) ?_
    exact m_ireturn S hRT rfl hQ (Nat.le_of_ble_eq_true rfl) (Nat.le_of_ble_eq_true rfl) dX5_where_103 rfl ⟨rfl, rfl⟩
  · skip
    refine j_aload_n F0 dX5_where_7 rfl ?_
    refine m_get S (C := RX5) (T := TX5) (N := 3) (by decide +kernel) h0 rfl (v := .int 0) 0 (by decide) (by decide +kernel) (fun _ h9 => h9) rfl dX5_where_8 ?_
    refine j_goto F0 18 dX5_where_11 (by decide) ?_
    refine j_icmp_ge F0 102 dX5_where_18 (by decide) (fun _ => ?_) (fun h9 => absurd (by decide) h9)
    refine j_iconst F0 (-1) dX5_where_102 (by decide) ?_
    exact m_ireturn S hRT rfl hQ (Nat.le_of_ble_eq_true rfl) (Nat.le_of_ble_eq_true rfl) dX5_where_103 rfl ⟨rfl, rfl⟩

set_option maxRecDepth 100000 in
set_option maxHeartbeats 4000000 in
theorem r_X5_lengths (l : Launch) (G : RG) (A : Nat → Prop) (M : Wl) {a z : Nat} (h0 : (a, .inr (5, [.int 0, .int 0, .ref z])) ∈ M) : Kr l G A yX5_lengths wsX5_lengths { frames := 0, cells := 0, slots := 0, locals := 0 } M [.ref a] (Gi G A (fun v N => (0 : Int32) = v ∧ M = N)) 0 0 := by
  refine Kr.of (cc := cX5_lengths) (maxL := 4) (ret := (some .int)) (by decide) rfl (Nat.le_of_ble_eq_true rfl) ?_
  intro X hXl S hRT hIN hXA hQ hD
  subst hXl
  subst hXA
  show J (X.at 0 0) 4 (PL G.Z X.A M) 0 [some (.ref a), none, none, none] []
  have F0 := S.1.at 0 0 (Nat.le_of_ble_eq_true rfl) (Nat.le_of_ble_eq_true rfl)
  have hOR := S.2.1.or
  refine j_iconst F0 0 dX5_lengths_0 (by decide) ?_
  refine j_istore_n F0 [some (.ref a), some (.int 0), none, none] dX5_lengths_1 (by decide) rfl rfl ?_
  refine j_iconst F0 0 dX5_lengths_2 (by decide) ?_
  refine j_istore_n F0 [some (.ref a), some (.int 0), some (.int 0), none] dX5_lengths_3 (by decide) rfl rfl ?_
  refine j_iload_n F0 dX5_lengths_4 rfl ?_
  refine j_aload_n F0 dX5_lengths_5 rfl ?_
  refine m_get S (C := RX5) (T := TX5) (N := 3) (by decide +kernel) h0 rfl (v := .int 0) 0 (by decide) (by decide +kernel) (fun _ h9 => h9) rfl dX5_lengths_6 ?_
  refine j_icmp_ge F0 52 dX5_lengths_9 (by decide) (fun _ => ?_) (fun h9 => absurd (by decide) h9)
  refine j_iload_n F0 dX5_lengths_52 rfl ?_
  exact m_ireturn S hRT rfl hQ (Nat.le_of_ble_eq_true rfl) (Nat.le_of_ble_eq_true rfl) dX5_lengths_53 rfl ⟨rfl, rfl⟩

set_option maxRecDepth 100000 in
set_option maxHeartbeats 4000000 in
theorem r_X5_kinds (l : Launch) (G : RG) (A : Nat → Prop) (M : Wl) {a z : Nat} (b : Int32) (h0 : (a, .inr (5, [.int 0, .int 0, .ref z])) ∈ M) : Kr l G A yX5_kinds wsX5_kinds { frames := 0, cells := 0, slots := 0, locals := 0 } M [.ref a, .int b] (Gi G A (fun v N => (0 : Int32) = v ∧ M = N)) 0 0 := by
  refine Kr.of (cc := cX5_kinds) (maxL := 6) (ret := (some .int)) (by decide) rfl (Nat.le_of_ble_eq_true rfl) ?_
  intro X hXl S hRT hIN hXA hQ hD
  subst hXl
  subst hXA
  show J (X.at 0 0) 6 (PL G.Z X.A M) 0 [some (.ref a), some (.int b), none, none, none, none] []
  have F0 := S.1.at 0 0 (Nat.le_of_ble_eq_true rfl) (Nat.le_of_ble_eq_true rfl)
  have hOR := S.2.1.or
  refine j_iconst F0 0 dX5_kinds_0 (by decide) ?_
  refine j_istore_n F0 [some (.ref a), some (.int b), some (.int 0), none, none, none] dX5_kinds_1 (by decide) rfl rfl ?_
  refine j_iconst F0 0 dX5_kinds_2 (by decide) ?_
  refine j_istore_n F0 [some (.ref a), some (.int b), some (.int 0), some (.int 0), none, none] dX5_kinds_3 (by decide) rfl rfl ?_
  refine j_iload_n F0 dX5_kinds_4 rfl ?_
  refine j_iload_n F0 dX5_kinds_5 rfl ?_
  refine j_if_eq F0 16 dX5_kinds_6 (by decide) (fun hb1 => ?_) (fun hb1 => ?_)
  · skip
    refine j_aload_n F0 dX5_kinds_16 rfl ?_
    refine m_get S (C := RX5) (T := TX5) (N := 3) (by decide +kernel) h0 rfl (v := .int 0) 1 (by decide) (by decide +kernel) (fun _ h9 => h9) rfl dX5_kinds_17 ?_
    refine j_icmp_ge F0 81 dX5_kinds_20 (by decide) (fun _ => ?_) (fun h9 => absurd (by decide) h9)
    refine j_iload_n F0 dX5_kinds_81 rfl ?_
    exact m_ireturn S hRT rfl hQ (Nat.le_of_ble_eq_true rfl) (Nat.le_of_ble_eq_true rfl) dX5_kinds_82 rfl ⟨rfl, rfl⟩
  · skip
    refine j_aload_n F0 dX5_kinds_9 rfl ?_
    refine m_get S (C := RX5) (T := TX5) (N := 3) (by decide +kernel) h0 rfl (v := .int 0) 0 (by decide) (by decide +kernel) (fun _ h9 => h9) rfl dX5_kinds_10 ?_
    refine j_goto F0 20 dX5_kinds_13 (by decide) ?_
    refine j_icmp_ge F0 81 dX5_kinds_20 (by decide) (fun _ => ?_) (fun h9 => absurd (by decide) h9)
    refine j_iload_n F0 dX5_kinds_81 rfl ?_
    exact m_ireturn S hRT rfl hQ (Nat.le_of_ble_eq_true rfl) (Nat.le_of_ble_eq_true rfl) dX5_kinds_82 rfl ⟨rfl, rfl⟩

set_option maxRecDepth 100000 in
set_option maxHeartbeats 4000000 in
theorem r_X5_repeat (l : Launch) (G : RG) (A : Nat → Prop) (M : Wl) {a z : Nat} (b : Int32) (h0 : (a, .inr (5, [.int 0, .int 0, .ref z])) ∈ M) : Kr l G A yX5_repeat wsX5_repeat { frames := 1, cells := 0, slots := 0, locals := 20 } M [.ref a, .int b] (Gi G A (fun v N => (0 : Int32) = v ∧ M = N)) 0 0 := by
  refine Kr.of (cc := cX5_repeat) (maxL := 6) (ret := (some .int)) (by decide) rfl (Nat.le_of_ble_eq_true rfl) ?_
  intro X hXl S hRT hIN hXA hQ hD
  subst hXl
  subst hXA
  show J (X.at 0 0) 6 (PL G.Z X.A M) 0 [some (.ref a), some (.int b), none, none, none, none] []
  have F0 := S.1.at 0 0 (Nat.le_of_ble_eq_true rfl) (Nat.le_of_ble_eq_true rfl)
  have hOR := S.2.1.or
  refine j_iload_n F0 dX5_repeat_0 rfl ?_
  refine j_if_eq F0 11 dX5_repeat_1 (by decide) (fun hb1 => ?_) (fun hb1 => ?_)
  · skip
    refine j_aload_n F0 dX5_repeat_11 rfl ?_
    refine m_get S (C := RX5) (T := TX5) (N := 3) (by decide +kernel) h0 rfl (v := .int 0) 1 (by decide) (by decide +kernel) (fun _ h9 => h9) rfl dX5_repeat_12 ?_
    refine j_istore_n F0 [some (.ref a), some (.int b), some (.int 0), none, none, none] dX5_repeat_15 (by decide) rfl rfl ?_
    refine j_iconst F0 1 dX5_repeat_16 (by decide) ?_
    refine j_istore_n F0 [some (.ref a), some (.int b), some (.int 0), some (.int 1), none, none] dX5_repeat_17 (by decide) rfl rfl ?_
    refine j_aload_n F0 dX5_repeat_18 rfl ?_
    refine m_cVi S (n1 := 0) (rest := []) (r_X5_hasFields X.l G X.A M h0) ⟨_, _, _, _, rfl, gX5_repeat_X5_hasFields, rfl, rfl, (by decide +kernel), ⟨(Nat.le_of_ble_eq_true rfl), (Nat.le_of_ble_eq_true rfl)⟩⟩ h0 rfl rfl (Nat.le_of_ble_eq_true rfl) (Nat.le_of_ble_eq_true rfl) (Nat.le_of_ble_eq_true rfl) rfl dX5_repeat_19 (fun v2 M3 hD4 hp5 => ?_)
    obtain ⟨hp5a, hp5b⟩ := hp5
    subst hp5a
    subst hp5b
    refine j_if_eq F0 77 dX5_repeat_22 (by decide) (fun _ => ?_) (fun h9 => absurd (by decide) h9)
    refine j_iconst F0 0 dX5_repeat_77 (by decide) ?_
    exact m_ireturn S hRT rfl hQ (Nat.le_of_ble_eq_true rfl) (Nat.le_of_ble_eq_true rfl) dX5_repeat_78 rfl ⟨rfl, rfl⟩
  · skip
    refine j_aload_n F0 dX5_repeat_4 rfl ?_
    refine m_get S (C := RX5) (T := TX5) (N := 3) (by decide +kernel) h0 rfl (v := .int 0) 0 (by decide) (by decide +kernel) (fun _ h9 => h9) rfl dX5_repeat_5 ?_
    refine j_goto F0 15 dX5_repeat_8 (by decide) ?_
    refine j_istore_n F0 [some (.ref a), some (.int b), some (.int 0), none, none, none] dX5_repeat_15 (by decide) rfl rfl ?_
    refine j_iconst F0 1 dX5_repeat_16 (by decide) ?_
    refine j_istore_n F0 [some (.ref a), some (.int b), some (.int 0), some (.int 1), none, none] dX5_repeat_17 (by decide) rfl rfl ?_
    refine j_aload_n F0 dX5_repeat_18 rfl ?_
    refine m_cVi S (n1 := 0) (rest := []) (r_X5_hasFields X.l G X.A M h0) ⟨_, _, _, _, rfl, gX5_repeat_X5_hasFields, rfl, rfl, (by decide +kernel), ⟨(Nat.le_of_ble_eq_true rfl), (Nat.le_of_ble_eq_true rfl)⟩⟩ h0 rfl rfl (Nat.le_of_ble_eq_true rfl) (Nat.le_of_ble_eq_true rfl) (Nat.le_of_ble_eq_true rfl) rfl dX5_repeat_19 (fun v6 M7 hD8 hp9 => ?_)
    obtain ⟨hp9a, hp9b⟩ := hp9
    subst hp9a
    subst hp9b
    refine j_if_eq F0 77 dX5_repeat_22 (by decide) (fun _ => ?_) (fun h9 => absurd (by decide) h9)
    refine j_iconst F0 0 dX5_repeat_77 (by decide) ?_
    exact m_ireturn S hRT rfl hQ (Nat.le_of_ble_eq_true rfl) (Nat.le_of_ble_eq_true rfl) dX5_repeat_78 rfl ⟨rfl, rfl⟩

set_option maxRecDepth 100000 in
set_option maxHeartbeats 4000000 in
theorem r_X5_hangs (l : Launch) (G : RG) (A : Nat → Prop) (M : Wl) {a z : Nat} (h0 : (a, .inr (5, [.int 0, .int 0, .ref z])) ∈ M) : Kr l G A yX5_hangs wsX5_hangs { frames := 1, cells := 0, slots := 0, locals := 20 } M [.ref a] (Gi G A (fun v N => (0 : Int32) = v ∧ M = N)) 0 0 := by
  refine Kr.of (cc := cX5_hangs) (maxL := 6) (ret := (some .boolean)) (by decide) rfl (Nat.le_of_ble_eq_true rfl) ?_
  intro X hXl S hRT hIN hXA hQ hD
  subst hXl
  subst hXA
  show J (X.at 0 0) 6 (PL G.Z X.A M) 0 [some (.ref a), none, none, none, none, none] []
  have F0 := S.1.at 0 0 (Nat.le_of_ble_eq_true rfl) (Nat.le_of_ble_eq_true rfl)
  have hOR := S.2.1.or
  refine j_aload_n F0 dX5_hangs_0 rfl ?_
  refine m_cVi S (n1 := 0) (rest := []) (r_X5_hasFields X.l G X.A M h0) ⟨_, _, _, _, rfl, gX5_hangs_X5_hasFields, rfl, rfl, (by decide +kernel), ⟨(Nat.le_of_ble_eq_true rfl), (Nat.le_of_ble_eq_true rfl)⟩⟩ h0 rfl rfl (Nat.le_of_ble_eq_true rfl) (Nat.le_of_ble_eq_true rfl) (Nat.le_of_ble_eq_true rfl) rfl dX5_hangs_1 (fun v1 M2 hD3 hp4 => ?_)
  obtain ⟨hp4a, hp4b⟩ := hp4
  subst hp4a
  subst hp4b
  refine j_if_ne F0 9 dX5_hangs_4 (by decide) (fun h9 => absurd (by decide) h9) (fun _ => ?_)
  refine j_iconst F0 0 dX5_hangs_7 (by decide) ?_
  exact m_ireturn S hRT rfl hQ (Nat.le_of_ble_eq_true rfl) (Nat.le_of_ble_eq_true rfl) dX5_hangs_8 rfl ⟨rfl, rfl⟩

set_option maxRecDepth 100000 in
set_option maxHeartbeats 4000000 in
theorem r_X5_reached (l : Launch) (G : RG) (A : Nat → Prop) (M : Wl) {a z : Nat} (b : Int32) (h0 : (a, .inr (5, [.int 0, .int 0, .ref z])) ∈ M) : Kr l G A yX5_reached wsX5_reached { frames := 1, cells := 0, slots := 0, locals := 20 } M [.ref a, .int b] (Gi G A (fun v N => (0 : Int32) = v ∧ M = N)) 0 0 := by
  refine Kr.of (cc := cX5_reached) (maxL := 5) (ret := (some .int)) (by decide) rfl (Nat.le_of_ble_eq_true rfl) ?_
  intro X hXl S hRT hIN hXA hQ hD
  subst hXl
  subst hXA
  show J (X.at 0 0) 5 (PL G.Z X.A M) 0 [some (.ref a), some (.int b), none, none, none] []
  have F0 := S.1.at 0 0 (Nat.le_of_ble_eq_true rfl) (Nat.le_of_ble_eq_true rfl)
  have hOR := S.2.1.or
  refine j_aload_n F0 dX5_reached_0 rfl ?_
  refine m_cVi S (n1 := 0) (rest := []) (r_X5_hasFields X.l G X.A M h0) ⟨_, _, _, _, rfl, gX5_reached_X5_hasFields, rfl, rfl, (by decide +kernel), ⟨(Nat.le_of_ble_eq_true rfl), (Nat.le_of_ble_eq_true rfl)⟩⟩ h0 rfl rfl (Nat.le_of_ble_eq_true rfl) (Nat.le_of_ble_eq_true rfl) (Nat.le_of_ble_eq_true rfl) rfl dX5_reached_1 (fun v1 M2 hD3 hp4 => ?_)
  obtain ⟨hp4a, hp4b⟩ := hp4
  subst hp4a
  subst hp4b
  refine j_if_ne F0 9 dX5_reached_4 (by decide) (fun h9 => absurd (by decide) h9) (fun _ => ?_)
  refine j_iconst F0 0 dX5_reached_7 (by decide) ?_
  exact m_ireturn S hRT rfl hQ (Nat.le_of_ble_eq_true rfl) (Nat.le_of_ble_eq_true rfl) dX5_reached_8 rfl ⟨rfl, rfl⟩
