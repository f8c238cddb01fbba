/-! the model made beside the loom, then the row of one long -/
theorem wl_len (Z : Zx) (ρ : Raw) : (wl Z ρ).length = 76 := by unfold wl; simp
theorem wl_at {Z : Zx} {ρ : Raw} {k : Nat} {q : Nat × va_E} (h : (wl Z ρ)[k]? = some q) : k < 76 ∧ q.1 = Z.ad k := by
  have h1 : k < 76 := by
    have := (List.getElem?_eq_some_iff.mp h).1
    rw [wl_len] at this
    exact this
  have h2 := wl_get Z ρ h1
  rw [h] at h2
  cases h2
  exact ⟨h1, rfl⟩
theorem WL.keepZ {Z : Zx} {tok : Nat → List Int32} {ties : List Int32} {H H1 : Heap} (h : WL Z tok ties H) (hk : ∀ q : Nat, q < H.size → LZ Z q → H1[q]? = H[q]?) : WL Z tok ties H1 := by
  obtain ⟨σ, hC, ρ, hR, hP⟩ := h
  exact ⟨σ, hC, ρ, hR, hP.kept fun k q hq => hk _ (hP k q hq).lt ⟨k, (wl_at hq).1, (wl_at hq).2⟩⟩
theorem WL.ltZ {Z : Zx} {tok : Nat → List Int32} {ties : List Int32} {H : Heap} (h : WL Z tok ties H) : ∀ q : Nat, LZ Z q → q < H.size := by
  obtain ⟨σ, hC, ρ, hR, hP⟩ := h
  rintro q ⟨k, hk, rfl⟩
  exact (hP k _ (wl_get Z ρ hk)).lt
/-- what may change while the model is made -/
def AN (Z : Zx) (n0 : Nat) : Nat → Prop := fun q => n0 ≤ q ∧ ¬ LZ Z q
theorem wl_dis {Z : Zx} {ρ : Raw} {n0 : Nat} {M : Wl} (hD : va_D (AN Z n0) M) : ∀ (i j : Nat) (p q : Nat × va_E), (wl Z ρ)[i]? = some p → M[j]? = some q → p.1 ≠ q.1 := fun i j p q hi hj e => (hD.2 j q hj).2 ⟨i, (wl_at hi).1, by rw [← e]; exact (wl_at hi).2⟩
section JN
variable {X : Cx} {G : RG} {pc k n : Nat} {lv : List (Option Value)} {rest : List Value}
/-- the model's object -/
theorem L_newM (S : Fx (X.at k n) G.Z code 9 wsL_law RL room_1) (hA : AdOk G.Z X.A) (hAe : X.A = fun q => X.s.heap.size ≤ q) (hk : k + 1 ≤ 600002) (hn : n + 4 ≤ 7302232) (hd : decode code pc = .ok (.new 78, 3)) (kk : ∀ q : Nat, va_D (AN G.Z X.s.heap.size) [(q, (.inr (8, [.int 0, .null, .null, .null]) : va_E))] → J (X.at (k + 1) (n + 4)) 9 (fun H => WL G.Z tok0 ties0 H ∧ PL G.Z (AN G.Z X.s.heap.size) [(q, (.inr (8, [.int 0, .null, .null, .null]) : va_E))] H) (pc + 3) lv (.ref q :: rest)) : J (X.at k n) 9 (WL G.Z tok0 ties0) pc lv rest := by
  intro H locs ls hw hS hl
  obtain ⟨σ, hC, ρ, hR, hP⟩ := id hw
  have hS' : va_S X.A X.s.heap H locs := hS
  refine va_new (ci := 8) (fs := [.int 0, .null, .null, .null]) (C := RX8) (T := TX8) (N := 4) S.ex S.by S.ts (by decide +kernel) tyX8 tyX8_ok S.ow (S.ts (.classLink RL 78 RX8) (by decide +kernel)) (S.ts (.instantiable RX8 4) (by decide +kernel)) (S.ts (.initialized RX8) (by decide +kernel)) S.K hP (wl_D hA) hS (fun q h => by show X.A q; rw [hAe]; exact h) rfl (fun j hj => by rcases (show j = 0 ∨ j = 1 ∨ j = 2 ∨ j = 3 by omega) with rfl | rfl | rfl | rfl <;> rfl) (by rw [S.rm]; exact hk) (by rw [S.rm]; exact hn) hd (fun q H1 hP1 hD1 hS1 => ?_)
  have hq : (wl G.Z ρ ++ [(q, (.inr (8, [.int 0, .null, .null, .null]) : va_E))])[76]? = some (q, (.inr (8, [.int 0, .null, .null, .null]) : va_E)) := by
    rw [List.getElem?_append_right (by rw [wl_len]; omega), wl_len]; rfl
  have hqA : X.A q := hD1.2 76 _ hq
  have hqZ : ¬ LZ G.Z q := fun ⟨j, hj, e9⟩ => by
    have h1 : (wl G.Z ρ ++ [(q, (.inr (8, [.int 0, .null, .null, .null]) : va_E))])[j]? = some (G.Z.ad j, cell G.Z ρ j) := by
      rw [List.getElem?_append_left (by rw [wl_len]; omega)]; exact wl_get G.Z ρ hj
    have := hD1.1 j 76 _ _ h1 hq e9.symm
    omega
  have hD9 : va_D (AN G.Z X.s.heap.size) [(q, (.inr (8, [.int 0, .null, .null, .null]) : va_E))] := by
    refine ⟨fun i j p r hi hj _ => ?_, fun i p hi => ?_⟩
    · have h1 : i < 1 := (List.getElem?_eq_some_iff.mp hi).1
      have h2 : j < 1 := (List.getElem?_eq_some_iff.mp hj).1
      omega
    · have h1 : i < 1 := (List.getElem?_eq_some_iff.mp hi).1
      rw [show i = 0 by omega] at hi
      cases hi
      exact ⟨by rw [hAe] at hqA; exact hqA, hqZ⟩
  refine kk q hD9 H1 locs ls ⟨⟨σ, hC, ρ, hR, fun j x hx => hP1 j x ?_⟩, hD9, fun j x hx => ?_⟩ hS1 hl
  · rw [List.getElem?_append_left (by rw [wl_len]; exact (wl_at hx).1)]; exact hx
  · have hz : j < 1 := (List.getElem?_eq_some_iff.mp hx).1
    rw [show j = 0 by omega] at hx
    cases hx
    exact hP1 76 _ hq
/-- the model's constructor -/
theorem L_initM (S : Fx (X.at k n) G.Z code 9 wsL_law RL room_1) (hKt : Kt G X.s) (hKh : Kh G X.A X.s X.s.heap) (hA : AdOk G.Z X.A) (hAe : X.A = fun q => X.s.heap.size ≤ q) {q : Nat} {M0 : Wl} (h0 : (q, (.inr (8, [.int 0, .null, .null, .null]) : va_E)) ∈ M0) (hcat : (rest.map fun v => v.category).sum ≤ 8) (hk : k + 14 ≤ room_1.cells) (hn : n + 61 ≤ room_1.slots) (hd : decode code pc = .ok (.invokespecial 80, 3)) (kk : ∀ (M : Wl) (ka ta : Nat), va_D (AN G.Z X.s.heap.size) M → Mo G q ka ta 0 M → J (X.at (k + 14) (n + 61)) 9 (fun H => WL G.Z tok0 ties0 H ∧ PL G.Z (AN G.Z X.s.heap.size) M H) (pc + 3) lv rest) : J (X.at k n) 9 (fun H => WL G.Z tok0 ties0 H ∧ PL G.Z (AN G.Z X.s.heap.size) M0 H) pc lv (.ref q :: rest) := by
  intro H locs ls hw hS hl
  have hS' : va_S X.A X.s.heap H locs := hS
  have hAA : ∀ q, AN G.Z X.s.heap.size q → X.A q := fun q h => by rw [hAe]; exact h.1
  have hrun := va_runI (e := X.e) (below := X.below) (meth := X.meth) (H := H) (locs := locs) (cells := k) (slots := n) (g := F0 X.m pc ls (([] : List Value).reverse ++ .ref q :: rest)) (As := []) (rest := rest) S.1 (r_X8_init X.l G (AN G.Z X.s.heap.size) M0 h0) (cwI 0 S.ts gL_law_X8_init rfl rfl rfl (S.ts (.initialized RX8) (by decide +kernel)) (S.ts (.methodLink RL 80 yX8_init) (by decide +kernel)) (S.ts (.instanceMethod yX8_init) (by decide +kernel)) rfl (by decide +kernel) (R := X.R) (by rw [show X.R = room_1 from S.rm]; exact ⟨Nat.le_of_ble_eq_true rfl, Nat.le_of_ble_eq_true rfl⟩)) ⟨Pg.blind, fun U hU hW => ⟨rfl, by rw [hU]; exact hw.2, va_K.moved hW.alike S.K, Kt.warm hW hKt, by rw [hU]; exact (Kh.moved hW.alike (hKh.kept hS'.2.1)).narrow hAA, fun q hq => ⟨Nat.le_trans hS'.1 (by rw [← hU]; exact hq), fun hz => Nat.lt_irrefl _ (Nat.lt_of_lt_of_le (hw.1.ltZ q hz) (by rw [← hU]; exact hq))⟩⟩⟩ rfl rfl hl.1 rfl (lv_room hcat) hd ⟨by rw [show X.R = room_1 from S.rm]; exact hk, by rw [show X.R = room_1 from S.rm]; exact hn⟩
  exact va_callv hrun hS (fun q _ h => hAA q h) (fun q h => hAA q h) (fun M1 t H1 locs1 ht hvm hp hb hz hk1 hS1 => by
    obtain ⟨ka, ta, hMo, -⟩ := hp
    exact kk M1 ka ta hb.1 hMo H1 locs1 ls ⟨hw.1.keepZ fun q h1 h2 => hk1 q h1 (fun z => z.2 h2), by rw [← ht]; exact hb⟩ hS1 hl)
/-- the row of one long -/
theorem L_newO (S : Fx (X.at k n) G.Z code 9 wsL_law RL room_1) (hKt : Kt G X.s) (hA : AdOk G.Z X.A) (hAe : X.A = fun q => X.s.heap.size ≤ q) {M : Wl} (hDM : va_D (AN G.Z X.s.heap.size) M) (hk : k + 1 ≤ 600002) (hn : n + 1 ≤ 7302232) (hd : decode code pc = .ok (.newarray .long, 2)) (kk : ∀ o n1 : Nat, ¬ LZ G.Z o → (∀ q, LO G.Z o q → X.s.heap.size ≤ q ∧ q < n1) → va_D (AM G X.s.heap.size o) M → J (X.at (k + 1) (n + 1)) 9 (LPc G X.s.heap.size o n1 (WL G.Z tok0 ties0) (fun _ => 0) M) (pc + 2) lv (.ref o :: rest)) : J (X.at k n) 9 (fun H => WL G.Z tok0 ties0 H ∧ PL G.Z (AN G.Z X.s.heap.size) M H) pc lv (.int 1 :: rest) := by
  intro H locs ls hw hS hl
  obtain ⟨⟨σ, hC, ρ, hR, hP⟩, hD2, hP2⟩ := id hw
  have hAA : ∀ q, AN G.Z X.s.heap.size q → X.A q := fun q h => by rw [hAe]; exact h.1
  have hDa : va_D X.A (wl G.Z ρ ++ M) := (wl_D hA).app (hDM.weaken fun _ q _ h => hAA _ h) (wl_dis hDM)
  refine va_newa (atype := .long) (ty := .long) (N' := 1) (a0 := (1, .inr (.inl (fun _ => 0)))) S.ex S.by (S.ts (.arrayClass .long) (by decide +kernel)) rfl hKt.kL (hP.app hP2) hDa hS (fun q h => by show X.A q; rw [hAe]; exact h) (fun _ => rfl) (by decide) (by decide) (Nat.le_of_ble_eq_true rfl) (by rw [S.rm]; exact hk) (by rw [S.rm]; exact hn) hd (fun q cA H1 hK hP1 hD1 hS1 => ?_)
  have hc : G.cL = cA := Option.some.inj ((show X.s.vm.findClass _ = some G.cL from (hKt.kL.2 0 (G.cL, .long) rfl).2).symm.trans (hK.2 1 (cA, .long) rfl).2)
  subst hc
  have hlen : (wl G.Z ρ ++ M).length = 76 + M.length := by rw [List.length_append, wl_len]
  have hq : ((wl G.Z ρ ++ M) ++ [(q, (.inl (G.cL, 1, .inr (.inl (fun _ => (0 : Int64)))) : va_E))])[76 + M.length]? = some (q, (.inl (G.cL, 1, .inr (.inl (fun _ => (0 : Int64)))) : va_E)) := by
    rw [List.getElem?_append_right (by omega), hlen, Nat.sub_self]; rfl
  have hl1 : ∀ j x, (wl G.Z ρ)[j]? = some x → ((wl G.Z ρ ++ M) ++ [(q, (.inl (G.cL, 1, .inr (.inl (fun _ => (0 : Int64)))) : va_E))])[j]? = some x := fun j x hx => by
    have h1 := (wl_at hx).1
    rw [List.getElem?_append_left (by omega), List.getElem?_append_left (by rw [wl_len]; exact h1)]; exact hx
  have hl2 : ∀ j x, M[j]? = some x → ((wl G.Z ρ ++ M) ++ [(q, (.inl (G.cL, 1, .inr (.inl (fun _ => (0 : Int64)))) : va_E))])[76 + j]? = some x := fun j x hx => by
    have h1 := (List.getElem?_eq_some_iff.mp hx).1
    rw [List.getElem?_append_left (by omega), List.getElem?_append_right (by rw [wl_len]; omega), wl_len, Nat.add_sub_cancel_left]; exact hx
  have hqA : X.A q := hD1.2 _ _ hq
  have hqZ : ¬ LZ G.Z q := fun ⟨j, hj, e9⟩ => by
    have := hD1.1 j (76 + M.length) _ _ (hl1 j _ (wl_get G.Z ρ hj)) hq e9.symm
    omega
  have hqM : ∀ (j : Nat) (x : Nat × va_E), M[j]? = some x → x.1 ≠ q := fun j x hx e9 => by
    have h1 := (List.getElem?_eq_some_iff.mp hx).1
    have := hD1.1 (76 + j) (76 + M.length) _ _ (hl2 j x hx) hq e9
    omega
  have hW1 : WL G.Z tok0 ties0 H1 := ⟨σ, hC, ρ, hR, fun j x hx => hP1 j x (hl1 j x hx)⟩
  have hDM1 : va_D (AM G X.s.heap.size q) M := ⟨hDM.1, fun j x hx => ⟨(hDM.2 j x hx).1, fun z => z.elim (hDM.2 j x hx).2 (hqM j x hx)⟩⟩
  refine kk q H1.size hqZ (fun z hz => ?_) hDM1 H1 locs ls ⟨⟨hW1, fun j x hx => ?_⟩, ⟨hDM1, fun j x hx => hP1 (76 + j) x (hl2 j x hx)⟩, Nat.le_refl _⟩ hS1 hl
  · rcases hz with hz | rfl
    · refine ⟨?_, hW1.ltZ z hz⟩
      obtain ⟨j, hj, rfl⟩ := hz
      have := hA.2 j hj
      rw [hAe] at this
      exact this
    · refine ⟨?_, (hP1 _ _ hq).lt⟩
      have := hqA
      rw [hAe] at this
      exact this
  · have hz : j < 1 := (List.getElem?_eq_some_iff.mp hx).1
    rw [show j = 0 by omega] at hx
    cases hx
    exact hP1 _ _ hq
end JN
