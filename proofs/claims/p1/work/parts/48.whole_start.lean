/-! THE LAW FROM ITS ENTRY: the loom, its model and the row of one long are made, then one pass -/
set_option maxHeartbeats 8000000 in
theorem whole_start {p : Program} {e : Env} {s : State} {m : MethodId} {below : List Frame} {meth : Method} {c : Code} (l : Launch) (hflags : l.flags = flags0) {b L : Nat} {xs : Nat → Int32} (hL : L ≤ 4) (C0 : lw_At p s m meth c b L xs) : W p l e room_1 s m #[Value.ref b] below meth c s.heap [] 0 0 (lw_Z below #[Value.ref b] s) (entryFrame m ([Value.ref b] : List Value).toArray 9) := by
  obtain ⟨hx, hb, hr, hml, hown, htb, hX, hbl, hlocks, hgv⟩ := C0
  have hown : s.vm.findClass RL = some m.cls := hown
  have hts : ∀ w ∈ wsL_law, w.before #[Value.ref b] s = true := fun w h => htb w (wsL_law_in w h)
  have hfl : l.stackTraces = false := by unfold Launch.stackTraces; rw [hflags]; decide +kernel
  obtain ⟨dC, dI, hK⟩ := law_K hts
  have hNW := law_NW htb
  have hAO : va_AO RX2 s := va_AO.of (htb (.arrayOver (.object RX2)) (by decide +kernel))
  obtain ⟨A, hAe⟩ : ∃ A : Nat → Prop, A = fun q => s.heap.size ≤ q := ⟨_, rfl⟩
  have hA : ∀ q : Nat, s.heap.size ≤ q → A q := fun q h => by rw [hAe]; exact h
  have hAn : ∀ a : Nat, a < s.heap.size → ¬ A a := fun a h1 h2 => by rw [hAe] at h2; exact Nat.lt_irrefl _ (Nat.lt_of_lt_of_le h1 h2)
  have hS : va_S A s.heap s.heap [] := va_S.rf
  have hP : va_P (dC, dI) vwCl [] s.heap := fun k q h => by cases h
  have hD : va_D A [] := ⟨fun i j p q h _ _ => (by cases h), fun k q h => (by cases h)⟩
  have hl := lv_entry ([.ref b]) (n := 9) (Nat.le_of_ble_eq_true rfl)
  rw [lg_entry_eq]
  generalize (lg_sl ([.ref b]) ++ List.replicate (9 - (lg_sl ([.ref b])).length) Slot.unset).toArray = ls at hl ⊢
  have hl : lvF ls 9 [some (.ref b), none, none, none, none, none, none, none, none] := hl
  refine va_new (ci := 4) (fs := [.null, .null, .null, .null, .null, .null, .null]) (C := RX4) (T := TX4) (N := 7) hx hb hts (by decide +kernel) tyX4 tyX4_ok hown (hts (.classLink RL 8 RX4) (by decide +kernel)) (hts (.instantiable RX4 7) (by decide +kernel)) (hts (.initialized RX4) (by decide +kernel)) hK hP hD hS hA rfl (fun j hj => by rcases (show j = 0 ∨ j = 1 ∨ j = 2 ∨ j = 3 ∨ j = 4 ∨ j = 5 ∨ j = 6 by omega) with rfl | rfl | rfl | rfl | rfl | rfl | rfl <;> rfl) (Nat.le_of_ble_eq_true rfl) (Nat.le_of_ble_eq_true rfl) dL_law_0 (fun h0 H hP hD hS => ?_)
  replace hP : va_P (dC, dI) vwCl [(h0, (.inr (4, [.null, .null, .null, .null, .null, .null, .null]) : va_E))] H := hP
  replace hD : va_D A [(h0, (.inr (4, [.null, .null, .null, .null, .null, .null, .null]) : va_E))] := hD
  refine lv_dup hx hb dL_law_3 rfl ?_
  have hDc : va_D (fun _ => True) [(h0, (.inr (4, [.null, .null, .null, .null, .null, .null, .null]) : va_E))] := hD.weaken (fun _ _ _ _ => trivial)
  have hFc : ∀ q, va_A [(h0, (.inr (4, [.null, .null, .null, .null, .null, .null, .null]) : va_E))] H.size q → A q := va_free hD hS hA [0] rfl
  refine va_callv (va_runI (As := []) (rest := [.ref h0]) ⟨hx, hb, hml, hown, hts⟩ (k_X4_init l dC dI h0 H.size) (cwI 0 hts gL_law_X4_init rfl rfl rfl (hts (.initialized RX4) (by decide +kernel)) (hts (.methodLink RL 77 yX4_init) (by decide +kernel)) (hts (.instanceMethod yX4_init) (by decide +kernel)) rfl (by decide +kernel) ⟨Nat.le_of_ble_eq_true rfl, Nat.le_of_ble_eq_true rfl⟩) ⟨Pi4.blind, fun U hU hW => ⟨rfl, by rw [hU], by rw [hU]; exact hP, va_K.moved hW.alike hK, hDc, NW.warm hW hNW, va_AO.moved hW.alike hAO⟩⟩ rfl rfl hl.1 rfl (lv_room (Nat.le_of_ble_eq_true rfl)) dL_law_4 ⟨Nat.le_of_ble_eq_true rfl, Nat.le_of_ble_eq_true rfl⟩) hS (fun q _ h => hFc q h) hFc (fun u t H1 locs ht hvm hw hB hz1 hk1 hS => ?_)
  obtain ⟨Z, e1, e2, hW, hKt, hAd⟩ := hB
  have hK9 : va_K Z.D vwCl (tysOf Z) s := va_K.moved hvm.symm hKt
  have hAd9 : AdOk Z A := ⟨hAd.1, fun k hk => hFc _ (hAd.2 k hk)⟩
  rw [ht] at hW
  subst e2
  obtain ⟨G, hGZ, hKtG, hKhG⟩ := st_G (A := A) htb hgv hAn hK9
  subst hGZ
  obtain ⟨X, hXe⟩ : ∃ X : Cx, X = (p, l, e, room_1, s, m, #[Value.ref b], below, meth, c, A, 0, 0, lw_Z below #[Value.ref b] s) := ⟨_, rfl⟩
  have F : ∀ {k n : Nat}, k ≤ room_1.cells → n ≤ room_1.slots → Fx (X.at k n) G.Z code 9 wsL_law RL room_1 := fun {k n} h1 h2 => by rw [hXe]; exact ⟨⟨hx, hb, hml, hown, hts⟩, hK9, rfl, h1, h2, hlocks, hNW⟩
  have hXA : X.A = fun q => X.s.heap.size ≤ q := by rw [hXe]; exact hAe
  have hAdX : AdOk G.Z X.A := by rw [hXe]; exact hAd9
  have hKtX : Kt G X.s := by rw [hXe]; exact hKtG
  have hKhX : Kh G X.A X.s X.s.heap := by rw [hXe]; exact hKhG
  have hTxX : Tx X.A X.s X.s.heap := by rw [hXe]; exact st_Tx htb hgv hAn
  have hTyX : Ty X.s := by rw [hXe]; exact st_Ty hgv
  have hflX : X.l.stackTraces = false := by rw [hXe]; exact hfl
  have hXX : va_X b L xs X.s X.s.heap := by rw [hXe]; exact hX
  have hblX : b < X.s.heap.size := by rw [hXe]; exact hbl
  have hbA : ¬ X.A b := by rw [hXe]; exact hAn b hbl
  have hEnd : ∀ (k n : Nat) (w : Heap → Prop) (pc : Nat) (lv : List (Option Value)), k ≤ room_1.cells → n ≤ room_1.slots → decode code pc = .ok (.ireturn, 1) → J (X.at k n) 9 w pc lv [.int 1] := fun k n w pc lv h1 h2 hd => lw_last1 (F h1 h2) (by rw [hXe]; exact hr) (by rw [hXe]; rfl) (by rw [hXe]; rfl) hXA hd
  have hJ : J (X.at 76 2418) 9 (WL G.Z tok0 ties0) 7 [some (.ref b), none, none, none, none, none, none, none, none] [.ref (G.Z.ad 0)] := by
    have F1 := F (k := 76) (n := 2418) (Nat.le_of_ble_eq_true rfl) (Nat.le_of_ble_eq_true rfl)
    refine j_astore_n F1 [some (.ref b), some (.ref (G.Z.ad 0)), none, none, none, none, none, none, none] dL_law_7 (by decide) rfl rfl ?_
    refine L_newM F1 hAdX hXA (Nat.le_of_ble_eq_true rfl) (Nat.le_of_ble_eq_true rfl) dL_law_8 (fun mo hD0 => ?_)
    have F2 := F (k := 77) (n := 2422) (Nat.le_of_ble_eq_true rfl) (Nat.le_of_ble_eq_true rfl)
    refine j_dup F2 dL_law_11 rfl ?_
    refine L_initM F2 hKtX hKhX hAdX hXA (q := mo) (rest := [.ref mo]) List.mem_cons_self (Nat.le_of_ble_eq_true rfl) (Nat.le_of_ble_eq_true rfl) (Nat.le_of_ble_eq_true rfl) dL_law_12 (fun M ka ta hDM hMo => ?_)
    have F3 := F (k := 91) (n := 2483) (Nat.le_of_ble_eq_true rfl) (Nat.le_of_ble_eq_true rfl)
    refine j_astore_n F3 [some (.ref b), some (.ref (G.Z.ad 0)), some (.ref mo), none, none, none, none, none, none] dL_law_15 (by decide) rfl rfl ?_
    refine j_iconst F3 1 dL_law_16 (by decide) ?_
    refine L_newO F3 hKtX hAdX hXA hDM (Nat.le_of_ble_eq_true rfl) (Nat.le_of_ble_eq_true rfl) dL_law_17 (fun o n1 ho hLO hDM1 => ?_)
    have F4 := F (k := 92) (n := 2484) (Nat.le_of_ble_eq_true rfl) (Nat.le_of_ble_eq_true rfl)
    refine j_astore_n F4 [some (.ref b), some (.ref (G.Z.ad 0)), some (.ref mo), some (.ref o), none, none, none, none, none] dL_law_19 (by decide) rfl rfl ?_
    have F0 : Fx X G.Z code 9 wsL_law RL room_1 := by
      have h9 := F (k := 0) (n := 0) (Nat.zero_le _) (Nat.zero_le _)
      rw [hXe] at h9 ⊢
      exact h9
    exact lw_loop ⟨F0, hKtX, hKhX, hTxX, hTyX, hXA, LZ_ok hAdX, ho, hLO, hflX⟩ hL hXX hblX hbA hDM1 hMo hEnd
  rw [hXe] at hJ
  exact hJ H1 locs ls hW hS hl
