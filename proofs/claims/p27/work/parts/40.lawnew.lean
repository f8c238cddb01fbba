/-! the law's own array of ten, made beside the loom -/
theorem L_newI {p : Program} {l : Launch} {e : Env} {s : State} {m : MethodId} {args : Array Value} {below : List Frame} {meth : Method} {c : Code} {A : Nat → Prop} {k n : Nat} {Q : State → Prop} {Z : Zx} {tok : Nat → List Int32} {ties : List Int32} {pc : Nat} {lv : List (Option Value)} {rest : List Value} (S : Fx (p, l, e, room_1, s, m, args, below, meth, c, A, k, n, Q) Z code 18 wsL_law RL room_1) (hA : AdOk Z A) (hAn : ∀ q : Nat, s.heap.size ≤ q → A q) (hk : k + 1 ≤ 600130) (hn : n + 10 ≤ 7301080) (hd : decode code pc = .ok (.newarray .int, 2)) (kk : ∀ ta : Nat, ¬ LA Z ta → A ta → J (p, l, e, room_1, s, m, args, below, meth, c, A, k + 1, n + 10, Q) 18 (FW Z (WL Z tok ties) ta (fun _ => 0)) (pc + 2) lv (.ref ta :: rest)) : J (p, l, e, room_1, s, m, args, below, meth, c, A, k, n, Q) 18 (WL Z tok ties) pc lv (.int 10 :: rest) := by
  intro H locs ls hw hS hl
  obtain ⟨σ, hC, ρ, hR, hP⟩ := hw
  refine va_newa (atype := .int) (ty := .int) (N' := 10) (a0 := (10, .inl (fun _ => 0))) S.ex S.by (S.ts (.arrayClass .int) (by decide +kernel)) rfl S.K hP (wl_D hA) hS hAn (fun _ => rfl) (by decide) (by decide) (Nat.le_of_ble_eq_true rfl) hk hn hd (fun q cA H1 hK hP1 hD1 hS1 => ?_)
  have hlen : (wl Z ρ).length = 76 := by unfold wl; simp
  have hq : (wl Z ρ ++ [(q, (.inl (cA, 10, .inl (fun _ => (0 : Int32))) : va_E))])[76]? = some (q, (.inl (cA, 10, .inl (fun _ => (0 : Int32))) : va_E)) := by
    rw [List.getElem?_append_right (by omega), hlen]; rfl
  have hc : Z.cI = cA := va_ty_one (hK.sub (tys' := [(cA, .int)]) [2] rfl) (S.K.sub (tys' := [(Z.cI, .int)]) [0] rfl)
  refine kk q (fun ⟨j, hj, e9⟩ => ?_) (hD1.2 76 _ hq) H1 locs ls ⟨⟨σ, hC, ρ, hR, fun j x hx => hP1 j x ?_⟩, ?_⟩ hS1 hl
  · have h1 : (wl Z ρ ++ [(q, (.inl (cA, 10, .inl (fun _ => (0 : Int32))) : va_E))])[j]? = some (Z.ad j, cell Z ρ j) := by
      rw [List.getElem?_append_left (by omega)]; exact wl_get Z ρ hj
    have := hD1.1 j 76 _ _ h1 hq e9.symm
    omega
  · have hj : j < 76 := by
      have := (List.getElem?_eq_some_iff.mp hx).1
      omega
    rw [List.getElem?_append_left (by omega)]; exact hx
  · intro j x hx
    have hz : j < 1 := (List.getElem?_eq_some_iff.mp hx).1
    rw [show j = 0 by omega] at hx
    cases hx
    rw [hc]
    exact hP1 76 _ hq
