set_option maxRecDepth 100000 in
set_option maxHeartbeats 4000000 in
theorem k_X1_compile (l : Launch) (Z : Zx) (A : Nat → Prop) (hA : AdOk Z A) (σ : St) (o t : Nat) (ho : o < 10) (ht : t < 11) (htok : ∀ x ∈ (σ.row (8 + 2 * t)), tokOk x) : Km l Z A yX1_compile wsX1_compile { frames := 4, cells := 0, slots := 0, locals := 91 } (Wd Z σ) [.ref (Z.ad 2), .ref (Z.ad 1), .int (nI o), .ref (Z.ad (po t))] (Qv (fun H => ∃ c : Cst, Wd Z ((σ.setC c).setProg t (runC (blkOf σ) o (σ.row (8 + 2 * t))).1 (runC (blkOf σ) o (σ.row (8 + 2 * t))).2.1 (runC (blkOf σ) o (σ.row (8 + 2 * t))).2.2) H) A) := by
  refine Km.of (cc := cX1_compile) (maxL := 6) (ret := none) (by decide) rfl (Nat.le_of_ble_eq_true rfl) hA ?_
  intro X hXl S hAX hRT hXA hQ hXk hXn
  show J X 6 (Wd Z σ) 0 [some (.ref (Z.ad 2)), some (.ref (Z.ad 1)), some (.int (nI o)), some (.ref (Z.ad (po t))), none, none] []
  refine J.caps (fun hcap => ?_)
  have hlt : (σ.row (8 + 2 * t)).length ≤ 40 := by have := hcap (8 + 2 * t) (by omega); rw [cap_even ht] at this; exact this
  have loop : ∀ (f i : Nat) (c : Cst), i + f = (σ.row (8 + 2 * t)).length → CInv c → (runC (blkOf σ) o (σ.row (8 + 2 * t))) = runF (blkOf σ) o ((σ.row (8 + 2 * t)).drop i) i c → J X 6 (Wd Z (σ.setC c)) 27 [some (.ref (Z.ad 2)), some (.ref (Z.ad 1)), some (.int (nI o)), some (.ref (Z.ad (po t))), some (.int (nI i)), none] [] := by
    intro f
    induction f with
    | zero =>
      intro i c hi hI he
      have hI5 := hI.2.2.2.2
      refine j_iload S dX1_compile_27 rfl ?_
      refine j_aload_n S dX1_compile_29 rfl ?_
      refine j_getN S (C := RX2) (T := TX2) (N := 4) (by decide +kernel) (rd_prog (by omega)) rfl (v := .ref (Z.ad (ro (8 + 2 * t)))) 0 (by decide) 8 rfl rfl rfl dX1_compile_30 ?_
      refine j_getN S (C := RX3) (T := TX3) (N := 2) (by decide +kernel) (rd_row (by omega)) rfl (v := .int (nI ((σ.setC c).row (8 + 2 * t)).length)) 1 (by decide) 9 rfl rfl rfl dX1_compile_33 ?_
      rw [setC_ne σ c (r := 8 + 2 * t) (by omega) (by omega)]
      refine j_icmp_ge S 76 dX1_compile_36 (by decide) (fun _ => ?_) (fun h9 => absurd (by rw [nI_leI (by omega) (by omega)]; omega) h9)
      rw [List.drop_eq_nil_of_le (by omega), runF] at he
      refine j_aload_n S dX1_compile_76 rfl ?_
      refine j_get S (C := RX1) (T := TX1) (N := 4) (by decide +kernel) rd_comp rfl (v := .ref (Z.ad (ro 7))) 1 (by decide) (by decide +kernel) rfl rfl dX1_compile_77 ?_
      refine j_getN S (C := RX3) (T := TX3) (N := 2) (by decide +kernel) (rd_row (by omega)) rfl (v := .int (nI (c.2.1.map nI).length)) 1 (by decide) 9 rfl rfl rfl dX1_compile_80 ?_
      rw [List.length_map]
      refine j_if_le S 101 dX1_compile_83 (by decide) (fun h => ?_) (fun h => ?_)
      · skip
        rw [← nI_0, nI_leI (by omega) (by omega)] at h
        rw [if_pos (by omega)] at he
        refine j_aload_n S dX1_compile_101 rfl ?_
        refine j_aload_n S dX1_compile_102 rfl ?_
        refine j_get S (C := RX1) (T := TX1) (N := 4) (by decide +kernel) rd_comp rfl (v := .ref (Z.ad (ro 6))) 0 (by decide) (by decide +kernel) rfl rfl dX1_compile_103 ?_
        refine j_cVv S (n := 1) (rest := []) (k_X2_accept X.l Z X.A hAX (σ.setC c) t 6 (by omega) (by omega) (by omega)) ⟨_, _, _, _, rfl, gX1_compile_X2_accept, rfl, rfl, by decide +kernel, ⟨Nat.le_of_ble_eq_true rfl, Nat.le_of_ble_eq_true rfl⟩⟩ (rd_prog (by omega)) rfl rfl (Nat.le_of_ble_eq_true rfl) rfl dX1_compile_106 ?_
        exact j_return S hRT hXA hQ hXk hXn dX1_compile_109 (fun H h9 => ⟨c, by rw [he]; exact h9⟩)
      · skip
        rw [← nI_0, nI_leI (by omega) (by omega)] at h
        rw [if_neg (by omega)] at he
        refine j_aload_n S dX1_compile_86 rfl ?_
        refine j_iconst S 3 dX1_compile_87 (by decide) ?_
        refine j_aload_n S dX1_compile_88 rfl ?_
        refine j_getN S (C := RX2) (T := TX2) (N := 4) (by decide +kernel) (rd_prog (by omega)) rfl (v := .ref (Z.ad (ro (8 + 2 * t)))) 0 (by decide) 8 rfl rfl rfl dX1_compile_89 ?_
        refine j_getN S (C := RX3) (T := TX3) (N := 2) (by decide +kernel) (rd_row (by omega)) rfl (v := .int (nI ((σ.setC c).row (8 + 2 * t)).length)) 1 (by decide) 9 rfl rfl rfl dX1_compile_92 ?_
        refine j_cVv S (n := 2) (rest := []) (k_X2_refuse X.l Z X.A hAX (σ.setC c) t (by omega) 3 (nI ((σ.setC c).row (8 + 2 * t)).length)) ⟨_, _, _, _, rfl, gX1_compile_X2_refuse, rfl, rfl, by decide +kernel, ⟨Nat.le_of_ble_eq_true rfl, Nat.le_of_ble_eq_true rfl⟩⟩ (rd_prog (by omega)) rfl rfl (Nat.le_of_ble_eq_true rfl) rfl dX1_compile_95 ?_
        refine j_goto S 109 dX1_compile_98 (by decide) ?_
        exact j_return S hRT hXA hQ hXk hXn dX1_compile_109 (fun H h9 => ⟨c, by rw [he]; rw [setC_ne σ c (r := 8 + 2 * t) (by omega) (by omega), show (σ.row (8 + 2 * t)).length = i by omega] at h9; exact h9⟩)
    | succ f ih =>
      intro i c hi hI he
      obtain ⟨k, hk, hkt⟩ := htok ((σ.row (8 + 2 * t)).getD i 0) (by rw [List.getD_eq_getElem?_getD, List.getElem?_eq_getElem (by omega)]; exact List.getElem_mem _)
      have hk50 := hk.lt
      rw [List.drop_eq_getElem_cons (by omega), runF, show (σ.row (8 + 2 * t))[i] = nI k from by rw [← hkt, List.getD_eq_getElem?_getD, List.getElem?_eq_getElem (by omega)]; rfl, nI_clamp (by omega)] at he
      refine j_iload S dX1_compile_27 rfl ?_
      refine j_aload_n S dX1_compile_29 rfl ?_
      refine j_getN S (C := RX2) (T := TX2) (N := 4) (by decide +kernel) (rd_prog (by omega)) rfl (v := .ref (Z.ad (ro (8 + 2 * t)))) 0 (by decide) 8 rfl rfl rfl dX1_compile_30 ?_
      refine j_getN S (C := RX3) (T := TX3) (N := 2) (by decide +kernel) (rd_row (by omega)) rfl (v := .int (nI ((σ.setC c).row (8 + 2 * t)).length)) 1 (by decide) 9 rfl rfl rfl dX1_compile_33 ?_
      rw [setC_ne σ c (r := 8 + 2 * t) (by omega) (by omega)]
      refine j_icmp_ge S 76 dX1_compile_36 (by decide) (fun h9 => absurd h9 (by rw [nI_leI (by omega) (by omega)]; omega)) (fun _ => ?_)
      refine j_aload_n S dX1_compile_39 rfl ?_
      refine j_aload_n S dX1_compile_40 rfl ?_
      refine j_iload_n S dX1_compile_41 rfl ?_
      refine j_aload_n S dX1_compile_42 rfl ?_
      refine j_getN S (C := RX2) (T := TX2) (N := 4) (by decide +kernel) (rd_prog (by omega)) rfl (v := .ref (Z.ad (ro (8 + 2 * t)))) 0 (by decide) 8 rfl rfl rfl dX1_compile_43 ?_
      refine j_iload S dX1_compile_46 rfl ?_
      refine j_cVi S (n := 1) (rest := [.int (nI o), .ref (Z.ad 1), .ref (Z.ad 2)]) (k_X3_at X.l Z X.A hAX (σ.setC c) (8 + 2 * t) (by omega) (nI i)) ⟨_, _, _, _, rfl, gX1_compile_X3_at, rfl, rfl, by decide +kernel, ⟨Nat.le_of_ble_eq_true rfl, Nat.le_of_ble_eq_true rfl⟩⟩ (rd_row (by omega)) rfl rfl (Nat.le_of_ble_eq_true rfl) rfl dX1_compile_48 (fun v9 hv9 => ?_)
      subst hv9
      rw [setC_ne σ c (r := 8 + 2 * t) (by omega) (by omega), atI_nI _ (by omega), hkt]
      refine j_cVi S (n := 3) (rest := []) (k_X1_read X.l Z X.A hAX σ c hI o k ho hk) ⟨_, _, _, _, rfl, gX1_compile_X1_read, rfl, rfl, by decide +kernel, ⟨Nat.le_of_ble_eq_true rfl, Nat.le_of_ble_eq_true rfl⟩⟩ rd_comp rfl rfl (Nat.le_of_ble_eq_true rfl) rfl dX1_compile_51 (fun v9 hv9 => ?_)
      subst hv9
      refine j_istore S [some (.ref (Z.ad 2)), some (.ref (Z.ad 1)), some (.int (nI o)), some (.ref (Z.ad (po t))), some (.int (nI i)), some (.int ((readC (blkOf σ) o c k).1))] dX1_compile_54 (by decide) rfl rfl ?_
      refine j_iload S dX1_compile_56 rfl ?_
      refine j_if_eq S 70 dX1_compile_58 (by decide) (fun h => ?_) (fun h => ?_)
      · skip
        rw [if_pos h] at he
        refine j_iinc S (nI (i + 1)) [some (.ref (Z.ad 2)), some (.ref (Z.ad 1)), some (.int (nI o)), some (.ref (Z.ad (po t))), some (.int (nI (i + 1))), some (.int ((readC (blkOf σ) o c k).1))] dX1_compile_70 rfl (nI_1 i) (by decide) rfl rfl ?_
        refine j_goto S 27 dX1_compile_73 (by decide) ?_
        refine J.less [some (.ref (Z.ad 2)), some (.ref (Z.ad 1)), some (.int (nI o)), some (.ref (Z.ad (po t))), some (.int (nI (i + 1))), none] ⟨rfl, rfl, rfl, rfl, rfl, trivial⟩ ?_
        exact ih (i + 1) _ (by omega) (hI.read k) he
      · skip
        rw [if_neg h] at he
        refine j_aload_n S dX1_compile_61 rfl ?_
        refine j_iload S dX1_compile_62 rfl ?_
        refine j_iload S dX1_compile_64 rfl ?_
        refine j_cVv S (n := 2) (rest := []) (k_X2_refuse X.l Z X.A hAX (σ.setC (readC (blkOf σ) o c k).2) t (by omega) ((readC (blkOf σ) o c k).1) (nI i)) ⟨_, _, _, _, rfl, gX1_compile_X2_refuse, rfl, rfl, by decide +kernel, ⟨Nat.le_of_ble_eq_true rfl, Nat.le_of_ble_eq_true rfl⟩⟩ (rd_prog (by omega)) rfl rfl (Nat.le_of_ble_eq_true rfl) rfl dX1_compile_66 ?_
        exact j_return S hRT hXA hQ hXk hXn dX1_compile_69 (fun H h9 => ⟨(readC (blkOf σ) o c k).2, by rw [he]; exact h9⟩)
  refine j_aload_n S dX1_compile_0 rfl ?_
  refine j_get S (C := RX1) (T := TX1) (N := 4) (by decide +kernel) rd_comp rfl (v := .ref (Z.ad (ro 6))) 0 (by decide) (by decide +kernel) rfl rfl dX1_compile_1 ?_
  refine j_cVv S (n := 0) (rest := []) (k_X3_clear X.l Z X.A hAX σ 6 (by omega)) ⟨_, _, _, _, rfl, gX1_compile_X3_clear, rfl, rfl, by decide +kernel, ⟨Nat.le_of_ble_eq_true rfl, Nat.le_of_ble_eq_true rfl⟩⟩ (rd_row (by omega)) rfl rfl (Nat.le_of_ble_eq_true rfl) rfl dX1_compile_4 ?_
  refine j_aload_n S dX1_compile_7 rfl ?_
  refine j_get S (C := RX1) (T := TX1) (N := 4) (by decide +kernel) rd_comp rfl (v := .ref (Z.ad (ro 7))) 1 (by decide) (by decide +kernel) rfl rfl dX1_compile_8 ?_
  refine j_cVv S (n := 0) (rest := []) (k_X3_clear X.l Z X.A hAX (σ.setRow 6 []) 7 (by omega)) ⟨_, _, _, _, rfl, gX1_compile_X3_clear, rfl, rfl, by decide +kernel, ⟨Nat.le_of_ble_eq_true rfl, Nat.le_of_ble_eq_true rfl⟩⟩ (rd_row (by omega)) rfl rfl (Nat.le_of_ble_eq_true rfl) rfl dX1_compile_11 ?_
  refine j_aload_n S dX1_compile_14 rfl ?_
  refine j_iconst S 0 dX1_compile_15 (by decide) ?_
  refine j_putGs S hAX (by decide +kernel) (by decide +kernel) dX1_compile_16 ?_
  refine j_aload_n S dX1_compile_19 rfl ?_
  refine j_iconst S (-1) dX1_compile_20 (by decide) ?_
  refine j_putIs S hAX (by decide +kernel) (by decide +kernel) dX1_compile_21 ?_
  rw [setC_start]
  refine j_iconst S 0 dX1_compile_24 (by decide) ?_
  refine j_istore S [some (.ref (Z.ad 2)), some (.ref (Z.ad 1)), some (.int (nI o)), some (.ref (Z.ad (po t))), some (.int 0), none] dX1_compile_25 (by decide) rfl rfl ?_
  exact loop (σ.row (8 + 2 * t)).length 0 ([], [], 0, none) (by omega) ⟨Nat.zero_le _, Nat.zero_le _, fun _ h => (by cases h), fun _ h => absurd h List.not_mem_nil, Nat.zero_le _⟩ rfl
