/-! the class's twill -/

set_option maxRecDepth 100000 in
set_option maxHeartbeats 4000000 in
theorem k_X4_twill (l : Launch) (Z : Zx) (A : Nat → Prop) (hA : AdOk Z A) (tok : Nat → List Int32) (ties : List Int32) (n u : Nat) (h2 : 2 ≤ n) (hn : n ≤ 8) (hu1 : 1 ≤ u) (hu : u ≤ n) : Km l Z A yX4_twill wsX4_twill { frames := 4, cells := 0, slots := 0, locals := 91 } (WL Z tok ties) [.ref (Z.ad 0), .int (nI n), .int (nI u)] (Qi (WL Z tok (twL n u 8)) A (fun v => v = diffT ties (twL n u 8))) := by
  refine Km.of (cc := cX4_twill) (maxL := 6) (ret := (some .int)) (by decide) rfl (Nat.le_of_ble_eq_true rfl) hA ?_
  intro X hXl S hAX hRT hXA hQ hXk hXn
  show J X 6 (WL Z tok ties) 0 [some (.ref (Z.ad 0)), some (.int (nI n)), some (.int (nI u)), none, none, none] []
  refine J.WL (fun σ hC => ?_)
  obtain ⟨hH, hG, hEE, hPP⟩ := id hC
  have outer : ∀ (f k : Nat) (σ1 : St), k + f = 8 → σ1 = σ.setRow 1 (twL n u k) → J X 6 (Wd Z σ1) 50 [some (.ref (Z.ad 0)), some (.int (nI n)), some (.int (nI u)), some (.int (nI k)), none, none] [] := by
    intro f
    induction f with
    | zero =>
      intro k σ1 hk he
      have hC1 : Cons σ1 tok ties := by rw [he]; exact hC.row1 _
      obtain rfl : k = 8 := by omega
      refine j_iload_n S dX4_twill_50 rfl ?_
      refine j_bipush S 8 dX4_twill_51 (by decide) ?_
      refine j_icmp_ge S 107 dX4_twill_53 (by decide) (fun _ => ?_) (fun h9 => absurd (by decide) h9)
      refine j_aload_n S dX4_twill_107 rfl ?_
      refine j_cVi S (n := 0) (rest := []) (k_X4_takeTrialTies X.l Z X.A hAX σ1 tok ties hC1 (twL n u 8) (by rw [he]; exact St.row_self _ _ _) (twL_len _ _ _)) ⟨_, _, _, _, rfl, gX4_twill_X4_takeTrialTies, rfl, rfl, by decide +kernel, ⟨Nat.le_of_ble_eq_true rfl, Nat.le_of_ble_eq_true rfl⟩⟩ rd_loom rfl rfl (Nat.le_of_ble_eq_true rfl) rfl dX4_twill_108 (fun v9 hv9 => ?_)
      subst hv9
      show J X 6 (WL Z tok (twL n u 8)) 111 [some (.ref (Z.ad 0)), some (.int (nI n)), some (.int (nI u)), some (.int (nI 8)), none, none] [.int (diffT ties (twL n u 8))]
      exact j_ireturn S hRT hXA hQ hXk hXn dX4_twill_111 rfl rfl (fun H h9 => h9)
    | succ f ih =>
      intro k σ1 hk he
      have e1 : σ1.row 1 = twL n u k := by rw [he, St.row_self]
      have fin : ∀ v5 : Int32, J X 6 (Wd Z σ1) 92 [some (.ref (Z.ad 0)), some (.int (nI n)), some (.int (nI u)), some (.int (nI k)), some (.int (twO n u k)), some (.int v5)] [] := by
        intro v5
        refine j_aload_n S dX4_twill_92 rfl ?_
        refine j_get S (C := RX4) (T := TX4) (N := 7) (by decide +kernel) rd_loom rfl (v := .ref (Z.ad (ro 1))) 5 (by decide) (by decide +kernel) rfl rfl dX4_twill_93 ?_
        refine j_iload S dX4_twill_96 rfl ?_
        refine j_cVv S (n := 1) (rest := []) (k_X3_add X.l Z X.A hAX σ1 1 (by omega) (twO n u k)) ⟨_, _, _, _, rfl, gX4_twill_X3_add, rfl, rfl, by decide +kernel, ⟨Nat.le_of_ble_eq_true rfl, Nat.le_of_ble_eq_true rfl⟩⟩ (rd_row (by omega)) rfl rfl (Nat.le_of_ble_eq_true rfl) rfl dX4_twill_98 ?_
        show J X 6 (Wd Z (σ1.setRow 1 (addI (cap 1) (σ1.row 1) (twO n u k)))) 101 [some (.ref (Z.ad 0)), some (.int (nI n)), some (.int (nI u)), some (.int (nI k)), some (.int (twO n u k)), some (.int v5)] []
        refine j_iinc S (nI (k + 1)) [some (.ref (Z.ad 0)), some (.int (nI n)), some (.int (nI u)), some (.int (nI (k + 1))), some (.int (twO n u k)), some (.int v5)] dX4_twill_101 rfl (nI_1 k) (by decide) rfl rfl ?_
        refine j_goto S 50 dX4_twill_104 (by decide) ?_
        refine J.less [some (.ref (Z.ad 0)), some (.int (nI n)), some (.int (nI u)), some (.int (nI (k + 1))), none, none] ⟨rfl, rfl, rfl, rfl, trivial⟩ ?_
        refine ih (k + 1) _ (by omega) ?_
        rw [e1, he, St.setRow_twice, show cap 1 = 8 from rfl, addI_lt (by rw [twL_len]; omega)]
        rfl
      have inner : k < n → ∀ (g i : Nat), i + g = u → J X 6 (Wd Z σ1) 62 [some (.ref (Z.ad 0)), some (.int (nI n)), some (.int (nI u)), some (.int (nI k)), some (.int (twA n k i)), some (.int (nI i))] [] := by
        intro hkn g
        induction g with
        | zero =>
          intro i hi
          refine j_iload_n S dX4_twill_62 rfl ?_
          refine j_iload_n S dX4_twill_63 rfl ?_
          refine j_icmp_ge S 92 dX4_twill_64 (by decide) (fun h9 => absurd h9 (by rw [nI_leI (by omega) (by omega)]; omega)) (fun _ => ?_)
          refine j_iload S dX4_twill_67 rfl ?_
          refine j_iload_n S dX4_twill_69 rfl ?_
          refine j_icmp_ge S 92 dX4_twill_70 (by decide) (fun _ => ?_) (fun h9 => absurd (by rw [nI_leI (by omega) (by omega)]; omega) h9)
          obtain rfl : i = u := by omega
          have h9 := fin (nI i)
          rw [show twO n i k = twA n k i from if_pos hkn] at h9
          exact h9
        | succ g ihg =>
          intro i hi
          refine j_iload_n S dX4_twill_62 rfl ?_
          refine j_iload_n S dX4_twill_63 rfl ?_
          refine j_icmp_ge S 92 dX4_twill_64 (by decide) (fun h9 => absurd h9 (by rw [nI_leI (by omega) (by omega)]; omega)) (fun _ => ?_)
          refine j_iload S dX4_twill_67 rfl ?_
          refine j_iload_n S dX4_twill_69 rfl ?_
          refine j_icmp_ge S 92 dX4_twill_70 (by decide) (fun h9 => absurd h9 (by rw [nI_leI (by omega) (by omega)]; omega)) (fun _ => ?_)
          refine j_iload S dX4_twill_73 rfl ?_
          refine j_iconst S 1 dX4_twill_75 (by decide) ?_
          refine j_iload_n S dX4_twill_76 rfl ?_
          refine j_iload S dX4_twill_77 rfl ?_
          refine j_iadd S (nI (k + i)) dX4_twill_79 (nI_add k i) ?_
          refine j_iload_n S dX4_twill_80 rfl ?_
          refine j_irem S (nI ((k + i) % n)) dX4_twill_81 (nI_ne0 (by omega) (by omega)) (pk_rem (by omega) (by omega) (by omega)) ?_
          refine j_ishl S ((1 : Int32) <<< (nI ((k + i) % n) &&& 31)) dX4_twill_82 rfl ?_
          refine j_ior S (twA n k (i + 1)) dX4_twill_83 rfl ?_
          refine j_istore S [some (.ref (Z.ad 0)), some (.int (nI n)), some (.int (nI u)), some (.int (nI k)), some (.int (twA n k (i + 1))), some (.int (nI i))] dX4_twill_84 (by decide) rfl rfl ?_
          refine j_iinc S (nI (i + 1)) [some (.ref (Z.ad 0)), some (.int (nI n)), some (.int (nI u)), some (.int (nI k)), some (.int (twA n k (i + 1))), some (.int (nI (i + 1)))] dX4_twill_86 rfl (nI_1 i) (by decide) rfl rfl ?_
          refine j_goto S 62 dX4_twill_89 (by decide) ?_
          exact ihg (i + 1) (by omega)
      refine j_iload_n S dX4_twill_50 rfl ?_
      refine j_bipush S 8 dX4_twill_51 (by decide) ?_
      refine j_icmp_ge S 107 dX4_twill_53 (by decide) (fun h9 => absurd h9 (by rw [show (8 : Int32) = nI 8 from rfl, nI_leI (by omega) (by omega)]; omega)) (fun _ => ?_)
      refine j_iconst S 0 dX4_twill_56 (by decide) ?_
      refine j_istore S [some (.ref (Z.ad 0)), some (.int (nI n)), some (.int (nI u)), some (.int (nI k)), some (.int 0), none] dX4_twill_57 (by decide) rfl rfl ?_
      refine j_iconst S 0 dX4_twill_59 (by decide) ?_
      refine j_istore S [some (.ref (Z.ad 0)), some (.int (nI n)), some (.int (nI u)), some (.int (nI k)), some (.int 0), some (.int 0)] dX4_twill_60 (by decide) rfl rfl ?_
      by_cases hkn : k < n
      · exact inner hkn u 0 (Nat.zero_add _)
      · skip
        refine j_iload_n S dX4_twill_62 rfl ?_
        refine j_iload_n S dX4_twill_63 rfl ?_
        refine j_icmp_ge S 92 dX4_twill_64 (by decide) (fun _ => ?_) (fun h9 => absurd (by rw [nI_leI (by omega) (by omega)]; omega) h9)
        have h9 := fin 0
        rw [show twO n u k = 0 from if_neg hkn] at h9
        exact h9
  refine j_iload_n S dX4_twill_0 rfl ?_
  refine j_iconst S 2 dX4_twill_1 (by decide) ?_
  refine j_icmp_lt S 11 dX4_twill_2 (by decide) (fun h9 => absurd h9 (by rw [show (2 : Int32) = nI 2 from rfl, nI_ltI (by omega) (by omega)]; omega)) (fun _ => ?_)
  refine j_iload_n S dX4_twill_5 rfl ?_
  refine j_bipush S 8 dX4_twill_6 (by decide) ?_
  refine j_icmp_le S 21 dX4_twill_8 (by decide) (fun _ => ?_) (fun h9 => absurd (by rw [show (8 : Int32) = nI 8 from rfl, nI_leI (by omega) (by omega)]; omega) h9)
  refine j_iload_n S dX4_twill_21 rfl ?_
  refine j_iconst S 1 dX4_twill_22 (by decide) ?_
  refine j_icmp_lt S 31 dX4_twill_23 (by decide) (fun h9 => absurd h9 (by rw [show (1 : Int32) = nI 1 from rfl, nI_ltI (by omega) (by omega)]; omega)) (fun _ => ?_)
  refine j_iload_n S dX4_twill_26 rfl ?_
  refine j_iload_n S dX4_twill_27 rfl ?_
  refine j_icmp_le S 41 dX4_twill_28 (by decide) (fun _ => ?_) (fun h9 => absurd (by rw [nI_leI (by omega) (by omega)]; omega) h9)
  refine j_aload_n S dX4_twill_41 rfl ?_
  refine j_get S (C := RX4) (T := TX4) (N := 7) (by decide +kernel) rd_loom rfl (v := .ref (Z.ad (ro 1))) 5 (by decide) (by decide +kernel) rfl rfl dX4_twill_42 ?_
  refine j_cVv S (n := 0) (rest := []) (k_X3_clear X.l Z X.A hAX σ 1 (by omega)) ⟨_, _, _, _, rfl, gX4_twill_X3_clear, rfl, rfl, by decide +kernel, ⟨Nat.le_of_ble_eq_true rfl, Nat.le_of_ble_eq_true rfl⟩⟩ (rd_row (by omega)) rfl rfl (Nat.le_of_ble_eq_true rfl) rfl dX4_twill_45 ?_
  show J X 6 (Wd Z (σ.setRow 1 [])) 48 [some (.ref (Z.ad 0)), some (.int (nI n)), some (.int (nI u)), none, none, none] []
  refine j_iconst S 0 dX4_twill_48 (by decide) ?_
  refine j_istore_n S [some (.ref (Z.ad 0)), some (.int (nI n)), some (.int (nI u)), some (.int 0), none, none] dX4_twill_49 (by decide) rfl rfl ?_
  exact outer 8 0 _ rfl rfl
