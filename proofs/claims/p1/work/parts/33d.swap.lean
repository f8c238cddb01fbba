def tHas (s a : Int32) : Int32 := if (s >>> (a &&& 31)) &&& 1 = 1 then 1 else 0
def swF (s a b : Int32) : Int32 := if tHas s a = tHas s b then s else s ^^^ ((1 : Int32) <<< (a &&& 31) ||| (1 : Int32) <<< (b &&& 31))

set_option maxRecDepth 100000 in
set_option maxHeartbeats 4000000 in
theorem r_X8_swapped (l : Launch) (G : RG) (A : Nat → Prop) (M : Wl) (s a b : Int32) : Kr l G A yX8_swapped wsX8_swapped { frames := 0, cells := 0, slots := 0, locals := 0 } M [.int s, .int a, .int b] (Gi G A (fun v N => swF s a b = v ∧ M = N)) 0 0 := by
  refine Kr.of (cc := cX8_swapped) (maxL := 5) (ret := (some .int)) (by decide) rfl (Nat.le_of_ble_eq_true rfl) ?_
  intro X hXl S hRT hIN hXA hQ hD
  subst hXl
  subst hXA
  show J (X.at 0 0) 5 (PL G.Z X.A M) 0 [some (.int s), some (.int a), some (.int b), none, none] []
  have F0 := S.1.at 0 0 (Nat.le_of_ble_eq_true rfl) (Nat.le_of_ble_eq_true rfl)
  have hOR := S.2.1.or
  refine j_iload_n F0 dX8_swapped_0 rfl ?_
  refine j_iload_n F0 dX8_swapped_1 rfl ?_
  refine j_ishr F0 (s >>> (a &&& 31)) dX8_swapped_2 rfl ?_
  refine j_iconst F0 1 dX8_swapped_3 (by decide) ?_
  refine j_iand F0 ((s >>> (a &&& 31)) &&& 1) dX8_swapped_4 rfl ?_
  refine j_iconst F0 1 dX8_swapped_5 (by decide) ?_
  suffices hj1 : J (X.at 0 0) 5 (PL G.Z X.A M) 14 [some (.int s), some (.int a), some (.int b), none, none] [.int (if (s >>> (a &&& 31)) &&& 1 = 1 then (1 : Int32) else 0)] by
    refine j_icmp_ne F0 13 dX8_swapped_6 (by decide) (fun h => ?_) (fun h => ?_)
    · skip
      refine j_iconst F0 0 dX8_swapped_13 (by decide) ?_
      rw [if_neg h] at hj1
      exact hj1
    · skip
      refine j_iconst F0 1 dX8_swapped_9 (by decide) ?_
      refine j_goto F0 14 dX8_swapped_10 (by decide) ?_
      rw [if_pos h] at hj1
      exact hj1
  refine j_istore_n F0 [some (.int s), some (.int a), some (.int b), some (.int (if (s >>> (a &&& 31)) &&& 1 = 1 then (1 : Int32) else 0)), none] dX8_swapped_14 (by decide) rfl rfl ?_
  refine j_iload_n F0 dX8_swapped_15 rfl ?_
  refine j_iload_n F0 dX8_swapped_16 rfl ?_
  refine j_ishr F0 (s >>> (b &&& 31)) dX8_swapped_17 rfl ?_
  refine j_iconst F0 1 dX8_swapped_18 (by decide) ?_
  refine j_iand F0 ((s >>> (b &&& 31)) &&& 1) dX8_swapped_19 rfl ?_
  refine j_iconst F0 1 dX8_swapped_20 (by decide) ?_
  suffices hj2 : J (X.at 0 0) 5 (PL G.Z X.A M) 29 [some (.int s), some (.int a), some (.int b), some (.int (if (s >>> (a &&& 31)) &&& 1 = 1 then (1 : Int32) else 0)), none] [.int (if (s >>> (b &&& 31)) &&& 1 = 1 then (1 : Int32) else 0)] by
    refine j_icmp_ne F0 28 dX8_swapped_21 (by decide) (fun h => ?_) (fun h => ?_)
    · skip
      refine j_iconst F0 0 dX8_swapped_28 (by decide) ?_
      rw [if_neg h] at hj2
      exact hj2
    · skip
      refine j_iconst F0 1 dX8_swapped_24 (by decide) ?_
      refine j_goto F0 29 dX8_swapped_25 (by decide) ?_
      rw [if_pos h] at hj2
      exact hj2
  refine j_istore F0 [some (.int s), some (.int a), some (.int b), some (.int (if (s >>> (a &&& 31)) &&& 1 = 1 then (1 : Int32) else 0)), some (.int (if (s >>> (b &&& 31)) &&& 1 = 1 then (1 : Int32) else 0))] dX8_swapped_29 (by decide) rfl rfl ?_
  refine j_iload_n F0 dX8_swapped_31 rfl ?_
  refine j_iload F0 dX8_swapped_32 rfl ?_
  refine j_icmp_ne F0 41 dX8_swapped_34 (by decide) (fun h => ?_) (fun h => ?_)
  · skip
    refine j_iload_n F0 dX8_swapped_41 rfl ?_
    refine j_iconst F0 1 dX8_swapped_42 (by decide) ?_
    refine j_iload_n F0 dX8_swapped_43 rfl ?_
    refine j_ishl F0 (1 <<< (a &&& 31)) dX8_swapped_44 rfl ?_
    refine j_iconst F0 1 dX8_swapped_45 (by decide) ?_
    refine j_iload_n F0 dX8_swapped_46 rfl ?_
    refine j_ishl F0 (1 <<< (b &&& 31)) dX8_swapped_47 rfl ?_
    refine j_ior F0 ((1 <<< (a &&& 31)) ||| (1 <<< (b &&& 31))) dX8_swapped_48 rfl ?_
    refine j_ixor F0 (s ^^^ ((1 <<< (a &&& 31)) ||| (1 <<< (b &&& 31)))) dX8_swapped_49 rfl ?_
    exact m_ireturn S hRT rfl hQ (Nat.le_of_ble_eq_true rfl) (Nat.le_of_ble_eq_true rfl) dX8_swapped_50 rfl ⟨if_neg h, rfl⟩
  · skip
    refine j_iload_n F0 dX8_swapped_37 rfl ?_
    refine j_goto F0 50 dX8_swapped_38 (by decide) ?_
    exact m_ireturn S hRT rfl hQ (Nat.le_of_ble_eq_true rfl) (Nat.le_of_ble_eq_true rfl) dX8_swapped_50 rfl ⟨if_pos h, rfl⟩

set_option maxRecDepth 100000 in
set_option maxHeartbeats 4000000 in
theorem r_X8_swappedTies (l : Launch) (G : RG) (A : Nat → Prop) (M : Wl) {mo ka ta : Nat} {tv : Int32} (i j : Nat) (hM : Mo G mo ka ta tv M) : Kr l G A yX8_swappedTies wsX8_swappedTies { frames := 1, cells := 1, slots := 8, locals := 24 } M [.ref mo, .int (nI i), .int (nI j)] (Gr G A (fun v N => ∃ f : Nat → Int32, (v, (.inl (G.Z.cI, 8, .inl f) : va_E)) ∈ N ∧ (∀ k, k < 8 → f k = swF (tie0 k) (nI i) (nI j)) ∧ Kp M [] N ∧ ∀ (b : Nat) (x : va_E), (b, x) ∈ M → b ≠ v)) 1 8 := by
  refine Kr.of (cc := cX8_swappedTies) (maxL := 5) (ret := (some (.array .int))) (by decide) rfl (Nat.le_of_ble_eq_true rfl) ?_
  intro X hXl S hRT hIN hXA hQ hD
  subst hXl
  subst hXA
  show J (X.at 0 0) 5 (PL G.Z X.A M) 0 [some (.ref mo), some (.int (nI i)), some (.int (nI j)), none, none] []
  have F0 := S.1.at 0 0 (Nat.le_of_ble_eq_true rfl) (Nat.le_of_ble_eq_true rfl)
  have hOR := S.2.1.or
  obtain ⟨pl1, pe1, f1, kn1, tf1, o1_0, o1_1, o1_2, o1_3, o1_4, o1_5, o1_6, o1_7⟩ := id hM
  have h2 : (mo, (.inr (8, [.int tv, .ref pl1, .ref ka, .ref ta]) : va_E)) ∈ M := o1_0
  have h3 : (pl1, (.inr (10, [.int 10, .ref pe1, .int 10]) : va_E)) ∈ M := o1_1
  have h4 : (pe1, (.inl (G.cO, 10, .inr (.inr (.inr (.inr f1)))) : va_E)) ∈ M := o1_2
  have h5 : (ta, (.inl (G.Z.cI, 8, .inl tf1) : va_E)) ∈ M := o1_4
  have h6 : (ka, (.inl (G.cR, 10, .inr (.inr (.inr (.inr kn1)))) : va_E)) ∈ M := o1_6
  have hDo7 := hD
  refine j_bipush F0 8 dX8_swappedTies_0 (by decide) ?_
  refine m_newi S (N := 8) (by decide +kernel) (by decide) (by decide) (Nat.le_of_ble_eq_true rfl) (Nat.le_of_ble_eq_true rfl) (Nat.le_of_ble_eq_true rfl) dX8_swappedTies_2 (fun q8 M10 hD11 hN9 => ?_)
  have n12 := (hN9.2 _ _ h2).2
  have h2 := (hN9.2 _ _ h2).1
  have n13 := (hN9.2 _ _ h3).2
  have h3 := (hN9.2 _ _ h3).1
  have n14 := (hN9.2 _ _ h4).2
  have h4 := (hN9.2 _ _ h4).1
  have n15 := (hN9.2 _ _ h5).2
  have h5 := (hN9.2 _ _ h5).1
  have n16 := (hN9.2 _ _ h6).2
  have h6 := (hN9.2 _ _ h6).1
  have h17 := hN9.1
  have F18 := S.1.at 1 8 (Nat.le_of_ble_eq_true rfl) (Nat.le_of_ble_eq_true rfl)
  refine j_astore_n F18 [some (.ref mo), some (.int (nI i)), some (.int (nI j)), some (.ref q8), none] dX8_swappedTies_4 (by decide) rfl rfl ?_
  refine j_iconst F18 0 dX8_swappedTies_5 (by decide) ?_
  refine j_istore F18 [some (.ref mo), some (.int (nI i)), some (.int (nI j)), some (.ref q8), some (.int 0)] dX8_swappedTies_6 (by decide) rfl rfl ?_
  refine j_iload F18 dX8_swappedTies_8 rfl ?_
  refine j_bipush F18 8 dX8_swappedTies_10 (by decide) ?_
  refine j_icmp_ge F18 37 dX8_swappedTies_12 (by decide) (fun h9 => absurd h9 (by decide)) (fun _ => ?_)
  refine j_aload_n F18 dX8_swappedTies_15 rfl ?_
  refine j_iload F18 dX8_swappedTies_16 rfl ?_
  refine j_aload_n F18 dX8_swappedTies_18 rfl ?_
  refine m_get S (C := RX8) (T := TX8) (N := 4) (by decide +kernel) h2 rfl (v := .ref ta) 3 (by decide) (by decide +kernel) (fun _ h9 => h9) rfl dX8_swappedTies_19 ?_
  refine j_iload F18 dX8_swappedTies_22 rfl ?_
  refine m_iaload S (v := tie0 0) h5 (by unfold vp_in; decide) (by rw [show (0 : Int32).toNatClampNeg = 0 by decide]; exact o1_5 0 (by decide)) dX8_swappedTies_24 ?_
  refine j_iload_n F18 dX8_swappedTies_25 rfl ?_
  refine j_iload_n F18 dX8_swappedTies_26 rfl ?_
  refine m_cSi S (n1 := 3) (rest := [.int 0, .ref q8]) (r_X8_swapped X.l G X.A M10 (tie0 0) (nI i) (nI j)) ⟨_, _, _, _, rfl, gX8_swappedTies_X8_swapped, rfl, rfl, (by decide +kernel), ⟨(Nat.le_of_ble_eq_true rfl), (Nat.le_of_ble_eq_true rfl)⟩⟩ rfl (Nat.le_of_ble_eq_true rfl) (Nat.le_of_ble_eq_true rfl) (Nat.le_of_ble_eq_true rfl) rfl dX8_swappedTies_27 (fun v19 M20 hD21 hp22 => ?_)
  obtain ⟨hp22a, hp22b⟩ := hp22
  subst hp22a
  subst hp22b
  refine m_iastore S (k0 := 0) h17 (by unfold vp_in; decide) (by decide) dX8_swappedTies_30 (fun M24 hD25 hU23 => ?_)
  have n26 : mo ≠ q8 := n12
  have n27 : pl1 ≠ q8 := n13
  have n28 : pe1 ≠ q8 := n14
  have n29 : ta ≠ q8 := n15
  have n30 : ka ≠ q8 := n16
  have h2 := hU23.2 _ _ n26 h2
  have h3 := hU23.2 _ _ n27 h3
  have h4 := hU23.2 _ _ n28 h4
  have h5 := hU23.2 _ _ n29 h5
  have h6 := hU23.2 _ _ n30 h6
  have h17 := hU23.1
  refine j_iinc F18 1 [some (.ref mo), some (.int (nI i)), some (.int (nI j)), some (.ref q8), some (.int 1)] dX8_swappedTies_31 rfl (by decide) (by decide) rfl rfl ?_
  refine j_goto F18 8 dX8_swappedTies_34 (by decide) ?_
  refine j_iload F18 dX8_swappedTies_8 rfl ?_
  refine j_bipush F18 8 dX8_swappedTies_10 (by decide) ?_
  refine j_icmp_ge F18 37 dX8_swappedTies_12 (by decide) (fun h9 => absurd h9 (by decide)) (fun _ => ?_)
  refine j_aload_n F18 dX8_swappedTies_15 rfl ?_
  refine j_iload F18 dX8_swappedTies_16 rfl ?_
  refine j_aload_n F18 dX8_swappedTies_18 rfl ?_
  refine m_get S (C := RX8) (T := TX8) (N := 4) (by decide +kernel) h2 rfl (v := .ref ta) 3 (by decide) (by decide +kernel) (fun _ h9 => h9) rfl dX8_swappedTies_19 ?_
  refine j_iload F18 dX8_swappedTies_22 rfl ?_
  refine m_iaload S (v := tie0 1) h5 (by unfold vp_in; decide) (by rw [show (1 : Int32).toNatClampNeg = 1 by decide]; exact o1_5 1 (by decide)) dX8_swappedTies_24 ?_
  refine j_iload_n F18 dX8_swappedTies_25 rfl ?_
  refine j_iload_n F18 dX8_swappedTies_26 rfl ?_
  refine m_cSi S (n1 := 3) (rest := [.int 1, .ref q8]) (r_X8_swapped X.l G X.A M24 (tie0 1) (nI i) (nI j)) ⟨_, _, _, _, rfl, gX8_swappedTies_X8_swapped, rfl, rfl, (by decide +kernel), ⟨(Nat.le_of_ble_eq_true rfl), (Nat.le_of_ble_eq_true rfl)⟩⟩ rfl (Nat.le_of_ble_eq_true rfl) (Nat.le_of_ble_eq_true rfl) (Nat.le_of_ble_eq_true rfl) rfl dX8_swappedTies_27 (fun v31 M32 hD33 hp34 => ?_)
  obtain ⟨hp34a, hp34b⟩ := hp34
  subst hp34a
  subst hp34b
  refine m_iastore S (k0 := 1) h17 (by unfold vp_in; decide) (by decide) dX8_swappedTies_30 (fun M36 hD37 hU35 => ?_)
  have n38 : mo ≠ q8 := n26
  have n39 : pl1 ≠ q8 := n27
  have n40 : pe1 ≠ q8 := n28
  have n41 : ta ≠ q8 := n29
  have n42 : ka ≠ q8 := n30
  have h2 := hU35.2 _ _ n38 h2
  have h3 := hU35.2 _ _ n39 h3
  have h4 := hU35.2 _ _ n40 h4
  have h5 := hU35.2 _ _ n41 h5
  have h6 := hU35.2 _ _ n42 h6
  have h17 := hU35.1
  refine j_iinc F18 2 [some (.ref mo), some (.int (nI i)), some (.int (nI j)), some (.ref q8), some (.int 2)] dX8_swappedTies_31 rfl (by decide) (by decide) rfl rfl ?_
  refine j_goto F18 8 dX8_swappedTies_34 (by decide) ?_
  refine j_iload F18 dX8_swappedTies_8 rfl ?_
  refine j_bipush F18 8 dX8_swappedTies_10 (by decide) ?_
  refine j_icmp_ge F18 37 dX8_swappedTies_12 (by decide) (fun h9 => absurd h9 (by decide)) (fun _ => ?_)
  refine j_aload_n F18 dX8_swappedTies_15 rfl ?_
  refine j_iload F18 dX8_swappedTies_16 rfl ?_
  refine j_aload_n F18 dX8_swappedTies_18 rfl ?_
  refine m_get S (C := RX8) (T := TX8) (N := 4) (by decide +kernel) h2 rfl (v := .ref ta) 3 (by decide) (by decide +kernel) (fun _ h9 => h9) rfl dX8_swappedTies_19 ?_
  refine j_iload F18 dX8_swappedTies_22 rfl ?_
  refine m_iaload S (v := tie0 2) h5 (by unfold vp_in; decide) (by rw [show (2 : Int32).toNatClampNeg = 2 by decide]; exact o1_5 2 (by decide)) dX8_swappedTies_24 ?_
  refine j_iload_n F18 dX8_swappedTies_25 rfl ?_
  refine j_iload_n F18 dX8_swappedTies_26 rfl ?_
  refine m_cSi S (n1 := 3) (rest := [.int 2, .ref q8]) (r_X8_swapped X.l G X.A M36 (tie0 2) (nI i) (nI j)) ⟨_, _, _, _, rfl, gX8_swappedTies_X8_swapped, rfl, rfl, (by decide +kernel), ⟨(Nat.le_of_ble_eq_true rfl), (Nat.le_of_ble_eq_true rfl)⟩⟩ rfl (Nat.le_of_ble_eq_true rfl) (Nat.le_of_ble_eq_true rfl) (Nat.le_of_ble_eq_true rfl) rfl dX8_swappedTies_27 (fun v43 M44 hD45 hp46 => ?_)
  obtain ⟨hp46a, hp46b⟩ := hp46
  subst hp46a
  subst hp46b
  refine m_iastore S (k0 := 2) h17 (by unfold vp_in; decide) (by decide) dX8_swappedTies_30 (fun M48 hD49 hU47 => ?_)
  have n50 : mo ≠ q8 := n38
  have n51 : pl1 ≠ q8 := n39
  have n52 : pe1 ≠ q8 := n40
  have n53 : ta ≠ q8 := n41
  have n54 : ka ≠ q8 := n42
  have h2 := hU47.2 _ _ n50 h2
  have h3 := hU47.2 _ _ n51 h3
  have h4 := hU47.2 _ _ n52 h4
  have h5 := hU47.2 _ _ n53 h5
  have h6 := hU47.2 _ _ n54 h6
  have h17 := hU47.1
  refine j_iinc F18 3 [some (.ref mo), some (.int (nI i)), some (.int (nI j)), some (.ref q8), some (.int 3)] dX8_swappedTies_31 rfl (by decide) (by decide) rfl rfl ?_
  refine j_goto F18 8 dX8_swappedTies_34 (by decide) ?_
  refine j_iload F18 dX8_swappedTies_8 rfl ?_
  refine j_bipush F18 8 dX8_swappedTies_10 (by decide) ?_
  refine j_icmp_ge F18 37 dX8_swappedTies_12 (by decide) (fun h9 => absurd h9 (by decide)) (fun _ => ?_)
  refine j_aload_n F18 dX8_swappedTies_15 rfl ?_
  refine j_iload F18 dX8_swappedTies_16 rfl ?_
  refine j_aload_n F18 dX8_swappedTies_18 rfl ?_
  refine m_get S (C := RX8) (T := TX8) (N := 4) (by decide +kernel) h2 rfl (v := .ref ta) 3 (by decide) (by decide +kernel) (fun _ h9 => h9) rfl dX8_swappedTies_19 ?_
  refine j_iload F18 dX8_swappedTies_22 rfl ?_
  refine m_iaload S (v := tie0 3) h5 (by unfold vp_in; decide) (by rw [show (3 : Int32).toNatClampNeg = 3 by decide]; exact o1_5 3 (by decide)) dX8_swappedTies_24 ?_
  refine j_iload_n F18 dX8_swappedTies_25 rfl ?_
  refine j_iload_n F18 dX8_swappedTies_26 rfl ?_
  refine m_cSi S (n1 := 3) (rest := [.int 3, .ref q8]) (r_X8_swapped X.l G X.A M48 (tie0 3) (nI i) (nI j)) ⟨_, _, _, _, rfl, gX8_swappedTies_X8_swapped, rfl, rfl, (by decide +kernel), ⟨(Nat.le_of_ble_eq_true rfl), (Nat.le_of_ble_eq_true rfl)⟩⟩ rfl (Nat.le_of_ble_eq_true rfl) (Nat.le_of_ble_eq_true rfl) (Nat.le_of_ble_eq_true rfl) rfl dX8_swappedTies_27 (fun v55 M56 hD57 hp58 => ?_)
  obtain ⟨hp58a, hp58b⟩ := hp58
  subst hp58a
  subst hp58b
  refine m_iastore S (k0 := 3) h17 (by unfold vp_in; decide) (by decide) dX8_swappedTies_30 (fun M60 hD61 hU59 => ?_)
  have n62 : mo ≠ q8 := n50
  have n63 : pl1 ≠ q8 := n51
  have n64 : pe1 ≠ q8 := n52
  have n65 : ta ≠ q8 := n53
  have n66 : ka ≠ q8 := n54
  have h2 := hU59.2 _ _ n62 h2
  have h3 := hU59.2 _ _ n63 h3
  have h4 := hU59.2 _ _ n64 h4
  have h5 := hU59.2 _ _ n65 h5
  have h6 := hU59.2 _ _ n66 h6
  have h17 := hU59.1
  refine j_iinc F18 4 [some (.ref mo), some (.int (nI i)), some (.int (nI j)), some (.ref q8), some (.int 4)] dX8_swappedTies_31 rfl (by decide) (by decide) rfl rfl ?_
  refine j_goto F18 8 dX8_swappedTies_34 (by decide) ?_
  refine j_iload F18 dX8_swappedTies_8 rfl ?_
  refine j_bipush F18 8 dX8_swappedTies_10 (by decide) ?_
  refine j_icmp_ge F18 37 dX8_swappedTies_12 (by decide) (fun h9 => absurd h9 (by decide)) (fun _ => ?_)
  refine j_aload_n F18 dX8_swappedTies_15 rfl ?_
  refine j_iload F18 dX8_swappedTies_16 rfl ?_
  refine j_aload_n F18 dX8_swappedTies_18 rfl ?_
  refine m_get S (C := RX8) (T := TX8) (N := 4) (by decide +kernel) h2 rfl (v := .ref ta) 3 (by decide) (by decide +kernel) (fun _ h9 => h9) rfl dX8_swappedTies_19 ?_
  refine j_iload F18 dX8_swappedTies_22 rfl ?_
  refine m_iaload S (v := tie0 4) h5 (by unfold vp_in; decide) (by rw [show (4 : Int32).toNatClampNeg = 4 by decide]; exact o1_5 4 (by decide)) dX8_swappedTies_24 ?_
  refine j_iload_n F18 dX8_swappedTies_25 rfl ?_
  refine j_iload_n F18 dX8_swappedTies_26 rfl ?_
  refine m_cSi S (n1 := 3) (rest := [.int 4, .ref q8]) (r_X8_swapped X.l G X.A M60 (tie0 4) (nI i) (nI j)) ⟨_, _, _, _, rfl, gX8_swappedTies_X8_swapped, rfl, rfl, (by decide +kernel), ⟨(Nat.le_of_ble_eq_true rfl), (Nat.le_of_ble_eq_true rfl)⟩⟩ rfl (Nat.le_of_ble_eq_true rfl) (Nat.le_of_ble_eq_true rfl) (Nat.le_of_ble_eq_true rfl) rfl dX8_swappedTies_27 (fun v67 M68 hD69 hp70 => ?_)
  obtain ⟨hp70a, hp70b⟩ := hp70
  subst hp70a
  subst hp70b
  refine m_iastore S (k0 := 4) h17 (by unfold vp_in; decide) (by decide) dX8_swappedTies_30 (fun M72 hD73 hU71 => ?_)
  have n74 : mo ≠ q8 := n62
  have n75 : pl1 ≠ q8 := n63
  have n76 : pe1 ≠ q8 := n64
  have n77 : ta ≠ q8 := n65
  have n78 : ka ≠ q8 := n66
  have h2 := hU71.2 _ _ n74 h2
  have h3 := hU71.2 _ _ n75 h3
  have h4 := hU71.2 _ _ n76 h4
  have h5 := hU71.2 _ _ n77 h5
  have h6 := hU71.2 _ _ n78 h6
  have h17 := hU71.1
  refine j_iinc F18 5 [some (.ref mo), some (.int (nI i)), some (.int (nI j)), some (.ref q8), some (.int 5)] dX8_swappedTies_31 rfl (by decide) (by decide) rfl rfl ?_
  refine j_goto F18 8 dX8_swappedTies_34 (by decide) ?_
  refine j_iload F18 dX8_swappedTies_8 rfl ?_
  refine j_bipush F18 8 dX8_swappedTies_10 (by decide) ?_
  refine j_icmp_ge F18 37 dX8_swappedTies_12 (by decide) (fun h9 => absurd h9 (by decide)) (fun _ => ?_)
  refine j_aload_n F18 dX8_swappedTies_15 rfl ?_
  refine j_iload F18 dX8_swappedTies_16 rfl ?_
  refine j_aload_n F18 dX8_swappedTies_18 rfl ?_
  refine m_get S (C := RX8) (T := TX8) (N := 4) (by decide +kernel) h2 rfl (v := .ref ta) 3 (by decide) (by decide +kernel) (fun _ h9 => h9) rfl dX8_swappedTies_19 ?_
  refine j_iload F18 dX8_swappedTies_22 rfl ?_
  refine m_iaload S (v := tie0 5) h5 (by unfold vp_in; decide) (by rw [show (5 : Int32).toNatClampNeg = 5 by decide]; exact o1_5 5 (by decide)) dX8_swappedTies_24 ?_
  refine j_iload_n F18 dX8_swappedTies_25 rfl ?_
  refine j_iload_n F18 dX8_swappedTies_26 rfl ?_
  refine m_cSi S (n1 := 3) (rest := [.int 5, .ref q8]) (r_X8_swapped X.l G X.A M72 (tie0 5) (nI i) (nI j)) ⟨_, _, _, _, rfl, gX8_swappedTies_X8_swapped, rfl, rfl, (by decide +kernel), ⟨(Nat.le_of_ble_eq_true rfl), (Nat.le_of_ble_eq_true rfl)⟩⟩ rfl (Nat.le_of_ble_eq_true rfl) (Nat.le_of_ble_eq_true rfl) (Nat.le_of_ble_eq_true rfl) rfl dX8_swappedTies_27 (fun v79 M80 hD81 hp82 => ?_)
  obtain ⟨hp82a, hp82b⟩ := hp82
  subst hp82a
  subst hp82b
  refine m_iastore S (k0 := 5) h17 (by unfold vp_in; decide) (by decide) dX8_swappedTies_30 (fun M84 hD85 hU83 => ?_)
  have n86 : mo ≠ q8 := n74
  have n87 : pl1 ≠ q8 := n75
  have n88 : pe1 ≠ q8 := n76
  have n89 : ta ≠ q8 := n77
  have n90 : ka ≠ q8 := n78
  have h2 := hU83.2 _ _ n86 h2
  have h3 := hU83.2 _ _ n87 h3
  have h4 := hU83.2 _ _ n88 h4
  have h5 := hU83.2 _ _ n89 h5
  have h6 := hU83.2 _ _ n90 h6
  have h17 := hU83.1
  refine j_iinc F18 6 [some (.ref mo), some (.int (nI i)), some (.int (nI j)), some (.ref q8), some (.int 6)] dX8_swappedTies_31 rfl (by decide) (by decide) rfl rfl ?_
  refine j_goto F18 8 dX8_swappedTies_34 (by decide) ?_
  refine j_iload F18 dX8_swappedTies_8 rfl ?_
  refine j_bipush F18 8 dX8_swappedTies_10 (by decide) ?_
  refine j_icmp_ge F18 37 dX8_swappedTies_12 (by decide) (fun h9 => absurd h9 (by decide)) (fun _ => ?_)
  refine j_aload_n F18 dX8_swappedTies_15 rfl ?_
  refine j_iload F18 dX8_swappedTies_16 rfl ?_
  refine j_aload_n F18 dX8_swappedTies_18 rfl ?_
  refine m_get S (C := RX8) (T := TX8) (N := 4) (by decide +kernel) h2 rfl (v := .ref ta) 3 (by decide) (by decide +kernel) (fun _ h9 => h9) rfl dX8_swappedTies_19 ?_
  refine j_iload F18 dX8_swappedTies_22 rfl ?_
  refine m_iaload S (v := tie0 6) h5 (by unfold vp_in; decide) (by rw [show (6 : Int32).toNatClampNeg = 6 by decide]; exact o1_5 6 (by decide)) dX8_swappedTies_24 ?_
  refine j_iload_n F18 dX8_swappedTies_25 rfl ?_
  refine j_iload_n F18 dX8_swappedTies_26 rfl ?_
  refine m_cSi S (n1 := 3) (rest := [.int 6, .ref q8]) (r_X8_swapped X.l G X.A M84 (tie0 6) (nI i) (nI j)) ⟨_, _, _, _, rfl, gX8_swappedTies_X8_swapped, rfl, rfl, (by decide +kernel), ⟨(Nat.le_of_ble_eq_true rfl), (Nat.le_of_ble_eq_true rfl)⟩⟩ rfl (Nat.le_of_ble_eq_true rfl) (Nat.le_of_ble_eq_true rfl) (Nat.le_of_ble_eq_true rfl) rfl dX8_swappedTies_27 (fun v91 M92 hD93 hp94 => ?_)
  obtain ⟨hp94a, hp94b⟩ := hp94
  subst hp94a
  subst hp94b
  refine m_iastore S (k0 := 6) h17 (by unfold vp_in; decide) (by decide) dX8_swappedTies_30 (fun M96 hD97 hU95 => ?_)
  have n98 : mo ≠ q8 := n86
  have n99 : pl1 ≠ q8 := n87
  have n100 : pe1 ≠ q8 := n88
  have n101 : ta ≠ q8 := n89
  have n102 : ka ≠ q8 := n90
  have h2 := hU95.2 _ _ n98 h2
  have h3 := hU95.2 _ _ n99 h3
  have h4 := hU95.2 _ _ n100 h4
  have h5 := hU95.2 _ _ n101 h5
  have h6 := hU95.2 _ _ n102 h6
  have h17 := hU95.1
  refine j_iinc F18 7 [some (.ref mo), some (.int (nI i)), some (.int (nI j)), some (.ref q8), some (.int 7)] dX8_swappedTies_31 rfl (by decide) (by decide) rfl rfl ?_
  refine j_goto F18 8 dX8_swappedTies_34 (by decide) ?_
  refine j_iload F18 dX8_swappedTies_8 rfl ?_
  refine j_bipush F18 8 dX8_swappedTies_10 (by decide) ?_
  refine j_icmp_ge F18 37 dX8_swappedTies_12 (by decide) (fun h9 => absurd h9 (by decide)) (fun _ => ?_)
  refine j_aload_n F18 dX8_swappedTies_15 rfl ?_
  refine j_iload F18 dX8_swappedTies_16 rfl ?_
  refine j_aload_n F18 dX8_swappedTies_18 rfl ?_
  refine m_get S (C := RX8) (T := TX8) (N := 4) (by decide +kernel) h2 rfl (v := .ref ta) 3 (by decide) (by decide +kernel) (fun _ h9 => h9) rfl dX8_swappedTies_19 ?_
  refine j_iload F18 dX8_swappedTies_22 rfl ?_
  refine m_iaload S (v := tie0 7) h5 (by unfold vp_in; decide) (by rw [show (7 : Int32).toNatClampNeg = 7 by decide]; exact o1_5 7 (by decide)) dX8_swappedTies_24 ?_
  refine j_iload_n F18 dX8_swappedTies_25 rfl ?_
  refine j_iload_n F18 dX8_swappedTies_26 rfl ?_
  refine m_cSi S (n1 := 3) (rest := [.int 7, .ref q8]) (r_X8_swapped X.l G X.A M96 (tie0 7) (nI i) (nI j)) ⟨_, _, _, _, rfl, gX8_swappedTies_X8_swapped, rfl, rfl, (by decide +kernel), ⟨(Nat.le_of_ble_eq_true rfl), (Nat.le_of_ble_eq_true rfl)⟩⟩ rfl (Nat.le_of_ble_eq_true rfl) (Nat.le_of_ble_eq_true rfl) (Nat.le_of_ble_eq_true rfl) rfl dX8_swappedTies_27 (fun v103 M104 hD105 hp106 => ?_)
  obtain ⟨hp106a, hp106b⟩ := hp106
  subst hp106a
  subst hp106b
  refine m_iastore S (k0 := 7) h17 (by unfold vp_in; decide) (by decide) dX8_swappedTies_30 (fun M108 hD109 hU107 => ?_)
  have n110 : mo ≠ q8 := n98
  have n111 : pl1 ≠ q8 := n99
  have n112 : pe1 ≠ q8 := n100
  have n113 : ta ≠ q8 := n101
  have n114 : ka ≠ q8 := n102
  have h2 := hU107.2 _ _ n110 h2
  have h3 := hU107.2 _ _ n111 h3
  have h4 := hU107.2 _ _ n112 h4
  have h5 := hU107.2 _ _ n113 h5
  have h6 := hU107.2 _ _ n114 h6
  have h17 := hU107.1
  refine j_iinc F18 8 [some (.ref mo), some (.int (nI i)), some (.int (nI j)), some (.ref q8), some (.int 8)] dX8_swappedTies_31 rfl (by decide) (by decide) rfl rfl ?_
  refine j_goto F18 8 dX8_swappedTies_34 (by decide) ?_
  refine j_iload F18 dX8_swappedTies_8 rfl ?_
  refine j_bipush F18 8 dX8_swappedTies_10 (by decide) ?_
  refine j_icmp_ge F18 37 dX8_swappedTies_12 (by decide) (fun _ => ?_) (fun h9 => absurd (by decide) h9)
  refine j_aload_n F18 dX8_swappedTies_37 rfl ?_
  have hKp : Kp M [] M108 := by
    intro b x hb hx
    have n115 := (hN9.2 _ _ hx).2
    have hx := (hN9.2 _ _ hx).1
    have hx := hU23.2 _ _ n115 hx
    have hx := hU35.2 _ _ n115 hx
    have hx := hU47.2 _ _ n115 hx
    have hx := hU59.2 _ _ n115 hx
    have hx := hU71.2 _ _ n115 hx
    have hx := hU83.2 _ _ n115 hx
    have hx := hU95.2 _ _ n115 hx
    have hx := hU107.2 _ _ n115 hx
    exact hx
  exact m_areturn S hRT (by first | exact Or.inl ⟨_, rfl⟩ | exact Or.inr ⟨_, rfl⟩) rfl hQ (Nat.le_of_ble_eq_true rfl) (Nat.le_of_ble_eq_true rfl) dX8_swappedTies_38 ⟨_, h17, (fun k hk => by rcases (show k = 0 ∨ k = 1 ∨ k = 2 ∨ k = 3 ∨ k = 4 ∨ k = 5 ∨ k = 6 ∨ k = 7 by omega) with rfl | rfl | rfl | rfl | rfl | rfl | rfl | rfl <;> rfl), hKp, (fun b x hx => (hN9.2 _ _ hx).2)⟩

set_option maxRecDepth 100000 in
set_option maxHeartbeats 4000000 in
theorem r_X8_changedBy (l : Launch) (G : RG) (A : Nat → Prop) (M : Wl) {mo ka ta : Nat} {tv : Int32} (i j : Nat) (hi : i < 8) (hj : j < 8) (hM : Mo G mo ka ta tv M) : Kr l G A yX8_changedBy wbX8_changedBy { frames := 10, cells := 29, slots := 102, locals := 215 } M [.ref mo, .int (nI i), .int (nI j)] (Gi G A (fun v N => ∃ pl k9 t9 : Nat, (mo, (.inr (8, [.int 0, .ref pl, .ref k9, .ref t9]) : va_E)) ∈ N ∧ KL G M N ∧ (0 : Int32) = v)) 29 102 := by
  refine Kr.of (cc := cX8_changedBy) (maxL := 8) (ret := (some .int)) (by decide) rfl (Nat.le_of_ble_eq_true rfl) ?_
  intro X hXl S hRT hIN hXA hQ hD
  subst hXl
  subst hXA
  show J (X.at 0 0) 8 (PL G.Z X.A M) 0 [some (.ref mo), some (.int (nI i)), some (.int (nI j)), none, none, none, none, none] []
  have F0 := S.1.at 0 0 (Nat.le_of_ble_eq_true rfl) (Nat.le_of_ble_eq_true rfl)
  have hOR := S.2.1.or
  obtain ⟨pl1, pe1, f1, kn1, tf1, o1_0, o1_1, o1_2, o1_3, o1_4, o1_5, o1_6, o1_7⟩ := id hM
  have h2 : (mo, (.inr (8, [.int tv, .ref pl1, .ref ka, .ref ta]) : va_E)) ∈ M := o1_0
  have h3 : (pl1, (.inr (10, [.int 10, .ref pe1, .int 10]) : va_E)) ∈ M := o1_1
  have h4 : (pe1, (.inl (G.cO, 10, .inr (.inr (.inr (.inr f1)))) : va_E)) ∈ M := o1_2
  have h5 : (ta, (.inl (G.Z.cI, 8, .inl tf1) : va_E)) ∈ M := o1_4
  have h6 : (ka, (.inl (G.cR, 10, .inr (.inr (.inr (.inr kn1)))) : va_E)) ∈ M := o1_6
  have hDo7 := hD
  refine j_aload_n F0 dX8_changedBy_0 rfl ?_
  refine j_iload_n F0 dX8_changedBy_1 rfl ?_
  refine m_cSi S (n1 := 1) (rest := [.ref mo]) (r_X8_isNoEight X.l G X.A M (nI i)) ⟨_, _, _, _, rfl, (gBS kB_X8_isNoEight (by decide +kernel)), rfl, rfl, (by decide +kernel), ⟨(Nat.le_of_ble_eq_true rfl), (Nat.le_of_ble_eq_true rfl)⟩⟩ rfl (Nat.le_of_ble_eq_true rfl) (Nat.le_of_ble_eq_true rfl) (Nat.le_of_ble_eq_true rfl) rfl dX8_changedBy_2 (fun v8 M9 hD10 hp11 => ?_)
  obtain ⟨hp11a, hp11b⟩ := hp11
  subst hp11a
  subst hp11b
  refine j_if_ne F0 15 dX8_changedBy_5 (by decide) (fun h9 => absurd (if0.mpr (eig_ok hi)) h9) (fun _ => ?_)
  refine j_iload_n F0 dX8_changedBy_8 rfl ?_
  refine m_cSi S (n1 := 1) (rest := [.ref mo]) (r_X8_isNoEight X.l G X.A M (nI j)) ⟨_, _, _, _, rfl, (gBS kB_X8_isNoEight (by decide +kernel)), rfl, rfl, (by decide +kernel), ⟨(Nat.le_of_ble_eq_true rfl), (Nat.le_of_ble_eq_true rfl)⟩⟩ rfl (Nat.le_of_ble_eq_true rfl) (Nat.le_of_ble_eq_true rfl) (Nat.le_of_ble_eq_true rfl) rfl dX8_changedBy_9 (fun v12 M13 hD14 hp15 => ?_)
  obtain ⟨hp15a, hp15b⟩ := hp15
  subst hp15a
  subst hp15b
  refine j_if_eq F0 19 dX8_changedBy_12 (by decide) (fun _ => ?_) (fun h9 => absurd (if0.mpr (eig_ok hj)) h9)
  refine j_iconst F0 0 dX8_changedBy_19 (by decide) ?_
  refine j_iconst F0 1 dX8_changedBy_20 (by decide) ?_
  refine m_cVi S (n1 := 2) (rest := []) (r_X8_start X.l G X.A M (c := False) 1 (by decide) h2) ⟨_, _, _, _, rfl, (gBV kB_X8_start (by decide +kernel)), rfl, rfl, (by decide +kernel), ⟨(Nat.le_of_ble_eq_true rfl), (Nat.le_of_ble_eq_true rfl)⟩⟩ h2 rfl rfl (Nat.le_of_ble_eq_true rfl) (Nat.le_of_ble_eq_true rfl) (Nat.le_of_ble_eq_true rfl) rfl dX8_changedBy_21 (fun v16 M17 hD18 hp19 => ?_)
  obtain ⟨hp19v, hp19a, hp19k⟩ := hp19
  have hp19v : (0 : Int32) = v16 := hp19v
  subst hp19v
  have n20 : pl1 ∉ [mo] := by
    intro h9; simp only [List.mem_cons, List.not_mem_nil, or_false] at h9
    · exact (In.ne hD h3 h2 (by simp)) h9
  have n21 : pe1 ∉ [mo] := by
    intro h9; simp only [List.mem_cons, List.not_mem_nil, or_false] at h9
    · exact (In.ne hD h4 h2 (by simp)) h9
  have n22 : ta ∉ [mo] := by
    intro h9; simp only [List.mem_cons, List.not_mem_nil, or_false] at h9
    · exact (In.ne hD h5 h2 (by simp)) h9
  have n23 : ka ∉ [mo] := by
    intro h9; simp only [List.mem_cons, List.not_mem_nil, or_false] at h9
    · exact (In.ne hD h6 h2 (by simp)) h9
  have h3 := hp19k _ _ n20 h3
  have h4 := hp19k _ _ n21 h4
  have h5 := hp19k _ _ n22 h5
  have h6 := hp19k _ _ n23 h6
  have h24 : (mo, (.inr (8, [.int 0, .ref pl1, .ref ka, .ref ta]) : va_E)) ∈ M17 := hp19a
  refine j_if_eq F0 29 dX8_changedBy_24 (by decide) (fun _ => ?_) (fun h9 => absurd (by decide) h9)
  have hKr25 : Kp M [mo, ka] M17 := by
    intro b x hb hx
    have n26 : b ∉ [mo] := by
      intro h9; simp only [List.mem_cons, List.not_mem_nil, or_false] at h9
      · exact (fun c => hb (by rw [c]; simp)) h9
    have hx := hp19k b x n26 hx
    exact hx
  have hMz27 : Mo G mo ka ta 0 M17 := Mo.keep hOR hDo7 o1_0 o1_1 o1_2 o1_3 o1_4 o1_5 o1_6 hKr25 h24 h6 (fun p q hp hq => Rd.keep hOR hDo7 o1_0 o1_6 (o1_7 p q hp hq) hKr25)
  obtain ⟨pl28, pe28, f28, kn28, tf28, o28_0, o28_1, o28_2, o28_3, o28_4, o28_5, o28_6, o28_7⟩ := id hMz27
  have h29 : (mo, (.inr (8, [.int 0, .ref pl28, .ref ka, .ref ta]) : va_E)) ∈ M17 := o28_0
  have h30 : (pl28, (.inr (10, [.int 10, .ref pe28, .int 10]) : va_E)) ∈ M17 := o28_1
  have h31 : (pe28, (.inl (G.cO, 10, .inr (.inr (.inr (.inr f28)))) : va_E)) ∈ M17 := o28_2
  have h32 : (ta, (.inl (G.Z.cI, 8, .inl tf28) : va_E)) ∈ M17 := o28_4
  have h33 : (ka, (.inl (G.cR, 10, .inr (.inr (.inr (.inr kn28)))) : va_E)) ∈ M17 := o28_6
  have hDo34 := hD18
  refine j_aload_n F0 dX8_changedBy_29 rfl ?_
  have hKm36 : Kp M17 [] M17 := by
    intro b x hb hx
    exact hx
  have hMo35 := Mo.mono hMz27 hKm36
  refine m_cVr S (n1 := 0) (rest := []) (r_X8_cloth_ X.l G X.A M17 hMo35) ⟨_, _, _, _, rfl, (gBV kB_X8_cloth_ (by decide +kernel)), rfl, rfl, (by decide +kernel), ⟨(Nat.le_of_ble_eq_true rfl), (Nat.le_of_ble_eq_true rfl)⟩⟩ h29 rfl rfl (Nat.le_of_ble_eq_true rfl) (Nat.le_of_ble_eq_true rfl) (Nat.le_of_ble_eq_true rfl) rfl dX8_changedBy_30 (fun v37 M38 hD39 hp40 => ?_)
  obtain ⟨hp40m, hp40k, z41, hp40a⟩ := hp40
  obtain ⟨pl42, pe42, f42, kn42, tf42, o42_0, o42_1, o42_2, o42_3, o42_4, o42_5, o42_6, o42_7⟩ := id hp40m
  have h43 : (mo, (.inr (8, [.int 0, .ref pl42, .ref ka, .ref ta]) : va_E)) ∈ M38 := o42_0
  have h44 : (pl42, (.inr (10, [.int 10, .ref pe42, .int 10]) : va_E)) ∈ M38 := o42_1
  have h45 : (pe42, (.inl (G.cO, 10, .inr (.inr (.inr (.inr f42)))) : va_E)) ∈ M38 := o42_2
  have h46 : (ta, (.inl (G.Z.cI, 8, .inl tf42) : va_E)) ∈ M38 := o42_4
  have h47 : (ka, (.inl (G.cR, 10, .inr (.inr (.inr (.inr kn42)))) : va_E)) ∈ M38 := o42_6
  have hDo48 := hD39
  have h49 := hp40a
  have F50 := S.1.at 14 47 (Nat.le_of_ble_eq_true rfl) (Nat.le_of_ble_eq_true rfl)
  refine j_astore_n F50 [some (.ref mo), some (.int (nI i)), some (.int (nI j)), some (.ref v37), none, none, none, none] dX8_changedBy_33 (by decide) rfl rfl ?_
  refine j_aload_n F50 dX8_changedBy_34 rfl ?_
  refine j_aload_n F50 dX8_changedBy_35 rfl ?_
  refine j_iload_n F50 dX8_changedBy_36 rfl ?_
  refine j_iload_n F50 dX8_changedBy_37 rfl ?_
  have hKm52 : Kp M38 [] M38 := by
    intro b x hb hx
    exact hx
  have hMo51 := Mo.mono hp40m hKm52
  refine m_cVr S (n1 := 2) (rest := [.ref mo]) (r_X8_swappedTies X.l G X.A M38 i j hMo51) ⟨_, _, _, _, rfl, (gBV kB_X8_swappedTies (by decide +kernel)), rfl, rfl, (by decide +kernel), ⟨(Nat.le_of_ble_eq_true rfl), (Nat.le_of_ble_eq_true rfl)⟩⟩ h43 rfl rfl (Nat.le_of_ble_eq_true rfl) (Nat.le_of_ble_eq_true rfl) (Nat.le_of_ble_eq_true rfl) rfl dX8_changedBy_38 (fun v53 M54 hD55 hp56 => ?_)
  obtain ⟨f57, hp56a, hp56e, hp56k, hp56f⟩ := hp56
  have n58 := hp56f _ _ h43
  have n59 := hp56f _ _ h44
  have n60 := hp56f _ _ h45
  have n61 := hp56f _ _ h46
  have n62 := hp56f _ _ h47
  have n63 := hp56f _ _ h49
  have n64 : mo ∉ ([] : List Nat) := List.not_mem_nil
  have n65 : pl42 ∉ ([] : List Nat) := List.not_mem_nil
  have n66 : pe42 ∉ ([] : List Nat) := List.not_mem_nil
  have n67 : ta ∉ ([] : List Nat) := List.not_mem_nil
  have n68 : ka ∉ ([] : List Nat) := List.not_mem_nil
  have n69 : v37 ∉ ([] : List Nat) := List.not_mem_nil
  have h43 := hp56k _ _ n64 h43
  have h44 := hp56k _ _ n65 h44
  have h45 := hp56k _ _ n66 h45
  have h46 := hp56k _ _ n67 h46
  have h47 := hp56k _ _ n68 h47
  have h49 := hp56k _ _ n69 h49
  have h70 : (v53, (.inl (G.Z.cI, 8, .inl f57) : va_E)) ∈ M54 := hp56a
  have F71 := S.1.at 15 55 (Nat.le_of_ble_eq_true rfl) (Nat.le_of_ble_eq_true rfl)
  have hKm73 : Kp M38 [] M54 := by
    intro b x hb hx
    have n74 := hp56f _ _ hx
    have n75 : b ∉ ([] : List Nat) := List.not_mem_nil
    have hx := hp56k b x n75 hx
    exact hx
  have hMo72 := Mo.mono hp40m hKm73
  refine m_cVr S (n1 := 1) (rest := []) (r_X8_cloth X.l G X.A M54 (t := v53) hMo72) ⟨_, _, _, _, rfl, (gBV kB_X8_cloth (by decide +kernel)), rfl, rfl, (by decide +kernel), ⟨(Nat.le_of_ble_eq_true rfl), (Nat.le_of_ble_eq_true rfl)⟩⟩ h43 rfl rfl (Nat.le_of_ble_eq_true rfl) (Nat.le_of_ble_eq_true rfl) (Nat.le_of_ble_eq_true rfl) rfl dX8_changedBy_41 (fun v76 M77 hD78 hp79 => ?_)
  obtain ⟨hp79m, hp79k, z80, hp79a⟩ := hp79
  have n81 : v37 ∉ [mo, ka] := by
    intro h9; simp only [List.mem_cons, List.not_mem_nil, or_false] at h9
    rcases h9 with h9 | h9
    · exact (In.ne hD55 h49 h43 (by simp)) h9
    · exact (In.ne hD55 h49 h47 (by simp)) h9
  have n82 : v53 ∉ [mo, ka] := by
    intro h9; simp only [List.mem_cons, List.not_mem_nil, or_false] at h9
    rcases h9 with h9 | h9
    · exact (Ne.symm n58) h9
    · exact (Ne.symm n62) h9
  have h49 := hp79k _ _ n81 h49
  have h70 := hp79k _ _ n82 h70
  obtain ⟨pl83, pe83, f83, kn83, tf83, o83_0, o83_1, o83_2, o83_3, o83_4, o83_5, o83_6, o83_7⟩ := id hp79m
  have h84 : (mo, (.inr (8, [.int 0, .ref pl83, .ref ka, .ref ta]) : va_E)) ∈ M77 := o83_0
  have h85 : (pl83, (.inr (10, [.int 10, .ref pe83, .int 10]) : va_E)) ∈ M77 := o83_1
  have h86 : (pe83, (.inl (G.cO, 10, .inr (.inr (.inr (.inr f83)))) : va_E)) ∈ M77 := o83_2
  have h87 : (ta, (.inl (G.Z.cI, 8, .inl tf83) : va_E)) ∈ M77 := o83_4
  have h88 : (ka, (.inl (G.cR, 10, .inr (.inr (.inr (.inr kn83)))) : va_E)) ∈ M77 := o83_6
  have hDo89 := hD78
  have h590 := h49
  have h91 := hp79a
  have F92 := S.1.at 29 102 (Nat.le_of_ble_eq_true rfl) (Nat.le_of_ble_eq_true rfl)
  refine j_astore F92 [some (.ref mo), some (.int (nI i)), some (.int (nI j)), some (.ref v37), some (.ref v76), none, none, none] dX8_changedBy_44 (by decide) rfl rfl ?_
  refine j_iconst F92 0 dX8_changedBy_46 (by decide) ?_
  refine j_istore F92 [some (.ref mo), some (.int (nI i)), some (.int (nI j)), some (.ref v37), some (.ref v76), some (.int 0), none, none] dX8_changedBy_47 (by decide) rfl rfl ?_
  refine j_iconst F92 0 dX8_changedBy_49 (by decide) ?_
  refine j_istore F92 [some (.ref mo), some (.int (nI i)), some (.int (nI j)), some (.ref v37), some (.ref v76), some (.int 0), some (.int 0), none] dX8_changedBy_50 (by decide) rfl rfl ?_
  refine j_iload F92 dX8_changedBy_52 rfl ?_
  refine j_aload_n F92 dX8_changedBy_54 rfl ?_
  refine m_get S (C := RX5) (T := TX5) (N := 3) (by decide +kernel) h49 rfl (v := .int 0) 0 (by decide) (by decide +kernel) (fun _ h9 => h9) rfl dX8_changedBy_55 ?_
  refine j_icmp_ge F92 119 dX8_changedBy_58 (by decide) (fun _ => ?_) (fun h9 => absurd (by decide) h9)
  refine j_iload F92 dX8_changedBy_119 rfl ?_
  have hKp : Kp M [mo, ka] M77 := by
    intro b x hb hx
    have n93 : b ∉ [mo] := by
      intro h9; simp only [List.mem_cons, List.not_mem_nil, or_false] at h9
      · exact (fun c => hb (by rw [c]; simp)) h9
    have hx := hp19k b x n93 hx
    have n94 : b ∉ [mo, ka] := by
      intro h9; simp only [List.mem_cons, List.not_mem_nil, or_false] at h9
      rcases h9 with h9 | h9
      · exact (fun c => hb (by rw [c]; simp)) h9
      · exact (fun c => hb (by rw [c]; simp)) h9
    have hx := hp40k b x n94 hx
    have n95 := hp56f _ _ hx
    have n96 : b ∉ ([] : List Nat) := List.not_mem_nil
    have hx := hp56k b x n96 hx
    have n97 : b ∉ [mo, ka] := by
      intro h9; simp only [List.mem_cons, List.not_mem_nil, or_false] at h9
      rcases h9 with h9 | h9
      · exact (fun c => hb (by rw [c]; simp)) h9
      · exact (fun c => hb (by rw [c]; simp)) h9
    have hx := hp79k b x n97 hx
    exact hx
  have hKL : KL G M M77 := fun o n f ho => hKp _ _ (by
    intro h9; simp only [List.mem_cons, List.not_mem_nil, or_false] at h9
    rcases h9 with h9 | h9
    · exact In.ne hD ho o1_0 (by simp) h9
    · exact In.ne hD ho o1_6 (by simp) h9
    ) ho
  exact m_ireturn S hRT rfl hQ (Nat.le_of_ble_eq_true rfl) (Nat.le_of_ble_eq_true rfl) dX8_changedBy_121 rfl ⟨_, _, _, h84, hKL, rfl⟩

def swN (i j k : Nat) : Int32 := if swF (tie0 k) (nI i) (nI j) = tie0 k then 0 else 1
def swSum (i j : Nat) : Nat → Int32
  | 0 => 0
  | k + 1 => swSum i j k + swN i j k

set_option maxRecDepth 100000 in
set_option maxHeartbeats 4000000 in
theorem r_X8_swap (l : Launch) (G : RG) (A : Nat → Prop) (M : Wl) {mo ka ta : Nat} {tv : Int32} (i j : Nat) (hi : i < 8) (hj : j < 8) (hM : Mo G mo ka ta tv M) : Kr l G A yX8_swap wsX8_swap { frames := 2, cells := 1, slots := 8, locals := 48 } M [.ref mo, .int (nI i), .int (nI j)] (Gi G A (fun v N => ∃ pl k9 t9 : Nat, (mo, (.inr (8, [.int 0, .ref pl, .ref k9, .ref t9]) : va_E)) ∈ N ∧ KL G M N ∧ (swSum i j 8 : Int32) = v)) 1 8 := by
  refine Kr.of (cc := cX8_swap) (maxL := 6) (ret := (some .int)) (by decide) rfl (Nat.le_of_ble_eq_true rfl) ?_
  intro X hXl S hRT hIN hXA hQ hD
  subst hXl
  subst hXA
  show J (X.at 0 0) 6 (PL G.Z X.A M) 0 [some (.ref mo), some (.int (nI i)), some (.int (nI j)), none, none, none] []
  have F0 := S.1.at 0 0 (Nat.le_of_ble_eq_true rfl) (Nat.le_of_ble_eq_true rfl)
  have hOR := S.2.1.or
  obtain ⟨pl1, pe1, f1, kn1, tf1, o1_0, o1_1, o1_2, o1_3, o1_4, o1_5, o1_6, o1_7⟩ := id hM
  have h2 : (mo, (.inr (8, [.int tv, .ref pl1, .ref ka, .ref ta]) : va_E)) ∈ M := o1_0
  have h3 : (pl1, (.inr (10, [.int 10, .ref pe1, .int 10]) : va_E)) ∈ M := o1_1
  have h4 : (pe1, (.inl (G.cO, 10, .inr (.inr (.inr (.inr f1)))) : va_E)) ∈ M := o1_2
  have h5 : (ta, (.inl (G.Z.cI, 8, .inl tf1) : va_E)) ∈ M := o1_4
  have h6 : (ka, (.inl (G.cR, 10, .inr (.inr (.inr (.inr kn1)))) : va_E)) ∈ M := o1_6
  have hDo7 := hD
  refine j_aload_n F0 dX8_swap_0 rfl ?_
  refine j_iload_n F0 dX8_swap_1 rfl ?_
  refine m_cSi S (n1 := 1) (rest := [.ref mo]) (r_X8_isNoEight X.l G X.A M (nI i)) ⟨_, _, _, _, rfl, gX8_swap_X8_isNoEight, rfl, rfl, (by decide +kernel), ⟨(Nat.le_of_ble_eq_true rfl), (Nat.le_of_ble_eq_true rfl)⟩⟩ rfl (Nat.le_of_ble_eq_true rfl) (Nat.le_of_ble_eq_true rfl) (Nat.le_of_ble_eq_true rfl) rfl dX8_swap_2 (fun v8 M9 hD10 hp11 => ?_)
  obtain ⟨hp11a, hp11b⟩ := hp11
  subst hp11a
  subst hp11b
  refine j_if_ne F0 15 dX8_swap_5 (by decide) (fun h9 => absurd (if0.mpr (eig_ok hi)) h9) (fun _ => ?_)
  refine j_iload_n F0 dX8_swap_8 rfl ?_
  refine m_cSi S (n1 := 1) (rest := [.ref mo]) (r_X8_isNoEight X.l G X.A M (nI j)) ⟨_, _, _, _, rfl, gX8_swap_X8_isNoEight, rfl, rfl, (by decide +kernel), ⟨(Nat.le_of_ble_eq_true rfl), (Nat.le_of_ble_eq_true rfl)⟩⟩ rfl (Nat.le_of_ble_eq_true rfl) (Nat.le_of_ble_eq_true rfl) (Nat.le_of_ble_eq_true rfl) rfl dX8_swap_9 (fun v12 M13 hD14 hp15 => ?_)
  obtain ⟨hp15a, hp15b⟩ := hp15
  subst hp15a
  subst hp15b
  refine j_if_eq F0 19 dX8_swap_12 (by decide) (fun _ => ?_) (fun h9 => absurd (if0.mpr (eig_ok hj)) h9)
  refine j_iconst F0 0 dX8_swap_19 (by decide) ?_
  refine j_iconst F0 1 dX8_swap_20 (by decide) ?_
  refine m_cVi S (n1 := 2) (rest := []) (r_X8_start X.l G X.A M (c := False) 1 (by decide) h2) ⟨_, _, _, _, rfl, gX8_swap_X8_start, rfl, rfl, (by decide +kernel), ⟨(Nat.le_of_ble_eq_true rfl), (Nat.le_of_ble_eq_true rfl)⟩⟩ h2 rfl rfl (Nat.le_of_ble_eq_true rfl) (Nat.le_of_ble_eq_true rfl) (Nat.le_of_ble_eq_true rfl) rfl dX8_swap_21 (fun v16 M17 hD18 hp19 => ?_)
  obtain ⟨hp19v, hp19a, hp19k⟩ := hp19
  have hp19v : (0 : Int32) = v16 := hp19v
  subst hp19v
  have n20 : pl1 ∉ [mo] := by
    intro h9; simp only [List.mem_cons, List.not_mem_nil, or_false] at h9
    · exact (In.ne hD h3 h2 (by simp)) h9
  have n21 : pe1 ∉ [mo] := by
    intro h9; simp only [List.mem_cons, List.not_mem_nil, or_false] at h9
    · exact (In.ne hD h4 h2 (by simp)) h9
  have n22 : ta ∉ [mo] := by
    intro h9; simp only [List.mem_cons, List.not_mem_nil, or_false] at h9
    · exact (In.ne hD h5 h2 (by simp)) h9
  have n23 : ka ∉ [mo] := by
    intro h9; simp only [List.mem_cons, List.not_mem_nil, or_false] at h9
    · exact (In.ne hD h6 h2 (by simp)) h9
  have h3 := hp19k _ _ n20 h3
  have h4 := hp19k _ _ n21 h4
  have h5 := hp19k _ _ n22 h5
  have h6 := hp19k _ _ n23 h6
  have h24 : (mo, (.inr (8, [.int 0, .ref pl1, .ref ka, .ref ta]) : va_E)) ∈ M17 := hp19a
  refine j_if_eq F0 29 dX8_swap_24 (by decide) (fun _ => ?_) (fun h9 => absurd (by decide) h9)
  have hKr25 : Kp M [mo, ka] M17 := by
    intro b x hb hx
    have n26 : b ∉ [mo] := by
      intro h9; simp only [List.mem_cons, List.not_mem_nil, or_false] at h9
      · exact (fun c => hb (by rw [c]; simp)) h9
    have hx := hp19k b x n26 hx
    exact hx
  have hMz27 : Mo G mo ka ta 0 M17 := Mo.keep hOR hDo7 o1_0 o1_1 o1_2 o1_3 o1_4 o1_5 o1_6 hKr25 h24 h6 (fun p q hp hq => Rd.keep hOR hDo7 o1_0 o1_6 (o1_7 p q hp hq) hKr25)
  obtain ⟨pl28, pe28, f28, kn28, tf28, o28_0, o28_1, o28_2, o28_3, o28_4, o28_5, o28_6, o28_7⟩ := id hMz27
  have h29 : (mo, (.inr (8, [.int 0, .ref pl28, .ref ka, .ref ta]) : va_E)) ∈ M17 := o28_0
  have h30 : (pl28, (.inr (10, [.int 10, .ref pe28, .int 10]) : va_E)) ∈ M17 := o28_1
  have h31 : (pe28, (.inl (G.cO, 10, .inr (.inr (.inr (.inr f28)))) : va_E)) ∈ M17 := o28_2
  have h32 : (ta, (.inl (G.Z.cI, 8, .inl tf28) : va_E)) ∈ M17 := o28_4
  have h33 : (ka, (.inl (G.cR, 10, .inr (.inr (.inr (.inr kn28)))) : va_E)) ∈ M17 := o28_6
  have hDo34 := hD18
  refine j_iconst F0 0 dX8_swap_29 (by decide) ?_
  refine j_istore_n F0 [some (.ref mo), some (.int (nI i)), some (.int (nI j)), some (.int 0), none, none] dX8_swap_30 (by decide) rfl rfl ?_
  refine j_aload_n F0 dX8_swap_31 rfl ?_
  refine j_iload_n F0 dX8_swap_32 rfl ?_
  refine j_iload_n F0 dX8_swap_33 rfl ?_
  have hKm36 : Kp M17 [] M17 := by
    intro b x hb hx
    exact hx
  have hMo35 := Mo.mono hMz27 hKm36
  refine m_cVr S (n1 := 2) (rest := []) (r_X8_swappedTies X.l G X.A M17 i j hMo35) ⟨_, _, _, _, rfl, gX8_swap_X8_swappedTies, rfl, rfl, (by decide +kernel), ⟨(Nat.le_of_ble_eq_true rfl), (Nat.le_of_ble_eq_true rfl)⟩⟩ h29 rfl rfl (Nat.le_of_ble_eq_true rfl) (Nat.le_of_ble_eq_true rfl) (Nat.le_of_ble_eq_true rfl) rfl dX8_swap_34 (fun v37 M38 hD39 hp40 => ?_)
  obtain ⟨f41, hp40a, hp40e, hp40k, hp40f⟩ := hp40
  have n42 := hp40f _ _ h29
  have n43 := hp40f _ _ h30
  have n44 := hp40f _ _ h31
  have n45 := hp40f _ _ h32
  have n46 := hp40f _ _ h33
  have n47 : mo ∉ ([] : List Nat) := List.not_mem_nil
  have n48 : pl28 ∉ ([] : List Nat) := List.not_mem_nil
  have n49 : pe28 ∉ ([] : List Nat) := List.not_mem_nil
  have n50 : ta ∉ ([] : List Nat) := List.not_mem_nil
  have n51 : ka ∉ ([] : List Nat) := List.not_mem_nil
  have h29 := hp40k _ _ n47 h29
  have h30 := hp40k _ _ n48 h30
  have h31 := hp40k _ _ n49 h31
  have h32 := hp40k _ _ n50 h32
  have h33 := hp40k _ _ n51 h33
  have h52 : (v37, (.inl (G.Z.cI, 8, .inl f41) : va_E)) ∈ M38 := hp40a
  have F53 := S.1.at 1 8 (Nat.le_of_ble_eq_true rfl) (Nat.le_of_ble_eq_true rfl)
  refine j_astore F53 [some (.ref mo), some (.int (nI i)), some (.int (nI j)), some (.int 0), some (.ref v37), none] dX8_swap_37 (by decide) rfl rfl ?_
  refine j_iconst F53 0 dX8_swap_39 (by decide) ?_
  refine j_istore F53 [some (.ref mo), some (.int (nI i)), some (.int (nI j)), some (.int 0), some (.ref v37), some (.int 0)] dX8_swap_40 (by decide) rfl rfl ?_
  show J (X.at 1 8) 6 (PL G.Z X.A M38) 42 [some (.ref mo), some (.int (nI i)), some (.int (nI j)), some (.int (swSum i j 0)), some (.ref v37), some (.int 0)] []
  refine j_iload F53 dX8_swap_42 rfl ?_
  refine j_bipush F53 8 dX8_swap_44 (by decide) ?_
  refine j_icmp_ge F53 90 dX8_swap_46 (by decide) (fun h9 => absurd h9 (by decide)) (fun _ => ?_)
  refine j_iload_n F53 dX8_swap_49 rfl ?_
  refine j_aload F53 dX8_swap_50 rfl ?_
  refine j_iload F53 dX8_swap_52 rfl ?_
  refine m_iaload S (v := swF (tie0 0) (nI i) (nI j)) h52 (by unfold vp_in; decide) (by rw [show (0 : Int32).toNatClampNeg = 0 by decide]; exact hp40e 0 (by decide)) dX8_swap_54 ?_
  refine j_aload_n F53 dX8_swap_55 rfl ?_
  refine m_get S (C := RX8) (T := TX8) (N := 4) (by decide +kernel) h29 rfl (v := .ref ta) 3 (by decide) (by decide +kernel) (fun _ h9 => h9) rfl dX8_swap_56 ?_
  refine j_iload F53 dX8_swap_59 rfl ?_
  refine m_iaload S (v := tie0 0) h32 (by unfold vp_in; decide) (by rw [show (0 : Int32).toNatClampNeg = 0 by decide]; exact o28_5 0 (by decide)) dX8_swap_61 ?_
  suffices hjk0 : J (X.at 1 8) 6 (PL G.Z X.A M38) 70 [some (.ref mo), some (.int (nI i)), some (.int (nI j)), some (.int (swSum i j 0)), some (.ref v37), some (.int 0)] [.int (swN i j 0), .int (swSum i j 0)] by
    refine j_icmp_ne F53 69 dX8_swap_62 (by decide) (fun h => ?_) (fun h => ?_)
    · skip
      refine j_iconst F53 1 dX8_swap_69 (by decide) ?_
      rw [show swN i j 0 = 1 from if_neg h] at hjk0
      exact hjk0
    · skip
      refine j_iconst F53 0 dX8_swap_65 (by decide) ?_
      refine j_goto F53 70 dX8_swap_66 (by decide) ?_
      rw [show swN i j 0 = 0 from if_pos h] at hjk0
      exact hjk0
  refine j_iadd F53 (swSum i j 1) dX8_swap_70 rfl ?_
  refine j_istore_n F53 [some (.ref mo), some (.int (nI i)), some (.int (nI j)), some (.int (swSum i j 1)), some (.ref v37), some (.int 0)] dX8_swap_71 (by decide) rfl rfl ?_
  refine j_aload_n F53 dX8_swap_72 rfl ?_
  refine m_get S (C := RX8) (T := TX8) (N := 4) (by decide +kernel) h29 rfl (v := .ref ta) 3 (by decide) (by decide +kernel) (fun _ h9 => h9) rfl dX8_swap_73 ?_
  refine j_iload F53 dX8_swap_76 rfl ?_
  refine j_aload F53 dX8_swap_78 rfl ?_
  refine j_iload F53 dX8_swap_80 rfl ?_
  refine m_iaload S (v := swF (tie0 0) (nI i) (nI j)) h52 (by unfold vp_in; decide) (by rw [show (0 : Int32).toNatClampNeg = 0 by decide]; exact hp40e 0 (by decide)) dX8_swap_82 ?_
  refine m_iastore S (k0 := 0) h32 (by unfold vp_in; decide) (by decide) dX8_swap_83 (fun M55 hD56 hU54 => ?_)
  have n57 : mo ≠ ta := (In.ne hD39 h29 h32 (by simp))
  have n58 : pl28 ≠ ta := (In.ne hD39 h30 h32 (by simp))
  have n59 : pe28 ≠ ta := (In.ne hD39 h31 h32 (by simp))
  have n60 : ka ≠ ta := (In.ne hD39 h33 h32 (by simp))
  have n61 : v37 ≠ ta := (Ne.symm n45)
  have h29 := hU54.2 _ _ n57 h29
  have h30 := hU54.2 _ _ n58 h30
  have h31 := hU54.2 _ _ n59 h31
  have h33 := hU54.2 _ _ n60 h33
  have h52 := hU54.2 _ _ n61 h52
  have h32 := hU54.1
  refine j_iinc F53 1 [some (.ref mo), some (.int (nI i)), some (.int (nI j)), some (.int (swSum i j 1)), some (.ref v37), some (.int 1)] dX8_swap_84 rfl (by decide) (by decide) rfl rfl ?_
  refine j_goto F53 42 dX8_swap_87 (by decide) ?_
  show J (X.at 1 8) 6 (PL G.Z X.A M55) 42 [some (.ref mo), some (.int (nI i)), some (.int (nI j)), some (.int (swSum i j 1)), some (.ref v37), some (.int 1)] []
  refine j_iload F53 dX8_swap_42 rfl ?_
  refine j_bipush F53 8 dX8_swap_44 (by decide) ?_
  refine j_icmp_ge F53 90 dX8_swap_46 (by decide) (fun h9 => absurd h9 (by decide)) (fun _ => ?_)
  refine j_iload_n F53 dX8_swap_49 rfl ?_
  refine j_aload F53 dX8_swap_50 rfl ?_
  refine j_iload F53 dX8_swap_52 rfl ?_
  refine m_iaload S (v := swF (tie0 1) (nI i) (nI j)) h52 (by unfold vp_in; decide) (by rw [show (1 : Int32).toNatClampNeg = 1 by decide]; exact hp40e 1 (by decide)) dX8_swap_54 ?_
  refine j_aload_n F53 dX8_swap_55 rfl ?_
  refine m_get S (C := RX8) (T := TX8) (N := 4) (by decide +kernel) h29 rfl (v := .ref ta) 3 (by decide) (by decide +kernel) (fun _ h9 => h9) rfl dX8_swap_56 ?_
  refine j_iload F53 dX8_swap_59 rfl ?_
  refine m_iaload S (v := tie0 1) h32 (by unfold vp_in; decide) (by rw [show (1 : Int32).toNatClampNeg = 1 by decide]; exact (by show (upd tf28 0 (swF (tie0 0) (nI i) (nI j))) 1 = _; simp [upd]; exact o28_5 1 (by decide))) dX8_swap_61 ?_
  suffices hjk1 : J (X.at 1 8) 6 (PL G.Z X.A M55) 70 [some (.ref mo), some (.int (nI i)), some (.int (nI j)), some (.int (swSum i j 1)), some (.ref v37), some (.int 1)] [.int (swN i j 1), .int (swSum i j 1)] by
    refine j_icmp_ne F53 69 dX8_swap_62 (by decide) (fun h => ?_) (fun h => ?_)
    · skip
      refine j_iconst F53 1 dX8_swap_69 (by decide) ?_
      rw [show swN i j 1 = 1 from if_neg h] at hjk1
      exact hjk1
    · skip
      refine j_iconst F53 0 dX8_swap_65 (by decide) ?_
      refine j_goto F53 70 dX8_swap_66 (by decide) ?_
      rw [show swN i j 1 = 0 from if_pos h] at hjk1
      exact hjk1
  refine j_iadd F53 (swSum i j 2) dX8_swap_70 rfl ?_
  refine j_istore_n F53 [some (.ref mo), some (.int (nI i)), some (.int (nI j)), some (.int (swSum i j 2)), some (.ref v37), some (.int 1)] dX8_swap_71 (by decide) rfl rfl ?_
  refine j_aload_n F53 dX8_swap_72 rfl ?_
  refine m_get S (C := RX8) (T := TX8) (N := 4) (by decide +kernel) h29 rfl (v := .ref ta) 3 (by decide) (by decide +kernel) (fun _ h9 => h9) rfl dX8_swap_73 ?_
  refine j_iload F53 dX8_swap_76 rfl ?_
  refine j_aload F53 dX8_swap_78 rfl ?_
  refine j_iload F53 dX8_swap_80 rfl ?_
  refine m_iaload S (v := swF (tie0 1) (nI i) (nI j)) h52 (by unfold vp_in; decide) (by rw [show (1 : Int32).toNatClampNeg = 1 by decide]; exact hp40e 1 (by decide)) dX8_swap_82 ?_
  refine m_iastore S (k0 := 1) h32 (by unfold vp_in; decide) (by decide) dX8_swap_83 (fun M63 hD64 hU62 => ?_)
  have n65 : mo ≠ ta := n57
  have n66 : pl28 ≠ ta := n58
  have n67 : pe28 ≠ ta := n59
  have n68 : ka ≠ ta := n60
  have n69 : v37 ≠ ta := n61
  have h29 := hU62.2 _ _ n65 h29
  have h30 := hU62.2 _ _ n66 h30
  have h31 := hU62.2 _ _ n67 h31
  have h33 := hU62.2 _ _ n68 h33
  have h52 := hU62.2 _ _ n69 h52
  have h32 := hU62.1
  refine j_iinc F53 2 [some (.ref mo), some (.int (nI i)), some (.int (nI j)), some (.int (swSum i j 2)), some (.ref v37), some (.int 2)] dX8_swap_84 rfl (by decide) (by decide) rfl rfl ?_
  refine j_goto F53 42 dX8_swap_87 (by decide) ?_
  show J (X.at 1 8) 6 (PL G.Z X.A M63) 42 [some (.ref mo), some (.int (nI i)), some (.int (nI j)), some (.int (swSum i j 2)), some (.ref v37), some (.int 2)] []
  refine j_iload F53 dX8_swap_42 rfl ?_
  refine j_bipush F53 8 dX8_swap_44 (by decide) ?_
  refine j_icmp_ge F53 90 dX8_swap_46 (by decide) (fun h9 => absurd h9 (by decide)) (fun _ => ?_)
  refine j_iload_n F53 dX8_swap_49 rfl ?_
  refine j_aload F53 dX8_swap_50 rfl ?_
  refine j_iload F53 dX8_swap_52 rfl ?_
  refine m_iaload S (v := swF (tie0 2) (nI i) (nI j)) h52 (by unfold vp_in; decide) (by rw [show (2 : Int32).toNatClampNeg = 2 by decide]; exact hp40e 2 (by decide)) dX8_swap_54 ?_
  refine j_aload_n F53 dX8_swap_55 rfl ?_
  refine m_get S (C := RX8) (T := TX8) (N := 4) (by decide +kernel) h29 rfl (v := .ref ta) 3 (by decide) (by decide +kernel) (fun _ h9 => h9) rfl dX8_swap_56 ?_
  refine j_iload F53 dX8_swap_59 rfl ?_
  refine m_iaload S (v := tie0 2) h32 (by unfold vp_in; decide) (by rw [show (2 : Int32).toNatClampNeg = 2 by decide]; exact (by show (upd (upd tf28 0 (swF (tie0 0) (nI i) (nI j))) 1 (swF (tie0 1) (nI i) (nI j))) 2 = _; simp [upd]; exact o28_5 2 (by decide))) dX8_swap_61 ?_
  suffices hjk2 : J (X.at 1 8) 6 (PL G.Z X.A M63) 70 [some (.ref mo), some (.int (nI i)), some (.int (nI j)), some (.int (swSum i j 2)), some (.ref v37), some (.int 2)] [.int (swN i j 2), .int (swSum i j 2)] by
    refine j_icmp_ne F53 69 dX8_swap_62 (by decide) (fun h => ?_) (fun h => ?_)
    · skip
      refine j_iconst F53 1 dX8_swap_69 (by decide) ?_
      rw [show swN i j 2 = 1 from if_neg h] at hjk2
      exact hjk2
    · skip
      refine j_iconst F53 0 dX8_swap_65 (by decide) ?_
      refine j_goto F53 70 dX8_swap_66 (by decide) ?_
      rw [show swN i j 2 = 0 from if_pos h] at hjk2
      exact hjk2
  refine j_iadd F53 (swSum i j 3) dX8_swap_70 rfl ?_
  refine j_istore_n F53 [some (.ref mo), some (.int (nI i)), some (.int (nI j)), some (.int (swSum i j 3)), some (.ref v37), some (.int 2)] dX8_swap_71 (by decide) rfl rfl ?_
  refine j_aload_n F53 dX8_swap_72 rfl ?_
  refine m_get S (C := RX8) (T := TX8) (N := 4) (by decide +kernel) h29 rfl (v := .ref ta) 3 (by decide) (by decide +kernel) (fun _ h9 => h9) rfl dX8_swap_73 ?_
  refine j_iload F53 dX8_swap_76 rfl ?_
  refine j_aload F53 dX8_swap_78 rfl ?_
  refine j_iload F53 dX8_swap_80 rfl ?_
  refine m_iaload S (v := swF (tie0 2) (nI i) (nI j)) h52 (by unfold vp_in; decide) (by rw [show (2 : Int32).toNatClampNeg = 2 by decide]; exact hp40e 2 (by decide)) dX8_swap_82 ?_
  refine m_iastore S (k0 := 2) h32 (by unfold vp_in; decide) (by decide) dX8_swap_83 (fun M71 hD72 hU70 => ?_)
  have n73 : mo ≠ ta := n65
  have n74 : pl28 ≠ ta := n66
  have n75 : pe28 ≠ ta := n67
  have n76 : ka ≠ ta := n68
  have n77 : v37 ≠ ta := n69
  have h29 := hU70.2 _ _ n73 h29
  have h30 := hU70.2 _ _ n74 h30
  have h31 := hU70.2 _ _ n75 h31
  have h33 := hU70.2 _ _ n76 h33
  have h52 := hU70.2 _ _ n77 h52
  have h32 := hU70.1
  refine j_iinc F53 3 [some (.ref mo), some (.int (nI i)), some (.int (nI j)), some (.int (swSum i j 3)), some (.ref v37), some (.int 3)] dX8_swap_84 rfl (by decide) (by decide) rfl rfl ?_
  refine j_goto F53 42 dX8_swap_87 (by decide) ?_
  show J (X.at 1 8) 6 (PL G.Z X.A M71) 42 [some (.ref mo), some (.int (nI i)), some (.int (nI j)), some (.int (swSum i j 3)), some (.ref v37), some (.int 3)] []
  refine j_iload F53 dX8_swap_42 rfl ?_
  refine j_bipush F53 8 dX8_swap_44 (by decide) ?_
  refine j_icmp_ge F53 90 dX8_swap_46 (by decide) (fun h9 => absurd h9 (by decide)) (fun _ => ?_)
  refine j_iload_n F53 dX8_swap_49 rfl ?_
  refine j_aload F53 dX8_swap_50 rfl ?_
  refine j_iload F53 dX8_swap_52 rfl ?_
  refine m_iaload S (v := swF (tie0 3) (nI i) (nI j)) h52 (by unfold vp_in; decide) (by rw [show (3 : Int32).toNatClampNeg = 3 by decide]; exact hp40e 3 (by decide)) dX8_swap_54 ?_
  refine j_aload_n F53 dX8_swap_55 rfl ?_
  refine m_get S (C := RX8) (T := TX8) (N := 4) (by decide +kernel) h29 rfl (v := .ref ta) 3 (by decide) (by decide +kernel) (fun _ h9 => h9) rfl dX8_swap_56 ?_
  refine j_iload F53 dX8_swap_59 rfl ?_
  refine m_iaload S (v := tie0 3) h32 (by unfold vp_in; decide) (by rw [show (3 : Int32).toNatClampNeg = 3 by decide]; exact (by show (upd (upd (upd tf28 0 (swF (tie0 0) (nI i) (nI j))) 1 (swF (tie0 1) (nI i) (nI j))) 2 (swF (tie0 2) (nI i) (nI j))) 3 = _; simp [upd]; exact o28_5 3 (by decide))) dX8_swap_61 ?_
  suffices hjk3 : J (X.at 1 8) 6 (PL G.Z X.A M71) 70 [some (.ref mo), some (.int (nI i)), some (.int (nI j)), some (.int (swSum i j 3)), some (.ref v37), some (.int 3)] [.int (swN i j 3), .int (swSum i j 3)] by
    refine j_icmp_ne F53 69 dX8_swap_62 (by decide) (fun h => ?_) (fun h => ?_)
    · skip
      refine j_iconst F53 1 dX8_swap_69 (by decide) ?_
      rw [show swN i j 3 = 1 from if_neg h] at hjk3
      exact hjk3
    · skip
      refine j_iconst F53 0 dX8_swap_65 (by decide) ?_
      refine j_goto F53 70 dX8_swap_66 (by decide) ?_
      rw [show swN i j 3 = 0 from if_pos h] at hjk3
      exact hjk3
  refine j_iadd F53 (swSum i j 4) dX8_swap_70 rfl ?_
  refine j_istore_n F53 [some (.ref mo), some (.int (nI i)), some (.int (nI j)), some (.int (swSum i j 4)), some (.ref v37), some (.int 3)] dX8_swap_71 (by decide) rfl rfl ?_
  refine j_aload_n F53 dX8_swap_72 rfl ?_
  refine m_get S (C := RX8) (T := TX8) (N := 4) (by decide +kernel) h29 rfl (v := .ref ta) 3 (by decide) (by decide +kernel) (fun _ h9 => h9) rfl dX8_swap_73 ?_
  refine j_iload F53 dX8_swap_76 rfl ?_
  refine j_aload F53 dX8_swap_78 rfl ?_
  refine j_iload F53 dX8_swap_80 rfl ?_
  refine m_iaload S (v := swF (tie0 3) (nI i) (nI j)) h52 (by unfold vp_in; decide) (by rw [show (3 : Int32).toNatClampNeg = 3 by decide]; exact hp40e 3 (by decide)) dX8_swap_82 ?_
  refine m_iastore S (k0 := 3) h32 (by unfold vp_in; decide) (by decide) dX8_swap_83 (fun M79 hD80 hU78 => ?_)
  have n81 : mo ≠ ta := n73
  have n82 : pl28 ≠ ta := n74
  have n83 : pe28 ≠ ta := n75
  have n84 : ka ≠ ta := n76
  have n85 : v37 ≠ ta := n77
  have h29 := hU78.2 _ _ n81 h29
  have h30 := hU78.2 _ _ n82 h30
  have h31 := hU78.2 _ _ n83 h31
  have h33 := hU78.2 _ _ n84 h33
  have h52 := hU78.2 _ _ n85 h52
  have h32 := hU78.1
  refine j_iinc F53 4 [some (.ref mo), some (.int (nI i)), some (.int (nI j)), some (.int (swSum i j 4)), some (.ref v37), some (.int 4)] dX8_swap_84 rfl (by decide) (by decide) rfl rfl ?_
  refine j_goto F53 42 dX8_swap_87 (by decide) ?_
  show J (X.at 1 8) 6 (PL G.Z X.A M79) 42 [some (.ref mo), some (.int (nI i)), some (.int (nI j)), some (.int (swSum i j 4)), some (.ref v37), some (.int 4)] []
  refine j_iload F53 dX8_swap_42 rfl ?_
  refine j_bipush F53 8 dX8_swap_44 (by decide) ?_
  refine j_icmp_ge F53 90 dX8_swap_46 (by decide) (fun h9 => absurd h9 (by decide)) (fun _ => ?_)
  refine j_iload_n F53 dX8_swap_49 rfl ?_
  refine j_aload F53 dX8_swap_50 rfl ?_
  refine j_iload F53 dX8_swap_52 rfl ?_
  refine m_iaload S (v := swF (tie0 4) (nI i) (nI j)) h52 (by unfold vp_in; decide) (by rw [show (4 : Int32).toNatClampNeg = 4 by decide]; exact hp40e 4 (by decide)) dX8_swap_54 ?_
  refine j_aload_n F53 dX8_swap_55 rfl ?_
  refine m_get S (C := RX8) (T := TX8) (N := 4) (by decide +kernel) h29 rfl (v := .ref ta) 3 (by decide) (by decide +kernel) (fun _ h9 => h9) rfl dX8_swap_56 ?_
  refine j_iload F53 dX8_swap_59 rfl ?_
  refine m_iaload S (v := tie0 4) h32 (by unfold vp_in; decide) (by rw [show (4 : Int32).toNatClampNeg = 4 by decide]; exact (by show (upd (upd (upd (upd tf28 0 (swF (tie0 0) (nI i) (nI j))) 1 (swF (tie0 1) (nI i) (nI j))) 2 (swF (tie0 2) (nI i) (nI j))) 3 (swF (tie0 3) (nI i) (nI j))) 4 = _; simp [upd]; exact o28_5 4 (by decide))) dX8_swap_61 ?_
  suffices hjk4 : J (X.at 1 8) 6 (PL G.Z X.A M79) 70 [some (.ref mo), some (.int (nI i)), some (.int (nI j)), some (.int (swSum i j 4)), some (.ref v37), some (.int 4)] [.int (swN i j 4), .int (swSum i j 4)] by
    refine j_icmp_ne F53 69 dX8_swap_62 (by decide) (fun h => ?_) (fun h => ?_)
    · skip
      refine j_iconst F53 1 dX8_swap_69 (by decide) ?_
      rw [show swN i j 4 = 1 from if_neg h] at hjk4
      exact hjk4
    · skip
      refine j_iconst F53 0 dX8_swap_65 (by decide) ?_
      refine j_goto F53 70 dX8_swap_66 (by decide) ?_
      rw [show swN i j 4 = 0 from if_pos h] at hjk4
      exact hjk4
  refine j_iadd F53 (swSum i j 5) dX8_swap_70 rfl ?_
  refine j_istore_n F53 [some (.ref mo), some (.int (nI i)), some (.int (nI j)), some (.int (swSum i j 5)), some (.ref v37), some (.int 4)] dX8_swap_71 (by decide) rfl rfl ?_
  refine j_aload_n F53 dX8_swap_72 rfl ?_
  refine m_get S (C := RX8) (T := TX8) (N := 4) (by decide +kernel) h29 rfl (v := .ref ta) 3 (by decide) (by decide +kernel) (fun _ h9 => h9) rfl dX8_swap_73 ?_
  refine j_iload F53 dX8_swap_76 rfl ?_
  refine j_aload F53 dX8_swap_78 rfl ?_
  refine j_iload F53 dX8_swap_80 rfl ?_
  refine m_iaload S (v := swF (tie0 4) (nI i) (nI j)) h52 (by unfold vp_in; decide) (by rw [show (4 : Int32).toNatClampNeg = 4 by decide]; exact hp40e 4 (by decide)) dX8_swap_82 ?_
  refine m_iastore S (k0 := 4) h32 (by unfold vp_in; decide) (by decide) dX8_swap_83 (fun M87 hD88 hU86 => ?_)
  have n89 : mo ≠ ta := n81
  have n90 : pl28 ≠ ta := n82
  have n91 : pe28 ≠ ta := n83
  have n92 : ka ≠ ta := n84
  have n93 : v37 ≠ ta := n85
  have h29 := hU86.2 _ _ n89 h29
  have h30 := hU86.2 _ _ n90 h30
  have h31 := hU86.2 _ _ n91 h31
  have h33 := hU86.2 _ _ n92 h33
  have h52 := hU86.2 _ _ n93 h52
  have h32 := hU86.1
  refine j_iinc F53 5 [some (.ref mo), some (.int (nI i)), some (.int (nI j)), some (.int (swSum i j 5)), some (.ref v37), some (.int 5)] dX8_swap_84 rfl (by decide) (by decide) rfl rfl ?_
  refine j_goto F53 42 dX8_swap_87 (by decide) ?_
  show J (X.at 1 8) 6 (PL G.Z X.A M87) 42 [some (.ref mo), some (.int (nI i)), some (.int (nI j)), some (.int (swSum i j 5)), some (.ref v37), some (.int 5)] []
  refine j_iload F53 dX8_swap_42 rfl ?_
  refine j_bipush F53 8 dX8_swap_44 (by decide) ?_
  refine j_icmp_ge F53 90 dX8_swap_46 (by decide) (fun h9 => absurd h9 (by decide)) (fun _ => ?_)
  refine j_iload_n F53 dX8_swap_49 rfl ?_
  refine j_aload F53 dX8_swap_50 rfl ?_
  refine j_iload F53 dX8_swap_52 rfl ?_
  refine m_iaload S (v := swF (tie0 5) (nI i) (nI j)) h52 (by unfold vp_in; decide) (by rw [show (5 : Int32).toNatClampNeg = 5 by decide]; exact hp40e 5 (by decide)) dX8_swap_54 ?_
  refine j_aload_n F53 dX8_swap_55 rfl ?_
  refine m_get S (C := RX8) (T := TX8) (N := 4) (by decide +kernel) h29 rfl (v := .ref ta) 3 (by decide) (by decide +kernel) (fun _ h9 => h9) rfl dX8_swap_56 ?_
  refine j_iload F53 dX8_swap_59 rfl ?_
  refine m_iaload S (v := tie0 5) h32 (by unfold vp_in; decide) (by rw [show (5 : Int32).toNatClampNeg = 5 by decide]; exact (by show (upd (upd (upd (upd (upd tf28 0 (swF (tie0 0) (nI i) (nI j))) 1 (swF (tie0 1) (nI i) (nI j))) 2 (swF (tie0 2) (nI i) (nI j))) 3 (swF (tie0 3) (nI i) (nI j))) 4 (swF (tie0 4) (nI i) (nI j))) 5 = _; simp [upd]; exact o28_5 5 (by decide))) dX8_swap_61 ?_
  suffices hjk5 : J (X.at 1 8) 6 (PL G.Z X.A M87) 70 [some (.ref mo), some (.int (nI i)), some (.int (nI j)), some (.int (swSum i j 5)), some (.ref v37), some (.int 5)] [.int (swN i j 5), .int (swSum i j 5)] by
    refine j_icmp_ne F53 69 dX8_swap_62 (by decide) (fun h => ?_) (fun h => ?_)
    · skip
      refine j_iconst F53 1 dX8_swap_69 (by decide) ?_
      rw [show swN i j 5 = 1 from if_neg h] at hjk5
      exact hjk5
    · skip
      refine j_iconst F53 0 dX8_swap_65 (by decide) ?_
      refine j_goto F53 70 dX8_swap_66 (by decide) ?_
      rw [show swN i j 5 = 0 from if_pos h] at hjk5
      exact hjk5
  refine j_iadd F53 (swSum i j 6) dX8_swap_70 rfl ?_
  refine j_istore_n F53 [some (.ref mo), some (.int (nI i)), some (.int (nI j)), some (.int (swSum i j 6)), some (.ref v37), some (.int 5)] dX8_swap_71 (by decide) rfl rfl ?_
  refine j_aload_n F53 dX8_swap_72 rfl ?_
  refine m_get S (C := RX8) (T := TX8) (N := 4) (by decide +kernel) h29 rfl (v := .ref ta) 3 (by decide) (by decide +kernel) (fun _ h9 => h9) rfl dX8_swap_73 ?_
  refine j_iload F53 dX8_swap_76 rfl ?_
  refine j_aload F53 dX8_swap_78 rfl ?_
  refine j_iload F53 dX8_swap_80 rfl ?_
  refine m_iaload S (v := swF (tie0 5) (nI i) (nI j)) h52 (by unfold vp_in; decide) (by rw [show (5 : Int32).toNatClampNeg = 5 by decide]; exact hp40e 5 (by decide)) dX8_swap_82 ?_
  refine m_iastore S (k0 := 5) h32 (by unfold vp_in; decide) (by decide) dX8_swap_83 (fun M95 hD96 hU94 => ?_)
  have n97 : mo ≠ ta := n89
  have n98 : pl28 ≠ ta := n90
  have n99 : pe28 ≠ ta := n91
  have n100 : ka ≠ ta := n92
  have n101 : v37 ≠ ta := n93
  have h29 := hU94.2 _ _ n97 h29
  have h30 := hU94.2 _ _ n98 h30
  have h31 := hU94.2 _ _ n99 h31
  have h33 := hU94.2 _ _ n100 h33
  have h52 := hU94.2 _ _ n101 h52
  have h32 := hU94.1
  refine j_iinc F53 6 [some (.ref mo), some (.int (nI i)), some (.int (nI j)), some (.int (swSum i j 6)), some (.ref v37), some (.int 6)] dX8_swap_84 rfl (by decide) (by decide) rfl rfl ?_
  refine j_goto F53 42 dX8_swap_87 (by decide) ?_
  show J (X.at 1 8) 6 (PL G.Z X.A M95) 42 [some (.ref mo), some (.int (nI i)), some (.int (nI j)), some (.int (swSum i j 6)), some (.ref v37), some (.int 6)] []
  refine j_iload F53 dX8_swap_42 rfl ?_
  refine j_bipush F53 8 dX8_swap_44 (by decide) ?_
  refine j_icmp_ge F53 90 dX8_swap_46 (by decide) (fun h9 => absurd h9 (by decide)) (fun _ => ?_)
  refine j_iload_n F53 dX8_swap_49 rfl ?_
  refine j_aload F53 dX8_swap_50 rfl ?_
  refine j_iload F53 dX8_swap_52 rfl ?_
  refine m_iaload S (v := swF (tie0 6) (nI i) (nI j)) h52 (by unfold vp_in; decide) (by rw [show (6 : Int32).toNatClampNeg = 6 by decide]; exact hp40e 6 (by decide)) dX8_swap_54 ?_
  refine j_aload_n F53 dX8_swap_55 rfl ?_
  refine m_get S (C := RX8) (T := TX8) (N := 4) (by decide +kernel) h29 rfl (v := .ref ta) 3 (by decide) (by decide +kernel) (fun _ h9 => h9) rfl dX8_swap_56 ?_
  refine j_iload F53 dX8_swap_59 rfl ?_
  refine m_iaload S (v := tie0 6) h32 (by unfold vp_in; decide) (by rw [show (6 : Int32).toNatClampNeg = 6 by decide]; exact (by show (upd (upd (upd (upd (upd (upd tf28 0 (swF (tie0 0) (nI i) (nI j))) 1 (swF (tie0 1) (nI i) (nI j))) 2 (swF (tie0 2) (nI i) (nI j))) 3 (swF (tie0 3) (nI i) (nI j))) 4 (swF (tie0 4) (nI i) (nI j))) 5 (swF (tie0 5) (nI i) (nI j))) 6 = _; simp [upd]; exact o28_5 6 (by decide))) dX8_swap_61 ?_
  suffices hjk6 : J (X.at 1 8) 6 (PL G.Z X.A M95) 70 [some (.ref mo), some (.int (nI i)), some (.int (nI j)), some (.int (swSum i j 6)), some (.ref v37), some (.int 6)] [.int (swN i j 6), .int (swSum i j 6)] by
    refine j_icmp_ne F53 69 dX8_swap_62 (by decide) (fun h => ?_) (fun h => ?_)
    · skip
      refine j_iconst F53 1 dX8_swap_69 (by decide) ?_
      rw [show swN i j 6 = 1 from if_neg h] at hjk6
      exact hjk6
    · skip
      refine j_iconst F53 0 dX8_swap_65 (by decide) ?_
      refine j_goto F53 70 dX8_swap_66 (by decide) ?_
      rw [show swN i j 6 = 0 from if_pos h] at hjk6
      exact hjk6
  refine j_iadd F53 (swSum i j 7) dX8_swap_70 rfl ?_
  refine j_istore_n F53 [some (.ref mo), some (.int (nI i)), some (.int (nI j)), some (.int (swSum i j 7)), some (.ref v37), some (.int 6)] dX8_swap_71 (by decide) rfl rfl ?_
  refine j_aload_n F53 dX8_swap_72 rfl ?_
  refine m_get S (C := RX8) (T := TX8) (N := 4) (by decide +kernel) h29 rfl (v := .ref ta) 3 (by decide) (by decide +kernel) (fun _ h9 => h9) rfl dX8_swap_73 ?_
  refine j_iload F53 dX8_swap_76 rfl ?_
  refine j_aload F53 dX8_swap_78 rfl ?_
  refine j_iload F53 dX8_swap_80 rfl ?_
  refine m_iaload S (v := swF (tie0 6) (nI i) (nI j)) h52 (by unfold vp_in; decide) (by rw [show (6 : Int32).toNatClampNeg = 6 by decide]; exact hp40e 6 (by decide)) dX8_swap_82 ?_
  refine m_iastore S (k0 := 6) h32 (by unfold vp_in; decide) (by decide) dX8_swap_83 (fun M103 hD104 hU102 => ?_)
  have n105 : mo ≠ ta := n97
  have n106 : pl28 ≠ ta := n98
  have n107 : pe28 ≠ ta := n99
  have n108 : ka ≠ ta := n100
  have n109 : v37 ≠ ta := n101
  have h29 := hU102.2 _ _ n105 h29
  have h30 := hU102.2 _ _ n106 h30
  have h31 := hU102.2 _ _ n107 h31
  have h33 := hU102.2 _ _ n108 h33
  have h52 := hU102.2 _ _ n109 h52
  have h32 := hU102.1
  refine j_iinc F53 7 [some (.ref mo), some (.int (nI i)), some (.int (nI j)), some (.int (swSum i j 7)), some (.ref v37), some (.int 7)] dX8_swap_84 rfl (by decide) (by decide) rfl rfl ?_
  refine j_goto F53 42 dX8_swap_87 (by decide) ?_
  show J (X.at 1 8) 6 (PL G.Z X.A M103) 42 [some (.ref mo), some (.int (nI i)), some (.int (nI j)), some (.int (swSum i j 7)), some (.ref v37), some (.int 7)] []
  refine j_iload F53 dX8_swap_42 rfl ?_
  refine j_bipush F53 8 dX8_swap_44 (by decide) ?_
  refine j_icmp_ge F53 90 dX8_swap_46 (by decide) (fun h9 => absurd h9 (by decide)) (fun _ => ?_)
  refine j_iload_n F53 dX8_swap_49 rfl ?_
  refine j_aload F53 dX8_swap_50 rfl ?_
  refine j_iload F53 dX8_swap_52 rfl ?_
  refine m_iaload S (v := swF (tie0 7) (nI i) (nI j)) h52 (by unfold vp_in; decide) (by rw [show (7 : Int32).toNatClampNeg = 7 by decide]; exact hp40e 7 (by decide)) dX8_swap_54 ?_
  refine j_aload_n F53 dX8_swap_55 rfl ?_
  refine m_get S (C := RX8) (T := TX8) (N := 4) (by decide +kernel) h29 rfl (v := .ref ta) 3 (by decide) (by decide +kernel) (fun _ h9 => h9) rfl dX8_swap_56 ?_
  refine j_iload F53 dX8_swap_59 rfl ?_
  refine m_iaload S (v := tie0 7) h32 (by unfold vp_in; decide) (by rw [show (7 : Int32).toNatClampNeg = 7 by decide]; exact (by show (upd (upd (upd (upd (upd (upd (upd tf28 0 (swF (tie0 0) (nI i) (nI j))) 1 (swF (tie0 1) (nI i) (nI j))) 2 (swF (tie0 2) (nI i) (nI j))) 3 (swF (tie0 3) (nI i) (nI j))) 4 (swF (tie0 4) (nI i) (nI j))) 5 (swF (tie0 5) (nI i) (nI j))) 6 (swF (tie0 6) (nI i) (nI j))) 7 = _; simp [upd]; exact o28_5 7 (by decide))) dX8_swap_61 ?_
  suffices hjk7 : J (X.at 1 8) 6 (PL G.Z X.A M103) 70 [some (.ref mo), some (.int (nI i)), some (.int (nI j)), some (.int (swSum i j 7)), some (.ref v37), some (.int 7)] [.int (swN i j 7), .int (swSum i j 7)] by
    refine j_icmp_ne F53 69 dX8_swap_62 (by decide) (fun h => ?_) (fun h => ?_)
    · skip
      refine j_iconst F53 1 dX8_swap_69 (by decide) ?_
      rw [show swN i j 7 = 1 from if_neg h] at hjk7
      exact hjk7
    · skip
      refine j_iconst F53 0 dX8_swap_65 (by decide) ?_
      refine j_goto F53 70 dX8_swap_66 (by decide) ?_
      rw [show swN i j 7 = 0 from if_pos h] at hjk7
      exact hjk7
  refine j_iadd F53 (swSum i j 8) dX8_swap_70 rfl ?_
  refine j_istore_n F53 [some (.ref mo), some (.int (nI i)), some (.int (nI j)), some (.int (swSum i j 8)), some (.ref v37), some (.int 7)] dX8_swap_71 (by decide) rfl rfl ?_
  refine j_aload_n F53 dX8_swap_72 rfl ?_
  refine m_get S (C := RX8) (T := TX8) (N := 4) (by decide +kernel) h29 rfl (v := .ref ta) 3 (by decide) (by decide +kernel) (fun _ h9 => h9) rfl dX8_swap_73 ?_
  refine j_iload F53 dX8_swap_76 rfl ?_
  refine j_aload F53 dX8_swap_78 rfl ?_
  refine j_iload F53 dX8_swap_80 rfl ?_
  refine m_iaload S (v := swF (tie0 7) (nI i) (nI j)) h52 (by unfold vp_in; decide) (by rw [show (7 : Int32).toNatClampNeg = 7 by decide]; exact hp40e 7 (by decide)) dX8_swap_82 ?_
  refine m_iastore S (k0 := 7) h32 (by unfold vp_in; decide) (by decide) dX8_swap_83 (fun M111 hD112 hU110 => ?_)
  have n113 : mo ≠ ta := n105
  have n114 : pl28 ≠ ta := n106
  have n115 : pe28 ≠ ta := n107
  have n116 : ka ≠ ta := n108
  have n117 : v37 ≠ ta := n109
  have h29 := hU110.2 _ _ n113 h29
  have h30 := hU110.2 _ _ n114 h30
  have h31 := hU110.2 _ _ n115 h31
  have h33 := hU110.2 _ _ n116 h33
  have h52 := hU110.2 _ _ n117 h52
  have h32 := hU110.1
  refine j_iinc F53 8 [some (.ref mo), some (.int (nI i)), some (.int (nI j)), some (.int (swSum i j 8)), some (.ref v37), some (.int 8)] dX8_swap_84 rfl (by decide) (by decide) rfl rfl ?_
  refine j_goto F53 42 dX8_swap_87 (by decide) ?_
  refine j_iload F53 dX8_swap_42 rfl ?_
  refine j_bipush F53 8 dX8_swap_44 (by decide) ?_
  refine j_icmp_ge F53 90 dX8_swap_46 (by decide) (fun _ => ?_) (fun h9 => absurd (by decide) h9)
  refine j_iload_n F53 dX8_swap_90 rfl ?_
  have hKp : Kp M [mo, ka, ta] M111 := by
    intro b x hb hx
    have n118 : b ∉ [mo] := by
      intro h9; simp only [List.mem_cons, List.not_mem_nil, or_false] at h9
      · exact (fun c => hb (by rw [c]; simp)) h9
    have hx := hp19k b x n118 hx
    have n119 := hp40f _ _ hx
    have n120 : b ∉ ([] : List Nat) := List.not_mem_nil
    have hx := hp40k b x n120 hx
    have hx := hU54.2 _ _ (fun c => hb (by rw [c]; simp)) hx
    have hx := hU62.2 _ _ (fun c => hb (by rw [c]; simp)) hx
    have hx := hU70.2 _ _ (fun c => hb (by rw [c]; simp)) hx
    have hx := hU78.2 _ _ (fun c => hb (by rw [c]; simp)) hx
    have hx := hU86.2 _ _ (fun c => hb (by rw [c]; simp)) hx
    have hx := hU94.2 _ _ (fun c => hb (by rw [c]; simp)) hx
    have hx := hU102.2 _ _ (fun c => hb (by rw [c]; simp)) hx
    have hx := hU110.2 _ _ (fun c => hb (by rw [c]; simp)) hx
    exact hx
  have hKL : KL G M M111 := fun o n f ho => hKp _ _ (by
    intro h9; simp only [List.mem_cons, List.not_mem_nil, or_false] at h9
    rcases h9 with h9 | h9 | h9
    · exact In.ne hD ho o1_0 (by simp) h9
    · exact In.ne hD ho o1_6 (by simp) h9
    · exact In.ne hD ho o1_4 (by simp) h9
    ) ho
  exact m_ireturn S hRT rfl hQ (Nat.le_of_ble_eq_true rfl) (Nat.le_of_ble_eq_true rfl) dX8_swap_91 rfl ⟨_, _, _, h29, hKL, rfl⟩
