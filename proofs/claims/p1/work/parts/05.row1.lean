set_option maxRecDepth 100000 in
set_option maxHeartbeats 4000000 in
/-- the number at a place, 0 off it -/
theorem k_X3_at (l : Launch) (Z : Zx) (A : Nat → Prop) (hA : AdOk Z A) (σ : St) (r : Nat) (hr : r < 30) (i : Int32) : Km l Z A yX3_at wsX3_at { frames := 0, cells := 0, slots := 0, locals := 0 } (Wd Z σ) [.ref (Z.ad (ro r)), .int i] (Qi (Wd Z σ) A (fun v => v = atI (σ.row r) i)) := by
  refine Km.of (cc := cX3_at) (maxL := 2) (ret := (some .int)) (by decide) rfl (Nat.le_of_ble_eq_true rfl) hA ?_
  intro X hXl S hAX hRT hXA hQ hXk hXn
  show J X 2 (Wd Z σ) 0 [some (.ref (Z.ad (ro r))), some (.int i)] []
  refine J.raw (fun ρ hρ => ?_)
  have hln := hρ.len hr
  obtain ⟨hcp, hsz, hvl⟩ := hρ.1 r hr
  have hc31 := cap_lt r
  refine j_iload_n S dX3_at_0 rfl ?_
  refine j_if_lt S 30 dX3_at_1 (by decide) (fun h => ?_) (fun h => ?_)
  · skip
    refine j_iconst S 0 dX3_at_30 (by decide) ?_
    exact j_ireturn S hRT hXA hQ hXk hXn dX3_at_31 rfl (atI_neg h).symm (fun H h => ⟨ρ, hρ, h⟩)
  · skip
    refine j_iload_n S dX3_at_4 rfl ?_
    refine j_aload_n S dX3_at_5 rfl ?_
    refine j_get S (C := RX3) (T := TX3) (N := 2) (by decide +kernel) (rr_row (by omega)) rfl (v := .int ((ρ.1 r).1)) 1 (by decide) (by decide +kernel) rfl rfl dX3_at_6 ?_
    refine j_icmp_ge S 30 dX3_at_9 (by decide) (fun h2 => ?_) (fun h2 => ?_)
    · skip
      refine j_iconst S 0 dX3_at_30 (by decide) ?_
      exact j_ireturn S hRT hXA hQ hXk hXn dX3_at_31 rfl (atI_out hln (by rw [← hsz]; exact h2)).symm (fun H h => ⟨ρ, hρ, h⟩)
    · skip
      obtain ⟨j, hj31, rfl⟩ := nI_of h
      rw [hsz] at h2
      rw [nI_leI hln hj31] at h2
      refine j_iload_n S dX3_at_12 rfl ?_
      refine j_aload_n S dX3_at_13 rfl ?_
      refine j_get S (C := RX3) (T := TX3) (N := 2) (by decide +kernel) (rr_row (by omega)) rfl (v := .ref (Z.ad (rc r))) 0 (by decide) (by decide +kernel) rfl rfl dX3_at_14 ?_
      refine j_alen S (v := nI (cap r)) (t0 := 0) (rr_arr (by omega)) rfl rfl dX3_at_17 ?_
      refine j_icmp_ge S 30 dX3_at_18 (by decide) (fun h9 => absurd h9 (by rw [nI_leI hc31 hj31]; omega)) (fun _ => ?_)
      refine j_aload_n S dX3_at_21 rfl ?_
      refine j_get S (C := RX3) (T := TX3) (N := 2) (by decide +kernel) (rr_row (by omega)) rfl (v := .ref (Z.ad (rc r))) 0 (by decide) (by decide +kernel) rfl rfl dX3_at_22 ?_
      refine j_iload_n S dX3_at_25 rfl ?_
      refine j_iaload S (v := (σ.row r).getD j 0) (rr_arr hr) (vp_in_nI (by omega) hc31) (by rw [nI_clamp hj31]; exact hvl j (by omega)) dX3_at_26 ?_
      refine j_goto S 31 dX3_at_27 (by decide) ?_
      exact j_ireturn S hRT hXA hQ hXk hXn dX3_at_31 rfl (atI_nI _ hj31).symm (fun H h => ⟨ρ, hρ, h⟩)

set_option maxRecDepth 100000 in
set_option maxHeartbeats 4000000 in
/-- a number is put at a place of the row -/
theorem k_X3_put (l : Launch) (Z : Zx) (A : Nat → Prop) (hA : AdOk Z A) (σ : St) (r : Nat) (hr : r < 30) (i v : Int32) : Km l Z A yX3_put wsX3_put { frames := 0, cells := 0, slots := 0, locals := 0 } (Wd Z σ) [.ref (Z.ad (ro r)), .int i, .int v] (Qv (Wd Z (σ.setRow r (putI (σ.row r) i v))) A) := by
  refine Km.of (cc := cX3_put) (maxL := 3) (ret := none) (by decide) rfl (Nat.le_of_ble_eq_true rfl) hA ?_
  intro X hXl S hAX hRT hXA hQ hXk hXn
  show J X 3 (Wd Z σ) 0 [some (.ref (Z.ad (ro r))), some (.int i), some (.int v)] []
  refine J.raw (fun ρ hρ => ?_)
  have hln := hρ.len hr
  obtain ⟨hcp, hsz, hvl⟩ := hρ.1 r hr
  have hc31 := cap_lt r
  refine j_iload_n S dX3_put_0 rfl ?_
  refine j_if_lt S 28 dX3_put_1 (by decide) (fun h => ?_) (fun h => ?_)
  · skip
    exact j_return S hRT hXA hQ hXk hXn dX3_put_28 (fun H h9 => by rw [putI_neg h, St.setRow_same]; exact ⟨ρ, hρ, h9⟩)
  · skip
    refine j_iload_n S dX3_put_4 rfl ?_
    refine j_aload_n S dX3_put_5 rfl ?_
    refine j_get S (C := RX3) (T := TX3) (N := 2) (by decide +kernel) (rr_row (by omega)) rfl (v := .int ((ρ.1 r).1)) 1 (by decide) (by decide +kernel) rfl rfl dX3_put_6 ?_
    refine j_icmp_ge S 28 dX3_put_9 (by decide) (fun h2 => ?_) (fun h2 => ?_)
    · skip
      exact j_return S hRT hXA hQ hXk hXn dX3_put_28 (fun H h9 => by rw [putI_out hln (by rw [← hsz]; exact h2), St.setRow_same]; exact ⟨ρ, hρ, h9⟩)
    · skip
      obtain ⟨j, hj31, rfl⟩ := nI_of h
      rw [hsz, nI_leI hln hj31] at h2
      refine j_iload_n S dX3_put_12 rfl ?_
      refine j_aload_n S dX3_put_13 rfl ?_
      refine j_get S (C := RX3) (T := TX3) (N := 2) (by decide +kernel) (rr_row (by omega)) rfl (v := .ref (Z.ad (rc r))) 0 (by decide) (by decide +kernel) rfl rfl dX3_put_14 ?_
      refine j_alen S (v := nI (cap r)) (t0 := 0) (rr_arr (by omega)) rfl rfl dX3_put_17 ?_
      refine j_icmp_ge S 28 dX3_put_18 (by decide) (fun h9 => absurd h9 (by rw [nI_leI hc31 hj31]; omega)) (fun _ => ?_)
      refine j_aload_n S dX3_put_21 rfl ?_
      refine j_get S (C := RX3) (T := TX3) (N := 2) (by decide +kernel) (rr_row (by omega)) rfl (v := .ref (Z.ad (rc r))) 0 (by decide) (by decide +kernel) rfl rfl dX3_put_22 ?_
      refine j_iload_n S dX3_put_25 rfl ?_
      refine j_iload_n S dX3_put_26 rfl ?_
      refine j_rowStore S hAX hr (vp_in_nI (by omega) hc31) dX3_put_27 ?_
      rw [nI_clamp hj31]
      exact j_return S hRT hXA hQ hXk hXn dX3_put_28 (fun H h => by rw [putI_nI _ _ hj31]; exact ⟨_, hρ.put hr (by omega) v, h⟩)

set_option maxRecDepth 100000 in
set_option maxHeartbeats 4000000 in
/-- a number more, if there is room -/
theorem k_X3_add (l : Launch) (Z : Zx) (A : Nat → Prop) (hA : AdOk Z A) (σ : St) (r : Nat) (hr : r < 30) (v : Int32) : Km l Z A yX3_add wsX3_add { frames := 0, cells := 0, slots := 0, locals := 0 } (Wd Z σ) [.ref (Z.ad (ro r)), .int v] (Qv (Wd Z (σ.setRow r (addI (cap r) (σ.row r) v))) A) := by
  refine Km.of (cc := cX3_add) (maxL := 2) (ret := none) (by decide) rfl (Nat.le_of_ble_eq_true rfl) hA ?_
  intro X hXl S hAX hRT hXA hQ hXk hXn
  show J X 2 (Wd Z σ) 0 [some (.ref (Z.ad (ro r))), some (.int v)] []
  refine J.raw (fun ρ hρ => ?_)
  have hln := hρ.len hr
  obtain ⟨hcp, hsz, hvl⟩ := hρ.1 r hr
  have hc31 := cap_lt r
  refine j_aload_n S dX3_add_0 rfl ?_
  refine j_get S (C := RX3) (T := TX3) (N := 2) (by decide +kernel) (rr_row (by omega)) rfl (v := .int ((ρ.1 r).1)) 1 (by decide) (by decide +kernel) rfl rfl dX3_add_1 ?_
  refine j_if_lt S 39 dX3_add_4 (by decide) (fun h9 => absurd h9 (by rw [hsz]; exact nI_pos hln)) (fun _ => ?_)
  refine j_aload_n S dX3_add_7 rfl ?_
  refine j_get S (C := RX3) (T := TX3) (N := 2) (by decide +kernel) (rr_row (by omega)) rfl (v := .int ((ρ.1 r).1)) 1 (by decide) (by decide +kernel) rfl rfl dX3_add_8 ?_
  refine j_aload_n S dX3_add_11 rfl ?_
  refine j_get S (C := RX3) (T := TX3) (N := 2) (by decide +kernel) (rr_row (by omega)) rfl (v := .ref (Z.ad (rc r))) 0 (by decide) (by decide +kernel) rfl rfl dX3_add_12 ?_
  refine j_alen S (v := nI (cap r)) (t0 := 0) (rr_arr (by omega)) rfl rfl dX3_add_15 ?_
  refine j_icmp_ge S 39 dX3_add_16 (by decide) (fun h => ?_) (fun h => ?_)
  · skip
    exact j_return S hRT hXA hQ hXk hXn dX3_add_39 (fun H h9 => by rw [addI_ge (by rw [hsz, nI_leI hc31 hln] at h; omega), St.setRow_same]; exact ⟨ρ, hρ, h9⟩)
  · skip
    rw [hsz, nI_leI hc31 hln] at h
    refine j_aload_n S dX3_add_19 rfl ?_
    refine j_get S (C := RX3) (T := TX3) (N := 2) (by decide +kernel) (rr_row (by omega)) rfl (v := .ref (Z.ad (rc r))) 0 (by decide) (by decide +kernel) rfl rfl dX3_add_20 ?_
    refine j_aload_n S dX3_add_23 rfl ?_
    refine j_get S (C := RX3) (T := TX3) (N := 2) (by decide +kernel) (rr_row (by omega)) rfl (v := .int ((ρ.1 r).1)) 1 (by decide) (by decide +kernel) rfl rfl dX3_add_24 ?_
    refine j_iload_n S dX3_add_27 rfl ?_
    rw [hsz]
    refine j_rowStore S hAX hr (vp_in_nI (by omega) hc31) dX3_add_28 ?_
    rw [nI_clamp hln]
    have hsz2 : ((ρ.setAt r (upd (ρ.1 r).2 (σ.row r).length v)).1 r).1 = nI (σ.row r).length := by
      rw [Raw.setAt]; dsimp only; rw [up_self]; exact hsz
    refine j_aload_n S dX3_add_29 rfl ?_
    refine j_dup S dX3_add_30 rfl ?_
    refine j_get S (C := RX3) (T := TX3) (N := 2) (by decide +kernel) (rr_row (by omega)) rfl (v := .int (((ρ.setAt r (upd (ρ.1 r).2 (σ.row r).length v)).1 r).1)) 1 (by decide) (by decide +kernel) rfl rfl dX3_add_31 ?_
    refine j_iconst S 1 dX3_add_34 (by decide) ?_
    refine j_iadd S (nI ((σ.row r).length + 1)) dX3_add_35 (by rw [hsz2]; exact nI_1 _) ?_
    refine j_putSize S hAX hr (by decide +kernel) (by decide +kernel) dX3_add_36 ?_
    exact j_return S hRT hXA hQ hXk hXn dX3_add_39 (fun H h9 => by rw [addI_lt (by omega)]; exact ⟨_, hρ.add hr (by omega) v, h9⟩)

theorem cut_num {l : List Int32} (hl : l.length < 2 ^ 31) (n : Int32) : ∃ m : Nat, m ≤ l.length ∧ (if (0 : Int32) < (if n < nI l.length then n else nI l.length) then (if n < nI l.length then n else nI l.length) else 0) = nI m ∧ cutI l n = l.take m := by
  by_cases h0 : n < 0
  · refine ⟨0, Nat.zero_le _, ?_, by rw [cutI_neg h0]; rfl⟩
    have h1 : n < nI l.length := Int32.lt_of_lt_of_le h0 (nI_pos' hl)
    rw [if_pos h1, if_neg (fun h => Int32.lt_irrefl (Int32.lt_trans h h0))]
    rfl
  · obtain ⟨j, hj, rfl⟩ := nI_of h0
    rw [cutI_nI _ hj]
    by_cases h1 : j < l.length
    · rw [if_pos ((nI_ltI hj hl).mpr h1)]
      refine ⟨j, by omega, ?_, rfl⟩
      by_cases h2 : j = 0
      · subst h2
        rw [if_neg (by rw [nI_0]; exact Int32.lt_irrefl)]
        exact nI_0.symm
      · rw [if_pos (by rw [← nI_0]; exact (nI_ltI (by omega) hj).mpr (by omega))]
    · rw [if_neg (fun h => h1 ((nI_ltI hj hl).mp h))]
      refine ⟨l.length, Nat.le_refl _, ?_, ?_⟩
      · by_cases h2 : l.length = 0
        · rw [h2, if_neg (by rw [nI_0]; exact Int32.lt_irrefl)]
          exact nI_0.symm
        · rw [if_pos (by rw [← nI_0]; exact (nI_ltI (by omega) hl).mpr (by omega))]
      · rw [List.take_of_length_le (by omega), List.take_of_length_le (by omega)]

set_option maxRecDepth 100000 in
set_option maxHeartbeats 4000000 in
/-- the row is cut -/
theorem k_X3_cutTo (l : Launch) (Z : Zx) (A : Nat → Prop) (hA : AdOk Z A) (σ : St) (r : Nat) (hr : r < 30) (n : Int32) : Km l Z A yX3_cutTo wsX3_cutTo { frames := 1, cells := 0, slots := 0, locals := 21 } (Wd Z σ) [.ref (Z.ad (ro r)), .int n] (Qv (Wd Z (σ.setRow r (cutI (σ.row r) n))) A) := by
  refine Km.of (cc := cX3_cutTo) (maxL := 2) (ret := none) (by decide) rfl (Nat.le_of_ble_eq_true rfl) hA ?_
  intro X hXl S hAX hRT hXA hQ hXk hXn
  show J X 2 (Wd Z σ) 0 [some (.ref (Z.ad (ro r))), some (.int n)] []
  refine J.raw (fun ρ hρ => ?_)
  have hln := hρ.len hr
  obtain ⟨hcp, hsz, hvl⟩ := hρ.1 r hr
  have hc31 := cap_lt r
  obtain ⟨m, hm, hm2, hm3⟩ : ∃ m : Nat, m ≤ (σ.row r).length ∧ (if (0 : Int32) < (if n < (ρ.1 r).1 then n else (ρ.1 r).1) then (if n < (ρ.1 r).1 then n else (ρ.1 r).1) else 0) = nI m ∧ cutI (σ.row r) n = (σ.row r).take m := by
    rw [hsz]
    exact cut_num hln n
  refine j_aload_n S dX3_cutTo_0 rfl ?_
  refine j_iconst S 0 dX3_cutTo_1 (by decide) ?_
  refine j_aload_n S dX3_cutTo_2 rfl ?_
  refine j_get S (C := RX3) (T := TX3) (N := 2) (by decide +kernel) (rr_row (by omega)) rfl (v := .int ((ρ.1 r).1)) 1 (by decide) (by decide +kernel) rfl rfl dX3_cutTo_3 ?_
  refine j_iload_n S dX3_cutTo_6 rfl ?_
  refine j_min S (if n < (ρ.1 r).1 then n else (ρ.1 r).1) (by decide +kernel) (by decide +kernel) (by decide +kernel) (by decide +kernel) ⟨Nat.le_of_ble_eq_true rfl, Nat.le_of_ble_eq_true rfl⟩ dX3_cutTo_7 rfl ?_
  refine j_max S (nI m) (by decide +kernel) (by decide +kernel) (by decide +kernel) (by decide +kernel) ⟨Nat.le_of_ble_eq_true rfl, Nat.le_of_ble_eq_true rfl⟩ dX3_cutTo_10 hm2 ?_
  refine j_putSize S hAX hr (by decide +kernel) (by decide +kernel) dX3_cutTo_13 ?_
  exact j_return S hRT hXA hQ hXk hXn dX3_cutTo_16 (fun H h9 => by rw [hm3]; exact ⟨_, hρ.cut hr hm, h9⟩)

set_option maxRecDepth 100000 in
set_option maxHeartbeats 4000000 in
/-- the row is emptied -/
theorem k_X3_clear (l : Launch) (Z : Zx) (A : Nat → Prop) (hA : AdOk Z A) (σ : St) (r : Nat) (hr : r < 30) : Km l Z A yX3_clear wsX3_clear { frames := 0, cells := 0, slots := 0, locals := 0 } (Wd Z σ) [.ref (Z.ad (ro r))] (Qv (Wd Z (σ.setRow r [])) A) := by
  refine Km.of (cc := cX3_clear) (maxL := 1) (ret := none) (by decide) rfl (Nat.le_of_ble_eq_true rfl) hA ?_
  intro X hXl S hAX hRT hXA hQ hXk hXn
  show J X 1 (Wd Z σ) 0 [some (.ref (Z.ad (ro r)))] []
  refine J.raw (fun ρ hρ => ?_)
  have hln := hρ.len hr
  obtain ⟨hcp, hsz, hvl⟩ := hρ.1 r hr
  have hc31 := cap_lt r
  refine j_aload_n S dX3_clear_0 rfl ?_
  refine j_iconst S 0 dX3_clear_1 (by decide) ?_
  refine j_putSize S hAX hr (by decide +kernel) (by decide +kernel) dX3_clear_2 ?_
  exact j_return S hRT hXA hQ hXk hXn dX3_clear_5 (fun H h9 => ⟨_, hρ.cut (n := 0) hr (Nat.zero_le _), h9⟩)
