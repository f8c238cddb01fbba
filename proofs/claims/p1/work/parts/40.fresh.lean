/-! WHAT A FRESH LOOM ANSWERS, and its model -/
theorem fr_res {k : Nat} (hk : k < 10) : res tok0 k = ([], 0, -1) := res0f hk
theorem fr_num {k : Nat} (hk : k < 10) : num tok0 k = [] := by unfold num; rw [res0f hk]
theorem fr_E (t : List Int32) : EE tok0 t = [] := rfl
theorem fr_P (t : List Int32) : PP tok0 t = [] := rfl
theorem fr_token (k : Nat) : nI ((tok0 k).length + 1) = 1 := rfl
theorem fr_untoken (k j : Nat) : nI ((tok0 k).length - j) = 0 := by
  rw [show (tok0 k).length = 0 from rfl, Nat.zero_sub]
  rfl
theorem fr_prog : ∀ k, k < 10 → ∀ j, j < 4 → progI tok0 k j = ofN j := by decide +kernel
theorem fr_period : ∀ k, k < 10 → periodI (num tok0 k) = 0 := by decide +kernel
theorem fr_tie : ∀ k, k < 8 → ties0.getD k 0 = tie0 k := by decide +kernel
theorem fr_twill : ∀ k, k < 9 → ∀ j, j < 9 → diffT ties0 (twL k j 8) = twSum k j 8 := by decide +kernel
theorem fr_swap : ∀ k, k < 8 → ∀ j, j < 8 → diffT ties0 (swT ties0 (nI k) (nI j) 8) = swSum k j 8 := by decide +kernel
theorem fr_changed (t : List Int32) : changedI (EE tok0 ties0) (EE tok0 t) = 0 := by rw [fr_E, fr_E]; rfl
theorem fr_longest (t : List Int32) : longestC (EE tok0 t) (PP tok0 t) = 0 := by rw [fr_E, fr_P]; rfl
theorem fr_cloth : ∀ k, k < 10 → clothI tok0 ties0 k = 0 := by decide +kernel
theorem fr_floats : ∀ k, k < 33 → floatsI (EE tok0 ties0) (PP tok0 ties0) k = 0 := by decide +kernel
theorem fr_where : ∀ k, k < 33 → ∀ b, whereI (EE tok0 ties0) (PP tok0 ties0) k b = -1 := by decide +kernel
theorem fr_seen : ∀ k, k < 8 → seenI tok0 ties0 (nI k) = 0 := by decide +kernel
theorem fr_repeat : ∀ b, repeatI (EE tok0 ties0) (PP tok0 ties0) b = 0 := by decide +kernel
theorem fr_hangs : b2i (connI (EE tok0 ties0) (PP tok0 ties0)) = 0 := by decide +kernel
theorem fr_reach : ∀ b, reachI (EE tok0 ties0) (PP tok0 ties0) b = 0 := by decide +kernel
theorem fr_mean : meanI (EE tok0 ties0) (PP tok0 ties0) = FP.dconst0 := rfl
theorem fr_digest : digestI tok0 ties0 = -7651352060509602172 := by decide +kernel
