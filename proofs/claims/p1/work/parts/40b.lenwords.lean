/-! the words of the methods that come to reading by one token -/
theorem kB_X7_put : ∀ w ∈ wsX7_put, w ∈ wsB := by decide +kernel
theorem kB_X7_now : ∀ w ∈ wsX7_now, w ∈ wsB := by decide +kernel
theorem kB_X6_isTooMuch : ∀ w ∈ wsX6_isTooMuch, w ∈ wsB := by decide +kernel
theorem kB_X6_init : ∀ w ∈ wsX6_init, w ∈ wsB := by decide +kernel
theorem kB_Jx4a65c_add_9ea2d : ∀ w ∈ wsJx4a65c_add_9ea2d, w ∈ wsB := by decide +kernel
theorem kB_Jx4a65c_init_da8c8 : ∀ w ∈ wsJx4a65c_init_da8c8, w ∈ wsB := by decide +kernel
theorem kB_J6_intValue_8abf5 : ∀ w ∈ wsJ6_intValue_8abf5, w ∈ wsB := by decide +kernel
theorem kB_Jx4a65c_isEmpty_aae02 : ∀ w ∈ wsJx4a65c_isEmpty_aae02, w ∈ wsB := by decide +kernel
def wbX7_block : List Cond := Cond.code yX7_block cX7_block 3 (some .int) :: wsB
theorem kB_X7_block : ∀ w ∈ wbX7_block, w ∈ wsB := gBB (c := Cond.code yX7_block cX7_block 3 (some .int)) (by decide +kernel)
def wbX7_read : List Cond := Cond.code yX7_read cX7_read 2 (some .int) :: wsB
theorem kB_X7_read : ∀ w ∈ wbX7_read, w ∈ wsB := gBB (c := Cond.code yX7_read cX7_read 2 (some .int)) (by decide +kernel)
def wbX7_init : List Cond := Cond.code yX7_init cX7_init 5 none :: wsB
theorem kB_X7_initW : ∀ w ∈ wbX7_init, w ∈ wsB := gBB (c := Cond.code yX7_init cX7_init 5 none) (by decide +kernel)
def wbX8_lengthWith : List Cond := wsX8_lengthWith ++ wsB
theorem gLW {ws : List Cond} (h : GoodIn wsX8_lengthWith ws) : GoodIn wbX8_lengthWith ws := fun w hw => ⟨List.mem_append_left _ (h w hw).1, (h w hw).2⟩
theorem gLI {ws : List Cond} (h : ∀ w ∈ ws, w ∈ wsB) : GoodIn wbX8_lengthWith ws := fun w hw => ⟨List.mem_append_right _ (h w hw), good_of_word (List.all_eq_true.mp wsB_good w (h w hw))⟩
