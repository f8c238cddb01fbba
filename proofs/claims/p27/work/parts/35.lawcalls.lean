/-! THE LAW's CALLS on the loom, a row for each method -/
def LX (X : Cx) (Z : Zx) (ta : Nat) : Prop := Fx X Z code 18 wsL_law RL room_1 ∧ AdOk Z X.A ∧ ¬ LA Z ta
section LQ
variable {X : Cx} {Z : Zx} {ta pc : Nat} {f : Nat → Int32} {tok : Nat → List Int32} {ties : List Int32} {lv : List (Option Value)} {rest : List Value}
theorem q_lengthWith (S : LX X Z ta) (k j : Nat) (hk : k < 10) (hj : tokN j) (hl : (tok k).length < 40) (hcat : (rest.map fun v => v.category).sum ≤ 8) (hd : decode code pc = .ok (.invokevirtual 22, 3)) (kk : J X 18 (FW Z (WL Z tok ties) ta f) (pc + 3) lv (.int (lengthI (up tok k (tok k ++ [nI j])) k) :: rest)) : J X 18 (FW Z (WL Z tok ties) ta f) pc lv (.int (nI j) :: .int (nI k) :: .ref (Z.ad 0) :: rest) := by
  refine L_cVi S.1 S.2.1 S.2.2 (n := 2) (As := [.int (nI k), .int (nI j)]) (rest := rest) (k_X4_lengthWith X.l Z (LA Z) (LA_ok S.2.1) tok ties k j hk hj hl) ⟨_, _, _, _, rfl, gL_law_X4_lengthWith, rfl, rfl, by decide +kernel, ⟨Nat.le_of_ble_eq_true rfl, Nat.le_of_ble_eq_true rfl⟩⟩ rd_loomL rfl rfl hcat rfl hd (fun r hr => ?_)
  subst hr
  exact kk
theorem q_token (S : LX X Z ta) (k j : Nat) (hk : k < 10) (hj : tokN j) (hl : (tok k).length < 40) (hcat : (rest.map fun v => v.category).sum ≤ 8) (hd : decode code pc = .ok (.invokevirtual 25, 3)) (kk : J X 18 (FW Z (WL Z (up tok k (tok k ++ [nI j])) ties) ta f) (pc + 3) lv (.int (nI ((tok k).length + 1)) :: rest)) : J X 18 (FW Z (WL Z tok ties) ta f) pc lv (.int (nI j) :: .int (nI k) :: .ref (Z.ad 0) :: rest) := by
  refine L_cVi S.1 S.2.1 S.2.2 (n := 2) (As := [.int (nI k), .int (nI j)]) (rest := rest) (k_X4_token X.l Z (LA Z) (LA_ok S.2.1) tok ties k j hk hj hl) ⟨_, _, _, _, rfl, gL_law_X4_token, rfl, rfl, by decide +kernel, ⟨Nat.le_of_ble_eq_true rfl, Nat.le_of_ble_eq_true rfl⟩⟩ rd_loomL rfl rfl hcat rfl hd (fun r hr => ?_)
  subst hr
  exact kk
theorem q_ofProgram (S : LX X Z ta) (i k : Nat) (hi : i < 10) (hk : k ≤ 3) (hcat : (rest.map fun v => v.category).sum ≤ 8) (hd : decode code pc = .ok (.invokevirtual 28, 3)) (kk : J X 18 (FW Z (WL Z tok ties) ta f) (pc + 3) lv (.int (progI tok i k) :: rest)) : J X 18 (FW Z (WL Z tok ties) ta f) pc lv (.int (nI k) :: .int (nI i) :: .ref (Z.ad 0) :: rest) := by
  refine L_cVi S.1 S.2.1 S.2.2 (n := 2) (As := [.int (nI i), .int (nI k)]) (rest := rest) (k_X4_ofProgram X.l Z (LA Z) (LA_ok S.2.1) tok ties i k hi hk) ⟨_, _, _, _, rfl, gL_law_X4_ofProgram, rfl, rfl, by decide +kernel, ⟨Nat.le_of_ble_eq_true rfl, Nat.le_of_ble_eq_true rfl⟩⟩ rd_loomL rfl rfl hcat rfl hd (fun r hr => ?_)
  subst hr
  exact kk
theorem q_untoken (S : LX X Z ta) (k m : Nat) (hk : k < 10) (hm1 : 1 ≤ m) (hm2 : m ≤ 40) (hcat : (rest.map fun v => v.category).sum ≤ 8) (hd : decode code pc = .ok (.invokevirtual 36, 3)) (kk : J X 18 (FW Z (WL Z (up tok k ((tok k).take ((tok k).length - m))) ties) ta f) (pc + 3) lv (.int (nI ((tok k).length - m)) :: rest)) : J X 18 (FW Z (WL Z tok ties) ta f) pc lv (.int (nI m) :: .int (nI k) :: .ref (Z.ad 0) :: rest) := by
  refine L_cVi S.1 S.2.1 S.2.2 (n := 2) (As := [.int (nI k), .int (nI m)]) (rest := rest) (k_X4_untoken X.l Z (LA Z) (LA_ok S.2.1) tok ties k m hk hm1 hm2) ⟨_, _, _, _, rfl, gL_law_X4_untoken, rfl, rfl, by decide +kernel, ⟨Nat.le_of_ble_eq_true rfl, Nat.le_of_ble_eq_true rfl⟩⟩ rd_loomL rfl rfl hcat rfl hd (fun r hr => ?_)
  subst hr
  exact kk
theorem q_tie (S : LX X Z ta) (k s : Nat) (hk : k < 8) (hs : s < 256) (hcat : (rest.map fun v => v.category).sum ≤ 8) (hd : decode code pc = .ok (.invokevirtual 39, 3)) (kk : J X 18 (FW Z (WL Z tok (ties.set k (nI s))) ta f) (pc + 3) lv (.int (ties.getD k 0) :: rest)) : J X 18 (FW Z (WL Z tok ties) ta f) pc lv (.int (nI s) :: .int (nI k) :: .ref (Z.ad 0) :: rest) := by
  refine L_cVi S.1 S.2.1 S.2.2 (n := 2) (As := [.int (nI k), .int (nI s)]) (rest := rest) (k_X4_tie X.l Z (LA Z) (LA_ok S.2.1) tok ties k s hk hs) ⟨_, _, _, _, rfl, gL_law_X4_tie, rfl, rfl, by decide +kernel, ⟨Nat.le_of_ble_eq_true rfl, Nat.le_of_ble_eq_true rfl⟩⟩ rd_loomL rfl rfl hcat rfl hd (fun r hr => ?_)
  subst hr
  exact kk
theorem q_digest (S : LX X Z ta) (hcat : (rest.map fun v => v.category).sum ≤ 8) (hd : decode code pc = .ok (.invokevirtual 42, 3)) (kk : J X 18 (FW Z (WL Z tok ties) ta f) (pc + 3) lv (.long (digestI tok ties) :: rest)) : J X 18 (FW Z (WL Z tok ties) ta f) pc lv (.ref (Z.ad 0) :: rest) := by
  refine L_cVl S.1 S.2.1 S.2.2 (n := 0) (As := []) (rest := rest) (k_X4_digest X.l Z (LA Z) (LA_ok S.2.1) tok ties ) ⟨_, _, _, _, rfl, gL_law_X4_digest, rfl, rfl, by decide +kernel, ⟨Nat.le_of_ble_eq_true rfl, Nat.le_of_ble_eq_true rfl⟩⟩ rd_loomL rfl rfl hcat rfl hd (fun r hr => ?_)
  subst hr
  exact kk
theorem q_period (S : LX X Z ta) (i : Nat) (hi : i < 10) (hcat : (rest.map fun v => v.category).sum ≤ 8) (hd : decode code pc = .ok (.invokevirtual 46, 3)) (kk : J X 18 (FW Z (WL Z tok ties) ta f) (pc + 3) lv (.int (periodI (num tok i)) :: rest)) : J X 18 (FW Z (WL Z tok ties) ta f) pc lv (.int (nI i) :: .ref (Z.ad 0) :: rest) := by
  refine L_cVi S.1 S.2.1 S.2.2 (n := 1) (As := [.int (nI i)]) (rest := rest) (k_X4_period X.l Z (LA Z) (LA_ok S.2.1) tok ties i hi) ⟨_, _, _, _, rfl, gL_law_X4_period, rfl, rfl, by decide +kernel, ⟨Nat.le_of_ble_eq_true rfl, Nat.le_of_ble_eq_true rfl⟩⟩ rd_loomL rfl rfl hcat rfl hd (fun r hr => ?_)
  subst hr
  exact kk
theorem q_number (S : LX X Z ta) (i k : Nat) (hi : i < 10) (hk : k < (num tok i).length) (hcat : (rest.map fun v => v.category).sum ≤ 8) (hd : decode code pc = .ok (.invokevirtual 50, 3)) (kk : J X 18 (FW Z (WL Z tok ties) ta f) (pc + 3) lv (.int ((num tok i).getD k 0) :: rest)) : J X 18 (FW Z (WL Z tok ties) ta f) pc lv (.int (nI k) :: .int (nI i) :: .ref (Z.ad 0) :: rest) := by
  refine L_cVi S.1 S.2.1 S.2.2 (n := 2) (As := [.int (nI i), .int (nI k)]) (rest := rest) (k_X4_number X.l Z (LA Z) (LA_ok S.2.1) tok ties i k hi hk) ⟨_, _, _, _, rfl, gL_law_X4_number, rfl, rfl, by decide +kernel, ⟨Nat.le_of_ble_eq_true rfl, Nat.le_of_ble_eq_true rfl⟩⟩ rd_loomL rfl rfl hcat rfl hd (fun r hr => ?_)
  subst hr
  exact kk
theorem q_cloth (S : LX X Z ta) (k : Nat) (hk : k ≤ 9) (hcat : (rest.map fun v => v.category).sum ≤ 8) (hd : decode code pc = .ok (.invokevirtual 53, 3)) (kk : J X 18 (FW Z (WL Z tok ties) ta f) (pc + 3) lv (.int (clothI tok ties k) :: rest)) : J X 18 (FW Z (WL Z tok ties) ta f) pc lv (.int (nI k) :: .ref (Z.ad 0) :: rest) := by
  refine L_cVi S.1 S.2.1 S.2.2 (n := 1) (As := [.int (nI k)]) (rest := rest) (k_X4_cloth X.l Z (LA Z) (LA_ok S.2.1) tok ties k hk) ⟨_, _, _, _, rfl, gL_law_X4_cloth, rfl, rfl, by decide +kernel, ⟨Nat.le_of_ble_eq_true rfl, Nat.le_of_ble_eq_true rfl⟩⟩ rd_loomL rfl rfl hcat rfl hd (fun r hr => ?_)
  subst hr
  exact kk
theorem q_tied (S : LX X Z ta) (k : Nat) (hk : k < 8) (hcat : (rest.map fun v => v.category).sum ≤ 8) (hd : decode code pc = .ok (.invokevirtual 56, 3)) (kk : J X 18 (FW Z (WL Z tok ties) ta f) (pc + 3) lv (.int (ties.getD k 0) :: rest)) : J X 18 (FW Z (WL Z tok ties) ta f) pc lv (.int (nI k) :: .ref (Z.ad 0) :: rest) := by
  refine L_cVi S.1 S.2.1 S.2.2 (n := 1) (As := [.int (nI k)]) (rest := rest) (k_X4_tied X.l Z (LA Z) (LA_ok S.2.1) tok ties k hk) ⟨_, _, _, _, rfl, gL_law_X4_tied, rfl, rfl, by decide +kernel, ⟨Nat.le_of_ble_eq_true rfl, Nat.le_of_ble_eq_true rfl⟩⟩ rd_loomL rfl rfl hcat rfl hd (fun r hr => ?_)
  subst hr
  exact kk
theorem q_field (S : LX X Z ta) (x y k : Nat) (hx : x < (EE tok ties).length) (hy : y < (PP tok ties).length) (hk : k ≤ 2) (hcat : (rest.map fun v => v.category).sum ≤ 8) (hd : decode code pc = .ok (.invokevirtual 59, 3)) (kk : J X 18 (FW Z (WL Z tok ties) ta f) (pc + 3) lv (.int (fieldI tok ties x y k) :: rest)) : J X 18 (FW Z (WL Z tok ties) ta f) pc lv (.int (nI k) :: .int (nI y) :: .int (nI x) :: .ref (Z.ad 0) :: rest) := by
  refine L_cVi S.1 S.2.1 S.2.2 (n := 3) (As := [.int (nI x), .int (nI y), .int (nI k)]) (rest := rest) (k_X4_field X.l Z (LA Z) (LA_ok S.2.1) tok ties x y k hx hy hk) ⟨_, _, _, _, rfl, gL_law_X4_field, rfl, rfl, by decide +kernel, ⟨Nat.le_of_ble_eq_true rfl, Nat.le_of_ble_eq_true rfl⟩⟩ rd_loomL rfl rfl hcat rfl hd (fun r hr => ?_)
  subst hr
  exact kk
theorem q_repeat (S : LX X Z ta) (b : Bool) (hcat : (rest.map fun v => v.category).sum ≤ 8) (hd : decode code pc = .ok (.invokevirtual 63, 3)) (kk : J X 18 (FW Z (WL Z tok ties) ta f) (pc + 3) lv (.int (repeatI (EE tok ties) (PP tok ties) b) :: rest)) : J X 18 (FW Z (WL Z tok ties) ta f) pc lv (.int (b2i b) :: .ref (Z.ad 0) :: rest) := by
  refine L_cVi S.1 S.2.1 S.2.2 (n := 1) (As := [.int (b2i b)]) (rest := rest) (k_X4_repeat X.l Z (LA Z) (LA_ok S.2.1) tok ties b) ⟨_, _, _, _, rfl, gL_law_X4_repeat, rfl, rfl, by decide +kernel, ⟨Nat.le_of_ble_eq_true rfl, Nat.le_of_ble_eq_true rfl⟩⟩ rd_loomL rfl rfl hcat rfl hd (fun r hr => ?_)
  subst hr
  exact kk
theorem q_seen (S : LX X Z ta) (k : Nat) (hk : k < 8) (hcat : (rest.map fun v => v.category).sum ≤ 8) (hd : decode code pc = .ok (.invokevirtual 67, 3)) (kk : J X 18 (FW Z (WL Z tok ties) ta f) (pc + 3) lv (.int (seenI tok ties (nI k)) :: rest)) : J X 18 (FW Z (WL Z tok ties) ta f) pc lv (.int (nI k) :: .ref (Z.ad 0) :: rest) := by
  refine L_cVi S.1 S.2.1 S.2.2 (n := 1) (As := [.int (nI k)]) (rest := rest) (k_X4_seen X.l Z (LA Z) (LA_ok S.2.1) tok ties k hk) ⟨_, _, _, _, rfl, gL_law_X4_seen, rfl, rfl, by decide +kernel, ⟨Nat.le_of_ble_eq_true rfl, Nat.le_of_ble_eq_true rfl⟩⟩ rd_loomL rfl rfl hcat rfl hd (fun r hr => ?_)
  subst hr
  exact kk
theorem q_floats (S : LX X Z ta) (m : Nat) (hm1 : 1 ≤ m) (hm2 : m ≤ 32) (hcat : (rest.map fun v => v.category).sum ≤ 8) (hd : decode code pc = .ok (.invokevirtual 70, 3)) (kk : J X 18 (FW Z (WL Z tok ties) ta f) (pc + 3) lv (.int (floatsI (EE tok ties) (PP tok ties) m) :: rest)) : J X 18 (FW Z (WL Z tok ties) ta f) pc lv (.int (nI m) :: .ref (Z.ad 0) :: rest) := by
  refine L_cVi S.1 S.2.1 S.2.2 (n := 1) (As := [.int (nI m)]) (rest := rest) (k_X4_floats X.l Z (LA Z) (LA_ok S.2.1) tok ties m hm1 hm2) ⟨_, _, _, _, rfl, gL_law_X4_floats, rfl, rfl, by decide +kernel, ⟨Nat.le_of_ble_eq_true rfl, Nat.le_of_ble_eq_true rfl⟩⟩ rd_loomL rfl rfl hcat rfl hd (fun r hr => ?_)
  subst hr
  exact kk
theorem q_meanFloat (S : LX X Z ta) (hcat : (rest.map fun v => v.category).sum ≤ 8) (hd : decode code pc = .ok (.invokevirtual 73, 3)) (kk : J X 18 (FW Z (WL Z tok ties) ta f) (pc + 3) lv (.double (meanI (EE tok ties) (PP tok ties)) :: rest)) : J X 18 (FW Z (WL Z tok ties) ta f) pc lv (.ref (Z.ad 0) :: rest) := by
  refine L_cVd S.1 S.2.1 S.2.2 (n := 0) (As := []) (rest := rest) (k_X4_meanFloat X.l Z (LA Z) (LA_ok S.2.1) tok ties ) ⟨_, _, _, _, rfl, gL_law_X4_meanFloat, rfl, rfl, by decide +kernel, ⟨Nat.le_of_ble_eq_true rfl, Nat.le_of_ble_eq_true rfl⟩⟩ rd_loomL rfl rfl hcat rfl hd (fun r hr => ?_)
  subst hr
  exact kk
theorem q_hangs (S : LX X Z ta) (hcat : (rest.map fun v => v.category).sum ≤ 8) (hd : decode code pc = .ok (.invokevirtual 83, 3)) (kk : J X 18 (FW Z (WL Z tok ties) ta f) (pc + 3) lv (.int (b2i (connI (EE tok ties) (PP tok ties))) :: rest)) : J X 18 (FW Z (WL Z tok ties) ta f) pc lv (.ref (Z.ad 0) :: rest) := by
  refine L_cVi S.1 S.2.1 S.2.2 (n := 0) (As := []) (rest := rest) (k_X4_hangs X.l Z (LA Z) (LA_ok S.2.1) tok ties ) ⟨_, _, _, _, rfl, gL_law_X4_hangs, rfl, rfl, by decide +kernel, ⟨Nat.le_of_ble_eq_true rfl, Nat.le_of_ble_eq_true rfl⟩⟩ rd_loomL rfl rfl hcat rfl hd (fun r hr => ?_)
  subst hr
  exact kk
theorem q_reach (S : LX X Z ta) (b : Bool) (hcat : (rest.map fun v => v.category).sum ≤ 8) (hd : decode code pc = .ok (.invokevirtual 87, 3)) (kk : J X 18 (FW Z (WL Z tok ties) ta f) (pc + 3) lv (.int (reachI (EE tok ties) (PP tok ties) b) :: rest)) : J X 18 (FW Z (WL Z tok ties) ta f) pc lv (.int (b2i b) :: .ref (Z.ad 0) :: rest) := by
  refine L_cVi S.1 S.2.1 S.2.2 (n := 1) (As := [.int (b2i b)]) (rest := rest) (k_X4_reach X.l Z (LA Z) (LA_ok S.2.1) tok ties b) ⟨_, _, _, _, rfl, gL_law_X4_reach, rfl, rfl, by decide +kernel, ⟨Nat.le_of_ble_eq_true rfl, Nat.le_of_ble_eq_true rfl⟩⟩ rd_loomL rfl rfl hcat rfl hd (fun r hr => ?_)
  subst hr
  exact kk
theorem q_where (S : LX X Z ta) (m : Nat) (hm1 : 1 ≤ m) (hm2 : m ≤ 32) (b : Bool) (hcat : (rest.map fun v => v.category).sum ≤ 8) (hd : decode code pc = .ok (.invokevirtual 90, 3)) (kk : J X 18 (FW Z (WL Z tok ties) ta f) (pc + 3) lv (.int (whereI (EE tok ties) (PP tok ties) m b) :: rest)) : J X 18 (FW Z (WL Z tok ties) ta f) pc lv (.int (b2i b) :: .int (nI m) :: .ref (Z.ad 0) :: rest) := by
  refine L_cVi S.1 S.2.1 S.2.2 (n := 2) (As := [.int (nI m), .int (b2i b)]) (rest := rest) (k_X4_where X.l Z (LA Z) (LA_ok S.2.1) tok ties m hm1 hm2 b) ⟨_, _, _, _, rfl, gL_law_X4_where, rfl, rfl, by decide +kernel, ⟨Nat.le_of_ble_eq_true rfl, Nat.le_of_ble_eq_true rfl⟩⟩ rd_loomL rfl rfl hcat rfl hd (fun r hr => ?_)
  subst hr
  exact kk
theorem q_changedBy (S : LX X Z ta) (a b : Nat) (ha : a < 8) (hb : b < 8) (hcat : (rest.map fun v => v.category).sum ≤ 8) (hd : decode code pc = .ok (.invokevirtual 94, 3)) (kk : J X 18 (FW Z (WL Z tok ties) ta f) (pc + 3) lv (.int (changedI (EE tok ties) (EE tok (swT ties (nI a) (nI b) 8))) :: rest)) : J X 18 (FW Z (WL Z tok ties) ta f) pc lv (.int (nI b) :: .int (nI a) :: .ref (Z.ad 0) :: rest) := by
  refine L_cVi S.1 S.2.1 S.2.2 (n := 2) (As := [.int (nI a), .int (nI b)]) (rest := rest) (k_X4_changedBy X.l Z (LA Z) (LA_ok S.2.1) tok ties a b ha hb) ⟨_, _, _, _, rfl, gL_law_X4_changedBy, rfl, rfl, by decide +kernel, ⟨Nat.le_of_ble_eq_true rfl, Nat.le_of_ble_eq_true rfl⟩⟩ rd_loomL rfl rfl hcat rfl hd (fun r hr => ?_)
  subst hr
  exact kk
theorem q_floatWith (S : LX X Z ta) (k s : Nat) (hk : k < 8) (hs : s < 8) (hcat : (rest.map fun v => v.category).sum ≤ 8) (hd : decode code pc = .ok (.invokevirtual 97, 3)) (kk : J X 18 (FW Z (WL Z tok ties) ta f) (pc + 3) lv (.int (longestC (EE tok (flipT ties k (nI s))) (PP tok (flipT ties k (nI s)))) :: rest)) : J X 18 (FW Z (WL Z tok ties) ta f) pc lv (.int (nI s) :: .int (nI k) :: .ref (Z.ad 0) :: rest) := by
  refine L_cVi S.1 S.2.1 S.2.2 (n := 2) (As := [.int (nI k), .int (nI s)]) (rest := rest) (k_X4_floatWith X.l Z (LA Z) (LA_ok S.2.1) tok ties k s hk hs) ⟨_, _, _, _, rfl, gL_law_X4_floatWith, rfl, rfl, by decide +kernel, ⟨Nat.le_of_ble_eq_true rfl, Nat.le_of_ble_eq_true rfl⟩⟩ rd_loomL rfl rfl hcat rfl hd (fun r hr => ?_)
  subst hr
  exact kk
theorem q_hangsWith (S : LX X Z ta) (k s : Nat) (hk : k < 8) (hs : s < 8) (hcat : (rest.map fun v => v.category).sum ≤ 8) (hd : decode code pc = .ok (.invokevirtual 100, 3)) (kk : J X 18 (FW Z (WL Z tok ties) ta f) (pc + 3) lv (.int (b2i (connI (EE tok (flipT ties k (nI s))) (PP tok (flipT ties k (nI s))))) :: rest)) : J X 18 (FW Z (WL Z tok ties) ta f) pc lv (.int (nI s) :: .int (nI k) :: .ref (Z.ad 0) :: rest) := by
  refine L_cVi S.1 S.2.1 S.2.2 (n := 2) (As := [.int (nI k), .int (nI s)]) (rest := rest) (k_X4_hangsWith X.l Z (LA Z) (LA_ok S.2.1) tok ties k s hk hs) ⟨_, _, _, _, rfl, gL_law_X4_hangsWith, rfl, rfl, by decide +kernel, ⟨Nat.le_of_ble_eq_true rfl, Nat.le_of_ble_eq_true rfl⟩⟩ rd_loomL rfl rfl hcat rfl hd (fun r hr => ?_)
  subst hr
  exact kk
theorem q_swap (S : LX X Z ta) (a b : Nat) (ha : a < 8) (hb : b < 8) (hcat : (rest.map fun v => v.category).sum ≤ 8) (hd : decode code pc = .ok (.invokevirtual 104, 3)) (kk : J X 18 (FW Z (WL Z tok (swT ties (nI a) (nI b) 8)) ta f) (pc + 3) lv (.int (diffT ties (swT ties (nI a) (nI b) 8)) :: rest)) : J X 18 (FW Z (WL Z tok ties) ta f) pc lv (.int (nI b) :: .int (nI a) :: .ref (Z.ad 0) :: rest) := by
  refine L_cVi S.1 S.2.1 S.2.2 (n := 2) (As := [.int (nI a), .int (nI b)]) (rest := rest) (k_X4_swap X.l Z (LA Z) (LA_ok S.2.1) tok ties a b ha hb) ⟨_, _, _, _, rfl, gL_law_X4_swap, rfl, rfl, by decide +kernel, ⟨Nat.le_of_ble_eq_true rfl, Nat.le_of_ble_eq_true rfl⟩⟩ rd_loomL rfl rfl hcat rfl hd (fun r hr => ?_)
  subst hr
  exact kk
end LQ
