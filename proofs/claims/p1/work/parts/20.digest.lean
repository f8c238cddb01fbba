section JLL
variable {X : Cx} {Z : Zx} {cc : ByteArray} {nL : Nat} {Ts : List Cond} {own : String} {R : Room} {w : Heap → Prop} {pc : Nat} {lv : List (Option Value)} {rest : List Value}
theorem j_lload (S : Fx X Z cc nL Ts own R) {i : Nat} {v : Int64} (hd : decode cc pc = .ok (.lload i, 2)) (hg : lget lv i = some (.long v)) (k : J X nL w (pc + 2) lv (.long v :: rest)) : J X nL w pc lv rest :=
  fun H locs ls hw hS hl => lv_lload S.ex S.by hd (hl.at hg) (k H locs ls hw hS hl)
theorem j_lstore (S : Fx X Z cc nL Ts own R) {i : Nat} {v : Int64} (lv' : List (Option Value)) (hd : decode cc pc = .ok (.lstore i, 2)) (hn : i + 1 < nL) (hok : lok lv i = true) (hl' : lset (lset lv i (some (.long v))) (i + 1) none = lv') (k : J X nL w (pc + 2) lv' rest) : J X nL w pc lv (.long v :: rest) := by
  subst hl'
  exact fun H locs ls hw hS hl => lv_lstore S.ex S.by hd hl hn rfl (fun ls' hl' => k H locs ls' hw hS (lvF.st2 hok hl'))
end JLL
def foldL (g : Int64 → Nat → Int64) (d : Int64) : Nat → Int64
  | 0 => d
  | k + 1 => g (foldL g d k) k
def dgP (tok : Nat → List Int32) (d : Int64) (p : Nat) : Int64 :=
  foldL (fun d k => mixI d ((num tok p).getD k 0)) (mixI (foldL (fun d k => mixI d (progI tok p k)) d 4) (periodI (num tok p))) (num tok p).length
def dg1 (tok : Nat → List Int32) (ties : List Int32) : Int64 := foldL (fun d k => mixI d (clothI tok ties k)) (foldL (fun d k => mixI d (ties.getD k 0)) (foldL (dgP tok) 58095 10) 8) 10
def dg2 (E P : List Int32) (d : Int64) : Int64 := mixI (mixI (mixI (mixI (mixI d (repeatI E P true)) (repeatI E P false)) (b2i (connI E P))) (reachI E P true)) (reachI E P false)
def dg3 (E P : List Int32) (d : Int64) : Int64 := mixI (mixI (mixI d (floatsI E P 2)) (floatsI E P 3)) (floatsI E P 5)
def digestI (tok : Nat → List Int32) (ties : List Int32) : Int64 := foldL (fun d k => mixI d (seenI tok ties (nI k))) (dg3 (EE tok ties) (PP tok ties) (dg2 (EE tok ties) (PP tok ties) (dg1 tok ties))) 4

set_option maxRecDepth 100000 in
set_option maxHeartbeats 4000000 in
theorem k_X4_mixed (l : Launch) (Z : Zx) (A : Nat → Prop) (hA : AdOk Z A) (tok : Nat → List Int32) (ties : List Int32) (d : Int64) (v : Int32) : Km l Z A yX4_mixed wsX4_mixed { frames := 0, cells := 0, slots := 0, locals := 0 } (WL Z tok ties) [.long d, .int v] (Ql (WL Z tok ties) A (fun r => r = mixI d v)) := by
  refine Km.of (cc := cX4_mixed) (maxL := 3) (ret := (some .long)) (by decide) rfl (Nat.le_of_ble_eq_true rfl) hA ?_
  intro X hXl S hAX hRT hXA hQ hXk hXn
  show J X 3 (WL Z tok ties) 0 [some (.long d), none, some (.int v)] []
  refine j_lload_n S dX4_mixed_0 rfl ?_
  refine j_ldc2 S (v := 31) (by decide +kernel) dX4_mixed_1 ?_
  refine j_lmul S (d * 31) dX4_mixed_4 rfl ?_
  refine j_iload_n S dX4_mixed_5 rfl ?_
  refine j_i2l S v.toInt64 dX4_mixed_6 rfl ?_
  refine j_ladd S (mixI d v) dX4_mixed_7 rfl ?_
  exact j_lreturn S hRT hXA hQ hXk hXn dX4_mixed_8 rfl (fun H h => h)

theorem jWLc {X : Cx} {Z : Zx} {nL pc : Nat} {tok : Nat → List Int32} {ties : List Int32} {lv : List (Option Value)} {st : List Value} (k : (∀ i, i < 10 → (num tok i).length ≤ 32) → J X nL (WL Z tok ties) pc lv st) : J X nL (WL Z tok ties) pc lv st := fun H locs ls hw hS hl => by
  refine k (fun i hi => ?_) H locs ls hw hS hl
  obtain ⟨σ, h1, h2⟩ := hw
  exact res_len h1 (fun r hr => h2.cap hr) hi

set_option maxRecDepth 100000 in
set_option maxHeartbeats 4000000 in
theorem k_X4_digestOfProgram (l : Launch) (Z : Zx) (A : Nat → Prop) (hA : AdOk Z A) (tok : Nat → List Int32) (ties : List Int32) (d : Int64) (p : Nat) (hp : p < 10) : Km l Z A yX4_digestOfProgram wsX4_digestOfProgram { frames := 4, cells := 0, slots := 0, locals := 85 } (WL Z tok ties) [.ref (Z.ad 0), .long d, .int (nI p)] (Ql (WL Z tok ties) A (fun r => r = dgP tok d p)) := by
  refine Km.of (cc := cX4_digestOfProgram) (maxL := 8) (ret := (some .long)) (by decide) rfl (Nat.le_of_ble_eq_true rfl) hA ?_
  intro X hXl S hAX hRT hXA hQ hXk hXn
  show J X 8 (WL Z tok ties) 0 [some (.ref (Z.ad 0)), some (.long d), none, some (.int (nI p)), none, none, none, none] []
  refine jWLc (fun hN => ?_)
  have loop2 : ∀ (f k : Nat), k + f = (num tok p).length → J X 8 (WL Z tok ties) 55 [some (.ref (Z.ad 0)), some (.long d), none, some (.int (nI p)), some (.long (foldL (fun d k => mixI d ((num tok p).getD k 0)) (mixI (foldL (fun d k => mixI d (progI tok p k)) d 4) (periodI (num tok p))) k)), none, some (.int (nI (num tok p).length)), some (.int (nI k))] [] := by
    intro f
    induction f with
    | zero =>
      intro k hk
      refine j_iload S dX4_digestOfProgram_55 rfl ?_
      refine j_iload S dX4_digestOfProgram_57 rfl ?_
      refine j_icmp_ge S 82 dX4_digestOfProgram_59 (by decide) (fun _ => ?_) (fun h9 => absurd (by have := hN p hp; rw [nI_leI (by omega) (by omega)]; omega) h9)
      refine j_lload S dX4_digestOfProgram_82 rfl ?_
      obtain rfl : k = (num tok p).length := by omega
      exact j_lreturn S hRT hXA hQ hXk hXn dX4_digestOfProgram_84 rfl (fun H h => h)
    | succ f ih =>
      intro k hk
      refine j_iload S dX4_digestOfProgram_55 rfl ?_
      refine j_iload S dX4_digestOfProgram_57 rfl ?_
      refine j_icmp_ge S 82 dX4_digestOfProgram_59 (by decide) (fun h9 => absurd h9 (by have := hN p hp; rw [nI_leI (by omega) (by omega)]; omega)) (fun _ => ?_)
      refine j_lload S dX4_digestOfProgram_62 rfl ?_
      refine j_aload_n S dX4_digestOfProgram_64 rfl ?_
      refine j_iload_n S dX4_digestOfProgram_65 rfl ?_
      refine j_iload S dX4_digestOfProgram_66 rfl ?_
      refine j_cVi S (n := 2) (rest := [.long (foldL (fun d k => mixI d ((num tok p).getD k 0)) (mixI (foldL (fun d k => mixI d (progI tok p k)) d 4) (periodI (num tok p))) k)]) (k_X4_number X.l Z X.A hAX tok ties p k hp (by omega)) ⟨_, _, _, _, rfl, gX4_digestOfProgram_X4_number, rfl, rfl, by decide +kernel, ⟨Nat.le_of_ble_eq_true rfl, Nat.le_of_ble_eq_true rfl⟩⟩ rd_loomL rfl rfl (Nat.le_of_ble_eq_true rfl) rfl dX4_digestOfProgram_68 (fun v9 hv9 => ?_)
      subst hv9
      show J X 8 (WL Z tok ties) 71 [some (.ref (Z.ad 0)), some (.long d), none, some (.int (nI p)), some (.long (foldL (fun d k => mixI d ((num tok p).getD k 0)) (mixI (foldL (fun d k => mixI d (progI tok p k)) d 4) (periodI (num tok p))) k)), none, some (.int (nI (num tok p).length)), some (.int (nI k))] [.int ((num tok p).getD k 0), .long (foldL (fun d k => mixI d ((num tok p).getD k 0)) (mixI (foldL (fun d k => mixI d (progI tok p k)) d 4) (periodI (num tok p))) k)]
      refine j_cSl S (n := 2) (rest := []) (k_X4_mixed X.l Z X.A hAX tok ties (foldL (fun d k => mixI d ((num tok p).getD k 0)) (mixI (foldL (fun d k => mixI d (progI tok p k)) d 4) (periodI (num tok p))) k) ((num tok p).getD k 0)) ⟨_, _, _, _, rfl, gX4_digestOfProgram_X4_mixed, rfl, rfl, by decide +kernel, ⟨Nat.le_of_ble_eq_true rfl, Nat.le_of_ble_eq_true rfl⟩⟩ rfl (Nat.le_of_ble_eq_true rfl) rfl dX4_digestOfProgram_71 (fun v9 hv9 => ?_)
      subst hv9
      show J X 8 (WL Z tok ties) 74 [some (.ref (Z.ad 0)), some (.long d), none, some (.int (nI p)), some (.long (foldL (fun d k => mixI d ((num tok p).getD k 0)) (mixI (foldL (fun d k => mixI d (progI tok p k)) d 4) (periodI (num tok p))) k)), none, some (.int (nI (num tok p).length)), some (.int (nI k))] [.long (mixI (foldL (fun d k => mixI d ((num tok p).getD k 0)) (mixI (foldL (fun d k => mixI d (progI tok p k)) d 4) (periodI (num tok p))) k) ((num tok p).getD k 0))]
      show J X 8 (WL Z tok ties) 74 [some (.ref (Z.ad 0)), some (.long d), none, some (.int (nI p)), some (.long (foldL (fun d k => mixI d ((num tok p).getD k 0)) (mixI (foldL (fun d k => mixI d (progI tok p k)) d 4) (periodI (num tok p))) k)), none, some (.int (nI (num tok p).length)), some (.int (nI k))] [.long (foldL (fun d k => mixI d ((num tok p).getD k 0)) (mixI (foldL (fun d k => mixI d (progI tok p k)) d 4) (periodI (num tok p))) (k + 1))]
      refine j_lstore S [some (.ref (Z.ad 0)), some (.long d), none, some (.int (nI p)), some (.long (foldL (fun d k => mixI d ((num tok p).getD k 0)) (mixI (foldL (fun d k => mixI d (progI tok p k)) d 4) (periodI (num tok p))) (k + 1))), none, some (.int (nI (num tok p).length)), some (.int (nI k))] dX4_digestOfProgram_74 (by decide) rfl rfl ?_
      refine j_iinc S (nI (k + 1)) [some (.ref (Z.ad 0)), some (.long d), none, some (.int (nI p)), some (.long (foldL (fun d k => mixI d ((num tok p).getD k 0)) (mixI (foldL (fun d k => mixI d (progI tok p k)) d 4) (periodI (num tok p))) (k + 1))), none, some (.int (nI (num tok p).length)), some (.int (nI (k + 1)))] dX4_digestOfProgram_76 rfl (nI_1 k) (by decide) rfl rfl ?_
      refine j_goto S 55 dX4_digestOfProgram_79 (by decide) ?_
      exact ih (k + 1) (by omega)
  have loop1 : ∀ (f k : Nat), k + f = 4 → J X 8 (WL Z tok ties) 6 [some (.ref (Z.ad 0)), some (.long d), none, some (.int (nI p)), some (.long (foldL (fun d k => mixI d (progI tok p k)) d k)), none, some (.int (nI k)), none] [] := by
    intro f
    induction f with
    | zero =>
      intro k hk
      refine j_iload S dX4_digestOfProgram_6 rfl ?_
      refine j_iconst S 3 dX4_digestOfProgram_8 (by decide) ?_
      refine j_icmp_gt S 32 dX4_digestOfProgram_9 (by decide) (fun _ => ?_) (fun h9 => absurd (by rw [show (3 : Int32) = nI 3 from rfl, nI_ltI (by omega) (by omega)]; omega) h9)
      obtain rfl : k = 4 := by omega
      refine j_lload S dX4_digestOfProgram_32 rfl ?_
      refine j_aload_n S dX4_digestOfProgram_34 rfl ?_
      refine j_iload_n S dX4_digestOfProgram_35 rfl ?_
      refine j_cVi S (n := 1) (rest := [.long (foldL (fun d k => mixI d (progI tok p k)) d 4)]) (k_X4_period X.l Z X.A hAX tok ties p hp) ⟨_, _, _, _, rfl, gX4_digestOfProgram_X4_period, rfl, rfl, by decide +kernel, ⟨Nat.le_of_ble_eq_true rfl, Nat.le_of_ble_eq_true rfl⟩⟩ rd_loomL rfl rfl (Nat.le_of_ble_eq_true rfl) rfl dX4_digestOfProgram_36 (fun v9 hv9 => ?_)
      subst hv9
      show J X 8 (WL Z tok ties) 39 [some (.ref (Z.ad 0)), some (.long d), none, some (.int (nI p)), some (.long (foldL (fun d k => mixI d (progI tok p k)) d 4)), none, some (.int (nI 4)), none] [.int (periodI (num tok p)), .long (foldL (fun d k => mixI d (progI tok p k)) d 4)]
      refine j_cSl S (n := 2) (rest := []) (k_X4_mixed X.l Z X.A hAX tok ties (foldL (fun d k => mixI d (progI tok p k)) d 4) (periodI (num tok p))) ⟨_, _, _, _, rfl, gX4_digestOfProgram_X4_mixed, rfl, rfl, by decide +kernel, ⟨Nat.le_of_ble_eq_true rfl, Nat.le_of_ble_eq_true rfl⟩⟩ rfl (Nat.le_of_ble_eq_true rfl) rfl dX4_digestOfProgram_39 (fun v9 hv9 => ?_)
      subst hv9
      show J X 8 (WL Z tok ties) 42 [some (.ref (Z.ad 0)), some (.long d), none, some (.int (nI p)), some (.long (foldL (fun d k => mixI d (progI tok p k)) d 4)), none, some (.int (nI 4)), none] [.long (mixI (foldL (fun d k => mixI d (progI tok p k)) d 4) (periodI (num tok p)))]
      refine j_lstore S [some (.ref (Z.ad 0)), some (.long d), none, some (.int (nI p)), some (.long (mixI (foldL (fun d k => mixI d (progI tok p k)) d 4) (periodI (num tok p)))), none, some (.int (nI 4)), none] dX4_digestOfProgram_42 (by decide) rfl rfl ?_
      refine j_aload_n S dX4_digestOfProgram_44 rfl ?_
      refine j_iload_n S dX4_digestOfProgram_45 rfl ?_
      refine j_iconst S 1 dX4_digestOfProgram_46 (by decide) ?_
      refine j_cVi S (n := 2) (rest := []) (k_X4_ofProgram X.l Z X.A hAX tok ties p 1 hp (by decide)) ⟨_, _, _, _, rfl, gX4_digestOfProgram_X4_ofProgram, rfl, rfl, by decide +kernel, ⟨Nat.le_of_ble_eq_true rfl, Nat.le_of_ble_eq_true rfl⟩⟩ rd_loomL rfl rfl (Nat.le_of_ble_eq_true rfl) rfl dX4_digestOfProgram_47 (fun v9 hv9 => ?_)
      subst hv9
      show J X 8 (WL Z tok ties) 50 [some (.ref (Z.ad 0)), some (.long d), none, some (.int (nI p)), some (.long (mixI (foldL (fun d k => mixI d (progI tok p k)) d 4) (periodI (num tok p)))), none, some (.int (nI 4)), none] [.int (progI tok p 1)]
      refine j_istore S [some (.ref (Z.ad 0)), some (.long d), none, some (.int (nI p)), some (.long (mixI (foldL (fun d k => mixI d (progI tok p k)) d 4) (periodI (num tok p)))), none, some (.int (progI tok p 1)), none] dX4_digestOfProgram_50 (by decide) rfl rfl ?_
      refine j_iconst S 0 dX4_digestOfProgram_52 (by decide) ?_
      refine j_istore S [some (.ref (Z.ad 0)), some (.long d), none, some (.int (nI p)), some (.long (mixI (foldL (fun d k => mixI d (progI tok p k)) d 4) (periodI (num tok p)))), none, some (.int (progI tok p 1)), some (.int 0)] dX4_digestOfProgram_53 (by decide) rfl rfl ?_
      show J X 8 (WL Z tok ties) 55 [some (.ref (Z.ad 0)), some (.long d), none, some (.int (nI p)), some (.long (foldL (fun d k => mixI d ((num tok p).getD k 0)) (mixI (foldL (fun d k => mixI d (progI tok p k)) d 4) (periodI (num tok p))) 0)), none, some (.int (nI (num tok p).length)), some (.int (nI 0))] []
      exact loop2 (num tok p).length 0 (by omega)
    | succ f ih =>
      intro k hk
      refine j_iload S dX4_digestOfProgram_6 rfl ?_
      refine j_iconst S 3 dX4_digestOfProgram_8 (by decide) ?_
      refine j_icmp_gt S 32 dX4_digestOfProgram_9 (by decide) (fun h9 => absurd h9 (by rw [show (3 : Int32) = nI 3 from rfl, nI_ltI (by omega) (by omega)]; omega)) (fun _ => ?_)
      refine j_lload S dX4_digestOfProgram_12 rfl ?_
      refine j_aload_n S dX4_digestOfProgram_14 rfl ?_
      refine j_iload_n S dX4_digestOfProgram_15 rfl ?_
      refine j_iload S dX4_digestOfProgram_16 rfl ?_
      refine j_cVi S (n := 2) (rest := [.long (foldL (fun d k => mixI d (progI tok p k)) d k)]) (k_X4_ofProgram X.l Z X.A hAX tok ties p k hp (by omega)) ⟨_, _, _, _, rfl, gX4_digestOfProgram_X4_ofProgram, rfl, rfl, by decide +kernel, ⟨Nat.le_of_ble_eq_true rfl, Nat.le_of_ble_eq_true rfl⟩⟩ rd_loomL rfl rfl (Nat.le_of_ble_eq_true rfl) rfl dX4_digestOfProgram_18 (fun v9 hv9 => ?_)
      subst hv9
      show J X 8 (WL Z tok ties) 21 [some (.ref (Z.ad 0)), some (.long d), none, some (.int (nI p)), some (.long (foldL (fun d k => mixI d (progI tok p k)) d k)), none, some (.int (nI k)), none] [.int (progI tok p k), .long (foldL (fun d k => mixI d (progI tok p k)) d k)]
      refine j_cSl S (n := 2) (rest := []) (k_X4_mixed X.l Z X.A hAX tok ties (foldL (fun d k => mixI d (progI tok p k)) d k) (progI tok p k)) ⟨_, _, _, _, rfl, gX4_digestOfProgram_X4_mixed, rfl, rfl, by decide +kernel, ⟨Nat.le_of_ble_eq_true rfl, Nat.le_of_ble_eq_true rfl⟩⟩ rfl (Nat.le_of_ble_eq_true rfl) rfl dX4_digestOfProgram_21 (fun v9 hv9 => ?_)
      subst hv9
      show J X 8 (WL Z tok ties) 24 [some (.ref (Z.ad 0)), some (.long d), none, some (.int (nI p)), some (.long (foldL (fun d k => mixI d (progI tok p k)) d k)), none, some (.int (nI k)), none] [.long (mixI (foldL (fun d k => mixI d (progI tok p k)) d k) (progI tok p k))]
      show J X 8 (WL Z tok ties) 24 [some (.ref (Z.ad 0)), some (.long d), none, some (.int (nI p)), some (.long (foldL (fun d k => mixI d (progI tok p k)) d k)), none, some (.int (nI k)), none] [.long (foldL (fun d k => mixI d (progI tok p k)) d (k + 1))]
      refine j_lstore S [some (.ref (Z.ad 0)), some (.long d), none, some (.int (nI p)), some (.long (foldL (fun d k => mixI d (progI tok p k)) d (k + 1))), none, some (.int (nI k)), none] dX4_digestOfProgram_24 (by decide) rfl rfl ?_
      refine j_iinc S (nI (k + 1)) [some (.ref (Z.ad 0)), some (.long d), none, some (.int (nI p)), some (.long (foldL (fun d k => mixI d (progI tok p k)) d (k + 1))), none, some (.int (nI (k + 1))), none] dX4_digestOfProgram_26 rfl (nI_1 k) (by decide) rfl rfl ?_
      refine j_goto S 6 dX4_digestOfProgram_29 (by decide) ?_
      exact ih (k + 1) (by omega)
  refine j_lload_n S dX4_digestOfProgram_0 rfl ?_
  refine j_lstore S [some (.ref (Z.ad 0)), some (.long d), none, some (.int (nI p)), some (.long d), none, none, none] dX4_digestOfProgram_1 (by decide) rfl rfl ?_
  refine j_iconst S 0 dX4_digestOfProgram_3 (by decide) ?_
  refine j_istore S [some (.ref (Z.ad 0)), some (.long d), none, some (.int (nI p)), some (.long d), none, some (.int 0), none] dX4_digestOfProgram_4 (by decide) rfl rfl ?_
  exact loop1 4 0 rfl

set_option maxRecDepth 100000 in
set_option maxHeartbeats 4000000 in
theorem k_X4_digest (l : Launch) (Z : Zx) (A : Nat → Prop) (hA : AdOk Z A) (tok : Nat → List Int32) (ties : List Int32) : Km l Z A yX4_digest wsX4_digest { frames := 7, cells := 0, slots := 0, locals := 153 } (WL Z tok ties) [.ref (Z.ad 0)] (Ql (WL Z tok ties) A (fun r => r = digestI tok ties)) := by
  refine Km.of (cc := cX4_digest) (maxL := 4) (ret := (some .long)) (by decide) rfl (Nat.le_of_ble_eq_true rfl) hA ?_
  intro X hXl S hAX hRT hXA hQ hXk hXn
  show J X 4 (WL Z tok ties) 0 [some (.ref (Z.ad 0)), none, none, none] []
  have l4 : ∀ (f k : Nat), k + f = 4 → J X 4 (WL Z tok ties) 162 [some (.ref (Z.ad 0)), some (.long (foldL (fun d k => mixI d (seenI tok ties (nI k))) (dg3 (EE tok ties) (PP tok ties) (dg2 (EE tok ties) (PP tok ties) (dg1 tok ties))) k)), none, some (.int (nI k))] [] := by
    intro f
    induction f with
    | zero =>
      intro k hk
      refine j_iload_n S dX4_digest_162 rfl ?_
      refine j_iconst S 3 dX4_digest_163 (by decide) ?_
      refine j_icmp_gt S 183 dX4_digest_164 (by decide) (fun _ => ?_) (fun h9 => absurd (by rw [show (3 : Int32) = nI 3 from rfl, nI_ltI (by omega) (by omega)]; omega) h9)
      obtain rfl : k = 4 := by omega
      refine j_lload_n S dX4_digest_183 rfl ?_
      exact j_lreturn S hRT hXA hQ hXk hXn dX4_digest_184 rfl (fun H h => h)
    | succ f ih =>
      intro k hk
      refine j_iload_n S dX4_digest_162 rfl ?_
      refine j_iconst S 3 dX4_digest_163 (by decide) ?_
      refine j_icmp_gt S 183 dX4_digest_164 (by decide) (fun h9 => absurd h9 (by rw [show (3 : Int32) = nI 3 from rfl, nI_ltI (by omega) (by omega)]; omega)) (fun _ => ?_)
      refine j_lload_n S dX4_digest_167 rfl ?_
      refine j_aload_n S dX4_digest_168 rfl ?_
      refine j_iload_n S dX4_digest_169 rfl ?_
      refine j_cVi S (n := 1) (rest := [.long (foldL (fun d k => mixI d (seenI tok ties (nI k))) (dg3 (EE tok ties) (PP tok ties) (dg2 (EE tok ties) (PP tok ties) (dg1 tok ties))) k)]) (k_X4_seen X.l Z X.A hAX tok ties k (by omega)) ⟨_, _, _, _, rfl, gX4_digest_X4_seen, rfl, rfl, by decide +kernel, ⟨Nat.le_of_ble_eq_true rfl, Nat.le_of_ble_eq_true rfl⟩⟩ rd_loomL rfl rfl (Nat.le_of_ble_eq_true rfl) rfl dX4_digest_170 (fun v9 hv9 => ?_)
      subst hv9
      show J X 4 (WL Z tok ties) 173 [some (.ref (Z.ad 0)), some (.long (foldL (fun d k => mixI d (seenI tok ties (nI k))) (dg3 (EE tok ties) (PP tok ties) (dg2 (EE tok ties) (PP tok ties) (dg1 tok ties))) k)), none, some (.int (nI k))] [.int (seenI tok ties (nI k)), .long (foldL (fun d k => mixI d (seenI tok ties (nI k))) (dg3 (EE tok ties) (PP tok ties) (dg2 (EE tok ties) (PP tok ties) (dg1 tok ties))) k)]
      refine j_cSl S (n := 2) (rest := []) (k_X4_mixed X.l Z X.A hAX tok ties (foldL (fun d k => mixI d (seenI tok ties (nI k))) (dg3 (EE tok ties) (PP tok ties) (dg2 (EE tok ties) (PP tok ties) (dg1 tok ties))) k) (seenI tok ties (nI k))) ⟨_, _, _, _, rfl, gX4_digest_X4_mixed, rfl, rfl, by decide +kernel, ⟨Nat.le_of_ble_eq_true rfl, Nat.le_of_ble_eq_true rfl⟩⟩ rfl (Nat.le_of_ble_eq_true rfl) rfl dX4_digest_173 (fun v9 hv9 => ?_)
      subst hv9
      show J X 4 (WL Z tok ties) 176 [some (.ref (Z.ad 0)), some (.long (foldL (fun d k => mixI d (seenI tok ties (nI k))) (dg3 (EE tok ties) (PP tok ties) (dg2 (EE tok ties) (PP tok ties) (dg1 tok ties))) k)), none, some (.int (nI k))] [.long (mixI (foldL (fun d k => mixI d (seenI tok ties (nI k))) (dg3 (EE tok ties) (PP tok ties) (dg2 (EE tok ties) (PP tok ties) (dg1 tok ties))) k) (seenI tok ties (nI k)))]
      show J X 4 (WL Z tok ties) 176 [some (.ref (Z.ad 0)), some (.long (foldL (fun d k => mixI d (seenI tok ties (nI k))) (dg3 (EE tok ties) (PP tok ties) (dg2 (EE tok ties) (PP tok ties) (dg1 tok ties))) k)), none, some (.int (nI k))] [.long (foldL (fun d k => mixI d (seenI tok ties (nI k))) (dg3 (EE tok ties) (PP tok ties) (dg2 (EE tok ties) (PP tok ties) (dg1 tok ties))) (k + 1))]
      refine j_lstore_n S [some (.ref (Z.ad 0)), some (.long (foldL (fun d k => mixI d (seenI tok ties (nI k))) (dg3 (EE tok ties) (PP tok ties) (dg2 (EE tok ties) (PP tok ties) (dg1 tok ties))) (k + 1))), none, some (.int (nI k))] dX4_digest_176 (by decide) rfl rfl ?_
      refine j_iinc S (nI (k + 1)) [some (.ref (Z.ad 0)), some (.long (foldL (fun d k => mixI d (seenI tok ties (nI k))) (dg3 (EE tok ties) (PP tok ties) (dg2 (EE tok ties) (PP tok ties) (dg1 tok ties))) (k + 1))), none, some (.int (nI (k + 1)))] dX4_digest_177 rfl (nI_1 k) (by decide) rfl rfl ?_
      refine j_goto S 162 dX4_digest_180 (by decide) ?_
      exact ih (k + 1) (by omega)
  have mid2 : ∀ x : Int32, J X 4 (WL Z tok ties) 130 [some (.ref (Z.ad 0)), some (.long (dg2 (EE tok ties) (PP tok ties) (dg1 tok ties))), none, some (.int x)] [] := by
    intro x
    refine j_lload_n S dX4_digest_130 rfl ?_
    refine j_aload_n S dX4_digest_131 rfl ?_
    refine j_iconst S 2 dX4_digest_132 (by decide) ?_
    refine j_cVi S (n := 1) (rest := [.long (dg2 (EE tok ties) (PP tok ties) (dg1 tok ties))]) (k_X4_floats X.l Z X.A hAX tok ties 2 (by decide) (by decide)) ⟨_, _, _, _, rfl, gX4_digest_X4_floats, rfl, rfl, by decide +kernel, ⟨Nat.le_of_ble_eq_true rfl, Nat.le_of_ble_eq_true rfl⟩⟩ rd_loomL rfl rfl (Nat.le_of_ble_eq_true rfl) rfl dX4_digest_133 (fun v9 hv9 => ?_)
    subst hv9
    show J X 4 (WL Z tok ties) 136 [some (.ref (Z.ad 0)), some (.long (dg2 (EE tok ties) (PP tok ties) (dg1 tok ties))), none, some (.int x)] [.int (floatsI (EE tok ties) (PP tok ties) 2), .long (dg2 (EE tok ties) (PP tok ties) (dg1 tok ties))]
    refine j_cSl S (n := 2) (rest := []) (k_X4_mixed X.l Z X.A hAX tok ties (dg2 (EE tok ties) (PP tok ties) (dg1 tok ties)) (floatsI (EE tok ties) (PP tok ties) 2)) ⟨_, _, _, _, rfl, gX4_digest_X4_mixed, rfl, rfl, by decide +kernel, ⟨Nat.le_of_ble_eq_true rfl, Nat.le_of_ble_eq_true rfl⟩⟩ rfl (Nat.le_of_ble_eq_true rfl) rfl dX4_digest_136 (fun v9 hv9 => ?_)
    subst hv9
    show J X 4 (WL Z tok ties) 139 [some (.ref (Z.ad 0)), some (.long (dg2 (EE tok ties) (PP tok ties) (dg1 tok ties))), none, some (.int x)] [.long (mixI (dg2 (EE tok ties) (PP tok ties) (dg1 tok ties)) (floatsI (EE tok ties) (PP tok ties) 2))]
    refine j_lstore_n S [some (.ref (Z.ad 0)), some (.long (mixI (dg2 (EE tok ties) (PP tok ties) (dg1 tok ties)) (floatsI (EE tok ties) (PP tok ties) 2))), none, some (.int x)] dX4_digest_139 (by decide) rfl rfl ?_
    refine j_lload_n S dX4_digest_140 rfl ?_
    refine j_aload_n S dX4_digest_141 rfl ?_
    refine j_iconst S 3 dX4_digest_142 (by decide) ?_
    refine j_cVi S (n := 1) (rest := [.long (mixI (dg2 (EE tok ties) (PP tok ties) (dg1 tok ties)) (floatsI (EE tok ties) (PP tok ties) 2))]) (k_X4_floats X.l Z X.A hAX tok ties 3 (by decide) (by decide)) ⟨_, _, _, _, rfl, gX4_digest_X4_floats, rfl, rfl, by decide +kernel, ⟨Nat.le_of_ble_eq_true rfl, Nat.le_of_ble_eq_true rfl⟩⟩ rd_loomL rfl rfl (Nat.le_of_ble_eq_true rfl) rfl dX4_digest_143 (fun v9 hv9 => ?_)
    subst hv9
    show J X 4 (WL Z tok ties) 146 [some (.ref (Z.ad 0)), some (.long (mixI (dg2 (EE tok ties) (PP tok ties) (dg1 tok ties)) (floatsI (EE tok ties) (PP tok ties) 2))), none, some (.int x)] [.int (floatsI (EE tok ties) (PP tok ties) 3), .long (mixI (dg2 (EE tok ties) (PP tok ties) (dg1 tok ties)) (floatsI (EE tok ties) (PP tok ties) 2))]
    refine j_cSl S (n := 2) (rest := []) (k_X4_mixed X.l Z X.A hAX tok ties (mixI (dg2 (EE tok ties) (PP tok ties) (dg1 tok ties)) (floatsI (EE tok ties) (PP tok ties) 2)) (floatsI (EE tok ties) (PP tok ties) 3)) ⟨_, _, _, _, rfl, gX4_digest_X4_mixed, rfl, rfl, by decide +kernel, ⟨Nat.le_of_ble_eq_true rfl, Nat.le_of_ble_eq_true rfl⟩⟩ rfl (Nat.le_of_ble_eq_true rfl) rfl dX4_digest_146 (fun v9 hv9 => ?_)
    subst hv9
    show J X 4 (WL Z tok ties) 149 [some (.ref (Z.ad 0)), some (.long (mixI (dg2 (EE tok ties) (PP tok ties) (dg1 tok ties)) (floatsI (EE tok ties) (PP tok ties) 2))), none, some (.int x)] [.long (mixI (mixI (dg2 (EE tok ties) (PP tok ties) (dg1 tok ties)) (floatsI (EE tok ties) (PP tok ties) 2)) (floatsI (EE tok ties) (PP tok ties) 3))]
    refine j_lstore_n S [some (.ref (Z.ad 0)), some (.long (mixI (mixI (dg2 (EE tok ties) (PP tok ties) (dg1 tok ties)) (floatsI (EE tok ties) (PP tok ties) 2)) (floatsI (EE tok ties) (PP tok ties) 3))), none, some (.int x)] dX4_digest_149 (by decide) rfl rfl ?_
    refine j_lload_n S dX4_digest_150 rfl ?_
    refine j_aload_n S dX4_digest_151 rfl ?_
    refine j_iconst S 5 dX4_digest_152 (by decide) ?_
    refine j_cVi S (n := 1) (rest := [.long (mixI (mixI (dg2 (EE tok ties) (PP tok ties) (dg1 tok ties)) (floatsI (EE tok ties) (PP tok ties) 2)) (floatsI (EE tok ties) (PP tok ties) 3))]) (k_X4_floats X.l Z X.A hAX tok ties 5 (by decide) (by decide)) ⟨_, _, _, _, rfl, gX4_digest_X4_floats, rfl, rfl, by decide +kernel, ⟨Nat.le_of_ble_eq_true rfl, Nat.le_of_ble_eq_true rfl⟩⟩ rd_loomL rfl rfl (Nat.le_of_ble_eq_true rfl) rfl dX4_digest_153 (fun v9 hv9 => ?_)
    subst hv9
    show J X 4 (WL Z tok ties) 156 [some (.ref (Z.ad 0)), some (.long (mixI (mixI (dg2 (EE tok ties) (PP tok ties) (dg1 tok ties)) (floatsI (EE tok ties) (PP tok ties) 2)) (floatsI (EE tok ties) (PP tok ties) 3))), none, some (.int x)] [.int (floatsI (EE tok ties) (PP tok ties) 5), .long (mixI (mixI (dg2 (EE tok ties) (PP tok ties) (dg1 tok ties)) (floatsI (EE tok ties) (PP tok ties) 2)) (floatsI (EE tok ties) (PP tok ties) 3))]
    refine j_cSl S (n := 2) (rest := []) (k_X4_mixed X.l Z X.A hAX tok ties (mixI (mixI (dg2 (EE tok ties) (PP tok ties) (dg1 tok ties)) (floatsI (EE tok ties) (PP tok ties) 2)) (floatsI (EE tok ties) (PP tok ties) 3)) (floatsI (EE tok ties) (PP tok ties) 5)) ⟨_, _, _, _, rfl, gX4_digest_X4_mixed, rfl, rfl, by decide +kernel, ⟨Nat.le_of_ble_eq_true rfl, Nat.le_of_ble_eq_true rfl⟩⟩ rfl (Nat.le_of_ble_eq_true rfl) rfl dX4_digest_156 (fun v9 hv9 => ?_)
    subst hv9
    show J X 4 (WL Z tok ties) 159 [some (.ref (Z.ad 0)), some (.long (mixI (mixI (dg2 (EE tok ties) (PP tok ties) (dg1 tok ties)) (floatsI (EE tok ties) (PP tok ties) 2)) (floatsI (EE tok ties) (PP tok ties) 3))), none, some (.int x)] [.long (mixI (mixI (mixI (dg2 (EE tok ties) (PP tok ties) (dg1 tok ties)) (floatsI (EE tok ties) (PP tok ties) 2)) (floatsI (EE tok ties) (PP tok ties) 3)) (floatsI (EE tok ties) (PP tok ties) 5))]
    refine j_lstore_n S [some (.ref (Z.ad 0)), some (.long (mixI (mixI (mixI (dg2 (EE tok ties) (PP tok ties) (dg1 tok ties)) (floatsI (EE tok ties) (PP tok ties) 2)) (floatsI (EE tok ties) (PP tok ties) 3)) (floatsI (EE tok ties) (PP tok ties) 5))), none, some (.int x)] dX4_digest_159 (by decide) rfl rfl ?_
    refine j_iconst S 0 dX4_digest_160 (by decide) ?_
    refine j_istore_n S [some (.ref (Z.ad 0)), some (.long (mixI (mixI (mixI (dg2 (EE tok ties) (PP tok ties) (dg1 tok ties)) (floatsI (EE tok ties) (PP tok ties) 2)) (floatsI (EE tok ties) (PP tok ties) 3)) (floatsI (EE tok ties) (PP tok ties) 5))), none, some (.int 0)] dX4_digest_161 (by decide) rfl rfl ?_
    exact l4 4 0 rfl
  have mid1 : ∀ x : Int32, J X 4 (WL Z tok ties) 109 [some (.ref (Z.ad 0)), some (.long (mixI (mixI (dg1 tok ties) (repeatI (EE tok ties) (PP tok ties) true)) (repeatI (EE tok ties) (PP tok ties) false))), none, some (.int x)] [.long (mixI (mixI (mixI (dg1 tok ties) (repeatI (EE tok ties) (PP tok ties) true)) (repeatI (EE tok ties) (PP tok ties) false)) (b2i (connI (EE tok ties) (PP tok ties))))] := by
    intro x
    refine j_lstore_n S [some (.ref (Z.ad 0)), some (.long (mixI (mixI (mixI (dg1 tok ties) (repeatI (EE tok ties) (PP tok ties) true)) (repeatI (EE tok ties) (PP tok ties) false)) (b2i (connI (EE tok ties) (PP tok ties))))), none, some (.int x)] dX4_digest_109 (by decide) rfl rfl ?_
    refine j_lload_n S dX4_digest_110 rfl ?_
    refine j_aload_n S dX4_digest_111 rfl ?_
    refine j_iconst S 1 dX4_digest_112 (by decide) ?_
    refine j_cVi S (n := 1) (rest := [.long (mixI (mixI (mixI (dg1 tok ties) (repeatI (EE tok ties) (PP tok ties) true)) (repeatI (EE tok ties) (PP tok ties) false)) (b2i (connI (EE tok ties) (PP tok ties))))]) (k_X4_reach X.l Z X.A hAX tok ties true) ⟨_, _, _, _, rfl, gX4_digest_X4_reach, rfl, rfl, by decide +kernel, ⟨Nat.le_of_ble_eq_true rfl, Nat.le_of_ble_eq_true rfl⟩⟩ rd_loomL rfl rfl (Nat.le_of_ble_eq_true rfl) rfl dX4_digest_113 (fun v9 hv9 => ?_)
    subst hv9
    show J X 4 (WL Z tok ties) 116 [some (.ref (Z.ad 0)), some (.long (mixI (mixI (mixI (dg1 tok ties) (repeatI (EE tok ties) (PP tok ties) true)) (repeatI (EE tok ties) (PP tok ties) false)) (b2i (connI (EE tok ties) (PP tok ties))))), none, some (.int x)] [.int (reachI (EE tok ties) (PP tok ties) true), .long (mixI (mixI (mixI (dg1 tok ties) (repeatI (EE tok ties) (PP tok ties) true)) (repeatI (EE tok ties) (PP tok ties) false)) (b2i (connI (EE tok ties) (PP tok ties))))]
    refine j_cSl S (n := 2) (rest := []) (k_X4_mixed X.l Z X.A hAX tok ties (mixI (mixI (mixI (dg1 tok ties) (repeatI (EE tok ties) (PP tok ties) true)) (repeatI (EE tok ties) (PP tok ties) false)) (b2i (connI (EE tok ties) (PP tok ties)))) (reachI (EE tok ties) (PP tok ties) true)) ⟨_, _, _, _, rfl, gX4_digest_X4_mixed, rfl, rfl, by decide +kernel, ⟨Nat.le_of_ble_eq_true rfl, Nat.le_of_ble_eq_true rfl⟩⟩ rfl (Nat.le_of_ble_eq_true rfl) rfl dX4_digest_116 (fun v9 hv9 => ?_)
    subst hv9
    show J X 4 (WL Z tok ties) 119 [some (.ref (Z.ad 0)), some (.long (mixI (mixI (mixI (dg1 tok ties) (repeatI (EE tok ties) (PP tok ties) true)) (repeatI (EE tok ties) (PP tok ties) false)) (b2i (connI (EE tok ties) (PP tok ties))))), none, some (.int x)] [.long (mixI (mixI (mixI (mixI (dg1 tok ties) (repeatI (EE tok ties) (PP tok ties) true)) (repeatI (EE tok ties) (PP tok ties) false)) (b2i (connI (EE tok ties) (PP tok ties)))) (reachI (EE tok ties) (PP tok ties) true))]
    refine j_lstore_n S [some (.ref (Z.ad 0)), some (.long (mixI (mixI (mixI (mixI (dg1 tok ties) (repeatI (EE tok ties) (PP tok ties) true)) (repeatI (EE tok ties) (PP tok ties) false)) (b2i (connI (EE tok ties) (PP tok ties)))) (reachI (EE tok ties) (PP tok ties) true))), none, some (.int x)] dX4_digest_119 (by decide) rfl rfl ?_
    refine j_lload_n S dX4_digest_120 rfl ?_
    refine j_aload_n S dX4_digest_121 rfl ?_
    refine j_iconst S 0 dX4_digest_122 (by decide) ?_
    refine j_cVi S (n := 1) (rest := [.long (mixI (mixI (mixI (mixI (dg1 tok ties) (repeatI (EE tok ties) (PP tok ties) true)) (repeatI (EE tok ties) (PP tok ties) false)) (b2i (connI (EE tok ties) (PP tok ties)))) (reachI (EE tok ties) (PP tok ties) true))]) (k_X4_reach X.l Z X.A hAX tok ties false) ⟨_, _, _, _, rfl, gX4_digest_X4_reach, rfl, rfl, by decide +kernel, ⟨Nat.le_of_ble_eq_true rfl, Nat.le_of_ble_eq_true rfl⟩⟩ rd_loomL rfl rfl (Nat.le_of_ble_eq_true rfl) rfl dX4_digest_123 (fun v9 hv9 => ?_)
    subst hv9
    show J X 4 (WL Z tok ties) 126 [some (.ref (Z.ad 0)), some (.long (mixI (mixI (mixI (mixI (dg1 tok ties) (repeatI (EE tok ties) (PP tok ties) true)) (repeatI (EE tok ties) (PP tok ties) false)) (b2i (connI (EE tok ties) (PP tok ties)))) (reachI (EE tok ties) (PP tok ties) true))), none, some (.int x)] [.int (reachI (EE tok ties) (PP tok ties) false), .long (mixI (mixI (mixI (mixI (dg1 tok ties) (repeatI (EE tok ties) (PP tok ties) true)) (repeatI (EE tok ties) (PP tok ties) false)) (b2i (connI (EE tok ties) (PP tok ties)))) (reachI (EE tok ties) (PP tok ties) true))]
    refine j_cSl S (n := 2) (rest := []) (k_X4_mixed X.l Z X.A hAX tok ties (mixI (mixI (mixI (mixI (dg1 tok ties) (repeatI (EE tok ties) (PP tok ties) true)) (repeatI (EE tok ties) (PP tok ties) false)) (b2i (connI (EE tok ties) (PP tok ties)))) (reachI (EE tok ties) (PP tok ties) true)) (reachI (EE tok ties) (PP tok ties) false)) ⟨_, _, _, _, rfl, gX4_digest_X4_mixed, rfl, rfl, by decide +kernel, ⟨Nat.le_of_ble_eq_true rfl, Nat.le_of_ble_eq_true rfl⟩⟩ rfl (Nat.le_of_ble_eq_true rfl) rfl dX4_digest_126 (fun v9 hv9 => ?_)
    subst hv9
    show J X 4 (WL Z tok ties) 129 [some (.ref (Z.ad 0)), some (.long (mixI (mixI (mixI (mixI (dg1 tok ties) (repeatI (EE tok ties) (PP tok ties) true)) (repeatI (EE tok ties) (PP tok ties) false)) (b2i (connI (EE tok ties) (PP tok ties)))) (reachI (EE tok ties) (PP tok ties) true))), none, some (.int x)] [.long (mixI (mixI (mixI (mixI (mixI (dg1 tok ties) (repeatI (EE tok ties) (PP tok ties) true)) (repeatI (EE tok ties) (PP tok ties) false)) (b2i (connI (EE tok ties) (PP tok ties)))) (reachI (EE tok ties) (PP tok ties) true)) (reachI (EE tok ties) (PP tok ties) false))]
    refine j_lstore_n S [some (.ref (Z.ad 0)), some (.long (mixI (mixI (mixI (mixI (mixI (dg1 tok ties) (repeatI (EE tok ties) (PP tok ties) true)) (repeatI (EE tok ties) (PP tok ties) false)) (b2i (connI (EE tok ties) (PP tok ties)))) (reachI (EE tok ties) (PP tok ties) true)) (reachI (EE tok ties) (PP tok ties) false))), none, some (.int x)] dX4_digest_129 (by decide) rfl rfl ?_
    exact mid2 x
  have l3 : ∀ (f k : Nat), k + f = 10 → J X 4 (WL Z tok ties) 51 [some (.ref (Z.ad 0)), some (.long (foldL (fun d k => mixI d (clothI tok ties k)) (foldL (fun d k => mixI d (ties.getD k 0)) (foldL (dgP tok) 58095 10) 8) k)), none, some (.int (nI k))] [] := by
    intro f
    induction f with
    | zero =>
      intro k hk
      refine j_iload_n S dX4_digest_51 rfl ?_
      refine j_bipush S 9 dX4_digest_52 (by decide) ?_
      refine j_icmp_gt S 73 dX4_digest_54 (by decide) (fun _ => ?_) (fun h9 => absurd (by rw [show (9 : Int32) = nI 9 from rfl, nI_ltI (by omega) (by omega)]; omega) h9)
      obtain rfl : k = 10 := by omega
      show J X 4 (WL Z tok ties) 73 [some (.ref (Z.ad 0)), some (.long (dg1 tok ties)), none, some (.int (nI 10))] []
      refine j_lload_n S dX4_digest_73 rfl ?_
      refine j_aload_n S dX4_digest_74 rfl ?_
      refine j_iconst S 1 dX4_digest_75 (by decide) ?_
      refine j_cVi S (n := 1) (rest := [.long (dg1 tok ties)]) (k_X4_repeat X.l Z X.A hAX tok ties true) ⟨_, _, _, _, rfl, gX4_digest_X4_repeat, rfl, rfl, by decide +kernel, ⟨Nat.le_of_ble_eq_true rfl, Nat.le_of_ble_eq_true rfl⟩⟩ rd_loomL rfl rfl (Nat.le_of_ble_eq_true rfl) rfl dX4_digest_76 (fun v9 hv9 => ?_)
      subst hv9
      show J X 4 (WL Z tok ties) 79 [some (.ref (Z.ad 0)), some (.long (dg1 tok ties)), none, some (.int (nI 10))] [.int (repeatI (EE tok ties) (PP tok ties) true), .long (dg1 tok ties)]
      refine j_cSl S (n := 2) (rest := []) (k_X4_mixed X.l Z X.A hAX tok ties (dg1 tok ties) (repeatI (EE tok ties) (PP tok ties) true)) ⟨_, _, _, _, rfl, gX4_digest_X4_mixed, rfl, rfl, by decide +kernel, ⟨Nat.le_of_ble_eq_true rfl, Nat.le_of_ble_eq_true rfl⟩⟩ rfl (Nat.le_of_ble_eq_true rfl) rfl dX4_digest_79 (fun v9 hv9 => ?_)
      subst hv9
      show J X 4 (WL Z tok ties) 82 [some (.ref (Z.ad 0)), some (.long (dg1 tok ties)), none, some (.int (nI 10))] [.long (mixI (dg1 tok ties) (repeatI (EE tok ties) (PP tok ties) true))]
      refine j_lstore_n S [some (.ref (Z.ad 0)), some (.long (mixI (dg1 tok ties) (repeatI (EE tok ties) (PP tok ties) true))), none, some (.int (nI 10))] dX4_digest_82 (by decide) rfl rfl ?_
      refine j_lload_n S dX4_digest_83 rfl ?_
      refine j_aload_n S dX4_digest_84 rfl ?_
      refine j_iconst S 0 dX4_digest_85 (by decide) ?_
      refine j_cVi S (n := 1) (rest := [.long (mixI (dg1 tok ties) (repeatI (EE tok ties) (PP tok ties) true))]) (k_X4_repeat X.l Z X.A hAX tok ties false) ⟨_, _, _, _, rfl, gX4_digest_X4_repeat, rfl, rfl, by decide +kernel, ⟨Nat.le_of_ble_eq_true rfl, Nat.le_of_ble_eq_true rfl⟩⟩ rd_loomL rfl rfl (Nat.le_of_ble_eq_true rfl) rfl dX4_digest_86 (fun v9 hv9 => ?_)
      subst hv9
      show J X 4 (WL Z tok ties) 89 [some (.ref (Z.ad 0)), some (.long (mixI (dg1 tok ties) (repeatI (EE tok ties) (PP tok ties) true))), none, some (.int (nI 10))] [.int (repeatI (EE tok ties) (PP tok ties) false), .long (mixI (dg1 tok ties) (repeatI (EE tok ties) (PP tok ties) true))]
      refine j_cSl S (n := 2) (rest := []) (k_X4_mixed X.l Z X.A hAX tok ties (mixI (dg1 tok ties) (repeatI (EE tok ties) (PP tok ties) true)) (repeatI (EE tok ties) (PP tok ties) false)) ⟨_, _, _, _, rfl, gX4_digest_X4_mixed, rfl, rfl, by decide +kernel, ⟨Nat.le_of_ble_eq_true rfl, Nat.le_of_ble_eq_true rfl⟩⟩ rfl (Nat.le_of_ble_eq_true rfl) rfl dX4_digest_89 (fun v9 hv9 => ?_)
      subst hv9
      show J X 4 (WL Z tok ties) 92 [some (.ref (Z.ad 0)), some (.long (mixI (dg1 tok ties) (repeatI (EE tok ties) (PP tok ties) true))), none, some (.int (nI 10))] [.long (mixI (mixI (dg1 tok ties) (repeatI (EE tok ties) (PP tok ties) true)) (repeatI (EE tok ties) (PP tok ties) false))]
      refine j_lstore_n S [some (.ref (Z.ad 0)), some (.long (mixI (mixI (dg1 tok ties) (repeatI (EE tok ties) (PP tok ties) true)) (repeatI (EE tok ties) (PP tok ties) false))), none, some (.int (nI 10))] dX4_digest_92 (by decide) rfl rfl ?_
      refine j_lload_n S dX4_digest_93 rfl ?_
      refine j_aload_n S dX4_digest_94 rfl ?_
      refine j_cVi S (n := 0) (rest := [.long (mixI (mixI (dg1 tok ties) (repeatI (EE tok ties) (PP tok ties) true)) (repeatI (EE tok ties) (PP tok ties) false))]) (k_X4_hangs X.l Z X.A hAX tok ties) ⟨_, _, _, _, rfl, gX4_digest_X4_hangs, rfl, rfl, by decide +kernel, ⟨Nat.le_of_ble_eq_true rfl, Nat.le_of_ble_eq_true rfl⟩⟩ rd_loomL rfl rfl (Nat.le_of_ble_eq_true rfl) rfl dX4_digest_95 (fun v9 hv9 => ?_)
      subst hv9
      show J X 4 (WL Z tok ties) 98 [some (.ref (Z.ad 0)), some (.long (mixI (mixI (dg1 tok ties) (repeatI (EE tok ties) (PP tok ties) true)) (repeatI (EE tok ties) (PP tok ties) false))), none, some (.int (nI 10))] [.int (b2i (connI (EE tok ties) (PP tok ties))), .long (mixI (mixI (dg1 tok ties) (repeatI (EE tok ties) (PP tok ties) true)) (repeatI (EE tok ties) (PP tok ties) false))]
      refine j_if_eq S 105 dX4_digest_98 (by decide) (fun h => ?_) (fun h => ?_)
      · skip
        refine j_iconst S 0 dX4_digest_105 (by decide) ?_
        refine j_cSl S (n := 2) (rest := []) (k_X4_mixed X.l Z X.A hAX tok ties (mixI (mixI (dg1 tok ties) (repeatI (EE tok ties) (PP tok ties) true)) (repeatI (EE tok ties) (PP tok ties) false)) 0) ⟨_, _, _, _, rfl, gX4_digest_X4_mixed, rfl, rfl, by decide +kernel, ⟨Nat.le_of_ble_eq_true rfl, Nat.le_of_ble_eq_true rfl⟩⟩ rfl (Nat.le_of_ble_eq_true rfl) rfl dX4_digest_106 (fun v9 hv9 => ?_)
        subst hv9
        show J X 4 (WL Z tok ties) 109 [some (.ref (Z.ad 0)), some (.long (mixI (mixI (dg1 tok ties) (repeatI (EE tok ties) (PP tok ties) true)) (repeatI (EE tok ties) (PP tok ties) false))), none, some (.int (nI 10))] [.long (mixI (mixI (mixI (dg1 tok ties) (repeatI (EE tok ties) (PP tok ties) true)) (repeatI (EE tok ties) (PP tok ties) false)) 0)]
        have e9 := b2i_0.mp h
        have hm := mid1 (nI 10)
        rw [e9] at hm
        exact hm
      · skip
        refine j_iconst S 1 dX4_digest_101 (by decide) ?_
        refine j_goto S 106 dX4_digest_102 (by decide) ?_
        refine j_cSl S (n := 2) (rest := []) (k_X4_mixed X.l Z X.A hAX tok ties (mixI (mixI (dg1 tok ties) (repeatI (EE tok ties) (PP tok ties) true)) (repeatI (EE tok ties) (PP tok ties) false)) 1) ⟨_, _, _, _, rfl, gX4_digest_X4_mixed, rfl, rfl, by decide +kernel, ⟨Nat.le_of_ble_eq_true rfl, Nat.le_of_ble_eq_true rfl⟩⟩ rfl (Nat.le_of_ble_eq_true rfl) rfl dX4_digest_106 (fun v9 hv9 => ?_)
        subst hv9
        show J X 4 (WL Z tok ties) 109 [some (.ref (Z.ad 0)), some (.long (mixI (mixI (dg1 tok ties) (repeatI (EE tok ties) (PP tok ties) true)) (repeatI (EE tok ties) (PP tok ties) false))), none, some (.int (nI 10))] [.long (mixI (mixI (mixI (dg1 tok ties) (repeatI (EE tok ties) (PP tok ties) true)) (repeatI (EE tok ties) (PP tok ties) false)) 1)]
        have e9 := b2i_n0.mp h
        have hm := mid1 (nI 10)
        rw [e9] at hm
        exact hm
    | succ f ih =>
      intro k hk
      refine j_iload_n S dX4_digest_51 rfl ?_
      refine j_bipush S 9 dX4_digest_52 (by decide) ?_
      refine j_icmp_gt S 73 dX4_digest_54 (by decide) (fun h9 => absurd h9 (by rw [show (9 : Int32) = nI 9 from rfl, nI_ltI (by omega) (by omega)]; omega)) (fun _ => ?_)
      refine j_lload_n S dX4_digest_57 rfl ?_
      refine j_aload_n S dX4_digest_58 rfl ?_
      refine j_iload_n S dX4_digest_59 rfl ?_
      refine j_cVi S (n := 1) (rest := [.long (foldL (fun d k => mixI d (clothI tok ties k)) (foldL (fun d k => mixI d (ties.getD k 0)) (foldL (dgP tok) 58095 10) 8) k)]) (k_X4_cloth X.l Z X.A hAX tok ties k (by omega)) ⟨_, _, _, _, rfl, gX4_digest_X4_cloth, rfl, rfl, by decide +kernel, ⟨Nat.le_of_ble_eq_true rfl, Nat.le_of_ble_eq_true rfl⟩⟩ rd_loomL rfl rfl (Nat.le_of_ble_eq_true rfl) rfl dX4_digest_60 (fun v9 hv9 => ?_)
      subst hv9
      show J X 4 (WL Z tok ties) 63 [some (.ref (Z.ad 0)), some (.long (foldL (fun d k => mixI d (clothI tok ties k)) (foldL (fun d k => mixI d (ties.getD k 0)) (foldL (dgP tok) 58095 10) 8) k)), none, some (.int (nI k))] [.int (clothI tok ties k), .long (foldL (fun d k => mixI d (clothI tok ties k)) (foldL (fun d k => mixI d (ties.getD k 0)) (foldL (dgP tok) 58095 10) 8) k)]
      refine j_cSl S (n := 2) (rest := []) (k_X4_mixed X.l Z X.A hAX tok ties (foldL (fun d k => mixI d (clothI tok ties k)) (foldL (fun d k => mixI d (ties.getD k 0)) (foldL (dgP tok) 58095 10) 8) k) (clothI tok ties k)) ⟨_, _, _, _, rfl, gX4_digest_X4_mixed, rfl, rfl, by decide +kernel, ⟨Nat.le_of_ble_eq_true rfl, Nat.le_of_ble_eq_true rfl⟩⟩ rfl (Nat.le_of_ble_eq_true rfl) rfl dX4_digest_63 (fun v9 hv9 => ?_)
      subst hv9
      show J X 4 (WL Z tok ties) 66 [some (.ref (Z.ad 0)), some (.long (foldL (fun d k => mixI d (clothI tok ties k)) (foldL (fun d k => mixI d (ties.getD k 0)) (foldL (dgP tok) 58095 10) 8) k)), none, some (.int (nI k))] [.long (mixI (foldL (fun d k => mixI d (clothI tok ties k)) (foldL (fun d k => mixI d (ties.getD k 0)) (foldL (dgP tok) 58095 10) 8) k) (clothI tok ties k))]
      show J X 4 (WL Z tok ties) 66 [some (.ref (Z.ad 0)), some (.long (foldL (fun d k => mixI d (clothI tok ties k)) (foldL (fun d k => mixI d (ties.getD k 0)) (foldL (dgP tok) 58095 10) 8) k)), none, some (.int (nI k))] [.long (foldL (fun d k => mixI d (clothI tok ties k)) (foldL (fun d k => mixI d (ties.getD k 0)) (foldL (dgP tok) 58095 10) 8) (k + 1))]
      refine j_lstore_n S [some (.ref (Z.ad 0)), some (.long (foldL (fun d k => mixI d (clothI tok ties k)) (foldL (fun d k => mixI d (ties.getD k 0)) (foldL (dgP tok) 58095 10) 8) (k + 1))), none, some (.int (nI k))] dX4_digest_66 (by decide) rfl rfl ?_
      refine j_iinc S (nI (k + 1)) [some (.ref (Z.ad 0)), some (.long (foldL (fun d k => mixI d (clothI tok ties k)) (foldL (fun d k => mixI d (ties.getD k 0)) (foldL (dgP tok) 58095 10) 8) (k + 1))), none, some (.int (nI (k + 1)))] dX4_digest_67 rfl (nI_1 k) (by decide) rfl rfl ?_
      refine j_goto S 51 dX4_digest_70 (by decide) ?_
      exact ih (k + 1) (by omega)
  have l2 : ∀ (f k : Nat), k + f = 8 → J X 4 (WL Z tok ties) 27 [some (.ref (Z.ad 0)), some (.long (foldL (fun d k => mixI d (ties.getD k 0)) (foldL (dgP tok) 58095 10) k)), none, some (.int (nI k))] [] := by
    intro f
    induction f with
    | zero =>
      intro k hk
      refine j_iload_n S dX4_digest_27 rfl ?_
      refine j_bipush S 8 dX4_digest_28 (by decide) ?_
      refine j_icmp_ge S 49 dX4_digest_30 (by decide) (fun _ => ?_) (fun h9 => absurd (by rw [show (8 : Int32) = nI 8 from rfl, nI_leI (by omega) (by omega)]; omega) h9)
      obtain rfl : k = 8 := by omega
      refine j_iconst S 0 dX4_digest_49 (by decide) ?_
      refine j_istore_n S [some (.ref (Z.ad 0)), some (.long (foldL (fun d k => mixI d (ties.getD k 0)) (foldL (dgP tok) 58095 10) 8)), none, some (.int 0)] dX4_digest_50 (by decide) rfl rfl ?_
      exact l3 10 0 rfl
    | succ f ih =>
      intro k hk
      refine j_iload_n S dX4_digest_27 rfl ?_
      refine j_bipush S 8 dX4_digest_28 (by decide) ?_
      refine j_icmp_ge S 49 dX4_digest_30 (by decide) (fun h9 => absurd h9 (by rw [show (8 : Int32) = nI 8 from rfl, nI_leI (by omega) (by omega)]; omega)) (fun _ => ?_)
      refine j_lload_n S dX4_digest_33 rfl ?_
      refine j_aload_n S dX4_digest_34 rfl ?_
      refine j_iload_n S dX4_digest_35 rfl ?_
      refine j_cVi S (n := 1) (rest := [.long (foldL (fun d k => mixI d (ties.getD k 0)) (foldL (dgP tok) 58095 10) k)]) (k_X4_tied X.l Z X.A hAX tok ties k (by omega)) ⟨_, _, _, _, rfl, gX4_digest_X4_tied, rfl, rfl, by decide +kernel, ⟨Nat.le_of_ble_eq_true rfl, Nat.le_of_ble_eq_true rfl⟩⟩ rd_loomL rfl rfl (Nat.le_of_ble_eq_true rfl) rfl dX4_digest_36 (fun v9 hv9 => ?_)
      subst hv9
      show J X 4 (WL Z tok ties) 39 [some (.ref (Z.ad 0)), some (.long (foldL (fun d k => mixI d (ties.getD k 0)) (foldL (dgP tok) 58095 10) k)), none, some (.int (nI k))] [.int (ties.getD k 0), .long (foldL (fun d k => mixI d (ties.getD k 0)) (foldL (dgP tok) 58095 10) k)]
      refine j_cSl S (n := 2) (rest := []) (k_X4_mixed X.l Z X.A hAX tok ties (foldL (fun d k => mixI d (ties.getD k 0)) (foldL (dgP tok) 58095 10) k) (ties.getD k 0)) ⟨_, _, _, _, rfl, gX4_digest_X4_mixed, rfl, rfl, by decide +kernel, ⟨Nat.le_of_ble_eq_true rfl, Nat.le_of_ble_eq_true rfl⟩⟩ rfl (Nat.le_of_ble_eq_true rfl) rfl dX4_digest_39 (fun v9 hv9 => ?_)
      subst hv9
      show J X 4 (WL Z tok ties) 42 [some (.ref (Z.ad 0)), some (.long (foldL (fun d k => mixI d (ties.getD k 0)) (foldL (dgP tok) 58095 10) k)), none, some (.int (nI k))] [.long (mixI (foldL (fun d k => mixI d (ties.getD k 0)) (foldL (dgP tok) 58095 10) k) (ties.getD k 0))]
      show J X 4 (WL Z tok ties) 42 [some (.ref (Z.ad 0)), some (.long (foldL (fun d k => mixI d (ties.getD k 0)) (foldL (dgP tok) 58095 10) k)), none, some (.int (nI k))] [.long (foldL (fun d k => mixI d (ties.getD k 0)) (foldL (dgP tok) 58095 10) (k + 1))]
      refine j_lstore_n S [some (.ref (Z.ad 0)), some (.long (foldL (fun d k => mixI d (ties.getD k 0)) (foldL (dgP tok) 58095 10) (k + 1))), none, some (.int (nI k))] dX4_digest_42 (by decide) rfl rfl ?_
      refine j_iinc S (nI (k + 1)) [some (.ref (Z.ad 0)), some (.long (foldL (fun d k => mixI d (ties.getD k 0)) (foldL (dgP tok) 58095 10) (k + 1))), none, some (.int (nI (k + 1)))] dX4_digest_43 rfl (nI_1 k) (by decide) rfl rfl ?_
      refine j_goto S 27 dX4_digest_46 (by decide) ?_
      exact ih (k + 1) (by omega)
  have l1 : ∀ (f k : Nat), k + f = 10 → J X 4 (WL Z tok ties) 6 [some (.ref (Z.ad 0)), some (.long (foldL (dgP tok) 58095 k)), none, some (.int (nI k))] [] := by
    intro f
    induction f with
    | zero =>
      intro k hk
      refine j_iload_n S dX4_digest_6 rfl ?_
      refine j_bipush S 10 dX4_digest_7 (by decide) ?_
      refine j_icmp_ge S 25 dX4_digest_9 (by decide) (fun _ => ?_) (fun h9 => absurd (by rw [show (10 : Int32) = nI 10 from rfl, nI_leI (by omega) (by omega)]; omega) h9)
      obtain rfl : k = 10 := by omega
      refine j_iconst S 0 dX4_digest_25 (by decide) ?_
      refine j_istore_n S [some (.ref (Z.ad 0)), some (.long (foldL (dgP tok) 58095 10)), none, some (.int 0)] dX4_digest_26 (by decide) rfl rfl ?_
      exact l2 8 0 rfl
    | succ f ih =>
      intro k hk
      refine j_iload_n S dX4_digest_6 rfl ?_
      refine j_bipush S 10 dX4_digest_7 (by decide) ?_
      refine j_icmp_ge S 25 dX4_digest_9 (by decide) (fun h9 => absurd h9 (by rw [show (10 : Int32) = nI 10 from rfl, nI_leI (by omega) (by omega)]; omega)) (fun _ => ?_)
      refine j_aload_n S dX4_digest_12 rfl ?_
      refine j_lload_n S dX4_digest_13 rfl ?_
      refine j_iload_n S dX4_digest_14 rfl ?_
      refine j_cVl S (n := 2) (rest := []) (k_X4_digestOfProgram X.l Z X.A hAX tok ties (foldL (dgP tok) 58095 k) k (by omega)) ⟨_, _, _, _, rfl, gX4_digest_X4_digestOfProgram, rfl, rfl, by decide +kernel, ⟨Nat.le_of_ble_eq_true rfl, Nat.le_of_ble_eq_true rfl⟩⟩ rd_loomL rfl rfl (Nat.le_of_ble_eq_true rfl) rfl dX4_digest_15 (fun v9 hv9 => ?_)
      subst hv9
      show J X 4 (WL Z tok ties) 18 [some (.ref (Z.ad 0)), some (.long (foldL (dgP tok) 58095 k)), none, some (.int (nI k))] [.long (dgP tok (foldL (dgP tok) 58095 k) k)]
      show J X 4 (WL Z tok ties) 18 [some (.ref (Z.ad 0)), some (.long (foldL (dgP tok) 58095 k)), none, some (.int (nI k))] [.long (foldL (dgP tok) 58095 (k + 1))]
      refine j_lstore_n S [some (.ref (Z.ad 0)), some (.long (foldL (dgP tok) 58095 (k + 1))), none, some (.int (nI k))] dX4_digest_18 (by decide) rfl rfl ?_
      refine j_iinc S (nI (k + 1)) [some (.ref (Z.ad 0)), some (.long (foldL (dgP tok) 58095 (k + 1))), none, some (.int (nI (k + 1)))] dX4_digest_19 rfl (nI_1 k) (by decide) rfl rfl ?_
      refine j_goto S 6 dX4_digest_22 (by decide) ?_
      exact ih (k + 1) (by omega)
  refine j_ldc2 S (v := 58095) (by decide +kernel) dX4_digest_0 ?_
  refine j_lstore_n S [some (.ref (Z.ad 0)), some (.long 58095), none, none] dX4_digest_3 (by decide) rfl rfl ?_
  refine j_iconst S 0 dX4_digest_4 (by decide) ?_
  refine j_istore_n S [some (.ref (Z.ad 0)), some (.long 58095), none, some (.int 0)] dX4_digest_5 (by decide) rfl rfl ?_
  exact l1 10 0 rfl
