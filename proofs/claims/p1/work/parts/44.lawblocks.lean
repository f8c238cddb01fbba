/-! THE LAW's BLOCKS: a call on the loom, the same on the model, the two compared -/
def Nxt (X : Cx) (b l0 mo o : Nat) : Prop := ∀ (k n : Nat) (w : Heap → Prop), k ≤ room_1.cells → n ≤ room_1.slots → J (X.at k n) 9 w 1581 [some (.ref b), some (.ref l0), some (.ref mo), some (.ref o), some (.int 0), none, none, none, none] []
/-- what the law's blocks stand in -/
def BX (X : Cx) (G : RG) (o n1 b mo ka ta : Nat) (xs : Nat → Int32) (M : Wl) : Prop := SL X G o n1 ∧ Scr X b xs ∧ Nxt X b (G.Z.ad 0) mo o ∧ va_D (AM G X.s.heap.size o) M ∧ Mo G mo ka ta 0 M
theorem BX.m0 {X : Cx} {G : RG} {o n1 b mo ka ta : Nat} {xs : Nat → Int32} {M : Wl} (B : BX X G o n1 b mo ka ta xs M) : ∃ pl : Nat, (mo, (.inr (8, [.int 0, .ref pl, .ref ka, .ref ta]) : va_E)) ∈ M := by
  obtain ⟨pl, pe, f, kn, tf, h0, -⟩ := B.2.2.2.2
  exact ⟨pl, h0⟩
theorem rc_le {m : Nat} (h : m ≤ 1000) : 93 + m ≤ room_1.cells := Nat.le_trans (Nat.add_le_add_left h 93) (Nat.le_of_ble_eq_true rfl)
theorem rs_le {m : Nat} (h : m ≤ 10000) : 2490 + m ≤ room_1.slots := Nat.le_trans (Nat.add_le_add_left h 2490) (Nat.le_of_ble_eq_true rfl)
theorem j_lconst {X : Cx} {Z : Zx} {cc : ByteArray} {nL : Nat} {Ts : List Cond} {own : String} {R : Room} {w : Heap → Prop} {pc : Nat} {lv : List (Option Value)} {rest : List Value} (S : Fx X Z cc nL Ts own R) {i : Fin 2} {v : Int64} (hd : decode cc pc = .ok (.lconst i, 1)) (hv : Int64.ofNat (i : Nat) = v) (kk : J X nL w (pc + 1) lv (.long v :: rest)) : J X nL w pc lv rest :=
  fun H locs ls hw hS hl => lv_lconst S.ex S.by hd hv (kk H locs ls hw hS hl)
/-- what was thrown is the same, and the answer if nothing was -/
theorem lw_tail {X : Cx} {G : RG} {o n1 b mo : Nat} {M : Wl} {g : Nat → Int64} {k n : Nat} (S : SL X G o n1) (hN : Nxt X b (G.Z.ad 0) mo o) {kans v : Int32} {pl k9 t9 : Nat} (h1 : (mo, (.inr (8, [.int kans, .ref pl, .ref k9, .ref t9]) : va_E)) ∈ M) (hg : kans = 0 → g 0 = v.toInt64) (hk : k ≤ room_1.cells) (hs : n ≤ room_1.slots) {pc : Nat} {off : Int} (d0 : decode code pc = .ok (.aload_n 2, 1)) (d1 : decode code (pc + 1) = .ok (.invokevirtual 87, 3)) (d4 : decode code (pc + 4) = .ok (.iload 5, 2)) (d6 : decode code (pc + 6) = .ok (.if_icmp .eq 5, 3)) (d11 : decode code (pc + 11) = .ok (.iload 5, 2)) (d13 : decode code (pc + 13) = .ok (.ifCond .ne 15, 3)) (d16 : decode code (pc + 16) = .ok (.aload_n 3, 1)) (d17 : decode code (pc + 17) = .ok (.iconst 0, 1)) (d18 : decode code (pc + 18) = .ok (.laload, 1)) (d19 : decode code (pc + 19) = .ok (.iload 6, 2)) (d21 : decode code (pc + 21) = .ok (.i2l, 1)) (d22 : decode code (pc + 22) = .ok (.lcmp, 1)) (d23 : decode code (pc + 23) = .ok (.ifCond .eq 5, 3)) (d28 : decode code (pc + 28) = .ok (.goto off, 3)) (ht : ((pc + 28 : Nat) : Int) + off = ((1581 : Nat) : Int)) : J (X.at k n) 9 (LPc G X.s.heap.size o n1 TT g M) pc [some (.ref b), some (.ref (G.Z.ad 0)), some (.ref mo), some (.ref o), some (.int 0), some (.int kans), some (.int v), none, none] [] := by
  have F := S.fx hk hs
  have go : J (X.at k n) 9 (LPc G X.s.heap.size o n1 TT g M) (pc + 28) [some (.ref b), some (.ref (G.Z.ad 0)), some (.ref mo), some (.ref o), some (.int 0), some (.int kans), some (.int v), none, none] [] :=
    j_goto F 1581 d28 ht (J.less [some (.ref b), some (.ref (G.Z.ad 0)), some (.ref mo), some (.ref o), some (.int 0), none, none, none, none] ⟨rfl, rfl, rfl, rfl, rfl, trivial⟩ (hN k n _ hk hs))
  refine j_aload_n F d0 rfl ?_
  refine lw_ci S (nA := 0) (As := []) (rest := []) (r_X8_thrown X.l G (AM G X.s.heap.size o) M h1) ⟨_, _, _, _, rfl, gL_law_X8_thrown, rfl, rfl, (by decide +kernel), ⟨(Nat.le_of_ble_eq_true rfl), (Nat.le_of_ble_eq_true rfl)⟩⟩ h1 rfl rfl (Nat.le_of_ble_eq_true rfl) hk hs rfl d1 (fun v9 M2 hD2 hp => ?_)
  obtain ⟨rfl, rfl⟩ := hp
  refine j_iload F d4 rfl ?_
  refine j_icmp_eq F (pc + 11) d6 (by omega) (fun _ => ?_) (fun h9 => absurd rfl h9)
  refine j_iload F d11 rfl ?_
  refine j_if_ne F (pc + 28) d13 (by omega) (fun _ => go) (fun h9 => ?_)
  refine j_aload_n F d16 rfl ?_
  refine j_iconst F 0 d17 (by decide) ?_
  refine lw_lald S d18 ?_
  refine j_iload F d19 rfl ?_
  refine j_i2l F v.toInt64 d21 rfl ?_
  refine j_lcmp F 0 d22 (by rw [hg h9]; exact lg_same _) ?_
  exact j_if_eq F (pc + 28) d23 (by omega) (fun _ => go) (fun h9 => absurd rfl h9)

set_option maxHeartbeats 4000000 in
theorem h_token {X : Cx} {G : RG} {o n1 b mo ka ta : Nat} {xs : Nat → Int32} {M : Wl} {f : Nat → Int64} (B : BX X G o n1 b mo ka ta xs M) (x y : Int32) (hx1 : xs 1 = x) (hx2 : xs 2 = y) {rm : Room} {kans : Int32} {ans : Int64} (hK : Kw X.l G.Z G.cL o f yL_token wsL_token rm [.ref (G.Z.ad 0), .int x, .int y, .ref o] kans ans) (hr1 : rm.cells = 1) (hr2 : rm.slots = 6) (hr3 : rm.frames + 1 ≤ room_1.frames ∧ 8 + (5 + 11) + rm.locals ≤ room_1.locals) {wsR : List Cond} {rm2 : Room} {mc ms : Nat} {v0 : Int32} (hR : Kr X.l G (AM G X.s.heap.size o) yX8_token wsR rm2 M [.ref mo, .int x, .int y] (Gi G (AM G X.s.heap.size o) (fun v N => ∃ pl k9 t9 : Nat, (mo, (.inr (8, [.int kans, .ref pl, .ref k9, .ref t9]) : va_E)) ∈ N ∧ KL G M N ∧ (v0 : Int32) = v)) mc ms) (hG2 : MwV wsL_law RL RX8 room_1 86 yX8_token wsR rm2 2 mc ms) (hmc : mc ≤ 1000) (hms : ms ≤ 10000) (hans : kans = 0 → ans = v0.toInt64) : J (X.at 92 2484) 9 (LPc G X.s.heap.size o n1 (WL G.Z tok0 ties0) f M) 148 [some (.ref b), some (.ref (G.Z.ad 0)), some (.ref mo), some (.ref o), some (.int 0), none, none, none, none] [] := by
  have S := B.1
  obtain ⟨pl0, h0⟩ := B.m0
  have F0 := S.fx (k := 92) (n := 2484) (Nat.le_of_ble_eq_true rfl) (Nat.le_of_ble_eq_true rfl)
  refine j_aload_n F0 dL_law_148 rfl ?_
  refine j_aload_n F0 dL_law_149 rfl ?_
  refine j_iload F0 dL_law_150 rfl ?_
  refine j_iconst F0 1 dL_law_152 (by decide) ?_
  refine j_iadd F0 1 dL_law_153 (by decide) ?_
  refine lw_sc F0 B.2.1 (j := 1) (by decide) (by unfold vp_in; decide) hx1 dL_law_154 ?_
  refine j_aload_n F0 dL_law_155 rfl ?_
  refine j_iload F0 dL_law_156 rfl ?_
  refine j_iconst F0 2 dL_law_158 (by decide) ?_
  refine j_iadd F0 2 dL_law_159 (by decide) ?_
  refine lw_sc F0 B.2.1 (j := 2) (by decide) (by unfold vp_in; decide) hx2 dL_law_160 ?_
  refine j_aload_n F0 dL_law_161 rfl ?_
  refine lw_w S (nA := 4) (rest := []) hK ⟨_, _, _, _, _, rfl, gL_law_L_token, hr1, hr2, (by decide +kernel), hr3⟩ rfl (Nat.le_of_ble_eq_true rfl) rfl (Nat.le_of_ble_eq_true rfl) (Nat.le_of_ble_eq_true rfl) dL_law_162 (fun g hg => ?_)
  have F1 := S.fx (k := 93) (n := 2490) (Nat.le_of_ble_eq_true rfl) (Nat.le_of_ble_eq_true rfl)
  refine j_istore F1 [some (.ref b), some (.ref (G.Z.ad 0)), some (.ref mo), some (.ref o), some (.int 0), some (.int kans), none, none, none] dL_law_165 (by decide) rfl rfl ?_
  refine j_aload_n F1 dL_law_167 rfl ?_
  refine j_aload_n F1 dL_law_168 rfl ?_
  refine j_iload F1 dL_law_169 rfl ?_
  refine j_iconst F1 1 dL_law_171 (by decide) ?_
  refine j_iadd F1 1 dL_law_172 (by decide) ?_
  refine lw_sc F1 B.2.1 (j := 1) (by decide) (by unfold vp_in; decide) hx1 dL_law_173 ?_
  refine j_aload_n F1 dL_law_174 rfl ?_
  refine j_iload F1 dL_law_175 rfl ?_
  refine j_iconst F1 2 dL_law_177 (by decide) ?_
  refine j_iadd F1 2 dL_law_178 (by decide) ?_
  refine lw_sc F1 B.2.1 (j := 2) (by decide) (by unfold vp_in; decide) hx2 dL_law_179 ?_
  refine lw_ci S (nA := 2) (rest := []) hR hG2 h0 rfl rfl (Nat.le_of_ble_eq_true rfl) (rc_le hmc) (rs_le hms) rfl dL_law_180 (fun v M1 hD1 hp => ?_)
  obtain ⟨pl1, k9, t9, h1, -, hv⟩ := hp
  subst hv
  have F2 := S.fx (k := 93 + mc) (n := 2490 + ms) (rc_le hmc) (rs_le hms)
  refine j_istore F2 [some (.ref b), some (.ref (G.Z.ad 0)), some (.ref mo), some (.ref o), some (.int 0), some (.int kans), some (.int v0), none, none] dL_law_183 (by decide) rfl rfl ?_
  exact lw_tail S B.2.2.1 h1 (fun h9 => (hg h9).trans (hans h9)) (rc_le hmc) (rs_le hms) dL_law_185 dL_law_186 dL_law_189 dL_law_191 dL_law_196 dL_law_198 dL_law_201 dL_law_202 dL_law_203 dL_law_204 dL_law_206 dL_law_207 dL_law_208 dL_law_213 (by decide)
set_option maxHeartbeats 4000000 in
theorem h_untoken {X : Cx} {G : RG} {o n1 b mo ka ta : Nat} {xs : Nat → Int32} {M : Wl} {f : Nat → Int64} (B : BX X G o n1 b mo ka ta xs M) (x y : Int32) (hx1 : xs 1 = x) (hx2 : xs 2 = y) {rm : Room} {kans : Int32} {ans : Int64} (hK : Kw X.l G.Z G.cL o f yL_untoken wsL_untoken rm [.ref (G.Z.ad 0), .int x, .int y, .ref o] kans ans) (hr1 : rm.cells = 1) (hr2 : rm.slots = 6) (hr3 : rm.frames + 1 ≤ room_1.frames ∧ 8 + (5 + 11) + rm.locals ≤ room_1.locals) {wsR : List Cond} {rm2 : Room} {mc ms : Nat} {v0 : Int32} (hR : Kr X.l G (AM G X.s.heap.size o) yX8_untoken wsR rm2 M [.ref mo, .int x, .int y] (Gi G (AM G X.s.heap.size o) (fun v N => ∃ pl k9 t9 : Nat, (mo, (.inr (8, [.int kans, .ref pl, .ref k9, .ref t9]) : va_E)) ∈ N ∧ KL G M N ∧ (v0 : Int32) = v)) mc ms) (hG2 : MwV wsL_law RL RX8 room_1 93 yX8_untoken wsR rm2 2 mc ms) (hmc : mc ≤ 1000) (hms : ms ≤ 10000) (hans : kans = 0 → ans = v0.toInt64) : J (X.at 92 2484) 9 (LPc G X.s.heap.size o n1 (WL G.Z tok0 ties0) f M) 216 [some (.ref b), some (.ref (G.Z.ad 0)), some (.ref mo), some (.ref o), some (.int 0), none, none, none, none] [] := by
  have S := B.1
  obtain ⟨pl0, h0⟩ := B.m0
  have F0 := S.fx (k := 92) (n := 2484) (Nat.le_of_ble_eq_true rfl) (Nat.le_of_ble_eq_true rfl)
  refine j_aload_n F0 dL_law_216 rfl ?_
  refine j_aload_n F0 dL_law_217 rfl ?_
  refine j_iload F0 dL_law_218 rfl ?_
  refine j_iconst F0 1 dL_law_220 (by decide) ?_
  refine j_iadd F0 1 dL_law_221 (by decide) ?_
  refine lw_sc F0 B.2.1 (j := 1) (by decide) (by unfold vp_in; decide) hx1 dL_law_222 ?_
  refine j_aload_n F0 dL_law_223 rfl ?_
  refine j_iload F0 dL_law_224 rfl ?_
  refine j_iconst F0 2 dL_law_226 (by decide) ?_
  refine j_iadd F0 2 dL_law_227 (by decide) ?_
  refine lw_sc F0 B.2.1 (j := 2) (by decide) (by unfold vp_in; decide) hx2 dL_law_228 ?_
  refine j_aload_n F0 dL_law_229 rfl ?_
  refine lw_w S (nA := 4) (rest := []) hK ⟨_, _, _, _, _, rfl, gL_law_L_untoken, hr1, hr2, (by decide +kernel), hr3⟩ rfl (Nat.le_of_ble_eq_true rfl) rfl (Nat.le_of_ble_eq_true rfl) (Nat.le_of_ble_eq_true rfl) dL_law_230 (fun g hg => ?_)
  have F1 := S.fx (k := 93) (n := 2490) (Nat.le_of_ble_eq_true rfl) (Nat.le_of_ble_eq_true rfl)
  refine j_istore F1 [some (.ref b), some (.ref (G.Z.ad 0)), some (.ref mo), some (.ref o), some (.int 0), some (.int kans), none, none, none] dL_law_233 (by decide) rfl rfl ?_
  refine j_aload_n F1 dL_law_235 rfl ?_
  refine j_aload_n F1 dL_law_236 rfl ?_
  refine j_iload F1 dL_law_237 rfl ?_
  refine j_iconst F1 1 dL_law_239 (by decide) ?_
  refine j_iadd F1 1 dL_law_240 (by decide) ?_
  refine lw_sc F1 B.2.1 (j := 1) (by decide) (by unfold vp_in; decide) hx1 dL_law_241 ?_
  refine j_aload_n F1 dL_law_242 rfl ?_
  refine j_iload F1 dL_law_243 rfl ?_
  refine j_iconst F1 2 dL_law_245 (by decide) ?_
  refine j_iadd F1 2 dL_law_246 (by decide) ?_
  refine lw_sc F1 B.2.1 (j := 2) (by decide) (by unfold vp_in; decide) hx2 dL_law_247 ?_
  refine lw_ci S (nA := 2) (rest := []) hR hG2 h0 rfl rfl (Nat.le_of_ble_eq_true rfl) (rc_le hmc) (rs_le hms) rfl dL_law_248 (fun v M1 hD1 hp => ?_)
  obtain ⟨pl1, k9, t9, h1, -, hv⟩ := hp
  subst hv
  have F2 := S.fx (k := 93 + mc) (n := 2490 + ms) (rc_le hmc) (rs_le hms)
  refine j_istore F2 [some (.ref b), some (.ref (G.Z.ad 0)), some (.ref mo), some (.ref o), some (.int 0), some (.int kans), some (.int v0), none, none] dL_law_251 (by decide) rfl rfl ?_
  exact lw_tail S B.2.2.1 h1 (fun h9 => (hg h9).trans (hans h9)) (rc_le hmc) (rs_le hms) dL_law_253 dL_law_254 dL_law_257 dL_law_259 dL_law_264 dL_law_266 dL_law_269 dL_law_270 dL_law_271 dL_law_272 dL_law_274 dL_law_275 dL_law_276 dL_law_281 (by decide)
set_option maxHeartbeats 4000000 in
theorem h_ofProgram {X : Cx} {G : RG} {o n1 b mo ka ta : Nat} {xs : Nat → Int32} {M : Wl} {f : Nat → Int64} (B : BX X G o n1 b mo ka ta xs M) (x y : Int32) (hx1 : xs 1 = x) (hx2 : xs 2 = y) {rm : Room} {kans : Int32} {ans : Int64} (hK : Kw X.l G.Z G.cL o f yL_ofProgram wsL_ofProgram rm [.ref (G.Z.ad 0), .int x, .int y, .ref o] kans ans) (hr1 : rm.cells = 1) (hr2 : rm.slots = 6) (hr3 : rm.frames + 1 ≤ room_1.frames ∧ 8 + (5 + 11) + rm.locals ≤ room_1.locals) {wsR : List Cond} {rm2 : Room} {mc ms : Nat} {v0 : Int32} (hR : Kr X.l G (AM G X.s.heap.size o) yX8_ofProgram wsR rm2 M [.ref mo, .int x, .int y] (Gi G (AM G X.s.heap.size o) (fun v N => ∃ pl k9 t9 : Nat, (mo, (.inr (8, [.int kans, .ref pl, .ref k9, .ref t9]) : va_E)) ∈ N ∧ KL G M N ∧ (v0 : Int32) = v)) mc ms) (hG2 : MwV wsL_law RL RX8 room_1 96 yX8_ofProgram wsR rm2 2 mc ms) (hmc : mc ≤ 1000) (hms : ms ≤ 10000) (hans : kans = 0 → ans = v0.toInt64) : J (X.at 92 2484) 9 (LPc G X.s.heap.size o n1 (WL G.Z tok0 ties0) f M) 284 [some (.ref b), some (.ref (G.Z.ad 0)), some (.ref mo), some (.ref o), some (.int 0), none, none, none, none] [] := by
  have S := B.1
  obtain ⟨pl0, h0⟩ := B.m0
  have F0 := S.fx (k := 92) (n := 2484) (Nat.le_of_ble_eq_true rfl) (Nat.le_of_ble_eq_true rfl)
  refine j_aload_n F0 dL_law_284 rfl ?_
  refine j_aload_n F0 dL_law_285 rfl ?_
  refine j_iload F0 dL_law_286 rfl ?_
  refine j_iconst F0 1 dL_law_288 (by decide) ?_
  refine j_iadd F0 1 dL_law_289 (by decide) ?_
  refine lw_sc F0 B.2.1 (j := 1) (by decide) (by unfold vp_in; decide) hx1 dL_law_290 ?_
  refine j_aload_n F0 dL_law_291 rfl ?_
  refine j_iload F0 dL_law_292 rfl ?_
  refine j_iconst F0 2 dL_law_294 (by decide) ?_
  refine j_iadd F0 2 dL_law_295 (by decide) ?_
  refine lw_sc F0 B.2.1 (j := 2) (by decide) (by unfold vp_in; decide) hx2 dL_law_296 ?_
  refine j_aload_n F0 dL_law_297 rfl ?_
  refine lw_w S (nA := 4) (rest := []) hK ⟨_, _, _, _, _, rfl, gL_law_L_ofProgram, hr1, hr2, (by decide +kernel), hr3⟩ rfl (Nat.le_of_ble_eq_true rfl) rfl (Nat.le_of_ble_eq_true rfl) (Nat.le_of_ble_eq_true rfl) dL_law_298 (fun g hg => ?_)
  have F1 := S.fx (k := 93) (n := 2490) (Nat.le_of_ble_eq_true rfl) (Nat.le_of_ble_eq_true rfl)
  refine j_istore F1 [some (.ref b), some (.ref (G.Z.ad 0)), some (.ref mo), some (.ref o), some (.int 0), some (.int kans), none, none, none] dL_law_301 (by decide) rfl rfl ?_
  refine j_aload_n F1 dL_law_303 rfl ?_
  refine j_aload_n F1 dL_law_304 rfl ?_
  refine j_iload F1 dL_law_305 rfl ?_
  refine j_iconst F1 1 dL_law_307 (by decide) ?_
  refine j_iadd F1 1 dL_law_308 (by decide) ?_
  refine lw_sc F1 B.2.1 (j := 1) (by decide) (by unfold vp_in; decide) hx1 dL_law_309 ?_
  refine j_aload_n F1 dL_law_310 rfl ?_
  refine j_iload F1 dL_law_311 rfl ?_
  refine j_iconst F1 2 dL_law_313 (by decide) ?_
  refine j_iadd F1 2 dL_law_314 (by decide) ?_
  refine lw_sc F1 B.2.1 (j := 2) (by decide) (by unfold vp_in; decide) hx2 dL_law_315 ?_
  refine lw_ci S (nA := 2) (rest := []) hR hG2 h0 rfl rfl (Nat.le_of_ble_eq_true rfl) (rc_le hmc) (rs_le hms) rfl dL_law_316 (fun v M1 hD1 hp => ?_)
  obtain ⟨pl1, k9, t9, h1, -, hv⟩ := hp
  subst hv
  have F2 := S.fx (k := 93 + mc) (n := 2490 + ms) (rc_le hmc) (rs_le hms)
  refine j_istore F2 [some (.ref b), some (.ref (G.Z.ad 0)), some (.ref mo), some (.ref o), some (.int 0), some (.int kans), some (.int v0), none, none] dL_law_319 (by decide) rfl rfl ?_
  exact lw_tail S B.2.2.1 h1 (fun h9 => (hg h9).trans (hans h9)) (rc_le hmc) (rs_le hms) dL_law_321 dL_law_322 dL_law_325 dL_law_327 dL_law_332 dL_law_334 dL_law_337 dL_law_338 dL_law_339 dL_law_340 dL_law_342 dL_law_343 dL_law_344 dL_law_349 (by decide)
set_option maxHeartbeats 4000000 in
theorem h_number {X : Cx} {G : RG} {o n1 b mo ka ta : Nat} {xs : Nat → Int32} {M : Wl} {f : Nat → Int64} (B : BX X G o n1 b mo ka ta xs M) (x y : Int32) (hx1 : xs 1 = x) (hx2 : xs 2 = y) {rm : Room} {kans : Int32} {ans : Int64} (hK : Kw X.l G.Z G.cL o f yL_number wsL_number rm [.ref (G.Z.ad 0), .int x, .int y, .ref o] kans ans) (hr1 : rm.cells = 1) (hr2 : rm.slots = 6) (hr3 : rm.frames + 1 ≤ room_1.frames ∧ 8 + (5 + 11) + rm.locals ≤ room_1.locals) {wsR : List Cond} {rm2 : Room} {mc ms : Nat} {v0 : Int32} (hR : Kr X.l G (AM G X.s.heap.size o) yX8_number wsR rm2 M [.ref mo, .int x, .int y] (Gi G (AM G X.s.heap.size o) (fun v N => ∃ pl k9 t9 : Nat, (mo, (.inr (8, [.int kans, .ref pl, .ref k9, .ref t9]) : va_E)) ∈ N ∧ KL G M N ∧ (v0 : Int32) = v)) mc ms) (hG2 : MwV wsL_law RL RX8 room_1 99 yX8_number wsR rm2 2 mc ms) (hmc : mc ≤ 1000) (hms : ms ≤ 10000) (hans : kans = 0 → ans = v0.toInt64) : J (X.at 92 2484) 9 (LPc G X.s.heap.size o n1 (WL G.Z tok0 ties0) f M) 352 [some (.ref b), some (.ref (G.Z.ad 0)), some (.ref mo), some (.ref o), some (.int 0), none, none, none, none] [] := by
  have S := B.1
  obtain ⟨pl0, h0⟩ := B.m0
  have F0 := S.fx (k := 92) (n := 2484) (Nat.le_of_ble_eq_true rfl) (Nat.le_of_ble_eq_true rfl)
  refine j_aload_n F0 dL_law_352 rfl ?_
  refine j_aload_n F0 dL_law_353 rfl ?_
  refine j_iload F0 dL_law_354 rfl ?_
  refine j_iconst F0 1 dL_law_356 (by decide) ?_
  refine j_iadd F0 1 dL_law_357 (by decide) ?_
  refine lw_sc F0 B.2.1 (j := 1) (by decide) (by unfold vp_in; decide) hx1 dL_law_358 ?_
  refine j_aload_n F0 dL_law_359 rfl ?_
  refine j_iload F0 dL_law_360 rfl ?_
  refine j_iconst F0 2 dL_law_362 (by decide) ?_
  refine j_iadd F0 2 dL_law_363 (by decide) ?_
  refine lw_sc F0 B.2.1 (j := 2) (by decide) (by unfold vp_in; decide) hx2 dL_law_364 ?_
  refine j_aload_n F0 dL_law_365 rfl ?_
  refine lw_w S (nA := 4) (rest := []) hK ⟨_, _, _, _, _, rfl, gL_law_L_number, hr1, hr2, (by decide +kernel), hr3⟩ rfl (Nat.le_of_ble_eq_true rfl) rfl (Nat.le_of_ble_eq_true rfl) (Nat.le_of_ble_eq_true rfl) dL_law_366 (fun g hg => ?_)
  have F1 := S.fx (k := 93) (n := 2490) (Nat.le_of_ble_eq_true rfl) (Nat.le_of_ble_eq_true rfl)
  refine j_istore F1 [some (.ref b), some (.ref (G.Z.ad 0)), some (.ref mo), some (.ref o), some (.int 0), some (.int kans), none, none, none] dL_law_369 (by decide) rfl rfl ?_
  refine j_aload_n F1 dL_law_371 rfl ?_
  refine j_aload_n F1 dL_law_372 rfl ?_
  refine j_iload F1 dL_law_373 rfl ?_
  refine j_iconst F1 1 dL_law_375 (by decide) ?_
  refine j_iadd F1 1 dL_law_376 (by decide) ?_
  refine lw_sc F1 B.2.1 (j := 1) (by decide) (by unfold vp_in; decide) hx1 dL_law_377 ?_
  refine j_aload_n F1 dL_law_378 rfl ?_
  refine j_iload F1 dL_law_379 rfl ?_
  refine j_iconst F1 2 dL_law_381 (by decide) ?_
  refine j_iadd F1 2 dL_law_382 (by decide) ?_
  refine lw_sc F1 B.2.1 (j := 2) (by decide) (by unfold vp_in; decide) hx2 dL_law_383 ?_
  refine lw_ci S (nA := 2) (rest := []) hR hG2 h0 rfl rfl (Nat.le_of_ble_eq_true rfl) (rc_le hmc) (rs_le hms) rfl dL_law_384 (fun v M1 hD1 hp => ?_)
  obtain ⟨pl1, k9, t9, h1, -, hv⟩ := hp
  subst hv
  have F2 := S.fx (k := 93 + mc) (n := 2490 + ms) (rc_le hmc) (rs_le hms)
  refine j_istore F2 [some (.ref b), some (.ref (G.Z.ad 0)), some (.ref mo), some (.ref o), some (.int 0), some (.int kans), some (.int v0), none, none] dL_law_387 (by decide) rfl rfl ?_
  exact lw_tail S B.2.2.1 h1 (fun h9 => (hg h9).trans (hans h9)) (rc_le hmc) (rs_le hms) dL_law_389 dL_law_390 dL_law_393 dL_law_395 dL_law_400 dL_law_402 dL_law_405 dL_law_406 dL_law_407 dL_law_408 dL_law_410 dL_law_411 dL_law_412 dL_law_417 (by decide)
set_option maxHeartbeats 4000000 in
theorem h_period {X : Cx} {G : RG} {o n1 b mo ka ta : Nat} {xs : Nat → Int32} {M : Wl} {f : Nat → Int64} (B : BX X G o n1 b mo ka ta xs M) (x : Int32) (hx1 : xs 1 = x) {rm : Room} {kans : Int32} {ans : Int64} (hK : Kw X.l G.Z G.cL o f yL_period wsL_period rm [.ref (G.Z.ad 0), .int x, .ref o] kans ans) (hr1 : rm.cells = 1) (hr2 : rm.slots = 6) (hr3 : rm.frames + 1 ≤ room_1.frames ∧ 8 + (4 + 11) + rm.locals ≤ room_1.locals) {wsR : List Cond} {rm2 : Room} {mc ms : Nat} {v0 : Int32} (hR : Kr X.l G (AM G X.s.heap.size o) yX8_period wsR rm2 M [.ref mo, .int x] (Gi G (AM G X.s.heap.size o) (fun v N => ∃ pl k9 t9 : Nat, (mo, (.inr (8, [.int kans, .ref pl, .ref k9, .ref t9]) : va_E)) ∈ N ∧ KL G M N ∧ (v0 : Int32) = v)) mc ms) (hG2 : MwV wsL_law RL RX8 room_1 103 yX8_period wsR rm2 1 mc ms) (hmc : mc ≤ 1000) (hms : ms ≤ 10000) (hans : kans = 0 → ans = v0.toInt64) : J (X.at 92 2484) 9 (LPc G X.s.heap.size o n1 (WL G.Z tok0 ties0) f M) 420 [some (.ref b), some (.ref (G.Z.ad 0)), some (.ref mo), some (.ref o), some (.int 0), none, none, none, none] [] := by
  have S := B.1
  obtain ⟨pl0, h0⟩ := B.m0
  have F0 := S.fx (k := 92) (n := 2484) (Nat.le_of_ble_eq_true rfl) (Nat.le_of_ble_eq_true rfl)
  refine j_aload_n F0 dL_law_420 rfl ?_
  refine j_aload_n F0 dL_law_421 rfl ?_
  refine j_iload F0 dL_law_422 rfl ?_
  refine j_iconst F0 1 dL_law_424 (by decide) ?_
  refine j_iadd F0 1 dL_law_425 (by decide) ?_
  refine lw_sc F0 B.2.1 (j := 1) (by decide) (by unfold vp_in; decide) hx1 dL_law_426 ?_
  refine j_aload_n F0 dL_law_427 rfl ?_
  refine lw_w S (nA := 3) (rest := []) hK ⟨_, _, _, _, _, rfl, gL_law_L_period, hr1, hr2, (by decide +kernel), hr3⟩ rfl (Nat.le_of_ble_eq_true rfl) rfl (Nat.le_of_ble_eq_true rfl) (Nat.le_of_ble_eq_true rfl) dL_law_428 (fun g hg => ?_)
  have F1 := S.fx (k := 93) (n := 2490) (Nat.le_of_ble_eq_true rfl) (Nat.le_of_ble_eq_true rfl)
  refine j_istore F1 [some (.ref b), some (.ref (G.Z.ad 0)), some (.ref mo), some (.ref o), some (.int 0), some (.int kans), none, none, none] dL_law_431 (by decide) rfl rfl ?_
  refine j_aload_n F1 dL_law_433 rfl ?_
  refine j_aload_n F1 dL_law_434 rfl ?_
  refine j_iload F1 dL_law_435 rfl ?_
  refine j_iconst F1 1 dL_law_437 (by decide) ?_
  refine j_iadd F1 1 dL_law_438 (by decide) ?_
  refine lw_sc F1 B.2.1 (j := 1) (by decide) (by unfold vp_in; decide) hx1 dL_law_439 ?_
  refine lw_ci S (nA := 1) (rest := []) hR hG2 h0 rfl rfl (Nat.le_of_ble_eq_true rfl) (rc_le hmc) (rs_le hms) rfl dL_law_440 (fun v M1 hD1 hp => ?_)
  obtain ⟨pl1, k9, t9, h1, -, hv⟩ := hp
  subst hv
  have F2 := S.fx (k := 93 + mc) (n := 2490 + ms) (rc_le hmc) (rs_le hms)
  refine j_istore F2 [some (.ref b), some (.ref (G.Z.ad 0)), some (.ref mo), some (.ref o), some (.int 0), some (.int kans), some (.int v0), none, none] dL_law_443 (by decide) rfl rfl ?_
  exact lw_tail S B.2.2.1 h1 (fun h9 => (hg h9).trans (hans h9)) (rc_le hmc) (rs_le hms) dL_law_445 dL_law_446 dL_law_449 dL_law_451 dL_law_456 dL_law_458 dL_law_461 dL_law_462 dL_law_463 dL_law_464 dL_law_466 dL_law_467 dL_law_468 dL_law_473 (by decide)
set_option maxHeartbeats 4000000 in
theorem h_tie {X : Cx} {G : RG} {o n1 b mo ka ta : Nat} {xs : Nat → Int32} {M : Wl} {f : Nat → Int64} (B : BX X G o n1 b mo ka ta xs M) (x y : Int32) (hx1 : xs 1 = x) (hx2 : xs 2 = y) {rm : Room} {kans : Int32} {ans : Int64} (hK : Kw X.l G.Z G.cL o f yL_tie wsL_tie rm [.ref (G.Z.ad 0), .int x, .int y, .ref o] kans ans) (hr1 : rm.cells = 1) (hr2 : rm.slots = 6) (hr3 : rm.frames + 1 ≤ room_1.frames ∧ 8 + (5 + 11) + rm.locals ≤ room_1.locals) {wsR : List Cond} {rm2 : Room} {mc ms : Nat} {v0 : Int32} (hR : Kr X.l G (AM G X.s.heap.size o) yX8_tie wsR rm2 M [.ref mo, .int x, .int y] (Gi G (AM G X.s.heap.size o) (fun v N => ∃ pl k9 t9 : Nat, (mo, (.inr (8, [.int kans, .ref pl, .ref k9, .ref t9]) : va_E)) ∈ N ∧ KL G M N ∧ (v0 : Int32) = v)) mc ms) (hG2 : MwV wsL_law RL RX8 room_1 106 yX8_tie wsR rm2 2 mc ms) (hmc : mc ≤ 1000) (hms : ms ≤ 10000) (hans : kans = 0 → ans = v0.toInt64) : J (X.at 92 2484) 9 (LPc G X.s.heap.size o n1 (WL G.Z tok0 ties0) f M) 476 [some (.ref b), some (.ref (G.Z.ad 0)), some (.ref mo), some (.ref o), some (.int 0), none, none, none, none] [] := by
  have S := B.1
  obtain ⟨pl0, h0⟩ := B.m0
  have F0 := S.fx (k := 92) (n := 2484) (Nat.le_of_ble_eq_true rfl) (Nat.le_of_ble_eq_true rfl)
  refine j_aload_n F0 dL_law_476 rfl ?_
  refine j_aload_n F0 dL_law_477 rfl ?_
  refine j_iload F0 dL_law_478 rfl ?_
  refine j_iconst F0 1 dL_law_480 (by decide) ?_
  refine j_iadd F0 1 dL_law_481 (by decide) ?_
  refine lw_sc F0 B.2.1 (j := 1) (by decide) (by unfold vp_in; decide) hx1 dL_law_482 ?_
  refine j_aload_n F0 dL_law_483 rfl ?_
  refine j_iload F0 dL_law_484 rfl ?_
  refine j_iconst F0 2 dL_law_486 (by decide) ?_
  refine j_iadd F0 2 dL_law_487 (by decide) ?_
  refine lw_sc F0 B.2.1 (j := 2) (by decide) (by unfold vp_in; decide) hx2 dL_law_488 ?_
  refine j_aload_n F0 dL_law_489 rfl ?_
  refine lw_w S (nA := 4) (rest := []) hK ⟨_, _, _, _, _, rfl, gL_law_L_tie, hr1, hr2, (by decide +kernel), hr3⟩ rfl (Nat.le_of_ble_eq_true rfl) rfl (Nat.le_of_ble_eq_true rfl) (Nat.le_of_ble_eq_true rfl) dL_law_490 (fun g hg => ?_)
  have F1 := S.fx (k := 93) (n := 2490) (Nat.le_of_ble_eq_true rfl) (Nat.le_of_ble_eq_true rfl)
  refine j_istore F1 [some (.ref b), some (.ref (G.Z.ad 0)), some (.ref mo), some (.ref o), some (.int 0), some (.int kans), none, none, none] dL_law_493 (by decide) rfl rfl ?_
  refine j_aload_n F1 dL_law_495 rfl ?_
  refine j_aload_n F1 dL_law_496 rfl ?_
  refine j_iload F1 dL_law_497 rfl ?_
  refine j_iconst F1 1 dL_law_499 (by decide) ?_
  refine j_iadd F1 1 dL_law_500 (by decide) ?_
  refine lw_sc F1 B.2.1 (j := 1) (by decide) (by unfold vp_in; decide) hx1 dL_law_501 ?_
  refine j_aload_n F1 dL_law_502 rfl ?_
  refine j_iload F1 dL_law_503 rfl ?_
  refine j_iconst F1 2 dL_law_505 (by decide) ?_
  refine j_iadd F1 2 dL_law_506 (by decide) ?_
  refine lw_sc F1 B.2.1 (j := 2) (by decide) (by unfold vp_in; decide) hx2 dL_law_507 ?_
  refine lw_ci S (nA := 2) (rest := []) hR hG2 h0 rfl rfl (Nat.le_of_ble_eq_true rfl) (rc_le hmc) (rs_le hms) rfl dL_law_508 (fun v M1 hD1 hp => ?_)
  obtain ⟨pl1, k9, t9, h1, -, hv⟩ := hp
  subst hv
  have F2 := S.fx (k := 93 + mc) (n := 2490 + ms) (rc_le hmc) (rs_le hms)
  refine j_istore F2 [some (.ref b), some (.ref (G.Z.ad 0)), some (.ref mo), some (.ref o), some (.int 0), some (.int kans), some (.int v0), none, none] dL_law_511 (by decide) rfl rfl ?_
  exact lw_tail S B.2.2.1 h1 (fun h9 => (hg h9).trans (hans h9)) (rc_le hmc) (rs_le hms) dL_law_513 dL_law_514 dL_law_517 dL_law_519 dL_law_524 dL_law_526 dL_law_529 dL_law_530 dL_law_531 dL_law_532 dL_law_534 dL_law_535 dL_law_536 dL_law_541 (by decide)
set_option maxHeartbeats 4000000 in
theorem h_tied {X : Cx} {G : RG} {o n1 b mo ka ta : Nat} {xs : Nat → Int32} {M : Wl} {f : Nat → Int64} (B : BX X G o n1 b mo ka ta xs M) (x : Int32) (hx1 : xs 1 = x) {rm : Room} {kans : Int32} {ans : Int64} (hK : Kw X.l G.Z G.cL o f yL_tied wsL_tied rm [.ref (G.Z.ad 0), .int x, .ref o] kans ans) (hr1 : rm.cells = 1) (hr2 : rm.slots = 6) (hr3 : rm.frames + 1 ≤ room_1.frames ∧ 8 + (4 + 11) + rm.locals ≤ room_1.locals) {wsR : List Cond} {rm2 : Room} {mc ms : Nat} {v0 : Int32} (hR : Kr X.l G (AM G X.s.heap.size o) yX8_tied wsR rm2 M [.ref mo, .int x] (Gi G (AM G X.s.heap.size o) (fun v N => ∃ pl k9 t9 : Nat, (mo, (.inr (8, [.int kans, .ref pl, .ref k9, .ref t9]) : va_E)) ∈ N ∧ KL G M N ∧ (v0 : Int32) = v)) mc ms) (hG2 : MwV wsL_law RL RX8 room_1 109 yX8_tied wsR rm2 1 mc ms) (hmc : mc ≤ 1000) (hms : ms ≤ 10000) (hans : kans = 0 → ans = v0.toInt64) : J (X.at 92 2484) 9 (LPc G X.s.heap.size o n1 (WL G.Z tok0 ties0) f M) 544 [some (.ref b), some (.ref (G.Z.ad 0)), some (.ref mo), some (.ref o), some (.int 0), none, none, none, none] [] := by
  have S := B.1
  obtain ⟨pl0, h0⟩ := B.m0
  have F0 := S.fx (k := 92) (n := 2484) (Nat.le_of_ble_eq_true rfl) (Nat.le_of_ble_eq_true rfl)
  refine j_aload_n F0 dL_law_544 rfl ?_
  refine j_aload_n F0 dL_law_545 rfl ?_
  refine j_iload F0 dL_law_546 rfl ?_
  refine j_iconst F0 1 dL_law_548 (by decide) ?_
  refine j_iadd F0 1 dL_law_549 (by decide) ?_
  refine lw_sc F0 B.2.1 (j := 1) (by decide) (by unfold vp_in; decide) hx1 dL_law_550 ?_
  refine j_aload_n F0 dL_law_551 rfl ?_
  refine lw_w S (nA := 3) (rest := []) hK ⟨_, _, _, _, _, rfl, gL_law_L_tied, hr1, hr2, (by decide +kernel), hr3⟩ rfl (Nat.le_of_ble_eq_true rfl) rfl (Nat.le_of_ble_eq_true rfl) (Nat.le_of_ble_eq_true rfl) dL_law_552 (fun g hg => ?_)
  have F1 := S.fx (k := 93) (n := 2490) (Nat.le_of_ble_eq_true rfl) (Nat.le_of_ble_eq_true rfl)
  refine j_istore F1 [some (.ref b), some (.ref (G.Z.ad 0)), some (.ref mo), some (.ref o), some (.int 0), some (.int kans), none, none, none] dL_law_555 (by decide) rfl rfl ?_
  refine j_aload_n F1 dL_law_557 rfl ?_
  refine j_aload_n F1 dL_law_558 rfl ?_
  refine j_iload F1 dL_law_559 rfl ?_
  refine j_iconst F1 1 dL_law_561 (by decide) ?_
  refine j_iadd F1 1 dL_law_562 (by decide) ?_
  refine lw_sc F1 B.2.1 (j := 1) (by decide) (by unfold vp_in; decide) hx1 dL_law_563 ?_
  refine lw_ci S (nA := 1) (rest := []) hR hG2 h0 rfl rfl (Nat.le_of_ble_eq_true rfl) (rc_le hmc) (rs_le hms) rfl dL_law_564 (fun v M1 hD1 hp => ?_)
  obtain ⟨pl1, k9, t9, h1, -, hv⟩ := hp
  subst hv
  have F2 := S.fx (k := 93 + mc) (n := 2490 + ms) (rc_le hmc) (rs_le hms)
  refine j_istore F2 [some (.ref b), some (.ref (G.Z.ad 0)), some (.ref mo), some (.ref o), some (.int 0), some (.int kans), some (.int v0), none, none] dL_law_567 (by decide) rfl rfl ?_
  exact lw_tail S B.2.2.1 h1 (fun h9 => (hg h9).trans (hans h9)) (rc_le hmc) (rs_le hms) dL_law_569 dL_law_570 dL_law_573 dL_law_575 dL_law_580 dL_law_582 dL_law_585 dL_law_586 dL_law_587 dL_law_588 dL_law_590 dL_law_591 dL_law_592 dL_law_597 (by decide)
set_option maxHeartbeats 4000000 in
theorem h_twill {X : Cx} {G : RG} {o n1 b mo ka ta : Nat} {xs : Nat → Int32} {M : Wl} {f : Nat → Int64} (B : BX X G o n1 b mo ka ta xs M) (x y : Int32) (hx1 : xs 1 = x) (hx2 : xs 2 = y) {rm : Room} {kans : Int32} {ans : Int64} (hK : Kw X.l G.Z G.cL o f yL_twill wsL_twill rm [.ref (G.Z.ad 0), .int x, .int y, .ref o] kans ans) (hr1 : rm.cells = 1) (hr2 : rm.slots = 6) (hr3 : rm.frames + 1 ≤ room_1.frames ∧ 8 + (5 + 11) + rm.locals ≤ room_1.locals) {wsR : List Cond} {rm2 : Room} {mc ms : Nat} {v0 : Int32} (hR : Kr X.l G (AM G X.s.heap.size o) yX8_twill wsR rm2 M [.ref mo, .int x, .int y] (Gi G (AM G X.s.heap.size o) (fun v N => ∃ pl k9 t9 : Nat, (mo, (.inr (8, [.int kans, .ref pl, .ref k9, .ref t9]) : va_E)) ∈ N ∧ KL G M N ∧ (v0 : Int32) = v)) mc ms) (hG2 : MwV wsL_law RL RX8 room_1 112 yX8_twill wsR rm2 2 mc ms) (hmc : mc ≤ 1000) (hms : ms ≤ 10000) (hans : kans = 0 → ans = v0.toInt64) : J (X.at 92 2484) 9 (LPc G X.s.heap.size o n1 (WL G.Z tok0 ties0) f M) 600 [some (.ref b), some (.ref (G.Z.ad 0)), some (.ref mo), some (.ref o), some (.int 0), none, none, none, none] [] := by
  have S := B.1
  obtain ⟨pl0, h0⟩ := B.m0
  have F0 := S.fx (k := 92) (n := 2484) (Nat.le_of_ble_eq_true rfl) (Nat.le_of_ble_eq_true rfl)
  refine j_aload_n F0 dL_law_600 rfl ?_
  refine j_aload_n F0 dL_law_601 rfl ?_
  refine j_iload F0 dL_law_602 rfl ?_
  refine j_iconst F0 1 dL_law_604 (by decide) ?_
  refine j_iadd F0 1 dL_law_605 (by decide) ?_
  refine lw_sc F0 B.2.1 (j := 1) (by decide) (by unfold vp_in; decide) hx1 dL_law_606 ?_
  refine j_aload_n F0 dL_law_607 rfl ?_
  refine j_iload F0 dL_law_608 rfl ?_
  refine j_iconst F0 2 dL_law_610 (by decide) ?_
  refine j_iadd F0 2 dL_law_611 (by decide) ?_
  refine lw_sc F0 B.2.1 (j := 2) (by decide) (by unfold vp_in; decide) hx2 dL_law_612 ?_
  refine j_aload_n F0 dL_law_613 rfl ?_
  refine lw_w S (nA := 4) (rest := []) hK ⟨_, _, _, _, _, rfl, gL_law_L_twill, hr1, hr2, (by decide +kernel), hr3⟩ rfl (Nat.le_of_ble_eq_true rfl) rfl (Nat.le_of_ble_eq_true rfl) (Nat.le_of_ble_eq_true rfl) dL_law_614 (fun g hg => ?_)
  have F1 := S.fx (k := 93) (n := 2490) (Nat.le_of_ble_eq_true rfl) (Nat.le_of_ble_eq_true rfl)
  refine j_istore F1 [some (.ref b), some (.ref (G.Z.ad 0)), some (.ref mo), some (.ref o), some (.int 0), some (.int kans), none, none, none] dL_law_617 (by decide) rfl rfl ?_
  refine j_aload_n F1 dL_law_619 rfl ?_
  refine j_aload_n F1 dL_law_620 rfl ?_
  refine j_iload F1 dL_law_621 rfl ?_
  refine j_iconst F1 1 dL_law_623 (by decide) ?_
  refine j_iadd F1 1 dL_law_624 (by decide) ?_
  refine lw_sc F1 B.2.1 (j := 1) (by decide) (by unfold vp_in; decide) hx1 dL_law_625 ?_
  refine j_aload_n F1 dL_law_626 rfl ?_
  refine j_iload F1 dL_law_627 rfl ?_
  refine j_iconst F1 2 dL_law_629 (by decide) ?_
  refine j_iadd F1 2 dL_law_630 (by decide) ?_
  refine lw_sc F1 B.2.1 (j := 2) (by decide) (by unfold vp_in; decide) hx2 dL_law_631 ?_
  refine lw_ci S (nA := 2) (rest := []) hR hG2 h0 rfl rfl (Nat.le_of_ble_eq_true rfl) (rc_le hmc) (rs_le hms) rfl dL_law_632 (fun v M1 hD1 hp => ?_)
  obtain ⟨pl1, k9, t9, h1, -, hv⟩ := hp
  subst hv
  have F2 := S.fx (k := 93 + mc) (n := 2490 + ms) (rc_le hmc) (rs_le hms)
  refine j_istore F2 [some (.ref b), some (.ref (G.Z.ad 0)), some (.ref mo), some (.ref o), some (.int 0), some (.int kans), some (.int v0), none, none] dL_law_635 (by decide) rfl rfl ?_
  exact lw_tail S B.2.2.1 h1 (fun h9 => (hg h9).trans (hans h9)) (rc_le hmc) (rs_le hms) dL_law_637 dL_law_638 dL_law_641 dL_law_643 dL_law_648 dL_law_650 dL_law_653 dL_law_654 dL_law_655 dL_law_656 dL_law_658 dL_law_659 dL_law_660 dL_law_665 (by decide)
set_option maxHeartbeats 4000000 in
theorem h_swap {X : Cx} {G : RG} {o n1 b mo ka ta : Nat} {xs : Nat → Int32} {M : Wl} {f : Nat → Int64} (B : BX X G o n1 b mo ka ta xs M) (x y : Int32) (hx1 : xs 1 = x) (hx2 : xs 2 = y) {rm : Room} {kans : Int32} {ans : Int64} (hK : Kw X.l G.Z G.cL o f yL_swap wsL_swap rm [.ref (G.Z.ad 0), .int x, .int y, .ref o] kans ans) (hr1 : rm.cells = 1) (hr2 : rm.slots = 6) (hr3 : rm.frames + 1 ≤ room_1.frames ∧ 8 + (5 + 11) + rm.locals ≤ room_1.locals) {wsR : List Cond} {rm2 : Room} {mc ms : Nat} {v0 : Int32} (hR : Kr X.l G (AM G X.s.heap.size o) yX8_swap wsR rm2 M [.ref mo, .int x, .int y] (Gi G (AM G X.s.heap.size o) (fun v N => ∃ pl k9 t9 : Nat, (mo, (.inr (8, [.int kans, .ref pl, .ref k9, .ref t9]) : va_E)) ∈ N ∧ KL G M N ∧ (v0 : Int32) = v)) mc ms) (hG2 : MwV wsL_law RL RX8 room_1 115 yX8_swap wsR rm2 2 mc ms) (hmc : mc ≤ 1000) (hms : ms ≤ 10000) (hans : kans = 0 → ans = v0.toInt64) : J (X.at 92 2484) 9 (LPc G X.s.heap.size o n1 (WL G.Z tok0 ties0) f M) 668 [some (.ref b), some (.ref (G.Z.ad 0)), some (.ref mo), some (.ref o), some (.int 0), none, none, none, none] [] := by
  have S := B.1
  obtain ⟨pl0, h0⟩ := B.m0
  have F0 := S.fx (k := 92) (n := 2484) (Nat.le_of_ble_eq_true rfl) (Nat.le_of_ble_eq_true rfl)
  refine j_aload_n F0 dL_law_668 rfl ?_
  refine j_aload_n F0 dL_law_669 rfl ?_
  refine j_iload F0 dL_law_670 rfl ?_
  refine j_iconst F0 1 dL_law_672 (by decide) ?_
  refine j_iadd F0 1 dL_law_673 (by decide) ?_
  refine lw_sc F0 B.2.1 (j := 1) (by decide) (by unfold vp_in; decide) hx1 dL_law_674 ?_
  refine j_aload_n F0 dL_law_675 rfl ?_
  refine j_iload F0 dL_law_676 rfl ?_
  refine j_iconst F0 2 dL_law_678 (by decide) ?_
  refine j_iadd F0 2 dL_law_679 (by decide) ?_
  refine lw_sc F0 B.2.1 (j := 2) (by decide) (by unfold vp_in; decide) hx2 dL_law_680 ?_
  refine j_aload_n F0 dL_law_681 rfl ?_
  refine lw_w S (nA := 4) (rest := []) hK ⟨_, _, _, _, _, rfl, gL_law_L_swap, hr1, hr2, (by decide +kernel), hr3⟩ rfl (Nat.le_of_ble_eq_true rfl) rfl (Nat.le_of_ble_eq_true rfl) (Nat.le_of_ble_eq_true rfl) dL_law_682 (fun g hg => ?_)
  have F1 := S.fx (k := 93) (n := 2490) (Nat.le_of_ble_eq_true rfl) (Nat.le_of_ble_eq_true rfl)
  refine j_istore F1 [some (.ref b), some (.ref (G.Z.ad 0)), some (.ref mo), some (.ref o), some (.int 0), some (.int kans), none, none, none] dL_law_685 (by decide) rfl rfl ?_
  refine j_aload_n F1 dL_law_687 rfl ?_
  refine j_aload_n F1 dL_law_688 rfl ?_
  refine j_iload F1 dL_law_689 rfl ?_
  refine j_iconst F1 1 dL_law_691 (by decide) ?_
  refine j_iadd F1 1 dL_law_692 (by decide) ?_
  refine lw_sc F1 B.2.1 (j := 1) (by decide) (by unfold vp_in; decide) hx1 dL_law_693 ?_
  refine j_aload_n F1 dL_law_694 rfl ?_
  refine j_iload F1 dL_law_695 rfl ?_
  refine j_iconst F1 2 dL_law_697 (by decide) ?_
  refine j_iadd F1 2 dL_law_698 (by decide) ?_
  refine lw_sc F1 B.2.1 (j := 2) (by decide) (by unfold vp_in; decide) hx2 dL_law_699 ?_
  refine lw_ci S (nA := 2) (rest := []) hR hG2 h0 rfl rfl (Nat.le_of_ble_eq_true rfl) (rc_le hmc) (rs_le hms) rfl dL_law_700 (fun v M1 hD1 hp => ?_)
  obtain ⟨pl1, k9, t9, h1, -, hv⟩ := hp
  subst hv
  have F2 := S.fx (k := 93 + mc) (n := 2490 + ms) (rc_le hmc) (rs_le hms)
  refine j_istore F2 [some (.ref b), some (.ref (G.Z.ad 0)), some (.ref mo), some (.ref o), some (.int 0), some (.int kans), some (.int v0), none, none] dL_law_703 (by decide) rfl rfl ?_
  exact lw_tail S B.2.2.1 h1 (fun h9 => (hg h9).trans (hans h9)) (rc_le hmc) (rs_le hms) dL_law_705 dL_law_706 dL_law_709 dL_law_711 dL_law_716 dL_law_718 dL_law_721 dL_law_722 dL_law_723 dL_law_724 dL_law_726 dL_law_727 dL_law_728 dL_law_733 (by decide)
set_option maxHeartbeats 4000000 in
theorem h_cloth {X : Cx} {G : RG} {o n1 b mo ka ta : Nat} {xs : Nat → Int32} {M : Wl} {f : Nat → Int64} (B : BX X G o n1 b mo ka ta xs M) (x : Int32) (hx1 : xs 1 = x) {rm : Room} {kans : Int32} {ans : Int64} (hK : Kw X.l G.Z G.cL o f yL_cloth wsL_cloth rm [.ref (G.Z.ad 0), .int x, .ref o] kans ans) (hr1 : rm.cells = 1) (hr2 : rm.slots = 6) (hr3 : rm.frames + 1 ≤ room_1.frames ∧ 8 + (4 + 11) + rm.locals ≤ room_1.locals) {wsR : List Cond} {rm2 : Room} {mc ms : Nat} {v0 : Int32} (hR : Kr X.l G (AM G X.s.heap.size o) yX8_cloth__ wsR rm2 M [.ref mo, .int x] (Gi G (AM G X.s.heap.size o) (fun v N => ∃ pl k9 t9 : Nat, (mo, (.inr (8, [.int kans, .ref pl, .ref k9, .ref t9]) : va_E)) ∈ N ∧ KL G M N ∧ (v0 : Int32) = v)) mc ms) (hG2 : MwV wsL_law RL RX8 room_1 118 yX8_cloth__ wsR rm2 1 mc ms) (hmc : mc ≤ 1000) (hms : ms ≤ 10000) (hans : kans = 0 → ans = v0.toInt64) : J (X.at 92 2484) 9 (LPc G X.s.heap.size o n1 (WL G.Z tok0 ties0) f M) 736 [some (.ref b), some (.ref (G.Z.ad 0)), some (.ref mo), some (.ref o), some (.int 0), none, none, none, none] [] := by
  have S := B.1
  obtain ⟨pl0, h0⟩ := B.m0
  have F0 := S.fx (k := 92) (n := 2484) (Nat.le_of_ble_eq_true rfl) (Nat.le_of_ble_eq_true rfl)
  refine j_aload_n F0 dL_law_736 rfl ?_
  refine j_aload_n F0 dL_law_737 rfl ?_
  refine j_iload F0 dL_law_738 rfl ?_
  refine j_iconst F0 1 dL_law_740 (by decide) ?_
  refine j_iadd F0 1 dL_law_741 (by decide) ?_
  refine lw_sc F0 B.2.1 (j := 1) (by decide) (by unfold vp_in; decide) hx1 dL_law_742 ?_
  refine j_aload_n F0 dL_law_743 rfl ?_
  refine lw_w S (nA := 3) (rest := []) hK ⟨_, _, _, _, _, rfl, gL_law_L_cloth, hr1, hr2, (by decide +kernel), hr3⟩ rfl (Nat.le_of_ble_eq_true rfl) rfl (Nat.le_of_ble_eq_true rfl) (Nat.le_of_ble_eq_true rfl) dL_law_744 (fun g hg => ?_)
  have F1 := S.fx (k := 93) (n := 2490) (Nat.le_of_ble_eq_true rfl) (Nat.le_of_ble_eq_true rfl)
  refine j_istore F1 [some (.ref b), some (.ref (G.Z.ad 0)), some (.ref mo), some (.ref o), some (.int 0), some (.int kans), none, none, none] dL_law_747 (by decide) rfl rfl ?_
  refine j_aload_n F1 dL_law_749 rfl ?_
  refine j_aload_n F1 dL_law_750 rfl ?_
  refine j_iload F1 dL_law_751 rfl ?_
  refine j_iconst F1 1 dL_law_753 (by decide) ?_
  refine j_iadd F1 1 dL_law_754 (by decide) ?_
  refine lw_sc F1 B.2.1 (j := 1) (by decide) (by unfold vp_in; decide) hx1 dL_law_755 ?_
  refine lw_ci S (nA := 1) (rest := []) hR hG2 h0 rfl rfl (Nat.le_of_ble_eq_true rfl) (rc_le hmc) (rs_le hms) rfl dL_law_756 (fun v M1 hD1 hp => ?_)
  obtain ⟨pl1, k9, t9, h1, -, hv⟩ := hp
  subst hv
  have F2 := S.fx (k := 93 + mc) (n := 2490 + ms) (rc_le hmc) (rs_le hms)
  refine j_istore F2 [some (.ref b), some (.ref (G.Z.ad 0)), some (.ref mo), some (.ref o), some (.int 0), some (.int kans), some (.int v0), none, none] dL_law_759 (by decide) rfl rfl ?_
  exact lw_tail S B.2.2.1 h1 (fun h9 => (hg h9).trans (hans h9)) (rc_le hmc) (rs_le hms) dL_law_761 dL_law_762 dL_law_765 dL_law_767 dL_law_772 dL_law_774 dL_law_777 dL_law_778 dL_law_779 dL_law_780 dL_law_782 dL_law_783 dL_law_784 dL_law_789 (by decide)
set_option maxHeartbeats 4000000 in
theorem h_field {X : Cx} {G : RG} {o n1 b mo ka ta : Nat} {xs : Nat → Int32} {M : Wl} {f : Nat → Int64} (B : BX X G o n1 b mo ka ta xs M) (x y z : Int32) (hx1 : xs 1 = x) (hx2 : xs 2 = y) (hx3 : xs 3 = z) {rm : Room} {kans : Int32} {ans : Int64} (hK : Kw X.l G.Z G.cL o f yL_field wsL_field rm [.ref (G.Z.ad 0), .int x, .int y, .int z, .ref o] kans ans) (hr1 : rm.cells = 1) (hr2 : rm.slots = 6) (hr3 : rm.frames + 1 ≤ room_1.frames ∧ 8 + (6 + 11) + rm.locals ≤ room_1.locals) {wsR : List Cond} {rm2 : Room} {mc ms : Nat} {v0 : Int32} (hR : Kr X.l G (AM G X.s.heap.size o) yX8_field wsR rm2 M [.ref mo, .int x, .int y, .int z] (Gi G (AM G X.s.heap.size o) (fun v N => ∃ pl k9 t9 : Nat, (mo, (.inr (8, [.int kans, .ref pl, .ref k9, .ref t9]) : va_E)) ∈ N ∧ KL G M N ∧ (v0 : Int32) = v)) mc ms) (hG2 : MwV wsL_law RL RX8 room_1 122 yX8_field wsR rm2 3 mc ms) (hmc : mc ≤ 1000) (hms : ms ≤ 10000) (hans : kans = 0 → ans = v0.toInt64) : J (X.at 92 2484) 9 (LPc G X.s.heap.size o n1 (WL G.Z tok0 ties0) f M) 792 [some (.ref b), some (.ref (G.Z.ad 0)), some (.ref mo), some (.ref o), some (.int 0), none, none, none, none] [] := by
  have S := B.1
  obtain ⟨pl0, h0⟩ := B.m0
  have F0 := S.fx (k := 92) (n := 2484) (Nat.le_of_ble_eq_true rfl) (Nat.le_of_ble_eq_true rfl)
  refine j_aload_n F0 dL_law_792 rfl ?_
  refine j_aload_n F0 dL_law_793 rfl ?_
  refine j_iload F0 dL_law_794 rfl ?_
  refine j_iconst F0 1 dL_law_796 (by decide) ?_
  refine j_iadd F0 1 dL_law_797 (by decide) ?_
  refine lw_sc F0 B.2.1 (j := 1) (by decide) (by unfold vp_in; decide) hx1 dL_law_798 ?_
  refine j_aload_n F0 dL_law_799 rfl ?_
  refine j_iload F0 dL_law_800 rfl ?_
  refine j_iconst F0 2 dL_law_802 (by decide) ?_
  refine j_iadd F0 2 dL_law_803 (by decide) ?_
  refine lw_sc F0 B.2.1 (j := 2) (by decide) (by unfold vp_in; decide) hx2 dL_law_804 ?_
  refine j_aload_n F0 dL_law_805 rfl ?_
  refine j_iload F0 dL_law_806 rfl ?_
  refine j_iconst F0 3 dL_law_808 (by decide) ?_
  refine j_iadd F0 3 dL_law_809 (by decide) ?_
  refine lw_sc F0 B.2.1 (j := 3) (by decide) (by unfold vp_in; decide) hx3 dL_law_810 ?_
  refine j_aload_n F0 dL_law_811 rfl ?_
  refine lw_w S (nA := 5) (rest := []) hK ⟨_, _, _, _, _, rfl, gL_law_L_field, hr1, hr2, (by decide +kernel), hr3⟩ rfl (Nat.le_of_ble_eq_true rfl) rfl (Nat.le_of_ble_eq_true rfl) (Nat.le_of_ble_eq_true rfl) dL_law_812 (fun g hg => ?_)
  have F1 := S.fx (k := 93) (n := 2490) (Nat.le_of_ble_eq_true rfl) (Nat.le_of_ble_eq_true rfl)
  refine j_istore F1 [some (.ref b), some (.ref (G.Z.ad 0)), some (.ref mo), some (.ref o), some (.int 0), some (.int kans), none, none, none] dL_law_815 (by decide) rfl rfl ?_
  refine j_aload_n F1 dL_law_817 rfl ?_
  refine j_aload_n F1 dL_law_818 rfl ?_
  refine j_iload F1 dL_law_819 rfl ?_
  refine j_iconst F1 1 dL_law_821 (by decide) ?_
  refine j_iadd F1 1 dL_law_822 (by decide) ?_
  refine lw_sc F1 B.2.1 (j := 1) (by decide) (by unfold vp_in; decide) hx1 dL_law_823 ?_
  refine j_aload_n F1 dL_law_824 rfl ?_
  refine j_iload F1 dL_law_825 rfl ?_
  refine j_iconst F1 2 dL_law_827 (by decide) ?_
  refine j_iadd F1 2 dL_law_828 (by decide) ?_
  refine lw_sc F1 B.2.1 (j := 2) (by decide) (by unfold vp_in; decide) hx2 dL_law_829 ?_
  refine j_aload_n F1 dL_law_830 rfl ?_
  refine j_iload F1 dL_law_831 rfl ?_
  refine j_iconst F1 3 dL_law_833 (by decide) ?_
  refine j_iadd F1 3 dL_law_834 (by decide) ?_
  refine lw_sc F1 B.2.1 (j := 3) (by decide) (by unfold vp_in; decide) hx3 dL_law_835 ?_
  refine lw_ci S (nA := 3) (rest := []) hR hG2 h0 rfl rfl (Nat.le_of_ble_eq_true rfl) (rc_le hmc) (rs_le hms) rfl dL_law_836 (fun v M1 hD1 hp => ?_)
  obtain ⟨pl1, k9, t9, h1, -, hv⟩ := hp
  subst hv
  have F2 := S.fx (k := 93 + mc) (n := 2490 + ms) (rc_le hmc) (rs_le hms)
  refine j_istore F2 [some (.ref b), some (.ref (G.Z.ad 0)), some (.ref mo), some (.ref o), some (.int 0), some (.int kans), some (.int v0), none, none] dL_law_839 (by decide) rfl rfl ?_
  exact lw_tail S B.2.2.1 h1 (fun h9 => (hg h9).trans (hans h9)) (rc_le hmc) (rs_le hms) dL_law_841 dL_law_842 dL_law_845 dL_law_847 dL_law_852 dL_law_854 dL_law_857 dL_law_858 dL_law_859 dL_law_860 dL_law_862 dL_law_863 dL_law_864 dL_law_869 (by decide)
set_option maxHeartbeats 4000000 in
theorem h_floats {X : Cx} {G : RG} {o n1 b mo ka ta : Nat} {xs : Nat → Int32} {M : Wl} {f : Nat → Int64} (B : BX X G o n1 b mo ka ta xs M) (x : Int32) (hx1 : xs 1 = x) {rm : Room} {kans : Int32} {ans : Int64} (hK : Kw X.l G.Z G.cL o f yL_floats wsL_floats rm [.ref (G.Z.ad 0), .int x, .ref o] kans ans) (hr1 : rm.cells = 1) (hr2 : rm.slots = 6) (hr3 : rm.frames + 1 ≤ room_1.frames ∧ 8 + (4 + 11) + rm.locals ≤ room_1.locals) {wsR : List Cond} {rm2 : Room} {mc ms : Nat} {v0 : Int32} (hR : Kr X.l G (AM G X.s.heap.size o) yX8_floats wsR rm2 M [.ref mo, .int x] (Gi G (AM G X.s.heap.size o) (fun v N => ∃ pl k9 t9 : Nat, (mo, (.inr (8, [.int kans, .ref pl, .ref k9, .ref t9]) : va_E)) ∈ N ∧ KL G M N ∧ (v0 : Int32) = v)) mc ms) (hG2 : MwV wsL_law RL RX8 room_1 125 yX8_floats wsR rm2 1 mc ms) (hmc : mc ≤ 1000) (hms : ms ≤ 10000) (hans : kans = 0 → ans = v0.toInt64) : J (X.at 92 2484) 9 (LPc G X.s.heap.size o n1 (WL G.Z tok0 ties0) f M) 872 [some (.ref b), some (.ref (G.Z.ad 0)), some (.ref mo), some (.ref o), some (.int 0), none, none, none, none] [] := by
  have S := B.1
  obtain ⟨pl0, h0⟩ := B.m0
  have F0 := S.fx (k := 92) (n := 2484) (Nat.le_of_ble_eq_true rfl) (Nat.le_of_ble_eq_true rfl)
  refine j_aload_n F0 dL_law_872 rfl ?_
  refine j_aload_n F0 dL_law_873 rfl ?_
  refine j_iload F0 dL_law_874 rfl ?_
  refine j_iconst F0 1 dL_law_876 (by decide) ?_
  refine j_iadd F0 1 dL_law_877 (by decide) ?_
  refine lw_sc F0 B.2.1 (j := 1) (by decide) (by unfold vp_in; decide) hx1 dL_law_878 ?_
  refine j_aload_n F0 dL_law_879 rfl ?_
  refine lw_w S (nA := 3) (rest := []) hK ⟨_, _, _, _, _, rfl, gL_law_L_floats, hr1, hr2, (by decide +kernel), hr3⟩ rfl (Nat.le_of_ble_eq_true rfl) rfl (Nat.le_of_ble_eq_true rfl) (Nat.le_of_ble_eq_true rfl) dL_law_880 (fun g hg => ?_)
  have F1 := S.fx (k := 93) (n := 2490) (Nat.le_of_ble_eq_true rfl) (Nat.le_of_ble_eq_true rfl)
  refine j_istore F1 [some (.ref b), some (.ref (G.Z.ad 0)), some (.ref mo), some (.ref o), some (.int 0), some (.int kans), none, none, none] dL_law_883 (by decide) rfl rfl ?_
  refine j_aload_n F1 dL_law_885 rfl ?_
  refine j_aload_n F1 dL_law_886 rfl ?_
  refine j_iload F1 dL_law_887 rfl ?_
  refine j_iconst F1 1 dL_law_889 (by decide) ?_
  refine j_iadd F1 1 dL_law_890 (by decide) ?_
  refine lw_sc F1 B.2.1 (j := 1) (by decide) (by unfold vp_in; decide) hx1 dL_law_891 ?_
  refine lw_ci S (nA := 1) (rest := []) hR hG2 h0 rfl rfl (Nat.le_of_ble_eq_true rfl) (rc_le hmc) (rs_le hms) rfl dL_law_892 (fun v M1 hD1 hp => ?_)
  obtain ⟨pl1, k9, t9, h1, -, hv⟩ := hp
  subst hv
  have F2 := S.fx (k := 93 + mc) (n := 2490 + ms) (rc_le hmc) (rs_le hms)
  refine j_istore F2 [some (.ref b), some (.ref (G.Z.ad 0)), some (.ref mo), some (.ref o), some (.int 0), some (.int kans), some (.int v0), none, none] dL_law_895 (by decide) rfl rfl ?_
  exact lw_tail S B.2.2.1 h1 (fun h9 => (hg h9).trans (hans h9)) (rc_le hmc) (rs_le hms) dL_law_897 dL_law_898 dL_law_901 dL_law_903 dL_law_908 dL_law_910 dL_law_913 dL_law_914 dL_law_915 dL_law_916 dL_law_918 dL_law_919 dL_law_920 dL_law_925 (by decide)
set_option maxHeartbeats 4000000 in
theorem h_where {X : Cx} {G : RG} {o n1 b mo ka ta : Nat} {xs : Nat → Int32} {M : Wl} {f : Nat → Int64} (B : BX X G o n1 b mo ka ta xs M) (x y : Int32) (hx1 : xs 1 = x) (hx2 : xs 2 = y) {rm : Room} {kans : Int32} {ans : Int64} (hK : Kw X.l G.Z G.cL o f yL_where wsL_where rm [.ref (G.Z.ad 0), .int x, .int (b2i (y != 0)), .ref o] kans ans) (hr1 : rm.cells = 1) (hr2 : rm.slots = 6) (hr3 : rm.frames + 1 ≤ room_1.frames ∧ 8 + (5 + 11) + rm.locals ≤ room_1.locals) {wsR : List Cond} {rm2 : Room} {mc ms : Nat} {v0 : Int32} (hR : Kr X.l G (AM G X.s.heap.size o) yX8_where wsR rm2 M [.ref mo, .int x, .int (b2i (y != 0))] (Gi G (AM G X.s.heap.size o) (fun v N => ∃ pl k9 t9 : Nat, (mo, (.inr (8, [.int kans, .ref pl, .ref k9, .ref t9]) : va_E)) ∈ N ∧ KL G M N ∧ (v0 : Int32) = v)) mc ms) (hG2 : MwV wsL_law RL RX8 room_1 129 yX8_where wsR rm2 2 mc ms) (hmc : mc ≤ 1000) (hms : ms ≤ 10000) (hans : kans = 0 → ans = v0.toInt64) : J (X.at 92 2484) 9 (LPc G X.s.heap.size o n1 (WL G.Z tok0 ties0) f M) 928 [some (.ref b), some (.ref (G.Z.ad 0)), some (.ref mo), some (.ref o), some (.int 0), none, none, none, none] [] := by
  have S := B.1
  obtain ⟨pl0, h0⟩ := B.m0
  have F0 := S.fx (k := 92) (n := 2484) (Nat.le_of_ble_eq_true rfl) (Nat.le_of_ble_eq_true rfl)
  refine j_aload_n F0 dL_law_928 rfl ?_
  refine j_aload_n F0 dL_law_929 rfl ?_
  refine j_iload F0 dL_law_930 rfl ?_
  refine j_iconst F0 1 dL_law_932 (by decide) ?_
  refine j_iadd F0 1 dL_law_933 (by decide) ?_
  refine lw_sc F0 B.2.1 (j := 1) (by decide) (by unfold vp_in; decide) hx1 dL_law_934 ?_
  refine j_aload_n F0 dL_law_935 rfl ?_
  refine j_iload F0 dL_law_936 rfl ?_
  refine j_iconst F0 2 dL_law_938 (by decide) ?_
  refine j_iadd F0 2 dL_law_939 (by decide) ?_
  refine lw_sc F0 B.2.1 (j := 2) (by decide) (by unfold vp_in; decide) hx2 dL_law_940 ?_
  refine lw_bool F0 dL_law_941 dL_law_944 dL_law_945 dL_law_948 ?_
  refine j_aload_n F0 dL_law_949 rfl ?_
  refine lw_w S (nA := 4) (rest := []) hK ⟨_, _, _, _, _, rfl, gL_law_L_where, hr1, hr2, (by decide +kernel), hr3⟩ rfl (Nat.le_of_ble_eq_true rfl) rfl (Nat.le_of_ble_eq_true rfl) (Nat.le_of_ble_eq_true rfl) dL_law_950 (fun g hg => ?_)
  have F1 := S.fx (k := 93) (n := 2490) (Nat.le_of_ble_eq_true rfl) (Nat.le_of_ble_eq_true rfl)
  refine j_istore F1 [some (.ref b), some (.ref (G.Z.ad 0)), some (.ref mo), some (.ref o), some (.int 0), some (.int kans), none, none, none] dL_law_953 (by decide) rfl rfl ?_
  refine j_aload_n F1 dL_law_955 rfl ?_
  refine j_aload_n F1 dL_law_956 rfl ?_
  refine j_iload F1 dL_law_957 rfl ?_
  refine j_iconst F1 1 dL_law_959 (by decide) ?_
  refine j_iadd F1 1 dL_law_960 (by decide) ?_
  refine lw_sc F1 B.2.1 (j := 1) (by decide) (by unfold vp_in; decide) hx1 dL_law_961 ?_
  refine j_aload_n F1 dL_law_962 rfl ?_
  refine j_iload F1 dL_law_963 rfl ?_
  refine j_iconst F1 2 dL_law_965 (by decide) ?_
  refine j_iadd F1 2 dL_law_966 (by decide) ?_
  refine lw_sc F1 B.2.1 (j := 2) (by decide) (by unfold vp_in; decide) hx2 dL_law_967 ?_
  refine lw_bool F1 dL_law_968 dL_law_971 dL_law_972 dL_law_975 ?_
  refine lw_ci S (nA := 2) (rest := []) hR hG2 h0 rfl rfl (Nat.le_of_ble_eq_true rfl) (rc_le hmc) (rs_le hms) rfl dL_law_976 (fun v M1 hD1 hp => ?_)
  obtain ⟨pl1, k9, t9, h1, -, hv⟩ := hp
  subst hv
  have F2 := S.fx (k := 93 + mc) (n := 2490 + ms) (rc_le hmc) (rs_le hms)
  refine j_istore F2 [some (.ref b), some (.ref (G.Z.ad 0)), some (.ref mo), some (.ref o), some (.int 0), some (.int kans), some (.int v0), none, none] dL_law_979 (by decide) rfl rfl ?_
  exact lw_tail S B.2.2.1 h1 (fun h9 => (hg h9).trans (hans h9)) (rc_le hmc) (rs_le hms) dL_law_981 dL_law_982 dL_law_985 dL_law_987 dL_law_992 dL_law_994 dL_law_997 dL_law_998 dL_law_999 dL_law_1000 dL_law_1002 dL_law_1003 dL_law_1004 dL_law_1009 (by decide)
set_option maxHeartbeats 4000000 in
theorem h_ups {X : Cx} {G : RG} {o n1 b mo ka ta : Nat} {xs : Nat → Int32} {M : Wl} {f : Nat → Int64} (B : BX X G o n1 b mo ka ta xs M) (x y : Int32) (hx1 : xs 1 = x) (hx2 : xs 2 = y) {rm : Room} {kans : Int32} {ans : Int64} (hK : Kw X.l G.Z G.cL o f yL_ups wsL_ups rm [.ref (G.Z.ad 0), .int x, .int (b2i (y != 0)), .ref o] kans ans) (hr1 : rm.cells = 1) (hr2 : rm.slots = 6) (hr3 : rm.frames + 1 ≤ room_1.frames ∧ 8 + (5 + 11) + rm.locals ≤ room_1.locals) {wsR : List Cond} {rm2 : Room} {mc ms : Nat} {v0 : Int32} (hR : Kr X.l G (AM G X.s.heap.size o) yX8_ups wsR rm2 M [.ref mo, .int x, .int (b2i (y != 0))] (Gi G (AM G X.s.heap.size o) (fun v N => ∃ pl k9 t9 : Nat, (mo, (.inr (8, [.int kans, .ref pl, .ref k9, .ref t9]) : va_E)) ∈ N ∧ KL G M N ∧ (v0 : Int32) = v)) mc ms) (hG2 : MwV wsL_law RL RX8 room_1 132 yX8_ups wsR rm2 2 mc ms) (hmc : mc ≤ 1000) (hms : ms ≤ 10000) (hans : kans = 0 → ans = v0.toInt64) : J (X.at 92 2484) 9 (LPc G X.s.heap.size o n1 (WL G.Z tok0 ties0) f M) 1012 [some (.ref b), some (.ref (G.Z.ad 0)), some (.ref mo), some (.ref o), some (.int 0), none, none, none, none] [] := by
  have S := B.1
  obtain ⟨pl0, h0⟩ := B.m0
  have F0 := S.fx (k := 92) (n := 2484) (Nat.le_of_ble_eq_true rfl) (Nat.le_of_ble_eq_true rfl)
  refine j_aload_n F0 dL_law_1012 rfl ?_
  refine j_aload_n F0 dL_law_1013 rfl ?_
  refine j_iload F0 dL_law_1014 rfl ?_
  refine j_iconst F0 1 dL_law_1016 (by decide) ?_
  refine j_iadd F0 1 dL_law_1017 (by decide) ?_
  refine lw_sc F0 B.2.1 (j := 1) (by decide) (by unfold vp_in; decide) hx1 dL_law_1018 ?_
  refine j_aload_n F0 dL_law_1019 rfl ?_
  refine j_iload F0 dL_law_1020 rfl ?_
  refine j_iconst F0 2 dL_law_1022 (by decide) ?_
  refine j_iadd F0 2 dL_law_1023 (by decide) ?_
  refine lw_sc F0 B.2.1 (j := 2) (by decide) (by unfold vp_in; decide) hx2 dL_law_1024 ?_
  refine lw_bool F0 dL_law_1025 dL_law_1028 dL_law_1029 dL_law_1032 ?_
  refine j_aload_n F0 dL_law_1033 rfl ?_
  refine lw_w S (nA := 4) (rest := []) hK ⟨_, _, _, _, _, rfl, gL_law_L_ups, hr1, hr2, (by decide +kernel), hr3⟩ rfl (Nat.le_of_ble_eq_true rfl) rfl (Nat.le_of_ble_eq_true rfl) (Nat.le_of_ble_eq_true rfl) dL_law_1034 (fun g hg => ?_)
  have F1 := S.fx (k := 93) (n := 2490) (Nat.le_of_ble_eq_true rfl) (Nat.le_of_ble_eq_true rfl)
  refine j_istore F1 [some (.ref b), some (.ref (G.Z.ad 0)), some (.ref mo), some (.ref o), some (.int 0), some (.int kans), none, none, none] dL_law_1037 (by decide) rfl rfl ?_
  refine j_aload_n F1 dL_law_1039 rfl ?_
  refine j_aload_n F1 dL_law_1040 rfl ?_
  refine j_iload F1 dL_law_1041 rfl ?_
  refine j_iconst F1 1 dL_law_1043 (by decide) ?_
  refine j_iadd F1 1 dL_law_1044 (by decide) ?_
  refine lw_sc F1 B.2.1 (j := 1) (by decide) (by unfold vp_in; decide) hx1 dL_law_1045 ?_
  refine j_aload_n F1 dL_law_1046 rfl ?_
  refine j_iload F1 dL_law_1047 rfl ?_
  refine j_iconst F1 2 dL_law_1049 (by decide) ?_
  refine j_iadd F1 2 dL_law_1050 (by decide) ?_
  refine lw_sc F1 B.2.1 (j := 2) (by decide) (by unfold vp_in; decide) hx2 dL_law_1051 ?_
  refine lw_bool F1 dL_law_1052 dL_law_1055 dL_law_1056 dL_law_1059 ?_
  refine lw_ci S (nA := 2) (rest := []) hR hG2 h0 rfl rfl (Nat.le_of_ble_eq_true rfl) (rc_le hmc) (rs_le hms) rfl dL_law_1060 (fun v M1 hD1 hp => ?_)
  obtain ⟨pl1, k9, t9, h1, -, hv⟩ := hp
  subst hv
  have F2 := S.fx (k := 93 + mc) (n := 2490 + ms) (rc_le hmc) (rs_le hms)
  refine j_istore F2 [some (.ref b), some (.ref (G.Z.ad 0)), some (.ref mo), some (.ref o), some (.int 0), some (.int kans), some (.int v0), none, none] dL_law_1063 (by decide) rfl rfl ?_
  exact lw_tail S B.2.2.1 h1 (fun h9 => (hg h9).trans (hans h9)) (rc_le hmc) (rs_le hms) dL_law_1065 dL_law_1066 dL_law_1069 dL_law_1071 dL_law_1076 dL_law_1078 dL_law_1081 dL_law_1082 dL_law_1083 dL_law_1084 dL_law_1086 dL_law_1087 dL_law_1088 dL_law_1093 (by decide)
set_option maxHeartbeats 4000000 in
theorem h_seen {X : Cx} {G : RG} {o n1 b mo ka ta : Nat} {xs : Nat → Int32} {M : Wl} {f : Nat → Int64} (B : BX X G o n1 b mo ka ta xs M) (x : Int32) (hx1 : xs 1 = x) {rm : Room} {kans : Int32} {ans : Int64} (hK : Kw X.l G.Z G.cL o f yL_seen wsL_seen rm [.ref (G.Z.ad 0), .int x, .ref o] kans ans) (hr1 : rm.cells = 1) (hr2 : rm.slots = 6) (hr3 : rm.frames + 1 ≤ room_1.frames ∧ 8 + (4 + 11) + rm.locals ≤ room_1.locals) {wsR : List Cond} {rm2 : Room} {mc ms : Nat} {v0 : Int32} (hR : Kr X.l G (AM G X.s.heap.size o) yX8_seen wsR rm2 M [.ref mo, .int x] (Gi G (AM G X.s.heap.size o) (fun v N => ∃ pl k9 t9 : Nat, (mo, (.inr (8, [.int kans, .ref pl, .ref k9, .ref t9]) : va_E)) ∈ N ∧ KL G M N ∧ (v0 : Int32) = v)) mc ms) (hG2 : MwV wsL_law RL RX8 room_1 135 yX8_seen wsR rm2 1 mc ms) (hmc : mc ≤ 1000) (hms : ms ≤ 10000) (hans : kans = 0 → ans = v0.toInt64) : J (X.at 92 2484) 9 (LPc G X.s.heap.size o n1 (WL G.Z tok0 ties0) f M) 1096 [some (.ref b), some (.ref (G.Z.ad 0)), some (.ref mo), some (.ref o), some (.int 0), none, none, none, none] [] := by
  have S := B.1
  obtain ⟨pl0, h0⟩ := B.m0
  have F0 := S.fx (k := 92) (n := 2484) (Nat.le_of_ble_eq_true rfl) (Nat.le_of_ble_eq_true rfl)
  refine j_aload_n F0 dL_law_1096 rfl ?_
  refine j_aload_n F0 dL_law_1097 rfl ?_
  refine j_iload F0 dL_law_1098 rfl ?_
  refine j_iconst F0 1 dL_law_1100 (by decide) ?_
  refine j_iadd F0 1 dL_law_1101 (by decide) ?_
  refine lw_sc F0 B.2.1 (j := 1) (by decide) (by unfold vp_in; decide) hx1 dL_law_1102 ?_
  refine j_aload_n F0 dL_law_1103 rfl ?_
  refine lw_w S (nA := 3) (rest := []) hK ⟨_, _, _, _, _, rfl, gL_law_L_seen, hr1, hr2, (by decide +kernel), hr3⟩ rfl (Nat.le_of_ble_eq_true rfl) rfl (Nat.le_of_ble_eq_true rfl) (Nat.le_of_ble_eq_true rfl) dL_law_1104 (fun g hg => ?_)
  have F1 := S.fx (k := 93) (n := 2490) (Nat.le_of_ble_eq_true rfl) (Nat.le_of_ble_eq_true rfl)
  refine j_istore F1 [some (.ref b), some (.ref (G.Z.ad 0)), some (.ref mo), some (.ref o), some (.int 0), some (.int kans), none, none, none] dL_law_1107 (by decide) rfl rfl ?_
  refine j_aload_n F1 dL_law_1109 rfl ?_
  refine j_aload_n F1 dL_law_1110 rfl ?_
  refine j_iload F1 dL_law_1111 rfl ?_
  refine j_iconst F1 1 dL_law_1113 (by decide) ?_
  refine j_iadd F1 1 dL_law_1114 (by decide) ?_
  refine lw_sc F1 B.2.1 (j := 1) (by decide) (by unfold vp_in; decide) hx1 dL_law_1115 ?_
  refine lw_ci S (nA := 1) (rest := []) hR hG2 h0 rfl rfl (Nat.le_of_ble_eq_true rfl) (rc_le hmc) (rs_le hms) rfl dL_law_1116 (fun v M1 hD1 hp => ?_)
  obtain ⟨pl1, k9, t9, h1, -, hv⟩ := hp
  subst hv
  have F2 := S.fx (k := 93 + mc) (n := 2490 + ms) (rc_le hmc) (rs_le hms)
  refine j_istore F2 [some (.ref b), some (.ref (G.Z.ad 0)), some (.ref mo), some (.ref o), some (.int 0), some (.int kans), some (.int v0), none, none] dL_law_1119 (by decide) rfl rfl ?_
  exact lw_tail S B.2.2.1 h1 (fun h9 => (hg h9).trans (hans h9)) (rc_le hmc) (rs_le hms) dL_law_1121 dL_law_1122 dL_law_1125 dL_law_1127 dL_law_1132 dL_law_1134 dL_law_1137 dL_law_1138 dL_law_1139 dL_law_1140 dL_law_1142 dL_law_1143 dL_law_1144 dL_law_1149 (by decide)
set_option maxHeartbeats 4000000 in
theorem h_floatWith {X : Cx} {G : RG} {o n1 b mo ka ta : Nat} {xs : Nat → Int32} {M : Wl} {f : Nat → Int64} (B : BX X G o n1 b mo ka ta xs M) (x y : Int32) (hx1 : xs 1 = x) (hx2 : xs 2 = y) {rm : Room} {kans : Int32} {ans : Int64} (hK : Kw X.l G.Z G.cL o f yL_floatWith wsL_floatWith rm [.ref (G.Z.ad 0), .int x, .int y, .ref o] kans ans) (hr1 : rm.cells = 1) (hr2 : rm.slots = 6) (hr3 : rm.frames + 1 ≤ room_1.frames ∧ 8 + (5 + 11) + rm.locals ≤ room_1.locals) {wsR : List Cond} {rm2 : Room} {mc ms : Nat} {v0 : Int32} (hR : Kr X.l G (AM G X.s.heap.size o) yX8_floatWith wsR rm2 M [.ref mo, .int x, .int y] (Gi G (AM G X.s.heap.size o) (fun v N => ∃ pl k9 t9 : Nat, (mo, (.inr (8, [.int kans, .ref pl, .ref k9, .ref t9]) : va_E)) ∈ N ∧ KL G M N ∧ (v0 : Int32) = v)) mc ms) (hG2 : MwV wsL_law RL RX8 room_1 157 yX8_floatWith wsR rm2 2 mc ms) (hmc : mc ≤ 1000) (hms : ms ≤ 10000) (hans : kans = 0 → ans = v0.toInt64) : J (X.at 92 2484) 9 (LPc G X.s.heap.size o n1 (WL G.Z tok0 ties0) f M) 1288 [some (.ref b), some (.ref (G.Z.ad 0)), some (.ref mo), some (.ref o), some (.int 0), none, none, none, none] [] := by
  have S := B.1
  obtain ⟨pl0, h0⟩ := B.m0
  have F0 := S.fx (k := 92) (n := 2484) (Nat.le_of_ble_eq_true rfl) (Nat.le_of_ble_eq_true rfl)
  refine j_aload_n F0 dL_law_1288 rfl ?_
  refine j_aload_n F0 dL_law_1289 rfl ?_
  refine j_iload F0 dL_law_1290 rfl ?_
  refine j_iconst F0 1 dL_law_1292 (by decide) ?_
  refine j_iadd F0 1 dL_law_1293 (by decide) ?_
  refine lw_sc F0 B.2.1 (j := 1) (by decide) (by unfold vp_in; decide) hx1 dL_law_1294 ?_
  refine j_aload_n F0 dL_law_1295 rfl ?_
  refine j_iload F0 dL_law_1296 rfl ?_
  refine j_iconst F0 2 dL_law_1298 (by decide) ?_
  refine j_iadd F0 2 dL_law_1299 (by decide) ?_
  refine lw_sc F0 B.2.1 (j := 2) (by decide) (by unfold vp_in; decide) hx2 dL_law_1300 ?_
  refine j_aload_n F0 dL_law_1301 rfl ?_
  refine lw_w S (nA := 4) (rest := []) hK ⟨_, _, _, _, _, rfl, gL_law_L_floatWith, hr1, hr2, (by decide +kernel), hr3⟩ rfl (Nat.le_of_ble_eq_true rfl) rfl (Nat.le_of_ble_eq_true rfl) (Nat.le_of_ble_eq_true rfl) dL_law_1302 (fun g hg => ?_)
  have F1 := S.fx (k := 93) (n := 2490) (Nat.le_of_ble_eq_true rfl) (Nat.le_of_ble_eq_true rfl)
  refine j_istore F1 [some (.ref b), some (.ref (G.Z.ad 0)), some (.ref mo), some (.ref o), some (.int 0), some (.int kans), none, none, none] dL_law_1305 (by decide) rfl rfl ?_
  refine j_aload_n F1 dL_law_1307 rfl ?_
  refine j_aload_n F1 dL_law_1308 rfl ?_
  refine j_iload F1 dL_law_1309 rfl ?_
  refine j_iconst F1 1 dL_law_1311 (by decide) ?_
  refine j_iadd F1 1 dL_law_1312 (by decide) ?_
  refine lw_sc F1 B.2.1 (j := 1) (by decide) (by unfold vp_in; decide) hx1 dL_law_1313 ?_
  refine j_aload_n F1 dL_law_1314 rfl ?_
  refine j_iload F1 dL_law_1315 rfl ?_
  refine j_iconst F1 2 dL_law_1317 (by decide) ?_
  refine j_iadd F1 2 dL_law_1318 (by decide) ?_
  refine lw_sc F1 B.2.1 (j := 2) (by decide) (by unfold vp_in; decide) hx2 dL_law_1319 ?_
  refine lw_ci S (nA := 2) (rest := []) hR hG2 h0 rfl rfl (Nat.le_of_ble_eq_true rfl) (rc_le hmc) (rs_le hms) rfl dL_law_1320 (fun v M1 hD1 hp => ?_)
  obtain ⟨pl1, k9, t9, h1, -, hv⟩ := hp
  subst hv
  have F2 := S.fx (k := 93 + mc) (n := 2490 + ms) (rc_le hmc) (rs_le hms)
  refine j_istore F2 [some (.ref b), some (.ref (G.Z.ad 0)), some (.ref mo), some (.ref o), some (.int 0), some (.int kans), some (.int v0), none, none] dL_law_1323 (by decide) rfl rfl ?_
  exact lw_tail S B.2.2.1 h1 (fun h9 => (hg h9).trans (hans h9)) (rc_le hmc) (rs_le hms) dL_law_1325 dL_law_1326 dL_law_1329 dL_law_1331 dL_law_1336 dL_law_1338 dL_law_1341 dL_law_1342 dL_law_1343 dL_law_1344 dL_law_1346 dL_law_1347 dL_law_1348 dL_law_1353 (by decide)
set_option maxHeartbeats 4000000 in
theorem h_hangsWith {X : Cx} {G : RG} {o n1 b mo ka ta : Nat} {xs : Nat → Int32} {M : Wl} {f : Nat → Int64} (B : BX X G o n1 b mo ka ta xs M) (x y : Int32) (hx1 : xs 1 = x) (hx2 : xs 2 = y) {rm : Room} {kans : Int32} {ans : Int64} (hK : Kw X.l G.Z G.cL o f yL_hangsWith wsL_hangsWith rm [.ref (G.Z.ad 0), .int x, .int y, .ref o] kans ans) (hr1 : rm.cells = 1) (hr2 : rm.slots = 6) (hr3 : rm.frames + 1 ≤ room_1.frames ∧ 8 + (5 + 11) + rm.locals ≤ room_1.locals) {wsR : List Cond} {rm2 : Room} {mc ms : Nat}  (hR : Kr X.l G (AM G X.s.heap.size o) yX8_hangsWith wsR rm2 M [.ref mo, .int x, .int y] (Gi G (AM G X.s.heap.size o) (fun v N => ∃ pl k9 t9 : Nat, (mo, (.inr (8, [.int kans, .ref pl, .ref k9, .ref t9]) : va_E)) ∈ N ∧ KL G M N ∧ (0 : Int32) = v)) mc ms) (hG2 : MwV wsL_law RL RX8 room_1 160 yX8_hangsWith wsR rm2 2 mc ms) (hmc : mc ≤ 1000) (hms : ms ≤ 10000) (hans : kans = 0 → ans = 0) : J (X.at 92 2484) 9 (LPc G X.s.heap.size o n1 (WL G.Z tok0 ties0) f M) 1356 [some (.ref b), some (.ref (G.Z.ad 0)), some (.ref mo), some (.ref o), some (.int 0), none, none, none, none] [] := by
  have S := B.1
  obtain ⟨pl0, h0⟩ := B.m0
  have F0 := S.fx (k := 92) (n := 2484) (Nat.le_of_ble_eq_true rfl) (Nat.le_of_ble_eq_true rfl)
  refine j_aload_n F0 dL_law_1356 rfl ?_
  refine j_aload_n F0 dL_law_1357 rfl ?_
  refine j_iload F0 dL_law_1358 rfl ?_
  refine j_iconst F0 1 dL_law_1360 (by decide) ?_
  refine j_iadd F0 1 dL_law_1361 (by decide) ?_
  refine lw_sc F0 B.2.1 (j := 1) (by decide) (by unfold vp_in; decide) hx1 dL_law_1362 ?_
  refine j_aload_n F0 dL_law_1363 rfl ?_
  refine j_iload F0 dL_law_1364 rfl ?_
  refine j_iconst F0 2 dL_law_1366 (by decide) ?_
  refine j_iadd F0 2 dL_law_1367 (by decide) ?_
  refine lw_sc F0 B.2.1 (j := 2) (by decide) (by unfold vp_in; decide) hx2 dL_law_1368 ?_
  refine j_aload_n F0 dL_law_1369 rfl ?_
  refine lw_w S (nA := 4) (rest := []) hK ⟨_, _, _, _, _, rfl, gL_law_L_hangsWith, hr1, hr2, (by decide +kernel), hr3⟩ rfl (Nat.le_of_ble_eq_true rfl) rfl (Nat.le_of_ble_eq_true rfl) (Nat.le_of_ble_eq_true rfl) dL_law_1370 (fun g hg => ?_)
  have F1 := S.fx (k := 93) (n := 2490) (Nat.le_of_ble_eq_true rfl) (Nat.le_of_ble_eq_true rfl)
  refine j_istore F1 [some (.ref b), some (.ref (G.Z.ad 0)), some (.ref mo), some (.ref o), some (.int 0), some (.int kans), none, none, none] dL_law_1373 (by decide) rfl rfl ?_
  refine j_aload_n F1 dL_law_1375 rfl ?_
  refine j_aload_n F1 dL_law_1376 rfl ?_
  refine j_iload F1 dL_law_1377 rfl ?_
  refine j_iconst F1 1 dL_law_1379 (by decide) ?_
  refine j_iadd F1 1 dL_law_1380 (by decide) ?_
  refine lw_sc F1 B.2.1 (j := 1) (by decide) (by unfold vp_in; decide) hx1 dL_law_1381 ?_
  refine j_aload_n F1 dL_law_1382 rfl ?_
  refine j_iload F1 dL_law_1383 rfl ?_
  refine j_iconst F1 2 dL_law_1385 (by decide) ?_
  refine j_iadd F1 2 dL_law_1386 (by decide) ?_
  refine lw_sc F1 B.2.1 (j := 2) (by decide) (by unfold vp_in; decide) hx2 dL_law_1387 ?_
  refine lw_ci S (nA := 2) (rest := []) hR hG2 h0 rfl rfl (Nat.le_of_ble_eq_true rfl) (rc_le hmc) (rs_le hms) rfl dL_law_1388 (fun v M1 hD1 hp => ?_)
  obtain ⟨pl1, k9, t9, h1, -, hv⟩ := hp
  subst hv
  have F2 := S.fx (k := 93 + mc) (n := 2490 + ms) (rc_le hmc) (rs_le hms)
  refine j_istore F2 [some (.ref b), some (.ref (G.Z.ad 0)), some (.ref mo), some (.ref o), some (.int 0), some (.int kans), some (.int 0), none, none] dL_law_1391 (by decide) rfl rfl ?_
  refine j_aload_n F2 dL_law_1393 rfl ?_
  refine lw_ci S (nA := 0) (As := []) (rest := []) (r_X8_thrown X.l G (AM G X.s.heap.size o) M1 h1) ⟨_, _, _, _, rfl, gL_law_X8_thrown, rfl, rfl, (by decide +kernel), ⟨(Nat.le_of_ble_eq_true rfl), (Nat.le_of_ble_eq_true rfl)⟩⟩ h1 rfl rfl (Nat.le_of_ble_eq_true rfl) (rc_le hmc) (rs_le hms) rfl dL_law_1394 (fun v9 M2 hD2 hp => ?_)
  obtain ⟨rfl, rfl⟩ := hp
  refine j_iload F2 dL_law_1397 rfl ?_
  refine j_icmp_eq F2 1404 dL_law_1399 (by decide) (fun _ => ?_) (fun h9 => absurd rfl h9)
  have go : J (X.at (93 + mc) (2490 + ms)) 9 (LPc G X.s.heap.size o n1 TT g M1) 1428 [some (.ref b), some (.ref (G.Z.ad 0)), some (.ref mo), some (.ref o), some (.int 0), some (.int kans), some (.int 0), none, none] [] := j_goto F2 1581 dL_law_1428 (by decide) (J.less [some (.ref b), some (.ref (G.Z.ad 0)), some (.ref mo), some (.ref o), some (.int 0), none, none, none, none] ⟨rfl, rfl, rfl, rfl, rfl, trivial⟩ (B.2.2.1 _ _ _ (rc_le hmc) (rs_le hms)))
  refine j_iload F2 dL_law_1404 rfl ?_
  refine j_if_ne F2 1428 dL_law_1406 (by decide) (fun _ => go) (fun h9 => ?_)
  refine j_aload_n F2 dL_law_1409 rfl ?_
  refine j_iconst F2 0 dL_law_1410 (by decide) ?_
  refine lw_lald S dL_law_1411 ?_
  refine j_iload F2 dL_law_1412 rfl ?_
  refine j_if_eq F2 1421 dL_law_1414 (by decide) (fun _ => ?_) (fun h9 => absurd rfl h9)
  refine j_lconst F2 (v := 0) dL_law_1421 rfl ?_
  refine j_lcmp F2 0 dL_law_1422 (by rw [hg h9, hans h9]; exact lg_same _) ?_
  exact j_if_eq F2 1428 dL_law_1423 (by decide) (fun _ => go) (fun h9 => absurd rfl h9)
set_option maxHeartbeats 4000000 in
theorem h_lengthWith {X : Cx} {G : RG} {o n1 b mo ka ta : Nat} {xs : Nat → Int32} {M : Wl} {f : Nat → Int64} (B : BX X G o n1 b mo ka ta xs M) (x y : Int32) (hx1 : xs 1 = x) (hx2 : xs 2 = y) {rm : Room} {kans : Int32} {ans : Int64} (hK : Kw X.l G.Z G.cL o f yL_lengthWith wsL_lengthWith rm [.ref (G.Z.ad 0), .int x, .int y, .ref o] kans ans) (hr1 : rm.cells = 1) (hr2 : rm.slots = 6) (hr3 : rm.frames + 1 ≤ room_1.frames ∧ 8 + (5 + 11) + rm.locals ≤ room_1.locals) {wsR : List Cond} {rm2 : Room} {mc ms : Nat} {v0 : Int32} (hR : Kr X.l G (AM G X.s.heap.size o) yX8_lengthWith wsR rm2 M [.ref mo, .int x, .int y] (Gi G (AM G X.s.heap.size o) (fun v N => ∃ pl k9 t9 : Nat, (mo, (.inr (8, [.int kans, .ref pl, .ref k9, .ref t9]) : va_E)) ∈ N ∧ KL G M N ∧ (v0 : Int32) = v)) mc ms) (hG2 : MwV wsL_law RL RX8 room_1 163 yX8_lengthWith wsR rm2 2 mc ms) (hmc : mc ≤ 1000) (hms : ms ≤ 10000) (hans : kans = 0 → ans = v0.toInt64) : J (X.at 92 2484) 9 (LPc G X.s.heap.size o n1 (WL G.Z tok0 ties0) f M) 1431 [some (.ref b), some (.ref (G.Z.ad 0)), some (.ref mo), some (.ref o), some (.int 0), none, none, none, none] [] := by
  have S := B.1
  obtain ⟨pl0, h0⟩ := B.m0
  have F0 := S.fx (k := 92) (n := 2484) (Nat.le_of_ble_eq_true rfl) (Nat.le_of_ble_eq_true rfl)
  refine j_aload_n F0 dL_law_1431 rfl ?_
  refine j_aload_n F0 dL_law_1432 rfl ?_
  refine j_iload F0 dL_law_1433 rfl ?_
  refine j_iconst F0 1 dL_law_1435 (by decide) ?_
  refine j_iadd F0 1 dL_law_1436 (by decide) ?_
  refine lw_sc F0 B.2.1 (j := 1) (by decide) (by unfold vp_in; decide) hx1 dL_law_1437 ?_
  refine j_aload_n F0 dL_law_1438 rfl ?_
  refine j_iload F0 dL_law_1439 rfl ?_
  refine j_iconst F0 2 dL_law_1441 (by decide) ?_
  refine j_iadd F0 2 dL_law_1442 (by decide) ?_
  refine lw_sc F0 B.2.1 (j := 2) (by decide) (by unfold vp_in; decide) hx2 dL_law_1443 ?_
  refine j_aload_n F0 dL_law_1444 rfl ?_
  refine lw_w S (nA := 4) (rest := []) hK ⟨_, _, _, _, _, rfl, gL_law_L_lengthWith, hr1, hr2, (by decide +kernel), hr3⟩ rfl (Nat.le_of_ble_eq_true rfl) rfl (Nat.le_of_ble_eq_true rfl) (Nat.le_of_ble_eq_true rfl) dL_law_1445 (fun g hg => ?_)
  have F1 := S.fx (k := 93) (n := 2490) (Nat.le_of_ble_eq_true rfl) (Nat.le_of_ble_eq_true rfl)
  refine j_istore F1 [some (.ref b), some (.ref (G.Z.ad 0)), some (.ref mo), some (.ref o), some (.int 0), some (.int kans), none, none, none] dL_law_1448 (by decide) rfl rfl ?_
  refine j_aload_n F1 dL_law_1450 rfl ?_
  refine j_aload_n F1 dL_law_1451 rfl ?_
  refine j_iload F1 dL_law_1452 rfl ?_
  refine j_iconst F1 1 dL_law_1454 (by decide) ?_
  refine j_iadd F1 1 dL_law_1455 (by decide) ?_
  refine lw_sc F1 B.2.1 (j := 1) (by decide) (by unfold vp_in; decide) hx1 dL_law_1456 ?_
  refine j_aload_n F1 dL_law_1457 rfl ?_
  refine j_iload F1 dL_law_1458 rfl ?_
  refine j_iconst F1 2 dL_law_1460 (by decide) ?_
  refine j_iadd F1 2 dL_law_1461 (by decide) ?_
  refine lw_sc F1 B.2.1 (j := 2) (by decide) (by unfold vp_in; decide) hx2 dL_law_1462 ?_
  refine lw_ci S (nA := 2) (rest := []) hR hG2 h0 rfl rfl (Nat.le_of_ble_eq_true rfl) (rc_le hmc) (rs_le hms) rfl dL_law_1463 (fun v M1 hD1 hp => ?_)
  obtain ⟨pl1, k9, t9, h1, -, hv⟩ := hp
  subst hv
  have F2 := S.fx (k := 93 + mc) (n := 2490 + ms) (rc_le hmc) (rs_le hms)
  refine j_istore F2 [some (.ref b), some (.ref (G.Z.ad 0)), some (.ref mo), some (.ref o), some (.int 0), some (.int kans), some (.int v0), none, none] dL_law_1466 (by decide) rfl rfl ?_
  exact lw_tail S B.2.2.1 h1 (fun h9 => (hg h9).trans (hans h9)) (rc_le hmc) (rs_le hms) dL_law_1468 dL_law_1469 dL_law_1472 dL_law_1474 dL_law_1479 dL_law_1481 dL_law_1484 dL_law_1485 dL_law_1486 dL_law_1487 dL_law_1489 dL_law_1490 dL_law_1491 dL_law_1496 (by decide)
set_option maxHeartbeats 4000000 in
theorem h_changedBy {X : Cx} {G : RG} {o n1 b mo ka ta : Nat} {xs : Nat → Int32} {M : Wl} {f : Nat → Int64} (B : BX X G o n1 b mo ka ta xs M) (x y : Int32) (hx1 : xs 1 = x) (hx2 : xs 2 = y) {rm : Room} {kans : Int32} {ans : Int64} (hK : Kw X.l G.Z G.cL o f yL_changedBy wsL_changedBy rm [.ref (G.Z.ad 0), .int x, .int y, .ref o] kans ans) (hr1 : rm.cells = 1) (hr2 : rm.slots = 6) (hr3 : rm.frames + 1 ≤ room_1.frames ∧ 8 + (5 + 11) + rm.locals ≤ room_1.locals) {wsR : List Cond} {rm2 : Room} {mc ms : Nat} {v0 : Int32} (hR : Kr X.l G (AM G X.s.heap.size o) yX8_changedBy wsR rm2 M [.ref mo, .int x, .int y] (Gi G (AM G X.s.heap.size o) (fun v N => ∃ pl k9 t9 : Nat, (mo, (.inr (8, [.int kans, .ref pl, .ref k9, .ref t9]) : va_E)) ∈ N ∧ KL G M N ∧ (v0 : Int32) = v)) mc ms) (hG2 : MwV wsL_law RL RX8 room_1 166 yX8_changedBy wsR rm2 2 mc ms) (hmc : mc ≤ 1000) (hms : ms ≤ 10000) (hans : kans = 0 → ans = v0.toInt64) : J (X.at 92 2484) 9 (LPc G X.s.heap.size o n1 (WL G.Z tok0 ties0) f M) 1499 [some (.ref b), some (.ref (G.Z.ad 0)), some (.ref mo), some (.ref o), some (.int 0), none, none, none, none] [] := by
  have S := B.1
  obtain ⟨pl0, h0⟩ := B.m0
  have F0 := S.fx (k := 92) (n := 2484) (Nat.le_of_ble_eq_true rfl) (Nat.le_of_ble_eq_true rfl)
  refine j_aload_n F0 dL_law_1499 rfl ?_
  refine j_aload_n F0 dL_law_1500 rfl ?_
  refine j_iload F0 dL_law_1501 rfl ?_
  refine j_iconst F0 1 dL_law_1503 (by decide) ?_
  refine j_iadd F0 1 dL_law_1504 (by decide) ?_
  refine lw_sc F0 B.2.1 (j := 1) (by decide) (by unfold vp_in; decide) hx1 dL_law_1505 ?_
  refine j_aload_n F0 dL_law_1506 rfl ?_
  refine j_iload F0 dL_law_1507 rfl ?_
  refine j_iconst F0 2 dL_law_1509 (by decide) ?_
  refine j_iadd F0 2 dL_law_1510 (by decide) ?_
  refine lw_sc F0 B.2.1 (j := 2) (by decide) (by unfold vp_in; decide) hx2 dL_law_1511 ?_
  refine j_aload_n F0 dL_law_1512 rfl ?_
  refine lw_w S (nA := 4) (rest := []) hK ⟨_, _, _, _, _, rfl, gL_law_L_changedBy, hr1, hr2, (by decide +kernel), hr3⟩ rfl (Nat.le_of_ble_eq_true rfl) rfl (Nat.le_of_ble_eq_true rfl) (Nat.le_of_ble_eq_true rfl) dL_law_1513 (fun g hg => ?_)
  have F1 := S.fx (k := 93) (n := 2490) (Nat.le_of_ble_eq_true rfl) (Nat.le_of_ble_eq_true rfl)
  refine j_istore F1 [some (.ref b), some (.ref (G.Z.ad 0)), some (.ref mo), some (.ref o), some (.int 0), some (.int kans), none, none, none] dL_law_1516 (by decide) rfl rfl ?_
  refine j_aload_n F1 dL_law_1518 rfl ?_
  refine j_aload_n F1 dL_law_1519 rfl ?_
  refine j_iload F1 dL_law_1520 rfl ?_
  refine j_iconst F1 1 dL_law_1522 (by decide) ?_
  refine j_iadd F1 1 dL_law_1523 (by decide) ?_
  refine lw_sc F1 B.2.1 (j := 1) (by decide) (by unfold vp_in; decide) hx1 dL_law_1524 ?_
  refine j_aload_n F1 dL_law_1525 rfl ?_
  refine j_iload F1 dL_law_1526 rfl ?_
  refine j_iconst F1 2 dL_law_1528 (by decide) ?_
  refine j_iadd F1 2 dL_law_1529 (by decide) ?_
  refine lw_sc F1 B.2.1 (j := 2) (by decide) (by unfold vp_in; decide) hx2 dL_law_1530 ?_
  refine lw_ci S (nA := 2) (rest := []) hR hG2 h0 rfl rfl (Nat.le_of_ble_eq_true rfl) (rc_le hmc) (rs_le hms) rfl dL_law_1531 (fun v M1 hD1 hp => ?_)
  obtain ⟨pl1, k9, t9, h1, -, hv⟩ := hp
  subst hv
  have F2 := S.fx (k := 93 + mc) (n := 2490 + ms) (rc_le hmc) (rs_le hms)
  refine j_istore F2 [some (.ref b), some (.ref (G.Z.ad 0)), some (.ref mo), some (.ref o), some (.int 0), some (.int kans), some (.int v0), none, none] dL_law_1534 (by decide) rfl rfl ?_
  exact lw_tail S B.2.2.1 h1 (fun h9 => (hg h9).trans (hans h9)) (rc_le hmc) (rs_le hms) dL_law_1536 dL_law_1537 dL_law_1540 dL_law_1542 dL_law_1547 dL_law_1549 dL_law_1552 dL_law_1553 dL_law_1554 dL_law_1555 dL_law_1557 dL_law_1558 dL_law_1559 dL_law_1564 (by decide)
theorem hG_repeat (rm : Room) {mc ms : Nat} (h1 : rm.cells = mc) (h2 : rm.slots = ms) (h3 : rm.frames + 1 ≤ room_1.frames ∧ 8 + (2 + 11) + rm.locals ≤ room_1.locals) : MwV wsL_law RL RX8 room_1 140 yX8_repeat wbX8_repeat rm 1 mc ms := ⟨_, _, _, _, rfl, gL_lawb_X8_repeat, h1, h2, (by decide +kernel), h3⟩
theorem hG_hangs (rm : Room) {mc ms : Nat} (h1 : rm.cells = mc) (h2 : rm.slots = ms) (h3 : rm.frames + 1 ≤ room_1.frames ∧ 8 + (1 + 11) + rm.locals ≤ room_1.locals) : MwV wsL_law RL RX8 room_1 145 yX8_hangs wbX8_hangs rm 0 mc ms := ⟨_, _, _, _, rfl, gL_lawb_X8_hangs, h1, h2, (by decide +kernel), h3⟩
theorem hG_reach (rm : Room) {mc ms : Nat} (h1 : rm.cells = mc) (h2 : rm.slots = ms) (h3 : rm.frames + 1 ≤ room_1.frames ∧ 8 + (2 + 11) + rm.locals ≤ room_1.locals) : MwV wsL_law RL RX8 room_1 149 yX8_reach wbX8_reach rm 1 mc ms := ⟨_, _, _, _, rfl, gL_lawb_X8_reach, h1, h2, (by decide +kernel), h3⟩
theorem hG_meanFloat (rm : Room) {mc ms : Nat} (h1 : rm.cells = mc) (h2 : rm.slots = ms) (h3 : rm.frames + 1 ≤ room_1.frames ∧ 8 + (2 + 11) + rm.locals ≤ room_1.locals) : MwV wsL_law RL RX8 room_1 154 yX8_meanFloat wbX8_meanFloat rm 0 mc ms := ⟨_, _, _, _, rfl, gL_lawb_X8_meanFloat, h1, h2, (by decide +kernel), h3⟩
theorem hG_digest (rm : Room) {mc ms : Nat} (h1 : rm.cells = mc) (h2 : rm.slots = ms) (h3 : rm.frames + 1 ≤ room_1.frames ∧ 8 + (9 + 11) + rm.locals ≤ room_1.locals) : MwV wsL_law RL RX8 room_1 171 yX8_digest wbX8_digest rm 0 mc ms := ⟨_, _, _, _, rfl, gL_lawb_X8_digest, h1, h2, (by decide +kernel), h3⟩
set_option maxRecDepth 100000 in
set_option maxHeartbeats 4000000 in
theorem c_repeat {X : Cx} {G : RG} {o n1 b mo ka ta : Nat} {xs : Nat → Int32} {M : Wl} {f : Nat → Int64} (B : BX X G o n1 b mo ka ta xs M) (x : Int32) (hx1 : xs 1 = x) : J (X.at 92 2484) 9 (LPc G X.s.heap.size o n1 (WL G.Z tok0 ties0) f M) 1152 [some (.ref b), some (.ref (G.Z.ad 0)), some (.ref mo), some (.ref o), some (.int 0), none, none, none, none] [] := by
  have S := B.1
  obtain ⟨pl0, h0⟩ := B.m0
  have hZ := S.2.2.2.2.2.2.1
  have F0 := S.fx (k := 92) (n := 2484) (Nat.le_of_ble_eq_true rfl) (Nat.le_of_ble_eq_true rfl)
  refine j_aload_n F0 dL_law_1152 rfl ?_
  refine j_aload_n F0 dL_law_1153 rfl ?_
  refine j_iload F0 dL_law_1154 rfl ?_
  refine j_iconst F0 1 dL_law_1156 (by decide) ?_
  refine j_iadd F0 1 dL_law_1157 (by decide) ?_
  refine lw_sc F0 B.2.1 (j := 1) (by decide) (by unfold vp_in; decide) hx1 dL_law_1158 ?_
  refine lw_bool F0 dL_law_1159 dL_law_1162 dL_law_1163 dL_law_1166 ?_
  refine lw_xi S (nA := 1) (rest := []) (k_X4_repeat X.l G.Z (LZ G.Z) hZ tok0 ties0 (x != 0)) ⟨_, _, _, _, rfl, gL_law_X4_repeat, rfl, rfl, by decide +kernel, ⟨(Nat.le_of_ble_eq_true rfl), (Nat.le_of_ble_eq_true rfl)⟩⟩ rd_loomL rfl rfl (Nat.le_of_ble_eq_true rfl) (Nat.le_of_ble_eq_true rfl) (Nat.le_of_ble_eq_true rfl) rfl dL_law_1167 (fun v hv => ?_)
  have hv : v = 0 := hv.trans (fr_repeat _)
  subst hv
  refine j_aload_n F0 dL_law_1170 rfl ?_
  refine j_aload_n F0 dL_law_1171 rfl ?_
  refine j_iload F0 dL_law_1172 rfl ?_
  refine j_iconst F0 1 dL_law_1174 (by decide) ?_
  refine j_iadd F0 1 dL_law_1175 (by decide) ?_
  refine lw_sc F0 B.2.1 (j := 1) (by decide) (by unfold vp_in; decide) hx1 dL_law_1176 ?_
  refine lw_bool F0 dL_law_1177 dL_law_1180 dL_law_1181 dL_law_1184 ?_
  refine lw_ci S (nA := 1) (rest := [.int 0]) (r_X8_repeat X.l G (AM G X.s.heap.size o) M _ B.2.2.2.2) (hG_repeat _ rfl rfl ⟨(Nat.le_of_ble_eq_true rfl), (Nat.le_of_ble_eq_true rfl)⟩) h0 rfl rfl (Nat.le_of_ble_eq_true rfl) (Nat.le_of_ble_eq_true rfl) (Nat.le_of_ble_eq_true rfl) rfl dL_law_1185 (fun v M1 hD1 hp => ?_)
  obtain ⟨pl1, k9, t9, h1, -, hv⟩ := hp
  subst hv
  have F2 := S.fx (k := 92 + 14) (n := 2484 + 47) (Nat.le_of_ble_eq_true rfl) (Nat.le_of_ble_eq_true rfl)
  exact j_icmp_eq F2 1581 dL_law_1188 (by decide) (fun _ => (B.2.2.1 _ _ _ (Nat.le_of_ble_eq_true rfl) (Nat.le_of_ble_eq_true rfl))) (fun h9 => absurd rfl h9)
set_option maxRecDepth 100000 in
set_option maxHeartbeats 4000000 in
theorem c_hangs {X : Cx} {G : RG} {o n1 b mo ka ta : Nat} {xs : Nat → Int32} {M : Wl} {f : Nat → Int64} (B : BX X G o n1 b mo ka ta xs M)  : J (X.at 92 2484) 9 (LPc G X.s.heap.size o n1 (WL G.Z tok0 ties0) f M) 1193 [some (.ref b), some (.ref (G.Z.ad 0)), some (.ref mo), some (.ref o), some (.int 0), none, none, none, none] [] := by
  have S := B.1
  obtain ⟨pl0, h0⟩ := B.m0
  have hZ := S.2.2.2.2.2.2.1
  have F0 := S.fx (k := 92) (n := 2484) (Nat.le_of_ble_eq_true rfl) (Nat.le_of_ble_eq_true rfl)
  refine j_aload_n F0 dL_law_1193 rfl ?_
  refine lw_xi S (nA := 0) (rest := []) (k_X4_hangs X.l G.Z (LZ G.Z) hZ tok0 ties0) ⟨_, _, _, _, rfl, gL_law_X4_hangs, rfl, rfl, by decide +kernel, ⟨(Nat.le_of_ble_eq_true rfl), (Nat.le_of_ble_eq_true rfl)⟩⟩ rd_loomL rfl rfl (Nat.le_of_ble_eq_true rfl) (Nat.le_of_ble_eq_true rfl) (Nat.le_of_ble_eq_true rfl) rfl dL_law_1194 (fun v hv => ?_)
  have hv : v = 0 := hv.trans fr_hangs
  subst hv
  refine j_aload_n F0 dL_law_1197 rfl ?_
  refine lw_ci S (nA := 0) (rest := [.int 0]) (r_X8_hangs X.l G (AM G X.s.heap.size o) M B.2.2.2.2) (hG_hangs _ rfl rfl ⟨(Nat.le_of_ble_eq_true rfl), (Nat.le_of_ble_eq_true rfl)⟩) h0 rfl rfl (Nat.le_of_ble_eq_true rfl) (Nat.le_of_ble_eq_true rfl) (Nat.le_of_ble_eq_true rfl) rfl dL_law_1198 (fun v M1 hD1 hp => ?_)
  obtain ⟨pl1, k9, t9, h1, -, hv⟩ := hp
  subst hv
  have F2 := S.fx (k := 92 + 14) (n := 2484 + 47) (Nat.le_of_ble_eq_true rfl) (Nat.le_of_ble_eq_true rfl)
  exact j_icmp_eq F2 1581 dL_law_1201 (by decide) (fun _ => (B.2.2.1 _ _ _ (Nat.le_of_ble_eq_true rfl) (Nat.le_of_ble_eq_true rfl))) (fun h9 => absurd rfl h9)
set_option maxRecDepth 100000 in
set_option maxHeartbeats 4000000 in
theorem c_reach {X : Cx} {G : RG} {o n1 b mo ka ta : Nat} {xs : Nat → Int32} {M : Wl} {f : Nat → Int64} (B : BX X G o n1 b mo ka ta xs M) (x : Int32) (hx1 : xs 1 = x) : J (X.at 92 2484) 9 (LPc G X.s.heap.size o n1 (WL G.Z tok0 ties0) f M) 1206 [some (.ref b), some (.ref (G.Z.ad 0)), some (.ref mo), some (.ref o), some (.int 0), none, none, none, none] [] := by
  have S := B.1
  obtain ⟨pl0, h0⟩ := B.m0
  have hZ := S.2.2.2.2.2.2.1
  have F0 := S.fx (k := 92) (n := 2484) (Nat.le_of_ble_eq_true rfl) (Nat.le_of_ble_eq_true rfl)
  refine j_aload_n F0 dL_law_1206 rfl ?_
  refine j_aload_n F0 dL_law_1207 rfl ?_
  refine j_iload F0 dL_law_1208 rfl ?_
  refine j_iconst F0 1 dL_law_1210 (by decide) ?_
  refine j_iadd F0 1 dL_law_1211 (by decide) ?_
  refine lw_sc F0 B.2.1 (j := 1) (by decide) (by unfold vp_in; decide) hx1 dL_law_1212 ?_
  refine lw_bool F0 dL_law_1213 dL_law_1216 dL_law_1217 dL_law_1220 ?_
  refine lw_xi S (nA := 1) (rest := []) (k_X4_reach X.l G.Z (LZ G.Z) hZ tok0 ties0 (x != 0)) ⟨_, _, _, _, rfl, gL_law_X4_reach, rfl, rfl, by decide +kernel, ⟨(Nat.le_of_ble_eq_true rfl), (Nat.le_of_ble_eq_true rfl)⟩⟩ rd_loomL rfl rfl (Nat.le_of_ble_eq_true rfl) (Nat.le_of_ble_eq_true rfl) (Nat.le_of_ble_eq_true rfl) rfl dL_law_1221 (fun v hv => ?_)
  have hv : v = 0 := hv.trans (fr_reach _)
  subst hv
  refine j_aload_n F0 dL_law_1224 rfl ?_
  refine j_aload_n F0 dL_law_1225 rfl ?_
  refine j_iload F0 dL_law_1226 rfl ?_
  refine j_iconst F0 1 dL_law_1228 (by decide) ?_
  refine j_iadd F0 1 dL_law_1229 (by decide) ?_
  refine lw_sc F0 B.2.1 (j := 1) (by decide) (by unfold vp_in; decide) hx1 dL_law_1230 ?_
  refine lw_bool F0 dL_law_1231 dL_law_1234 dL_law_1235 dL_law_1238 ?_
  refine lw_ci S (nA := 1) (rest := [.int 0]) (r_X8_reach X.l G (AM G X.s.heap.size o) M _ B.2.2.2.2) (hG_reach _ rfl rfl ⟨(Nat.le_of_ble_eq_true rfl), (Nat.le_of_ble_eq_true rfl)⟩) h0 rfl rfl (Nat.le_of_ble_eq_true rfl) (Nat.le_of_ble_eq_true rfl) (Nat.le_of_ble_eq_true rfl) rfl dL_law_1239 (fun v M1 hD1 hp => ?_)
  obtain ⟨pl1, k9, t9, h1, -, hv⟩ := hp
  subst hv
  have F2 := S.fx (k := 92 + 14) (n := 2484 + 47) (Nat.le_of_ble_eq_true rfl) (Nat.le_of_ble_eq_true rfl)
  exact j_icmp_eq F2 1581 dL_law_1242 (by decide) (fun _ => (B.2.2.1 _ _ _ (Nat.le_of_ble_eq_true rfl) (Nat.le_of_ble_eq_true rfl))) (fun h9 => absurd rfl h9)
set_option maxRecDepth 100000 in
set_option maxHeartbeats 4000000 in
theorem c_meanFloat {X : Cx} {G : RG} {o n1 b mo ka ta : Nat} {xs : Nat → Int32} {M : Wl} {f : Nat → Int64} (B : BX X G o n1 b mo ka ta xs M)  : J (X.at 92 2484) 9 (LPc G X.s.heap.size o n1 (WL G.Z tok0 ties0) f M) 1247 [some (.ref b), some (.ref (G.Z.ad 0)), some (.ref mo), some (.ref o), some (.int 0), none, none, none, none] [] := by
  have S := B.1
  obtain ⟨pl0, h0⟩ := B.m0
  have hZ := S.2.2.2.2.2.2.1
  have F0 := S.fx (k := 92) (n := 2484) (Nat.le_of_ble_eq_true rfl) (Nat.le_of_ble_eq_true rfl)
  refine j_aload_n F0 dL_law_1247 rfl ?_
  refine lw_xd S (nA := 0) (rest := []) (k_X4_meanFloat X.l G.Z (LZ G.Z) hZ tok0 ties0) ⟨_, _, _, _, rfl, gL_law_X4_meanFloat, rfl, rfl, by decide +kernel, ⟨(Nat.le_of_ble_eq_true rfl), (Nat.le_of_ble_eq_true rfl)⟩⟩ rd_loomL rfl rfl (Nat.le_of_ble_eq_true rfl) (Nat.le_of_ble_eq_true rfl) (Nat.le_of_ble_eq_true rfl) rfl dL_law_1248 (fun v hv => ?_)
  have hv : v = FP.dconst0 := hv.trans fr_mean
  subst hv
  refine j_dstore F0 [some (.ref b), some (.ref (G.Z.ad 0)), some (.ref mo), some (.ref o), some (.int 0), some (.double FP.dconst0), none, none, none] dL_law_1251 (by decide) rfl rfl ?_
  refine j_aload_n F0 dL_law_1253 rfl ?_
  refine lw_cd S (nA := 0) (rest := []) (r_X8_meanFloat X.l G (AM G X.s.heap.size o) M B.2.2.2.2) (hG_meanFloat _ rfl rfl ⟨(Nat.le_of_ble_eq_true rfl), (Nat.le_of_ble_eq_true rfl)⟩) h0 rfl rfl (Nat.le_of_ble_eq_true rfl) (Nat.le_of_ble_eq_true rfl) (Nat.le_of_ble_eq_true rfl) rfl dL_law_1254 (fun v M1 hD1 hp => ?_)
  obtain ⟨pl1, k9, t9, h1, -, hv⟩ := hp
  subst hv
  have F2 := S.fx (k := 92 + 28) (n := 2484 + 94) (Nat.le_of_ble_eq_true rfl) (Nat.le_of_ble_eq_true rfl)
  refine j_dstore F2 [some (.ref b), some (.ref (G.Z.ad 0)), some (.ref mo), some (.ref o), some (.int 0), some (.double FP.dconst0), none, some (.double FP.dconst0), none] dL_law_1257 (by decide) rfl rfl ?_
  refine j_dload F2 dL_law_1259 rfl ?_
  refine j_dload F2 dL_law_1261 rfl ?_
  refine j_dcmp F2 0 dL_law_1263 (by decide +kernel) ?_
  refine j_if_eq F2 1285 dL_law_1264 (by decide) (fun _ => ?_) (fun h9 => absurd rfl h9)
  exact j_goto F2 1581 dL_law_1285 (by decide) (J.less [some (.ref b), some (.ref (G.Z.ad 0)), some (.ref mo), some (.ref o), some (.int 0), none, none, none, none] ⟨rfl, rfl, rfl, rfl, rfl, trivial⟩ (B.2.2.1 _ _ _ (Nat.le_of_ble_eq_true rfl) (Nat.le_of_ble_eq_true rfl)))
set_option maxRecDepth 100000 in
set_option maxHeartbeats 4000000 in
theorem c_digest {X : Cx} {G : RG} {o n1 b mo ka ta : Nat} {xs : Nat → Int32} {M : Wl} {f : Nat → Int64} (B : BX X G o n1 b mo ka ta xs M)  : J (X.at 92 2484) 9 (LPc G X.s.heap.size o n1 (WL G.Z tok0 ties0) f M) 1567 [some (.ref b), some (.ref (G.Z.ad 0)), some (.ref mo), some (.ref o), some (.int 0), none, none, none, none] [] := by
  have S := B.1
  obtain ⟨pl0, h0⟩ := B.m0
  have hZ := S.2.2.2.2.2.2.1
  have F0 := S.fx (k := 92) (n := 2484) (Nat.le_of_ble_eq_true rfl) (Nat.le_of_ble_eq_true rfl)
  refine j_aload_n F0 dL_law_1567 rfl ?_
  refine lw_xl S (nA := 0) (rest := []) (k_X4_digest X.l G.Z (LZ G.Z) hZ tok0 ties0) ⟨_, _, _, _, rfl, gL_law_X4_digest, rfl, rfl, by decide +kernel, ⟨(Nat.le_of_ble_eq_true rfl), (Nat.le_of_ble_eq_true rfl)⟩⟩ rd_loomL rfl rfl (Nat.le_of_ble_eq_true rfl) (Nat.le_of_ble_eq_true rfl) (Nat.le_of_ble_eq_true rfl) rfl dL_law_1568 (fun v hv => ?_)
  have hv : v = (-7651352060509602172) := hv.trans fr_digest
  subst hv
  refine j_aload_n F0 dL_law_1571 rfl ?_
  refine lw_cl S (nA := 0) (rest := [.long (-7651352060509602172)]) (r_X8_digest X.l G (AM G X.s.heap.size o) M B.2.2.2.2) (hG_digest _ rfl rfl ⟨(Nat.le_of_ble_eq_true rfl), (Nat.le_of_ble_eq_true rfl)⟩) h0 rfl rfl (Nat.le_of_ble_eq_true rfl) (Nat.le_of_ble_eq_true rfl) (Nat.le_of_ble_eq_true rfl) rfl dL_law_1572 (fun v M1 hD1 hp => ?_)
  obtain ⟨pl1, k9, t9, h1, -, hv⟩ := hp
  subst hv
  have F2 := S.fx (k := 92 + 694) (n := 2484 + 2467) (Nat.le_of_ble_eq_true rfl) (Nat.le_of_ble_eq_true rfl)
  refine j_lcmp F2 0 dL_law_1575 (lg_same _) ?_
  exact j_if_eq F2 1581 dL_law_1576 (by decide) (fun _ => (B.2.2.1 _ _ _ (Nat.le_of_ble_eq_true rfl) (Nat.le_of_ble_eq_true rfl))) (fun h9 => absurd rfl h9)
