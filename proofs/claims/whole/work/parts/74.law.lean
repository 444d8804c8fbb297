def shLaw : List gC := shW ++ shM.map (g_shf 133)
theorem wf_shW : g_wf shW = true := by decide +kernel
theorem rest_shM : ∀ d ∈ shM.map (g_shf 133), ∀ j ∈ g_refs d, 133 ≤ j := by decide +kernel
theorem len_shW : shW.length = 133 := by decide +kernel
theorem lng_shLaw (k : Nat) (d : gC) (h1 : shH.length ≤ k) (h2 : k < 133) (h3 : (shH ++ ([.inr (.inr (.inr 1))] ++ shM.map (g_shf 133)))[k]? = some d) : g_lng d = true := by
  have hl : shH.length = 132 := by decide +kernel
  have hk : k = 132 := by omega
  subst hk
  rw [List.getElem?_append_right h1, hl] at h3
  have : (.inr (.inr (.inr 1)) : gC) = d := Option.some.inj h3
  subst this
  rfl
theorem shLaw_H : shLaw = shH ++ ([.inr (.inr (.inr 1))] ++ shM.map (g_shf 133)) := by unfold shLaw shW; rw [List.append_assoc]
theorem fr_shH {G : gG} {q : Nat → Nat} {μ1 μ2 μr : gM} {ν1 ν2 : gN} : gFr G shLaw q (g_app 133 μ1 μ2) (g_app 133 ν1 ν2) shH q μ1 ν1 μr ν1 (g_app 133 μr μ2) (g_app 133 ν1 ν2) := by
  rw [shLaw_H]
  exact gFr_pre (by decide +kernel) lng_shLaw
theorem lg_cmp_same (x : Int64) : lg_cmp x x = 0 := by
  unfold lg_cmp
  simp
theorem x_pick01 {p : Program} {l : Launch} {e : Env} {R : Room} {s : State} {m : MethodId} {args : Array Value} {below : List Frame} {meth : Method} {c : Code} {G : gG} {A : Nat → Prop} {nL : Nat} {Q : State → Prop} {cells slots : Nat} {sh : List gC} {q : Nat → Nat} {μ : gM} {ν : gN} {lv : List (Nat × Value)} {st : List Value} {pc : Nat} {cc : ByteArray} {own : String} {Ts : List Cond} {a : Int32} {off off2 : Int} (C : xC p s m args meth c G A nL cc own Ts) (d1 : decode cc pc = .ok (.ifCond .eq off, 3)) (h1 : (pc : Int) + off = ((pc + 7 : Nat) : Int)) (d2 : decode cc (pc + 3) = .ok (.iconst 1, 1)) (d3 : decode cc (pc + 4) = .ok (.goto off2, 3)) (h2 : ((pc + 4 : Nat) : Int) + off2 = ((pc + 8 : Nat) : Int)) (d4 : decode cc (pc + 7) = .ok (.iconst 0, 1)) (K : xJ p l e R s m args below meth c G A nL Q cells slots sh q μ ν lv (.int (if a = 0 then 0 else 1) :: st) (pc + 8)) : xJ p l e R s m args below meth c G A nL Q cells slots sh q μ ν lv (.int a :: st) pc := by
  refine x_if_eq C d1 h1 (fun h => ?_) (fun h => ?_)
  · rw [if_pos h] at K
    exact x_iconst (v := (0 : Int32)) C d4 (by decide) K
  · rw [if_neg h] at K
    exact x_iconst (v := (1 : Int32)) C d2 (by decide) (x_goto C d3 h2 K)

set_option maxRecDepth 100000 in
set_option maxHeartbeats 4000000 in
theorem lw_write {p : Program} {l : Launch} {e : Env} {R : Room} {s : State} {m9 : MethodId} {args : Array Value} {below : List Frame} {meth : Method} {c : Code} {G : gG} {A : Nat → Prop} {Q : State → Prop} {cells slots : Nat} {q : Nat → Nat} {mh mr : gM} {nh nr : gN} (C : xC p s m9 args meth c G A 9 cL_law RL wsL_law) (hRf : 9 ≤ R.frames) (hRl : 240 ≤ R.locals) {b L : Nat} {xs : Nat → Int32} (hb : va_X b L xs s s.heap) (hbl : b < s.heap.size) (hbA : ¬ A b) (hX : gX A s) (hq : gD A q shLaw.length) {i a1 a2 : Int32} (h1 : vp_in (i + 1) L) (h2 : vp_in (i + 2) L) (ha1 : xs (i + 1).toNatClampNeg = a1) (ha2 : xs (i + 2).toNatClampNeg = a2) {mh1 : gM} {nh1 : gN} {r : Int32} (hM : gMw l yL_write wsL_write rmw_write G shW q [0, 1, 2, 3, 132] mh nh [.ref (q 0), .int a1, .int a2, .ref (q 132)] mh1 nh1 r) (hok : o_r_write mr a1 a2) (hth : f_r_thrown (f_r_write mr a1 a2).2 = r) (hans : r = 0 → nh1 132 0 = Int32.toInt64 (f_r_write mr a1 a2).1) (hc : cells + 1 ≤ R.cells) (hs : slots + 6 ≤ R.slots)
    (K : ∀ q1 : Nat → Nat, (∀ k ∈ [0, 1, 2, 3, 132], q1 k = q k) → (∀ k, 133 ≤ k → q1 k = q k) → gD A q1 shLaw.length → xJ p l e R s m9 args below meth c G A 9 Q (cells + 1) (slots + 6) shLaw q1 (g_app 133 mh1 (f_r_write mr a1 a2).2) (g_app 133 nh1 nr) [(0, .ref b), (1, .ref (q1 0)), (2, .ref (q1 133)), (3, .ref (q1 132)), (4, .int i)] [] 1425) :
    xJ p l e R s m9 args below meth c G A 9 Q cells slots shLaw q (g_app 133 mh mr) (g_app 133 nh nr) [(0, .ref b), (1, .ref (q 0)), (2, .ref (q 133)), (3, .ref (q 132)), (4, .int i)] [] 144 := by
  refine x_aload_n C dL_law_144 rfl 1 rfl ?_
  refine x_aload_n C dL_law_145 rfl 0 rfl ?_
  refine x_iload C dL_law_146 4 rfl ?_
  refine x_iconst (v := (1 : Int32)) C dL_law_148 (by decide) ?_
  refine x_iadd C dL_law_149 ?_
  refine x_sld C hb hbl hbA h1 ha1 dL_law_150 ?_
  refine x_aload_n C dL_law_151 rfl 0 rfl ?_
  refine x_iload C dL_law_152 4 rfl ?_
  refine x_iconst (v := (2 : Int32)) C dL_law_154 (by decide) ?_
  refine x_iadd C dL_law_155 ?_
  refine x_sld C hb hbl hbA h2 ha2 dL_law_156 ?_
  refine x_aload_n C dL_law_157 rfl 3 rfl ?_
  refine x_callLw (n := 4) (shc := shW) (rest := shM.map (g_shf 133)) (L := 133) C hq rfl rfl wf_shW rest_shM hX (by decide) hM (vx_cwSW 4 C.2.2.2.2.2.1 gL_law_L_write rfl rfl rfl (by decide +kernel) ⟨Nat.le_trans (by decide) hRf, Nat.le_trans (Nat.le_of_ble_eq_true rfl) hRl⟩) rfl rfl (Nat.le_of_ble_eq_true rfl) dL_law_158 hc hs (fun q1 e1 e2 hq1 => ?_)
  refine x_lve (lv' := [(0, .ref b), (1, .ref (q1 0)), (2, .ref (q1 133)), (3, .ref (q1 132)), (4, .int i)]) (by rw [e1 0 (by decide), e1 132 (by decide), e2 133 (by decide)]) ?_
  refine x_istore (lv' := [(0, .ref b), (1, .ref (q1 0)), (2, .ref (q1 133)), (3, .ref (q1 132)), (4, .int i), (5, .int r)]) C dL_law_161 (by decide) [1, 2, 3, 4, 5, 0] rfl ?_
  refine x_aload_n C dL_law_163 rfl 2 rfl ?_
  refine x_aload_n C dL_law_164 rfl 0 rfl ?_
  refine x_iload C dL_law_165 4 rfl ?_
  refine x_iconst (v := (1 : Int32)) C dL_law_167 (by decide) ?_
  refine x_iadd C dL_law_168 ?_
  refine x_sld C hb hbl hbA h1 ha1 dL_law_169 ?_
  refine x_aload_n C dL_law_170 rfl 0 rfl ?_
  refine x_iload C dL_law_171 4 rfl ?_
  refine x_iconst (v := (2 : Int32)) C dL_law_173 (by decide) ?_
  refine x_iadd C dL_law_174 ?_
  refine x_sld C hb hbl hbA h2 ha2 dL_law_175 ?_
  refine x_callVi (n := 2) (shc := shM) C hq1 (gFr_suf (sh0 := shW) (shm := shM) (L := 133) rfl) (c_r_write l G (fun k => q1 (k + 133)) mr nr a1 a2 hok) (cwV 2 C.2.2.2.2.2.1 gL_law_X3_write rfl rfl rfl (by decide +kernel) ⟨Nat.le_trans (by decide) hRf, Nat.le_trans (Nat.le_of_ble_eq_true rfl) hRl⟩) rfl rfl rfl rfl (Nat.le_of_ble_eq_true rfl) dL_law_176 hc hs ?_
  refine x_istore (lv' := [(0, .ref b), (1, .ref (q1 0)), (2, .ref (q1 133)), (3, .ref (q1 132)), (4, .int i), (5, .int r), (6, .int (f_r_write mr a1 a2).1)]) C dL_law_179 (by decide) [1, 2, 3, 4, 5, 6, 0] rfl ?_
  refine x_aload_n C dL_law_181 rfl 2 rfl ?_
  refine x_callVi (n := 0) (shc := shM) C hq1 (gFr_suf (sh0 := shW) (shm := shM) (L := 133) rfl) (c_r_thrown l G (fun k => q1 (k + 133)) ((f_r_write mr a1 a2).2) nr trivial) (cwV 0 C.2.2.2.2.2.1 gL_law_X3_thrown rfl rfl rfl (by decide +kernel) ⟨Nat.le_trans (by decide) hRf, Nat.le_trans (Nat.le_of_ble_eq_true rfl) hRl⟩) rfl rfl rfl rfl (Nat.le_of_ble_eq_true rfl) dL_law_182 hc hs ?_
  refine x_iload C dL_law_185 5 rfl ?_
  refine x_icmp_eq (tgt := 192) C dL_law_187 (by decide) (fun _ => ?_) (fun h => absurd hth h)
  refine x_iload C dL_law_192 5 rfl ?_
  refine x_if_ne (tgt := 209) C dL_law_194 (by decide) (fun _ => ?_) (fun h0 => ?_)
  · refine x_goto (tgt := 1425) C dL_law_209 (by decide) ?_
    refine x_lv (lv' := [(0, .ref b), (1, .ref (q1 0)), (2, .ref (q1 133)), (3, .ref (q1 132)), (4, .int i)]) [0, 1, 2, 3, 4] rfl ?_
    exact K q1 e1 e2 hq1
  · refine x_aload_n C dL_law_197 rfl 3 rfl ?_
    refine x_iconst (v := (0 : Int32)) C dL_law_198 (by decide) ?_
    refine x_lald (n := 1) C 132 rfl (by unfold vp_in; decide) ((congrFun (g_app_lo nh1 nr (by decide)) 0).trans (hans h0)) dL_law_199 ?_
    refine x_iload C dL_law_200 6 rfl ?_
    refine x_i2l C dL_law_202 rfl ?_
    refine x_lcmp C dL_law_203 ?_
    refine x_if_eq (tgt := 209) C dL_law_204 (by decide) (fun _ => ?_) (fun h => absurd (lg_cmp_same _) h)
    refine x_goto (tgt := 1425) C dL_law_209 (by decide) ?_
    refine x_lv (lv' := [(0, .ref b), (1, .ref (q1 0)), (2, .ref (q1 133)), (3, .ref (q1 132)), (4, .int i)]) [0, 1, 2, 3, 4] rfl ?_
    exact K q1 e1 e2 hq1

set_option maxRecDepth 100000 in
set_option maxHeartbeats 4000000 in
theorem lw_writeRow {p : Program} {l : Launch} {e : Env} {R : Room} {s : State} {m9 : MethodId} {args : Array Value} {below : List Frame} {meth : Method} {c : Code} {G : gG} {A : Nat → Prop} {Q : State → Prop} {cells slots : Nat} {q : Nat → Nat} {mh mr : gM} {nh nr : gN} (C : xC p s m9 args meth c G A 9 cL_law RL wsL_law) (hRf : 9 ≤ R.frames) (hRl : 240 ≤ R.locals) {b L : Nat} {xs : Nat → Int32} (hb : va_X b L xs s s.heap) (hbl : b < s.heap.size) (hbA : ¬ A b) (hX : gX A s) (hq : gD A q shLaw.length) {i a1 a2 a3 : Int32} (h1 : vp_in (i + 1) L) (h2 : vp_in (i + 2) L) (h3 : vp_in (i + 3) L) (ha1 : xs (i + 1).toNatClampNeg = a1) (ha2 : xs (i + 2).toNatClampNeg = a2) (ha3 : xs (i + 3).toNatClampNeg = a3) {mh1 : gM} {nh1 : gN} {r : Int32} (hM : gMw l yL_writeRow wsL_writeRow rmw_writeRow G shW q [0, 1, 2, 3, 132] mh nh [.ref (q 0), .int a1, .int a2, .int a3, .ref (q 132)] mh1 nh1 r) (hok : o_r_writeRow mr a1 a2 a3) (hth : f_r_thrown (f_r_writeRow mr a1 a2 a3).2 = r) (hans : r = 0 → nh1 132 0 = Int32.toInt64 (f_r_writeRow mr a1 a2 a3).1) (hc : cells + 1 ≤ R.cells) (hs : slots + 6 ≤ R.slots)
    (K : ∀ q1 : Nat → Nat, (∀ k ∈ [0, 1, 2, 3, 132], q1 k = q k) → (∀ k, 133 ≤ k → q1 k = q k) → gD A q1 shLaw.length → xJ p l e R s m9 args below meth c G A 9 Q (cells + 1) (slots + 6) shLaw q1 (g_app 133 mh1 (f_r_writeRow mr a1 a2 a3).2) (g_app 133 nh1 nr) [(0, .ref b), (1, .ref (q1 0)), (2, .ref (q1 133)), (3, .ref (q1 132)), (4, .int i)] [] 1425) :
    xJ p l e R s m9 args below meth c G A 9 Q cells slots shLaw q (g_app 133 mh mr) (g_app 133 nh nr) [(0, .ref b), (1, .ref (q 0)), (2, .ref (q 133)), (3, .ref (q 132)), (4, .int i)] [] 212 := by
  refine x_aload_n C dL_law_212 rfl 1 rfl ?_
  refine x_aload_n C dL_law_213 rfl 0 rfl ?_
  refine x_iload C dL_law_214 4 rfl ?_
  refine x_iconst (v := (1 : Int32)) C dL_law_216 (by decide) ?_
  refine x_iadd C dL_law_217 ?_
  refine x_sld C hb hbl hbA h1 ha1 dL_law_218 ?_
  refine x_aload_n C dL_law_219 rfl 0 rfl ?_
  refine x_iload C dL_law_220 4 rfl ?_
  refine x_iconst (v := (2 : Int32)) C dL_law_222 (by decide) ?_
  refine x_iadd C dL_law_223 ?_
  refine x_sld C hb hbl hbA h2 ha2 dL_law_224 ?_
  refine x_aload_n C dL_law_225 rfl 0 rfl ?_
  refine x_iload C dL_law_226 4 rfl ?_
  refine x_iconst (v := (3 : Int32)) C dL_law_228 (by decide) ?_
  refine x_iadd C dL_law_229 ?_
  refine x_sld C hb hbl hbA h3 ha3 dL_law_230 ?_
  refine x_aload_n C dL_law_231 rfl 3 rfl ?_
  refine x_callLw (n := 5) (shc := shW) (rest := shM.map (g_shf 133)) (L := 133) C hq rfl rfl wf_shW rest_shM hX (by decide) hM (vx_cwSW 5 C.2.2.2.2.2.1 gL_law_L_writeRow rfl rfl rfl (by decide +kernel) ⟨Nat.le_trans (by decide) hRf, Nat.le_trans (Nat.le_of_ble_eq_true rfl) hRl⟩) rfl rfl (Nat.le_of_ble_eq_true rfl) dL_law_232 hc hs (fun q1 e1 e2 hq1 => ?_)
  refine x_lve (lv' := [(0, .ref b), (1, .ref (q1 0)), (2, .ref (q1 133)), (3, .ref (q1 132)), (4, .int i)]) (by rw [e1 0 (by decide), e1 132 (by decide), e2 133 (by decide)]) ?_
  refine x_istore (lv' := [(0, .ref b), (1, .ref (q1 0)), (2, .ref (q1 133)), (3, .ref (q1 132)), (4, .int i), (5, .int r)]) C dL_law_235 (by decide) [1, 2, 3, 4, 5, 0] rfl ?_
  refine x_aload_n C dL_law_237 rfl 2 rfl ?_
  refine x_aload_n C dL_law_238 rfl 0 rfl ?_
  refine x_iload C dL_law_239 4 rfl ?_
  refine x_iconst (v := (1 : Int32)) C dL_law_241 (by decide) ?_
  refine x_iadd C dL_law_242 ?_
  refine x_sld C hb hbl hbA h1 ha1 dL_law_243 ?_
  refine x_aload_n C dL_law_244 rfl 0 rfl ?_
  refine x_iload C dL_law_245 4 rfl ?_
  refine x_iconst (v := (2 : Int32)) C dL_law_247 (by decide) ?_
  refine x_iadd C dL_law_248 ?_
  refine x_sld C hb hbl hbA h2 ha2 dL_law_249 ?_
  refine x_aload_n C dL_law_250 rfl 0 rfl ?_
  refine x_iload C dL_law_251 4 rfl ?_
  refine x_iconst (v := (3 : Int32)) C dL_law_253 (by decide) ?_
  refine x_iadd C dL_law_254 ?_
  refine x_sld C hb hbl hbA h3 ha3 dL_law_255 ?_
  refine x_callVi (n := 3) (shc := shM) C hq1 (gFr_suf (sh0 := shW) (shm := shM) (L := 133) rfl) (c_r_writeRow l G (fun k => q1 (k + 133)) mr nr a1 a2 a3 hok) (cwV 3 C.2.2.2.2.2.1 gL_law_X3_writeRow rfl rfl rfl (by decide +kernel) ⟨Nat.le_trans (by decide) hRf, Nat.le_trans (Nat.le_of_ble_eq_true rfl) hRl⟩) rfl rfl rfl rfl (Nat.le_of_ble_eq_true rfl) dL_law_256 hc hs ?_
  refine x_istore (lv' := [(0, .ref b), (1, .ref (q1 0)), (2, .ref (q1 133)), (3, .ref (q1 132)), (4, .int i), (5, .int r), (6, .int (f_r_writeRow mr a1 a2 a3).1)]) C dL_law_259 (by decide) [1, 2, 3, 4, 5, 6, 0] rfl ?_
  refine x_aload_n C dL_law_261 rfl 2 rfl ?_
  refine x_callVi (n := 0) (shc := shM) C hq1 (gFr_suf (sh0 := shW) (shm := shM) (L := 133) rfl) (c_r_thrown l G (fun k => q1 (k + 133)) ((f_r_writeRow mr a1 a2 a3).2) nr trivial) (cwV 0 C.2.2.2.2.2.1 gL_law_X3_thrown rfl rfl rfl (by decide +kernel) ⟨Nat.le_trans (by decide) hRf, Nat.le_trans (Nat.le_of_ble_eq_true rfl) hRl⟩) rfl rfl rfl rfl (Nat.le_of_ble_eq_true rfl) dL_law_262 hc hs ?_
  refine x_iload C dL_law_265 5 rfl ?_
  refine x_icmp_eq (tgt := 272) C dL_law_267 (by decide) (fun _ => ?_) (fun h => absurd hth h)
  refine x_iload C dL_law_272 5 rfl ?_
  refine x_if_ne (tgt := 289) C dL_law_274 (by decide) (fun _ => ?_) (fun h0 => ?_)
  · refine x_goto (tgt := 1425) C dL_law_289 (by decide) ?_
    refine x_lv (lv' := [(0, .ref b), (1, .ref (q1 0)), (2, .ref (q1 133)), (3, .ref (q1 132)), (4, .int i)]) [0, 1, 2, 3, 4] rfl ?_
    exact K q1 e1 e2 hq1
  · refine x_aload_n C dL_law_277 rfl 3 rfl ?_
    refine x_iconst (v := (0 : Int32)) C dL_law_278 (by decide) ?_
    refine x_lald (n := 1) C 132 rfl (by unfold vp_in; decide) ((congrFun (g_app_lo nh1 nr (by decide)) 0).trans (hans h0)) dL_law_279 ?_
    refine x_iload C dL_law_280 6 rfl ?_
    refine x_i2l C dL_law_282 rfl ?_
    refine x_lcmp C dL_law_283 ?_
    refine x_if_eq (tgt := 289) C dL_law_284 (by decide) (fun _ => ?_) (fun h => absurd (lg_cmp_same _) h)
    refine x_goto (tgt := 1425) C dL_law_289 (by decide) ?_
    refine x_lv (lv' := [(0, .ref b), (1, .ref (q1 0)), (2, .ref (q1 133)), (3, .ref (q1 132)), (4, .int i)]) [0, 1, 2, 3, 4] rfl ?_
    exact K q1 e1 e2 hq1

set_option maxRecDepth 100000 in
set_option maxHeartbeats 4000000 in
theorem lw_trim {p : Program} {l : Launch} {e : Env} {R : Room} {s : State} {m9 : MethodId} {args : Array Value} {below : List Frame} {meth : Method} {c : Code} {G : gG} {A : Nat → Prop} {Q : State → Prop} {cells slots : Nat} {q : Nat → Nat} {mh mr : gM} {nh nr : gN} (C : xC p s m9 args meth c G A 9 cL_law RL wsL_law) (hRf : 9 ≤ R.frames) (hRl : 240 ≤ R.locals) {b L : Nat} {xs : Nat → Int32} (hb : va_X b L xs s s.heap) (hbl : b < s.heap.size) (hbA : ¬ A b) (hX : gX A s) (hq : gD A q shLaw.length) {i a1 : Int32} (h1 : vp_in (i + 1) L) (ha1 : xs (i + 1).toNatClampNeg = a1) {mh1 : gM} {nh1 : gN} {r : Int32} (hM : gMw l yL_trim wsL_trim rmw_trim G shW q [0, 1, 2, 3, 132] mh nh [.ref (q 0), .int a1, .ref (q 132)] mh1 nh1 r) (hok : o_r_trim mr a1) (hth : f_r_thrown (f_r_trim mr a1).2 = r) (hans : r = 0 → nh1 132 0 = Int32.toInt64 (f_r_trim mr a1).1) (hc : cells + 1 ≤ R.cells) (hs : slots + 6 ≤ R.slots)
    (K : ∀ q1 : Nat → Nat, (∀ k ∈ [0, 1, 2, 3, 132], q1 k = q k) → (∀ k, 133 ≤ k → q1 k = q k) → gD A q1 shLaw.length → xJ p l e R s m9 args below meth c G A 9 Q (cells + 1) (slots + 6) shLaw q1 (g_app 133 mh1 (f_r_trim mr a1).2) (g_app 133 nh1 nr) [(0, .ref b), (1, .ref (q1 0)), (2, .ref (q1 133)), (3, .ref (q1 132)), (4, .int i)] [] 1425) :
    xJ p l e R s m9 args below meth c G A 9 Q cells slots shLaw q (g_app 133 mh mr) (g_app 133 nh nr) [(0, .ref b), (1, .ref (q 0)), (2, .ref (q 133)), (3, .ref (q 132)), (4, .int i)] [] 292 := by
  refine x_aload_n C dL_law_292 rfl 1 rfl ?_
  refine x_aload_n C dL_law_293 rfl 0 rfl ?_
  refine x_iload C dL_law_294 4 rfl ?_
  refine x_iconst (v := (1 : Int32)) C dL_law_296 (by decide) ?_
  refine x_iadd C dL_law_297 ?_
  refine x_sld C hb hbl hbA h1 ha1 dL_law_298 ?_
  refine x_aload_n C dL_law_299 rfl 3 rfl ?_
  refine x_callLw (n := 3) (shc := shW) (rest := shM.map (g_shf 133)) (L := 133) C hq rfl rfl wf_shW rest_shM hX (by decide) hM (vx_cwSW 3 C.2.2.2.2.2.1 gL_law_L_trim rfl rfl rfl (by decide +kernel) ⟨Nat.le_trans (by decide) hRf, Nat.le_trans (Nat.le_of_ble_eq_true rfl) hRl⟩) rfl rfl (Nat.le_of_ble_eq_true rfl) dL_law_300 hc hs (fun q1 e1 e2 hq1 => ?_)
  refine x_lve (lv' := [(0, .ref b), (1, .ref (q1 0)), (2, .ref (q1 133)), (3, .ref (q1 132)), (4, .int i)]) (by rw [e1 0 (by decide), e1 132 (by decide), e2 133 (by decide)]) ?_
  refine x_istore (lv' := [(0, .ref b), (1, .ref (q1 0)), (2, .ref (q1 133)), (3, .ref (q1 132)), (4, .int i), (5, .int r)]) C dL_law_303 (by decide) [1, 2, 3, 4, 5, 0] rfl ?_
  refine x_aload_n C dL_law_305 rfl 2 rfl ?_
  refine x_aload_n C dL_law_306 rfl 0 rfl ?_
  refine x_iload C dL_law_307 4 rfl ?_
  refine x_iconst (v := (1 : Int32)) C dL_law_309 (by decide) ?_
  refine x_iadd C dL_law_310 ?_
  refine x_sld C hb hbl hbA h1 ha1 dL_law_311 ?_
  refine x_callVi (n := 1) (shc := shM) C hq1 (gFr_suf (sh0 := shW) (shm := shM) (L := 133) rfl) (c_r_trim l G (fun k => q1 (k + 133)) mr nr a1 hok) (cwV 1 C.2.2.2.2.2.1 gL_law_X3_trim rfl rfl rfl (by decide +kernel) ⟨Nat.le_trans (by decide) hRf, Nat.le_trans (Nat.le_of_ble_eq_true rfl) hRl⟩) rfl rfl rfl rfl (Nat.le_of_ble_eq_true rfl) dL_law_312 hc hs ?_
  refine x_istore (lv' := [(0, .ref b), (1, .ref (q1 0)), (2, .ref (q1 133)), (3, .ref (q1 132)), (4, .int i), (5, .int r), (6, .int (f_r_trim mr a1).1)]) C dL_law_315 (by decide) [1, 2, 3, 4, 5, 6, 0] rfl ?_
  refine x_aload_n C dL_law_317 rfl 2 rfl ?_
  refine x_callVi (n := 0) (shc := shM) C hq1 (gFr_suf (sh0 := shW) (shm := shM) (L := 133) rfl) (c_r_thrown l G (fun k => q1 (k + 133)) ((f_r_trim mr a1).2) nr trivial) (cwV 0 C.2.2.2.2.2.1 gL_law_X3_thrown rfl rfl rfl (by decide +kernel) ⟨Nat.le_trans (by decide) hRf, Nat.le_trans (Nat.le_of_ble_eq_true rfl) hRl⟩) rfl rfl rfl rfl (Nat.le_of_ble_eq_true rfl) dL_law_318 hc hs ?_
  refine x_iload C dL_law_321 5 rfl ?_
  refine x_icmp_eq (tgt := 328) C dL_law_323 (by decide) (fun _ => ?_) (fun h => absurd hth h)
  refine x_iload C dL_law_328 5 rfl ?_
  refine x_if_ne (tgt := 345) C dL_law_330 (by decide) (fun _ => ?_) (fun h0 => ?_)
  · refine x_goto (tgt := 1425) C dL_law_345 (by decide) ?_
    refine x_lv (lv' := [(0, .ref b), (1, .ref (q1 0)), (2, .ref (q1 133)), (3, .ref (q1 132)), (4, .int i)]) [0, 1, 2, 3, 4] rfl ?_
    exact K q1 e1 e2 hq1
  · refine x_aload_n C dL_law_333 rfl 3 rfl ?_
    refine x_iconst (v := (0 : Int32)) C dL_law_334 (by decide) ?_
    refine x_lald (n := 1) C 132 rfl (by unfold vp_in; decide) ((congrFun (g_app_lo nh1 nr (by decide)) 0).trans (hans h0)) dL_law_335 ?_
    refine x_iload C dL_law_336 6 rfl ?_
    refine x_i2l C dL_law_338 rfl ?_
    refine x_lcmp C dL_law_339 ?_
    refine x_if_eq (tgt := 345) C dL_law_340 (by decide) (fun _ => ?_) (fun h => absurd (lg_cmp_same _) h)
    refine x_goto (tgt := 1425) C dL_law_345 (by decide) ?_
    refine x_lv (lv' := [(0, .ref b), (1, .ref (q1 0)), (2, .ref (q1 133)), (3, .ref (q1 132)), (4, .int i)]) [0, 1, 2, 3, 4] rfl ?_
    exact K q1 e1 e2 hq1

set_option maxRecDepth 100000 in
set_option maxHeartbeats 4000000 in
theorem lw_hint {p : Program} {l : Launch} {e : Env} {R : Room} {s : State} {m9 : MethodId} {args : Array Value} {below : List Frame} {meth : Method} {c : Code} {G : gG} {A : Nat → Prop} {Q : State → Prop} {cells slots : Nat} {q : Nat → Nat} {mh mr : gM} {nh nr : gN} (C : xC p s m9 args meth c G A 9 cL_law RL wsL_law) (hRf : 9 ≤ R.frames) (hRl : 240 ≤ R.locals) {b L : Nat} {xs : Nat → Int32} (hb : va_X b L xs s s.heap) (hbl : b < s.heap.size) (hbA : ¬ A b) (hX : gX A s) (hq : gD A q shLaw.length) {i a1 a2 : Int32} (h1 : vp_in (i + 1) L) (h2 : vp_in (i + 2) L) (ha1 : xs (i + 1).toNatClampNeg = a1) (ha2 : xs (i + 2).toNatClampNeg = a2) {mh1 : gM} {nh1 : gN} {r : Int32} (hM : gMw l yL_hint wsL_hint rmw_hint G shW q [0, 1, 2, 3, 132] mh nh [.ref (q 0), .int a1, .int a2, .ref (q 132)] mh1 nh1 r) (hok : o_r_hint mr a1 a2) (hth : f_r_thrown (f_r_hint mr a1 a2).2 = r) (hans : r = 0 → nh1 132 0 = Int32.toInt64 (f_r_hint mr a1 a2).1) (hc : cells + 1 ≤ R.cells) (hs : slots + 6 ≤ R.slots)
    (K : ∀ q1 : Nat → Nat, (∀ k ∈ [0, 1, 2, 3, 132], q1 k = q k) → (∀ k, 133 ≤ k → q1 k = q k) → gD A q1 shLaw.length → xJ p l e R s m9 args below meth c G A 9 Q (cells + 1) (slots + 6) shLaw q1 (g_app 133 mh1 (f_r_hint mr a1 a2).2) (g_app 133 nh1 nr) [(0, .ref b), (1, .ref (q1 0)), (2, .ref (q1 133)), (3, .ref (q1 132)), (4, .int i)] [] 1425) :
    xJ p l e R s m9 args below meth c G A 9 Q cells slots shLaw q (g_app 133 mh mr) (g_app 133 nh nr) [(0, .ref b), (1, .ref (q 0)), (2, .ref (q 133)), (3, .ref (q 132)), (4, .int i)] [] 348 := by
  refine x_aload_n C dL_law_348 rfl 1 rfl ?_
  refine x_aload_n C dL_law_349 rfl 0 rfl ?_
  refine x_iload C dL_law_350 4 rfl ?_
  refine x_iconst (v := (1 : Int32)) C dL_law_352 (by decide) ?_
  refine x_iadd C dL_law_353 ?_
  refine x_sld C hb hbl hbA h1 ha1 dL_law_354 ?_
  refine x_aload_n C dL_law_355 rfl 0 rfl ?_
  refine x_iload C dL_law_356 4 rfl ?_
  refine x_iconst (v := (2 : Int32)) C dL_law_358 (by decide) ?_
  refine x_iadd C dL_law_359 ?_
  refine x_sld C hb hbl hbA h2 ha2 dL_law_360 ?_
  refine x_aload_n C dL_law_361 rfl 3 rfl ?_
  refine x_callLw (n := 4) (shc := shW) (rest := shM.map (g_shf 133)) (L := 133) C hq rfl rfl wf_shW rest_shM hX (by decide) hM (vx_cwSW 4 C.2.2.2.2.2.1 gL_law_L_hint rfl rfl rfl (by decide +kernel) ⟨Nat.le_trans (by decide) hRf, Nat.le_trans (Nat.le_of_ble_eq_true rfl) hRl⟩) rfl rfl (Nat.le_of_ble_eq_true rfl) dL_law_362 hc hs (fun q1 e1 e2 hq1 => ?_)
  refine x_lve (lv' := [(0, .ref b), (1, .ref (q1 0)), (2, .ref (q1 133)), (3, .ref (q1 132)), (4, .int i)]) (by rw [e1 0 (by decide), e1 132 (by decide), e2 133 (by decide)]) ?_
  refine x_istore (lv' := [(0, .ref b), (1, .ref (q1 0)), (2, .ref (q1 133)), (3, .ref (q1 132)), (4, .int i), (5, .int r)]) C dL_law_365 (by decide) [1, 2, 3, 4, 5, 0] rfl ?_
  refine x_aload_n C dL_law_367 rfl 2 rfl ?_
  refine x_aload_n C dL_law_368 rfl 0 rfl ?_
  refine x_iload C dL_law_369 4 rfl ?_
  refine x_iconst (v := (1 : Int32)) C dL_law_371 (by decide) ?_
  refine x_iadd C dL_law_372 ?_
  refine x_sld C hb hbl hbA h1 ha1 dL_law_373 ?_
  refine x_aload_n C dL_law_374 rfl 0 rfl ?_
  refine x_iload C dL_law_375 4 rfl ?_
  refine x_iconst (v := (2 : Int32)) C dL_law_377 (by decide) ?_
  refine x_iadd C dL_law_378 ?_
  refine x_sld C hb hbl hbA h2 ha2 dL_law_379 ?_
  refine x_callVi (n := 2) (shc := shM) C hq1 (gFr_suf (sh0 := shW) (shm := shM) (L := 133) rfl) (c_r_hint l G (fun k => q1 (k + 133)) mr nr a1 a2 hok) (cwV 2 C.2.2.2.2.2.1 gL_law_X3_hint rfl rfl rfl (by decide +kernel) ⟨Nat.le_trans (by decide) hRf, Nat.le_trans (Nat.le_of_ble_eq_true rfl) hRl⟩) rfl rfl rfl rfl (Nat.le_of_ble_eq_true rfl) dL_law_380 hc hs ?_
  refine x_istore (lv' := [(0, .ref b), (1, .ref (q1 0)), (2, .ref (q1 133)), (3, .ref (q1 132)), (4, .int i), (5, .int r), (6, .int (f_r_hint mr a1 a2).1)]) C dL_law_383 (by decide) [1, 2, 3, 4, 5, 6, 0] rfl ?_
  refine x_aload_n C dL_law_385 rfl 2 rfl ?_
  refine x_callVi (n := 0) (shc := shM) C hq1 (gFr_suf (sh0 := shW) (shm := shM) (L := 133) rfl) (c_r_thrown l G (fun k => q1 (k + 133)) ((f_r_hint mr a1 a2).2) nr trivial) (cwV 0 C.2.2.2.2.2.1 gL_law_X3_thrown rfl rfl rfl (by decide +kernel) ⟨Nat.le_trans (by decide) hRf, Nat.le_trans (Nat.le_of_ble_eq_true rfl) hRl⟩) rfl rfl rfl rfl (Nat.le_of_ble_eq_true rfl) dL_law_386 hc hs ?_
  refine x_iload C dL_law_389 5 rfl ?_
  refine x_icmp_eq (tgt := 396) C dL_law_391 (by decide) (fun _ => ?_) (fun h => absurd hth h)
  refine x_iload C dL_law_396 5 rfl ?_
  refine x_if_ne (tgt := 413) C dL_law_398 (by decide) (fun _ => ?_) (fun h0 => ?_)
  · refine x_goto (tgt := 1425) C dL_law_413 (by decide) ?_
    refine x_lv (lv' := [(0, .ref b), (1, .ref (q1 0)), (2, .ref (q1 133)), (3, .ref (q1 132)), (4, .int i)]) [0, 1, 2, 3, 4] rfl ?_
    exact K q1 e1 e2 hq1
  · refine x_aload_n C dL_law_401 rfl 3 rfl ?_
    refine x_iconst (v := (0 : Int32)) C dL_law_402 (by decide) ?_
    refine x_lald (n := 1) C 132 rfl (by unfold vp_in; decide) ((congrFun (g_app_lo nh1 nr (by decide)) 0).trans (hans h0)) dL_law_403 ?_
    refine x_iload C dL_law_404 6 rfl ?_
    refine x_i2l C dL_law_406 rfl ?_
    refine x_lcmp C dL_law_407 ?_
    refine x_if_eq (tgt := 413) C dL_law_408 (by decide) (fun _ => ?_) (fun h => absurd (lg_cmp_same _) h)
    refine x_goto (tgt := 1425) C dL_law_413 (by decide) ?_
    refine x_lv (lv' := [(0, .ref b), (1, .ref (q1 0)), (2, .ref (q1 133)), (3, .ref (q1 132)), (4, .int i)]) [0, 1, 2, 3, 4] rfl ?_
    exact K q1 e1 e2 hq1

set_option maxRecDepth 100000 in
set_option maxHeartbeats 4000000 in
theorem lw_collect {p : Program} {l : Launch} {e : Env} {R : Room} {s : State} {m9 : MethodId} {args : Array Value} {below : List Frame} {meth : Method} {c : Code} {G : gG} {A : Nat → Prop} {Q : State → Prop} {cells slots : Nat} {q : Nat → Nat} {mh mr : gM} {nh nr : gN} (C : xC p s m9 args meth c G A 9 cL_law RL wsL_law) (hRf : 9 ≤ R.frames) (hRl : 240 ≤ R.locals) {b L : Nat} {xs : Nat → Int32} (hb : va_X b L xs s s.heap) (hbl : b < s.heap.size) (hbA : ¬ A b) (hX : gX A s) (hq : gD A q shLaw.length) {i a1 : Int32} (h1 : vp_in (i + 1) L) (ha1 : xs (i + 1).toNatClampNeg = a1) {mh1 : gM} {nh1 : gN} {r : Int32} (hM : gMw l yL_collect wsL_collect rmw_collect G shW q [0, 1, 2, 3, 132] mh nh [.ref (q 0), .int a1, .ref (q 132)] mh1 nh1 r) (hok : o_r_collect mr a1) (hth : f_r_thrown (f_r_collect mr a1).2 = r) (hans : r = 0 → nh1 132 0 = Int32.toInt64 (f_r_collect mr a1).1) (hc : cells + 1 ≤ R.cells) (hs : slots + 6 ≤ R.slots)
    (K : ∀ q1 : Nat → Nat, (∀ k ∈ [0, 1, 2, 3, 132], q1 k = q k) → (∀ k, 133 ≤ k → q1 k = q k) → gD A q1 shLaw.length → xJ p l e R s m9 args below meth c G A 9 Q (cells + 1) (slots + 6) shLaw q1 (g_app 133 mh1 (f_r_collect mr a1).2) (g_app 133 nh1 nr) [(0, .ref b), (1, .ref (q1 0)), (2, .ref (q1 133)), (3, .ref (q1 132)), (4, .int i)] [] 1425) :
    xJ p l e R s m9 args below meth c G A 9 Q cells slots shLaw q (g_app 133 mh mr) (g_app 133 nh nr) [(0, .ref b), (1, .ref (q 0)), (2, .ref (q 133)), (3, .ref (q 132)), (4, .int i)] [] 416 := by
  refine x_aload_n C dL_law_416 rfl 1 rfl ?_
  refine x_aload_n C dL_law_417 rfl 0 rfl ?_
  refine x_iload C dL_law_418 4 rfl ?_
  refine x_iconst (v := (1 : Int32)) C dL_law_420 (by decide) ?_
  refine x_iadd C dL_law_421 ?_
  refine x_sld C hb hbl hbA h1 ha1 dL_law_422 ?_
  refine x_aload_n C dL_law_423 rfl 3 rfl ?_
  refine x_callLw (n := 3) (shc := shW) (rest := shM.map (g_shf 133)) (L := 133) C hq rfl rfl wf_shW rest_shM hX (by decide) hM (vx_cwSW 3 C.2.2.2.2.2.1 gL_law_L_collect rfl rfl rfl (by decide +kernel) ⟨Nat.le_trans (by decide) hRf, Nat.le_trans (Nat.le_of_ble_eq_true rfl) hRl⟩) rfl rfl (Nat.le_of_ble_eq_true rfl) dL_law_424 hc hs (fun q1 e1 e2 hq1 => ?_)
  refine x_lve (lv' := [(0, .ref b), (1, .ref (q1 0)), (2, .ref (q1 133)), (3, .ref (q1 132)), (4, .int i)]) (by rw [e1 0 (by decide), e1 132 (by decide), e2 133 (by decide)]) ?_
  refine x_istore (lv' := [(0, .ref b), (1, .ref (q1 0)), (2, .ref (q1 133)), (3, .ref (q1 132)), (4, .int i), (5, .int r)]) C dL_law_427 (by decide) [1, 2, 3, 4, 5, 0] rfl ?_
  refine x_aload_n C dL_law_429 rfl 2 rfl ?_
  refine x_aload_n C dL_law_430 rfl 0 rfl ?_
  refine x_iload C dL_law_431 4 rfl ?_
  refine x_iconst (v := (1 : Int32)) C dL_law_433 (by decide) ?_
  refine x_iadd C dL_law_434 ?_
  refine x_sld C hb hbl hbA h1 ha1 dL_law_435 ?_
  refine x_callVi (n := 1) (shc := shM) C hq1 (gFr_suf (sh0 := shW) (shm := shM) (L := 133) rfl) (c_r_collect l G (fun k => q1 (k + 133)) mr nr a1 hok) (cwV 1 C.2.2.2.2.2.1 gL_law_X3_collect rfl rfl rfl (by decide +kernel) ⟨Nat.le_trans (by decide) hRf, Nat.le_trans (Nat.le_of_ble_eq_true rfl) hRl⟩) rfl rfl rfl rfl (Nat.le_of_ble_eq_true rfl) dL_law_436 hc hs ?_
  refine x_istore (lv' := [(0, .ref b), (1, .ref (q1 0)), (2, .ref (q1 133)), (3, .ref (q1 132)), (4, .int i), (5, .int r), (6, .int (f_r_collect mr a1).1)]) C dL_law_439 (by decide) [1, 2, 3, 4, 5, 6, 0] rfl ?_
  refine x_aload_n C dL_law_441 rfl 2 rfl ?_
  refine x_callVi (n := 0) (shc := shM) C hq1 (gFr_suf (sh0 := shW) (shm := shM) (L := 133) rfl) (c_r_thrown l G (fun k => q1 (k + 133)) ((f_r_collect mr a1).2) nr trivial) (cwV 0 C.2.2.2.2.2.1 gL_law_X3_thrown rfl rfl rfl (by decide +kernel) ⟨Nat.le_trans (by decide) hRf, Nat.le_trans (Nat.le_of_ble_eq_true rfl) hRl⟩) rfl rfl rfl rfl (Nat.le_of_ble_eq_true rfl) dL_law_442 hc hs ?_
  refine x_iload C dL_law_445 5 rfl ?_
  refine x_icmp_eq (tgt := 452) C dL_law_447 (by decide) (fun _ => ?_) (fun h => absurd hth h)
  refine x_iload C dL_law_452 5 rfl ?_
  refine x_if_ne (tgt := 469) C dL_law_454 (by decide) (fun _ => ?_) (fun h0 => ?_)
  · refine x_goto (tgt := 1425) C dL_law_469 (by decide) ?_
    refine x_lv (lv' := [(0, .ref b), (1, .ref (q1 0)), (2, .ref (q1 133)), (3, .ref (q1 132)), (4, .int i)]) [0, 1, 2, 3, 4] rfl ?_
    exact K q1 e1 e2 hq1
  · refine x_aload_n C dL_law_457 rfl 3 rfl ?_
    refine x_iconst (v := (0 : Int32)) C dL_law_458 (by decide) ?_
    refine x_lald (n := 1) C 132 rfl (by unfold vp_in; decide) ((congrFun (g_app_lo nh1 nr (by decide)) 0).trans (hans h0)) dL_law_459 ?_
    refine x_iload C dL_law_460 6 rfl ?_
    refine x_i2l C dL_law_462 rfl ?_
    refine x_lcmp C dL_law_463 ?_
    refine x_if_eq (tgt := 469) C dL_law_464 (by decide) (fun _ => ?_) (fun h => absurd (lg_cmp_same _) h)
    refine x_goto (tgt := 1425) C dL_law_469 (by decide) ?_
    refine x_lv (lv' := [(0, .ref b), (1, .ref (q1 0)), (2, .ref (q1 133)), (3, .ref (q1 132)), (4, .int i)]) [0, 1, 2, 3, 4] rfl ?_
    exact K q1 e1 e2 hq1

set_option maxRecDepth 100000 in
set_option maxHeartbeats 4000000 in
theorem lw_tidy {p : Program} {l : Launch} {e : Env} {R : Room} {s : State} {m9 : MethodId} {args : Array Value} {below : List Frame} {meth : Method} {c : Code} {G : gG} {A : Nat → Prop} {Q : State → Prop} {cells slots : Nat} {q : Nat → Nat} {mh mr : gM} {nh nr : gN} (C : xC p s m9 args meth c G A 9 cL_law RL wsL_law) (hRf : 9 ≤ R.frames) (hRl : 240 ≤ R.locals) {b L : Nat} {xs : Nat → Int32} (hb : va_X b L xs s s.heap) (hbl : b < s.heap.size) (hbA : ¬ A b) (hX : gX A s) (hq : gD A q shLaw.length) {i a1 : Int32} (h1 : vp_in (i + 1) L) (ha1 : xs (i + 1).toNatClampNeg = a1) {mh1 : gM} {nh1 : gN} {r : Int32} (hM : gMw l yL_tidy wsL_tidy rmw_tidy G shW q [0, 1, 2, 3, 132] mh nh [.ref (q 0), .int a1, .ref (q 132)] mh1 nh1 r) (hok : o_r_tidy mr a1) (hth : f_r_thrown (f_r_tidy mr a1).2 = r) (hans : r = 0 → nh1 132 0 = Int32.toInt64 (f_r_tidy mr a1).1) (hc : cells + 1 ≤ R.cells) (hs : slots + 6 ≤ R.slots)
    (K : ∀ q1 : Nat → Nat, (∀ k ∈ [0, 1, 2, 3, 132], q1 k = q k) → (∀ k, 133 ≤ k → q1 k = q k) → gD A q1 shLaw.length → xJ p l e R s m9 args below meth c G A 9 Q (cells + 1) (slots + 6) shLaw q1 (g_app 133 mh1 (f_r_tidy mr a1).2) (g_app 133 nh1 nr) [(0, .ref b), (1, .ref (q1 0)), (2, .ref (q1 133)), (3, .ref (q1 132)), (4, .int i)] [] 1425) :
    xJ p l e R s m9 args below meth c G A 9 Q cells slots shLaw q (g_app 133 mh mr) (g_app 133 nh nr) [(0, .ref b), (1, .ref (q 0)), (2, .ref (q 133)), (3, .ref (q 132)), (4, .int i)] [] 472 := by
  refine x_aload_n C dL_law_472 rfl 1 rfl ?_
  refine x_aload_n C dL_law_473 rfl 0 rfl ?_
  refine x_iload C dL_law_474 4 rfl ?_
  refine x_iconst (v := (1 : Int32)) C dL_law_476 (by decide) ?_
  refine x_iadd C dL_law_477 ?_
  refine x_sld C hb hbl hbA h1 ha1 dL_law_478 ?_
  refine x_aload_n C dL_law_479 rfl 3 rfl ?_
  refine x_callLw (n := 3) (shc := shW) (rest := shM.map (g_shf 133)) (L := 133) C hq rfl rfl wf_shW rest_shM hX (by decide) hM (vx_cwSW 3 C.2.2.2.2.2.1 gL_law_L_tidy rfl rfl rfl (by decide +kernel) ⟨Nat.le_trans (by decide) hRf, Nat.le_trans (Nat.le_of_ble_eq_true rfl) hRl⟩) rfl rfl (Nat.le_of_ble_eq_true rfl) dL_law_480 hc hs (fun q1 e1 e2 hq1 => ?_)
  refine x_lve (lv' := [(0, .ref b), (1, .ref (q1 0)), (2, .ref (q1 133)), (3, .ref (q1 132)), (4, .int i)]) (by rw [e1 0 (by decide), e1 132 (by decide), e2 133 (by decide)]) ?_
  refine x_istore (lv' := [(0, .ref b), (1, .ref (q1 0)), (2, .ref (q1 133)), (3, .ref (q1 132)), (4, .int i), (5, .int r)]) C dL_law_483 (by decide) [1, 2, 3, 4, 5, 0] rfl ?_
  refine x_aload_n C dL_law_485 rfl 2 rfl ?_
  refine x_aload_n C dL_law_486 rfl 0 rfl ?_
  refine x_iload C dL_law_487 4 rfl ?_
  refine x_iconst (v := (1 : Int32)) C dL_law_489 (by decide) ?_
  refine x_iadd C dL_law_490 ?_
  refine x_sld C hb hbl hbA h1 ha1 dL_law_491 ?_
  refine x_callVi (n := 1) (shc := shM) C hq1 (gFr_suf (sh0 := shW) (shm := shM) (L := 133) rfl) (c_r_tidy l G (fun k => q1 (k + 133)) mr nr a1 hok) (cwV 1 C.2.2.2.2.2.1 gL_law_X3_tidy rfl rfl rfl (by decide +kernel) ⟨Nat.le_trans (by decide) hRf, Nat.le_trans (Nat.le_of_ble_eq_true rfl) hRl⟩) rfl rfl rfl rfl (Nat.le_of_ble_eq_true rfl) dL_law_492 hc hs ?_
  refine x_istore (lv' := [(0, .ref b), (1, .ref (q1 0)), (2, .ref (q1 133)), (3, .ref (q1 132)), (4, .int i), (5, .int r), (6, .int (f_r_tidy mr a1).1)]) C dL_law_495 (by decide) [1, 2, 3, 4, 5, 6, 0] rfl ?_
  refine x_aload_n C dL_law_497 rfl 2 rfl ?_
  refine x_callVi (n := 0) (shc := shM) C hq1 (gFr_suf (sh0 := shW) (shm := shM) (L := 133) rfl) (c_r_thrown l G (fun k => q1 (k + 133)) ((f_r_tidy mr a1).2) nr trivial) (cwV 0 C.2.2.2.2.2.1 gL_law_X3_thrown rfl rfl rfl (by decide +kernel) ⟨Nat.le_trans (by decide) hRf, Nat.le_trans (Nat.le_of_ble_eq_true rfl) hRl⟩) rfl rfl rfl rfl (Nat.le_of_ble_eq_true rfl) dL_law_498 hc hs ?_
  refine x_iload C dL_law_501 5 rfl ?_
  refine x_icmp_eq (tgt := 508) C dL_law_503 (by decide) (fun _ => ?_) (fun h => absurd hth h)
  refine x_iload C dL_law_508 5 rfl ?_
  refine x_if_ne (tgt := 525) C dL_law_510 (by decide) (fun _ => ?_) (fun h0 => ?_)
  · refine x_goto (tgt := 1425) C dL_law_525 (by decide) ?_
    refine x_lv (lv' := [(0, .ref b), (1, .ref (q1 0)), (2, .ref (q1 133)), (3, .ref (q1 132)), (4, .int i)]) [0, 1, 2, 3, 4] rfl ?_
    exact K q1 e1 e2 hq1
  · refine x_aload_n C dL_law_513 rfl 3 rfl ?_
    refine x_iconst (v := (0 : Int32)) C dL_law_514 (by decide) ?_
    refine x_lald (n := 1) C 132 rfl (by unfold vp_in; decide) ((congrFun (g_app_lo nh1 nr (by decide)) 0).trans (hans h0)) dL_law_515 ?_
    refine x_iload C dL_law_516 6 rfl ?_
    refine x_i2l C dL_law_518 rfl ?_
    refine x_lcmp C dL_law_519 ?_
    refine x_if_eq (tgt := 525) C dL_law_520 (by decide) (fun _ => ?_) (fun h => absurd (lg_cmp_same _) h)
    refine x_goto (tgt := 1425) C dL_law_525 (by decide) ?_
    refine x_lv (lv' := [(0, .ref b), (1, .ref (q1 0)), (2, .ref (q1 133)), (3, .ref (q1 132)), (4, .int i)]) [0, 1, 2, 3, 4] rfl ?_
    exact K q1 e1 e2 hq1

set_option maxRecDepth 100000 in
set_option maxHeartbeats 4000000 in
theorem lw_set {p : Program} {l : Launch} {e : Env} {R : Room} {s : State} {m9 : MethodId} {args : Array Value} {below : List Frame} {meth : Method} {c : Code} {G : gG} {A : Nat → Prop} {Q : State → Prop} {cells slots : Nat} {q : Nat → Nat} {mh mr : gM} {nh nr : gN} (C : xC p s m9 args meth c G A 9 cL_law RL wsL_law) (hRf : 9 ≤ R.frames) (hRl : 240 ≤ R.locals) {b L : Nat} {xs : Nat → Int32} (hb : va_X b L xs s s.heap) (hbl : b < s.heap.size) (hbA : ¬ A b) (hX : gX A s) (hq : gD A q shLaw.length) {i a1 a2 : Int32} (h1 : vp_in (i + 1) L) (h2 : vp_in (i + 2) L) (ha1 : xs (i + 1).toNatClampNeg = a1) (ha2 : xs (i + 2).toNatClampNeg = a2) {mh1 : gM} {nh1 : gN} {r : Int32} (hM : gMw l yL_set wsL_set rmw_set G shW q [0, 1, 2, 3, 132] mh nh [.ref (q 0), .int a1, .int a2, .ref (q 132)] mh1 nh1 r) (hok : o_r_set mr a1 a2) (hth : f_r_thrown (f_r_set mr a1 a2).2 = r) (hans : r = 0 → nh1 132 0 = Int32.toInt64 (f_r_set mr a1 a2).1) (hc : cells + 1 ≤ R.cells) (hs : slots + 6 ≤ R.slots)
    (K : ∀ q1 : Nat → Nat, (∀ k ∈ [0, 1, 2, 3, 132], q1 k = q k) → (∀ k, 133 ≤ k → q1 k = q k) → gD A q1 shLaw.length → xJ p l e R s m9 args below meth c G A 9 Q (cells + 1) (slots + 6) shLaw q1 (g_app 133 mh1 (f_r_set mr a1 a2).2) (g_app 133 nh1 nr) [(0, .ref b), (1, .ref (q1 0)), (2, .ref (q1 133)), (3, .ref (q1 132)), (4, .int i)] [] 1425) :
    xJ p l e R s m9 args below meth c G A 9 Q cells slots shLaw q (g_app 133 mh mr) (g_app 133 nh nr) [(0, .ref b), (1, .ref (q 0)), (2, .ref (q 133)), (3, .ref (q 132)), (4, .int i)] [] 528 := by
  refine x_aload_n C dL_law_528 rfl 1 rfl ?_
  refine x_aload_n C dL_law_529 rfl 0 rfl ?_
  refine x_iload C dL_law_530 4 rfl ?_
  refine x_iconst (v := (1 : Int32)) C dL_law_532 (by decide) ?_
  refine x_iadd C dL_law_533 ?_
  refine x_sld C hb hbl hbA h1 ha1 dL_law_534 ?_
  refine x_aload_n C dL_law_535 rfl 0 rfl ?_
  refine x_iload C dL_law_536 4 rfl ?_
  refine x_iconst (v := (2 : Int32)) C dL_law_538 (by decide) ?_
  refine x_iadd C dL_law_539 ?_
  refine x_sld C hb hbl hbA h2 ha2 dL_law_540 ?_
  refine x_aload_n C dL_law_541 rfl 3 rfl ?_
  refine x_callLw (n := 4) (shc := shW) (rest := shM.map (g_shf 133)) (L := 133) C hq rfl rfl wf_shW rest_shM hX (by decide) hM (vx_cwSW 4 C.2.2.2.2.2.1 gL_law_L_set rfl rfl rfl (by decide +kernel) ⟨Nat.le_trans (by decide) hRf, Nat.le_trans (Nat.le_of_ble_eq_true rfl) hRl⟩) rfl rfl (Nat.le_of_ble_eq_true rfl) dL_law_542 hc hs (fun q1 e1 e2 hq1 => ?_)
  refine x_lve (lv' := [(0, .ref b), (1, .ref (q1 0)), (2, .ref (q1 133)), (3, .ref (q1 132)), (4, .int i)]) (by rw [e1 0 (by decide), e1 132 (by decide), e2 133 (by decide)]) ?_
  refine x_istore (lv' := [(0, .ref b), (1, .ref (q1 0)), (2, .ref (q1 133)), (3, .ref (q1 132)), (4, .int i), (5, .int r)]) C dL_law_545 (by decide) [1, 2, 3, 4, 5, 0] rfl ?_
  refine x_aload_n C dL_law_547 rfl 2 rfl ?_
  refine x_aload_n C dL_law_548 rfl 0 rfl ?_
  refine x_iload C dL_law_549 4 rfl ?_
  refine x_iconst (v := (1 : Int32)) C dL_law_551 (by decide) ?_
  refine x_iadd C dL_law_552 ?_
  refine x_sld C hb hbl hbA h1 ha1 dL_law_553 ?_
  refine x_aload_n C dL_law_554 rfl 0 rfl ?_
  refine x_iload C dL_law_555 4 rfl ?_
  refine x_iconst (v := (2 : Int32)) C dL_law_557 (by decide) ?_
  refine x_iadd C dL_law_558 ?_
  refine x_sld C hb hbl hbA h2 ha2 dL_law_559 ?_
  refine x_callVi (n := 2) (shc := shM) C hq1 (gFr_suf (sh0 := shW) (shm := shM) (L := 133) rfl) (c_r_set l G (fun k => q1 (k + 133)) mr nr a1 a2 hok) (cwV 2 C.2.2.2.2.2.1 gL_law_X3_set rfl rfl rfl (by decide +kernel) ⟨Nat.le_trans (by decide) hRf, Nat.le_trans (Nat.le_of_ble_eq_true rfl) hRl⟩) rfl rfl rfl rfl (Nat.le_of_ble_eq_true rfl) dL_law_560 hc hs ?_
  refine x_istore (lv' := [(0, .ref b), (1, .ref (q1 0)), (2, .ref (q1 133)), (3, .ref (q1 132)), (4, .int i), (5, .int r), (6, .int (f_r_set mr a1 a2).1)]) C dL_law_563 (by decide) [1, 2, 3, 4, 5, 6, 0] rfl ?_
  refine x_aload_n C dL_law_565 rfl 2 rfl ?_
  refine x_callVi (n := 0) (shc := shM) C hq1 (gFr_suf (sh0 := shW) (shm := shM) (L := 133) rfl) (c_r_thrown l G (fun k => q1 (k + 133)) ((f_r_set mr a1 a2).2) nr trivial) (cwV 0 C.2.2.2.2.2.1 gL_law_X3_thrown rfl rfl rfl (by decide +kernel) ⟨Nat.le_trans (by decide) hRf, Nat.le_trans (Nat.le_of_ble_eq_true rfl) hRl⟩) rfl rfl rfl rfl (Nat.le_of_ble_eq_true rfl) dL_law_566 hc hs ?_
  refine x_iload C dL_law_569 5 rfl ?_
  refine x_icmp_eq (tgt := 576) C dL_law_571 (by decide) (fun _ => ?_) (fun h => absurd hth h)
  refine x_iload C dL_law_576 5 rfl ?_
  refine x_if_ne (tgt := 593) C dL_law_578 (by decide) (fun _ => ?_) (fun h0 => ?_)
  · refine x_goto (tgt := 1425) C dL_law_593 (by decide) ?_
    refine x_lv (lv' := [(0, .ref b), (1, .ref (q1 0)), (2, .ref (q1 133)), (3, .ref (q1 132)), (4, .int i)]) [0, 1, 2, 3, 4] rfl ?_
    exact K q1 e1 e2 hq1
  · refine x_aload_n C dL_law_581 rfl 3 rfl ?_
    refine x_iconst (v := (0 : Int32)) C dL_law_582 (by decide) ?_
    refine x_lald (n := 1) C 132 rfl (by unfold vp_in; decide) ((congrFun (g_app_lo nh1 nr (by decide)) 0).trans (hans h0)) dL_law_583 ?_
    refine x_iload C dL_law_584 6 rfl ?_
    refine x_i2l C dL_law_586 rfl ?_
    refine x_lcmp C dL_law_587 ?_
    refine x_if_eq (tgt := 593) C dL_law_588 (by decide) (fun _ => ?_) (fun h => absurd (lg_cmp_same _) h)
    refine x_goto (tgt := 1425) C dL_law_593 (by decide) ?_
    refine x_lv (lv' := [(0, .ref b), (1, .ref (q1 0)), (2, .ref (q1 133)), (3, .ref (q1 132)), (4, .int i)]) [0, 1, 2, 3, 4] rfl ?_
    exact K q1 e1 e2 hq1

set_option maxRecDepth 100000 in
set_option maxHeartbeats 4000000 in
theorem lw_append {p : Program} {l : Launch} {e : Env} {R : Room} {s : State} {m9 : MethodId} {args : Array Value} {below : List Frame} {meth : Method} {c : Code} {G : gG} {A : Nat → Prop} {Q : State → Prop} {cells slots : Nat} {q : Nat → Nat} {mh mr : gM} {nh nr : gN} (C : xC p s m9 args meth c G A 9 cL_law RL wsL_law) (hRf : 9 ≤ R.frames) (hRl : 240 ≤ R.locals) {b L : Nat} {xs : Nat → Int32} (hb : va_X b L xs s s.heap) (hbl : b < s.heap.size) (hbA : ¬ A b) (hX : gX A s) (hq : gD A q shLaw.length) {i a1 : Int32} (h1 : vp_in (i + 1) L) (ha1 : xs (i + 1).toNatClampNeg = a1) {mh1 : gM} {nh1 : gN} {r : Int32} (hM : gMw l yL_append wsL_append rmw_append G shW q [0, 1, 2, 3, 132] mh nh [.ref (q 0), .int a1, .ref (q 132)] mh1 nh1 r) (hok : o_r_append mr a1) (hth : f_r_thrown (f_r_append mr a1).2 = r) (hans : r = 0 → nh1 132 0 = Int32.toInt64 (f_r_append mr a1).1) (hc : cells + 1 ≤ R.cells) (hs : slots + 6 ≤ R.slots)
    (K : ∀ q1 : Nat → Nat, (∀ k ∈ [0, 1, 2, 3, 132], q1 k = q k) → (∀ k, 133 ≤ k → q1 k = q k) → gD A q1 shLaw.length → xJ p l e R s m9 args below meth c G A 9 Q (cells + 1) (slots + 6) shLaw q1 (g_app 133 mh1 (f_r_append mr a1).2) (g_app 133 nh1 nr) [(0, .ref b), (1, .ref (q1 0)), (2, .ref (q1 133)), (3, .ref (q1 132)), (4, .int i)] [] 1425) :
    xJ p l e R s m9 args below meth c G A 9 Q cells slots shLaw q (g_app 133 mh mr) (g_app 133 nh nr) [(0, .ref b), (1, .ref (q 0)), (2, .ref (q 133)), (3, .ref (q 132)), (4, .int i)] [] 596 := by
  refine x_aload_n C dL_law_596 rfl 1 rfl ?_
  refine x_aload_n C dL_law_597 rfl 0 rfl ?_
  refine x_iload C dL_law_598 4 rfl ?_
  refine x_iconst (v := (1 : Int32)) C dL_law_600 (by decide) ?_
  refine x_iadd C dL_law_601 ?_
  refine x_sld C hb hbl hbA h1 ha1 dL_law_602 ?_
  refine x_aload_n C dL_law_603 rfl 3 rfl ?_
  refine x_callLw (n := 3) (shc := shW) (rest := shM.map (g_shf 133)) (L := 133) C hq rfl rfl wf_shW rest_shM hX (by decide) hM (vx_cwSW 3 C.2.2.2.2.2.1 gL_law_L_append rfl rfl rfl (by decide +kernel) ⟨Nat.le_trans (by decide) hRf, Nat.le_trans (Nat.le_of_ble_eq_true rfl) hRl⟩) rfl rfl (Nat.le_of_ble_eq_true rfl) dL_law_604 hc hs (fun q1 e1 e2 hq1 => ?_)
  refine x_lve (lv' := [(0, .ref b), (1, .ref (q1 0)), (2, .ref (q1 133)), (3, .ref (q1 132)), (4, .int i)]) (by rw [e1 0 (by decide), e1 132 (by decide), e2 133 (by decide)]) ?_
  refine x_istore (lv' := [(0, .ref b), (1, .ref (q1 0)), (2, .ref (q1 133)), (3, .ref (q1 132)), (4, .int i), (5, .int r)]) C dL_law_607 (by decide) [1, 2, 3, 4, 5, 0] rfl ?_
  refine x_aload_n C dL_law_609 rfl 2 rfl ?_
  refine x_aload_n C dL_law_610 rfl 0 rfl ?_
  refine x_iload C dL_law_611 4 rfl ?_
  refine x_iconst (v := (1 : Int32)) C dL_law_613 (by decide) ?_
  refine x_iadd C dL_law_614 ?_
  refine x_sld C hb hbl hbA h1 ha1 dL_law_615 ?_
  refine x_callVi (n := 1) (shc := shM) C hq1 (gFr_suf (sh0 := shW) (shm := shM) (L := 133) rfl) (c_r_append l G (fun k => q1 (k + 133)) mr nr a1 hok) (cwV 1 C.2.2.2.2.2.1 gL_law_X3_append rfl rfl rfl (by decide +kernel) ⟨Nat.le_trans (by decide) hRf, Nat.le_trans (Nat.le_of_ble_eq_true rfl) hRl⟩) rfl rfl rfl rfl (Nat.le_of_ble_eq_true rfl) dL_law_616 hc hs ?_
  refine x_istore (lv' := [(0, .ref b), (1, .ref (q1 0)), (2, .ref (q1 133)), (3, .ref (q1 132)), (4, .int i), (5, .int r), (6, .int (f_r_append mr a1).1)]) C dL_law_619 (by decide) [1, 2, 3, 4, 5, 6, 0] rfl ?_
  refine x_aload_n C dL_law_621 rfl 2 rfl ?_
  refine x_callVi (n := 0) (shc := shM) C hq1 (gFr_suf (sh0 := shW) (shm := shM) (L := 133) rfl) (c_r_thrown l G (fun k => q1 (k + 133)) ((f_r_append mr a1).2) nr trivial) (cwV 0 C.2.2.2.2.2.1 gL_law_X3_thrown rfl rfl rfl (by decide +kernel) ⟨Nat.le_trans (by decide) hRf, Nat.le_trans (Nat.le_of_ble_eq_true rfl) hRl⟩) rfl rfl rfl rfl (Nat.le_of_ble_eq_true rfl) dL_law_622 hc hs ?_
  refine x_iload C dL_law_625 5 rfl ?_
  refine x_icmp_eq (tgt := 632) C dL_law_627 (by decide) (fun _ => ?_) (fun h => absurd hth h)
  refine x_iload C dL_law_632 5 rfl ?_
  refine x_if_ne (tgt := 649) C dL_law_634 (by decide) (fun _ => ?_) (fun h0 => ?_)
  · refine x_goto (tgt := 1425) C dL_law_649 (by decide) ?_
    refine x_lv (lv' := [(0, .ref b), (1, .ref (q1 0)), (2, .ref (q1 133)), (3, .ref (q1 132)), (4, .int i)]) [0, 1, 2, 3, 4] rfl ?_
    exact K q1 e1 e2 hq1
  · refine x_aload_n C dL_law_637 rfl 3 rfl ?_
    refine x_iconst (v := (0 : Int32)) C dL_law_638 (by decide) ?_
    refine x_lald (n := 1) C 132 rfl (by unfold vp_in; decide) ((congrFun (g_app_lo nh1 nr (by decide)) 0).trans (hans h0)) dL_law_639 ?_
    refine x_iload C dL_law_640 6 rfl ?_
    refine x_i2l C dL_law_642 rfl ?_
    refine x_lcmp C dL_law_643 ?_
    refine x_if_eq (tgt := 649) C dL_law_644 (by decide) (fun _ => ?_) (fun h => absurd (lg_cmp_same _) h)
    refine x_goto (tgt := 1425) C dL_law_649 (by decide) ?_
    refine x_lv (lv' := [(0, .ref b), (1, .ref (q1 0)), (2, .ref (q1 133)), (3, .ref (q1 132)), (4, .int i)]) [0, 1, 2, 3, 4] rfl ?_
    exact K q1 e1 e2 hq1

set_option maxRecDepth 100000 in
set_option maxHeartbeats 4000000 in
theorem lw_clearBuffer {p : Program} {l : Launch} {e : Env} {R : Room} {s : State} {m9 : MethodId} {args : Array Value} {below : List Frame} {meth : Method} {c : Code} {G : gG} {A : Nat → Prop} {Q : State → Prop} {cells slots : Nat} {q : Nat → Nat} {mh mr : gM} {nh nr : gN} (C : xC p s m9 args meth c G A 9 cL_law RL wsL_law) (hRf : 9 ≤ R.frames) (hRl : 240 ≤ R.locals) {b : Nat} {i : Int32} (hq : gD A q shLaw.length) (hok1 : o_h_clearBuffer mh) (hok2 : o_r_clearBuffer mr) (heq : (f_h_clearBuffer mh).1 = (f_r_clearBuffer mr).1) (hc : cells ≤ R.cells) (hs : slots ≤ R.slots)
    (K : xJ p l e R s m9 args below meth c G A 9 Q cells slots shLaw q (g_app 133 ((f_h_clearBuffer mh).2) ((f_r_clearBuffer mr).2)) (g_app 133 nh nr) [(0, .ref b), (1, .ref (q 0)), (2, .ref (q 133)), (3, .ref (q 132)), (4, .int i)] [] 1425) :
    xJ p l e R s m9 args below meth c G A 9 Q cells slots shLaw q (g_app 133 mh mr) (g_app 133 nh nr) [(0, .ref b), (1, .ref (q 0)), (2, .ref (q 133)), (3, .ref (q 132)), (4, .int i)] [] 652 := by
  refine x_aload_n C dL_law_652 rfl 1 rfl ?_
  refine x_callVi (n := 0) (shc := shH) C hq (fr_shH (μr := (f_h_clearBuffer mh).2)) (c_h_clearBuffer l G q mh nh hok1) (cwV 0 C.2.2.2.2.2.1 gL_law_X2_clearBuffer rfl rfl rfl (by decide +kernel) ⟨Nat.le_trans (by decide) hRf, Nat.le_trans (Nat.le_of_ble_eq_true rfl) hRl⟩) rfl rfl rfl rfl (Nat.le_of_ble_eq_true rfl) dL_law_653 hc hs ?_
  refine x_aload_n C dL_law_656 rfl 2 rfl ?_
  refine x_callVi (n := 0) (shc := shM) C hq (gFr_suf (sh0 := shW) (shm := shM) (L := 133) rfl) (c_r_clearBuffer l G (fun k => q (k + 133)) mr nr hok2) (cwV 0 C.2.2.2.2.2.1 gL_law_X3_clearBuffer rfl rfl rfl (by decide +kernel) ⟨Nat.le_trans (by decide) hRf, Nat.le_trans (Nat.le_of_ble_eq_true rfl) hRl⟩) rfl rfl rfl rfl (Nat.le_of_ble_eq_true rfl) dL_law_657 hc hs ?_
  refine x_icmp_eq (tgt := 1425) C dL_law_660 (by decide) (fun _ => ?_) (fun h => absurd heq h)
  exact K

set_option maxRecDepth 100000 in
set_option maxHeartbeats 4000000 in
theorem lw_firstError {p : Program} {l : Launch} {e : Env} {R : Room} {s : State} {m9 : MethodId} {args : Array Value} {below : List Frame} {meth : Method} {c : Code} {G : gG} {A : Nat → Prop} {Q : State → Prop} {cells slots : Nat} {q : Nat → Nat} {mh mr : gM} {nh nr : gN} (C : xC p s m9 args meth c G A 9 cL_law RL wsL_law) (hRf : 9 ≤ R.frames) (hRl : 240 ≤ R.locals) {b : Nat} {i : Int32} (hq : gD A q shLaw.length) (hok1 : o_h_firstError mh) (hok2 : o_r_firstError mr) (heq : (f_h_firstError mh).1 = (f_r_firstError mr).1) (hc : cells ≤ R.cells) (hs : slots ≤ R.slots)
    (K : xJ p l e R s m9 args below meth c G A 9 Q cells slots shLaw q (g_app 133 ((f_h_firstError mh).2) ((f_r_firstError mr).2)) (g_app 133 nh nr) [(0, .ref b), (1, .ref (q 0)), (2, .ref (q 133)), (3, .ref (q 132)), (4, .int i)] [] 1425) :
    xJ p l e R s m9 args below meth c G A 9 Q cells slots shLaw q (g_app 133 mh mr) (g_app 133 nh nr) [(0, .ref b), (1, .ref (q 0)), (2, .ref (q 133)), (3, .ref (q 132)), (4, .int i)] [] 665 := by
  refine x_aload_n C dL_law_665 rfl 1 rfl ?_
  refine x_callVi (n := 0) (shc := shH) C hq (fr_shH (μr := (f_h_firstError mh).2)) (c_h_firstError l G q mh nh hok1) (cwV 0 C.2.2.2.2.2.1 gL_law_X2_firstError rfl rfl rfl (by decide +kernel) ⟨Nat.le_trans (by decide) hRf, Nat.le_trans (Nat.le_of_ble_eq_true rfl) hRl⟩) rfl rfl rfl rfl (Nat.le_of_ble_eq_true rfl) dL_law_666 hc hs ?_
  refine x_aload_n C dL_law_669 rfl 2 rfl ?_
  refine x_callVi (n := 0) (shc := shM) C hq (gFr_suf (sh0 := shW) (shm := shM) (L := 133) rfl) (c_r_firstError l G (fun k => q (k + 133)) mr nr hok2) (cwV 0 C.2.2.2.2.2.1 gL_law_X3_firstError rfl rfl rfl (by decide +kernel) ⟨Nat.le_trans (by decide) hRf, Nat.le_trans (Nat.le_of_ble_eq_true rfl) hRl⟩) rfl rfl rfl rfl (Nat.le_of_ble_eq_true rfl) dL_law_670 hc hs ?_
  refine x_icmp_eq (tgt := 1425) C dL_law_673 (by decide) (fun _ => ?_) (fun h => absurd heq h)
  exact K

set_option maxRecDepth 100000 in
set_option maxHeartbeats 4000000 in
theorem lw_writeAll {p : Program} {l : Launch} {e : Env} {R : Room} {s : State} {m9 : MethodId} {args : Array Value} {below : List Frame} {meth : Method} {c : Code} {G : gG} {A : Nat → Prop} {Q : State → Prop} {cells slots : Nat} {q : Nat → Nat} {mh mr : gM} {nh nr : gN} (C : xC p s m9 args meth c G A 9 cL_law RL wsL_law) (hRf : 9 ≤ R.frames) (hRl : 240 ≤ R.locals) {b L : Nat} {xs : Nat → Int32} (hb : va_X b L xs s s.heap) (hbl : b < s.heap.size) (hbA : ¬ A b) (hX : gX A s) (hq : gD A q shLaw.length) {i : Int32} {mh1 : gM} {nh1 : gN} {r : Int32} (hM : gMw l yL_writeAll wsL_writeAll rmw_writeAll G shW q [0, 1, 2, 3, 132] mh nh [.ref (q 0), .ref (q 132)] mh1 nh1 r) (hok : o_r_writeAll mr) (hth : f_r_thrown (f_r_writeAll mr).2 = r) (hans : r = 0 → nh1 132 0 = Int32.toInt64 (f_r_writeAll mr).1) (hc : cells + 1 ≤ R.cells) (hs : slots + 6 ≤ R.slots)
    (K : ∀ q1 : Nat → Nat, (∀ k ∈ [0, 1, 2, 3, 132], q1 k = q k) → (∀ k, 133 ≤ k → q1 k = q k) → gD A q1 shLaw.length → xJ p l e R s m9 args below meth c G A 9 Q (cells + 1) (slots + 6) shLaw q1 (g_app 133 mh1 (f_r_writeAll mr).2) (g_app 133 nh1 nr) [(0, .ref b), (1, .ref (q1 0)), (2, .ref (q1 133)), (3, .ref (q1 132)), (4, .int i)] [] 1425) :
    xJ p l e R s m9 args below meth c G A 9 Q cells slots shLaw q (g_app 133 mh mr) (g_app 133 nh nr) [(0, .ref b), (1, .ref (q 0)), (2, .ref (q 133)), (3, .ref (q 132)), (4, .int i)] [] 678 := by
  refine x_aload_n C dL_law_678 rfl 1 rfl ?_
  refine x_aload_n C dL_law_679 rfl 3 rfl ?_
  refine x_callLw (n := 2) (shc := shW) (rest := shM.map (g_shf 133)) (L := 133) C hq rfl rfl wf_shW rest_shM hX (by decide) hM (vx_cwSW 2 C.2.2.2.2.2.1 gL_law_L_writeAll rfl rfl rfl (by decide +kernel) ⟨Nat.le_trans (by decide) hRf, Nat.le_trans (Nat.le_of_ble_eq_true rfl) hRl⟩) rfl rfl (Nat.le_of_ble_eq_true rfl) dL_law_680 hc hs (fun q1 e1 e2 hq1 => ?_)
  refine x_lve (lv' := [(0, .ref b), (1, .ref (q1 0)), (2, .ref (q1 133)), (3, .ref (q1 132)), (4, .int i)]) (by rw [e1 0 (by decide), e1 132 (by decide), e2 133 (by decide)]) ?_
  refine x_istore (lv' := [(0, .ref b), (1, .ref (q1 0)), (2, .ref (q1 133)), (3, .ref (q1 132)), (4, .int i), (5, .int r)]) C dL_law_683 (by decide) [1, 2, 3, 4, 5, 0] rfl ?_
  refine x_aload_n C dL_law_685 rfl 2 rfl ?_
  refine x_callVi (n := 0) (shc := shM) C hq1 (gFr_suf (sh0 := shW) (shm := shM) (L := 133) rfl) (c_r_writeAll l G (fun k => q1 (k + 133)) mr nr hok) (cwV 0 C.2.2.2.2.2.1 gL_law_X3_writeAll rfl rfl rfl (by decide +kernel) ⟨Nat.le_trans (by decide) hRf, Nat.le_trans (Nat.le_of_ble_eq_true rfl) hRl⟩) rfl rfl rfl rfl (Nat.le_of_ble_eq_true rfl) dL_law_686 hc hs ?_
  refine x_istore (lv' := [(0, .ref b), (1, .ref (q1 0)), (2, .ref (q1 133)), (3, .ref (q1 132)), (4, .int i), (5, .int r), (6, .int (f_r_writeAll mr).1)]) C dL_law_689 (by decide) [1, 2, 3, 4, 5, 6, 0] rfl ?_
  refine x_aload_n C dL_law_691 rfl 2 rfl ?_
  refine x_callVi (n := 0) (shc := shM) C hq1 (gFr_suf (sh0 := shW) (shm := shM) (L := 133) rfl) (c_r_thrown l G (fun k => q1 (k + 133)) ((f_r_writeAll mr).2) nr trivial) (cwV 0 C.2.2.2.2.2.1 gL_law_X3_thrown rfl rfl rfl (by decide +kernel) ⟨Nat.le_trans (by decide) hRf, Nat.le_trans (Nat.le_of_ble_eq_true rfl) hRl⟩) rfl rfl rfl rfl (Nat.le_of_ble_eq_true rfl) dL_law_692 hc hs ?_
  refine x_iload C dL_law_695 5 rfl ?_
  refine x_icmp_eq (tgt := 702) C dL_law_697 (by decide) (fun _ => ?_) (fun h => absurd hth h)
  refine x_iload C dL_law_702 5 rfl ?_
  refine x_if_ne (tgt := 719) C dL_law_704 (by decide) (fun _ => ?_) (fun h0 => ?_)
  · refine x_goto (tgt := 1425) C dL_law_719 (by decide) ?_
    refine x_lv (lv' := [(0, .ref b), (1, .ref (q1 0)), (2, .ref (q1 133)), (3, .ref (q1 132)), (4, .int i)]) [0, 1, 2, 3, 4] rfl ?_
    exact K q1 e1 e2 hq1
  · refine x_aload_n C dL_law_707 rfl 3 rfl ?_
    refine x_iconst (v := (0 : Int32)) C dL_law_708 (by decide) ?_
    refine x_lald (n := 1) C 132 rfl (by unfold vp_in; decide) ((congrFun (g_app_lo nh1 nr (by decide)) 0).trans (hans h0)) dL_law_709 ?_
    refine x_iload C dL_law_710 6 rfl ?_
    refine x_i2l C dL_law_712 rfl ?_
    refine x_lcmp C dL_law_713 ?_
    refine x_if_eq (tgt := 719) C dL_law_714 (by decide) (fun _ => ?_) (fun h => absurd (lg_cmp_same _) h)
    refine x_goto (tgt := 1425) C dL_law_719 (by decide) ?_
    refine x_lv (lv' := [(0, .ref b), (1, .ref (q1 0)), (2, .ref (q1 133)), (3, .ref (q1 132)), (4, .int i)]) [0, 1, 2, 3, 4] rfl ?_
    exact K q1 e1 e2 hq1

set_option maxRecDepth 100000 in
set_option maxHeartbeats 4000000 in
theorem lw_undo {p : Program} {l : Launch} {e : Env} {R : Room} {s : State} {m9 : MethodId} {args : Array Value} {below : List Frame} {meth : Method} {c : Code} {G : gG} {A : Nat → Prop} {Q : State → Prop} {cells slots : Nat} {q : Nat → Nat} {mh mr : gM} {nh nr : gN} (C : xC p s m9 args meth c G A 9 cL_law RL wsL_law) (hRf : 9 ≤ R.frames) (hRl : 240 ≤ R.locals) {b L : Nat} {xs : Nat → Int32} (hb : va_X b L xs s s.heap) (hbl : b < s.heap.size) (hbA : ¬ A b) (hX : gX A s) (hq : gD A q shLaw.length) {i : Int32} {mh1 : gM} {nh1 : gN} {r : Int32} (hM : gMw l yL_undo wsL_undo rmw_undo G shW q [0, 1, 2, 3, 132] mh nh [.ref (q 0), .ref (q 132)] mh1 nh1 r) (hok : o_r_undo mr) (hth : f_r_thrown (f_r_undo mr).2 = r) (hans : r = 0 → nh1 132 0 = Int32.toInt64 (f_r_undo mr).1) (hc : cells + 1 ≤ R.cells) (hs : slots + 6 ≤ R.slots)
    (K : ∀ q1 : Nat → Nat, (∀ k ∈ [0, 1, 2, 3, 132], q1 k = q k) → (∀ k, 133 ≤ k → q1 k = q k) → gD A q1 shLaw.length → xJ p l e R s m9 args below meth c G A 9 Q (cells + 1) (slots + 6) shLaw q1 (g_app 133 mh1 (f_r_undo mr).2) (g_app 133 nh1 nr) [(0, .ref b), (1, .ref (q1 0)), (2, .ref (q1 133)), (3, .ref (q1 132)), (4, .int i)] [] 1425) :
    xJ p l e R s m9 args below meth c G A 9 Q cells slots shLaw q (g_app 133 mh mr) (g_app 133 nh nr) [(0, .ref b), (1, .ref (q 0)), (2, .ref (q 133)), (3, .ref (q 132)), (4, .int i)] [] 722 := by
  refine x_aload_n C dL_law_722 rfl 1 rfl ?_
  refine x_aload_n C dL_law_723 rfl 3 rfl ?_
  refine x_callLw (n := 2) (shc := shW) (rest := shM.map (g_shf 133)) (L := 133) C hq rfl rfl wf_shW rest_shM hX (by decide) hM (vx_cwSW 2 C.2.2.2.2.2.1 gL_law_L_undo rfl rfl rfl (by decide +kernel) ⟨Nat.le_trans (by decide) hRf, Nat.le_trans (Nat.le_of_ble_eq_true rfl) hRl⟩) rfl rfl (Nat.le_of_ble_eq_true rfl) dL_law_724 hc hs (fun q1 e1 e2 hq1 => ?_)
  refine x_lve (lv' := [(0, .ref b), (1, .ref (q1 0)), (2, .ref (q1 133)), (3, .ref (q1 132)), (4, .int i)]) (by rw [e1 0 (by decide), e1 132 (by decide), e2 133 (by decide)]) ?_
  refine x_istore (lv' := [(0, .ref b), (1, .ref (q1 0)), (2, .ref (q1 133)), (3, .ref (q1 132)), (4, .int i), (5, .int r)]) C dL_law_727 (by decide) [1, 2, 3, 4, 5, 0] rfl ?_
  refine x_aload_n C dL_law_729 rfl 2 rfl ?_
  refine x_callVi (n := 0) (shc := shM) C hq1 (gFr_suf (sh0 := shW) (shm := shM) (L := 133) rfl) (c_r_undo l G (fun k => q1 (k + 133)) mr nr hok) (cwV 0 C.2.2.2.2.2.1 gL_law_X3_undo rfl rfl rfl (by decide +kernel) ⟨Nat.le_trans (by decide) hRf, Nat.le_trans (Nat.le_of_ble_eq_true rfl) hRl⟩) rfl rfl rfl rfl (Nat.le_of_ble_eq_true rfl) dL_law_730 hc hs ?_
  refine x_istore (lv' := [(0, .ref b), (1, .ref (q1 0)), (2, .ref (q1 133)), (3, .ref (q1 132)), (4, .int i), (5, .int r), (6, .int (f_r_undo mr).1)]) C dL_law_733 (by decide) [1, 2, 3, 4, 5, 6, 0] rfl ?_
  refine x_aload_n C dL_law_735 rfl 2 rfl ?_
  refine x_callVi (n := 0) (shc := shM) C hq1 (gFr_suf (sh0 := shW) (shm := shM) (L := 133) rfl) (c_r_thrown l G (fun k => q1 (k + 133)) ((f_r_undo mr).2) nr trivial) (cwV 0 C.2.2.2.2.2.1 gL_law_X3_thrown rfl rfl rfl (by decide +kernel) ⟨Nat.le_trans (by decide) hRf, Nat.le_trans (Nat.le_of_ble_eq_true rfl) hRl⟩) rfl rfl rfl rfl (Nat.le_of_ble_eq_true rfl) dL_law_736 hc hs ?_
  refine x_iload C dL_law_739 5 rfl ?_
  refine x_icmp_eq (tgt := 746) C dL_law_741 (by decide) (fun _ => ?_) (fun h => absurd hth h)
  refine x_iload C dL_law_746 5 rfl ?_
  refine x_if_ne (tgt := 763) C dL_law_748 (by decide) (fun _ => ?_) (fun h0 => ?_)
  · refine x_goto (tgt := 1425) C dL_law_763 (by decide) ?_
    refine x_lv (lv' := [(0, .ref b), (1, .ref (q1 0)), (2, .ref (q1 133)), (3, .ref (q1 132)), (4, .int i)]) [0, 1, 2, 3, 4] rfl ?_
    exact K q1 e1 e2 hq1
  · refine x_aload_n C dL_law_751 rfl 3 rfl ?_
    refine x_iconst (v := (0 : Int32)) C dL_law_752 (by decide) ?_
    refine x_lald (n := 1) C 132 rfl (by unfold vp_in; decide) ((congrFun (g_app_lo nh1 nr (by decide)) 0).trans (hans h0)) dL_law_753 ?_
    refine x_iload C dL_law_754 6 rfl ?_
    refine x_i2l C dL_law_756 rfl ?_
    refine x_lcmp C dL_law_757 ?_
    refine x_if_eq (tgt := 763) C dL_law_758 (by decide) (fun _ => ?_) (fun h => absurd (lg_cmp_same _) h)
    refine x_goto (tgt := 1425) C dL_law_763 (by decide) ?_
    refine x_lv (lv' := [(0, .ref b), (1, .ref (q1 0)), (2, .ref (q1 133)), (3, .ref (q1 132)), (4, .int i)]) [0, 1, 2, 3, 4] rfl ?_
    exact K q1 e1 e2 hq1

set_option maxRecDepth 100000 in
set_option maxHeartbeats 4000000 in
theorem lw_page {p : Program} {l : Launch} {e : Env} {R : Room} {s : State} {m9 : MethodId} {args : Array Value} {below : List Frame} {meth : Method} {c : Code} {G : gG} {A : Nat → Prop} {Q : State → Prop} {cells slots : Nat} {q : Nat → Nat} {mh mr : gM} {nh nr : gN} (C : xC p s m9 args meth c G A 9 cL_law RL wsL_law) (hRf : 9 ≤ R.frames) (hRl : 240 ≤ R.locals) {b L : Nat} {xs : Nat → Int32} (hb : va_X b L xs s s.heap) (hbl : b < s.heap.size) (hbA : ¬ A b) (hX : gX A s) (hq : gD A q shLaw.length) {i a1 a2 : Int32} (h1 : vp_in (i + 1) L) (h2 : vp_in (i + 2) L) (ha1 : xs (i + 1).toNatClampNeg = a1) (ha2 : xs (i + 2).toNatClampNeg = a2) {mh1 : gM} {nh1 : gN} {r : Int32} (hM : gMw l yL_page wsL_page rmw_page G shW q [0, 1, 2, 3, 132] mh nh [.ref (q 0), .int a1, .int a2, .ref (q 132)] mh1 nh1 r) (hok : o_r_page mr a1 a2) (hth : f_r_thrown (f_r_page mr a1 a2).2 = r) (hans : r = 0 → nh1 132 0 = Int32.toInt64 (f_r_page mr a1 a2).1) (hc : cells + 1 ≤ R.cells) (hs : slots + 6 ≤ R.slots)
    (K : ∀ q1 : Nat → Nat, (∀ k ∈ [0, 1, 2, 3, 132], q1 k = q k) → (∀ k, 133 ≤ k → q1 k = q k) → gD A q1 shLaw.length → xJ p l e R s m9 args below meth c G A 9 Q (cells + 1) (slots + 6) shLaw q1 (g_app 133 mh1 (f_r_page mr a1 a2).2) (g_app 133 nh1 nr) [(0, .ref b), (1, .ref (q1 0)), (2, .ref (q1 133)), (3, .ref (q1 132)), (4, .int i)] [] 1425) :
    xJ p l e R s m9 args below meth c G A 9 Q cells slots shLaw q (g_app 133 mh mr) (g_app 133 nh nr) [(0, .ref b), (1, .ref (q 0)), (2, .ref (q 133)), (3, .ref (q 132)), (4, .int i)] [] 766 := by
  refine x_aload_n C dL_law_766 rfl 1 rfl ?_
  refine x_aload_n C dL_law_767 rfl 0 rfl ?_
  refine x_iload C dL_law_768 4 rfl ?_
  refine x_iconst (v := (1 : Int32)) C dL_law_770 (by decide) ?_
  refine x_iadd C dL_law_771 ?_
  refine x_sld C hb hbl hbA h1 ha1 dL_law_772 ?_
  refine x_aload_n C dL_law_773 rfl 0 rfl ?_
  refine x_iload C dL_law_774 4 rfl ?_
  refine x_iconst (v := (2 : Int32)) C dL_law_776 (by decide) ?_
  refine x_iadd C dL_law_777 ?_
  refine x_sld C hb hbl hbA h2 ha2 dL_law_778 ?_
  refine x_aload_n C dL_law_779 rfl 3 rfl ?_
  refine x_callLw (n := 4) (shc := shW) (rest := shM.map (g_shf 133)) (L := 133) C hq rfl rfl wf_shW rest_shM hX (by decide) hM (vx_cwSW 4 C.2.2.2.2.2.1 gL_law_L_page rfl rfl rfl (by decide +kernel) ⟨Nat.le_trans (by decide) hRf, Nat.le_trans (Nat.le_of_ble_eq_true rfl) hRl⟩) rfl rfl (Nat.le_of_ble_eq_true rfl) dL_law_780 hc hs (fun q1 e1 e2 hq1 => ?_)
  refine x_lve (lv' := [(0, .ref b), (1, .ref (q1 0)), (2, .ref (q1 133)), (3, .ref (q1 132)), (4, .int i)]) (by rw [e1 0 (by decide), e1 132 (by decide), e2 133 (by decide)]) ?_
  refine x_istore (lv' := [(0, .ref b), (1, .ref (q1 0)), (2, .ref (q1 133)), (3, .ref (q1 132)), (4, .int i), (5, .int r)]) C dL_law_783 (by decide) [1, 2, 3, 4, 5, 0] rfl ?_
  refine x_aload_n C dL_law_785 rfl 2 rfl ?_
  refine x_aload_n C dL_law_786 rfl 0 rfl ?_
  refine x_iload C dL_law_787 4 rfl ?_
  refine x_iconst (v := (1 : Int32)) C dL_law_789 (by decide) ?_
  refine x_iadd C dL_law_790 ?_
  refine x_sld C hb hbl hbA h1 ha1 dL_law_791 ?_
  refine x_aload_n C dL_law_792 rfl 0 rfl ?_
  refine x_iload C dL_law_793 4 rfl ?_
  refine x_iconst (v := (2 : Int32)) C dL_law_795 (by decide) ?_
  refine x_iadd C dL_law_796 ?_
  refine x_sld C hb hbl hbA h2 ha2 dL_law_797 ?_
  refine x_callVi (n := 2) (shc := shM) C hq1 (gFr_suf (sh0 := shW) (shm := shM) (L := 133) rfl) (c_r_page l G (fun k => q1 (k + 133)) mr nr a1 a2 hok) (cwV 2 C.2.2.2.2.2.1 gL_law_X3_page rfl rfl rfl (by decide +kernel) ⟨Nat.le_trans (by decide) hRf, Nat.le_trans (Nat.le_of_ble_eq_true rfl) hRl⟩) rfl rfl rfl rfl (Nat.le_of_ble_eq_true rfl) dL_law_798 hc hs ?_
  refine x_istore (lv' := [(0, .ref b), (1, .ref (q1 0)), (2, .ref (q1 133)), (3, .ref (q1 132)), (4, .int i), (5, .int r), (6, .int (f_r_page mr a1 a2).1)]) C dL_law_801 (by decide) [1, 2, 3, 4, 5, 6, 0] rfl ?_
  refine x_aload_n C dL_law_803 rfl 2 rfl ?_
  refine x_callVi (n := 0) (shc := shM) C hq1 (gFr_suf (sh0 := shW) (shm := shM) (L := 133) rfl) (c_r_thrown l G (fun k => q1 (k + 133)) ((f_r_page mr a1 a2).2) nr trivial) (cwV 0 C.2.2.2.2.2.1 gL_law_X3_thrown rfl rfl rfl (by decide +kernel) ⟨Nat.le_trans (by decide) hRf, Nat.le_trans (Nat.le_of_ble_eq_true rfl) hRl⟩) rfl rfl rfl rfl (Nat.le_of_ble_eq_true rfl) dL_law_804 hc hs ?_
  refine x_iload C dL_law_807 5 rfl ?_
  refine x_icmp_eq (tgt := 814) C dL_law_809 (by decide) (fun _ => ?_) (fun h => absurd hth h)
  refine x_iload C dL_law_814 5 rfl ?_
  refine x_if_ne (tgt := 831) C dL_law_816 (by decide) (fun _ => ?_) (fun h0 => ?_)
  · refine x_goto (tgt := 1425) C dL_law_831 (by decide) ?_
    refine x_lv (lv' := [(0, .ref b), (1, .ref (q1 0)), (2, .ref (q1 133)), (3, .ref (q1 132)), (4, .int i)]) [0, 1, 2, 3, 4] rfl ?_
    exact K q1 e1 e2 hq1
  · refine x_aload_n C dL_law_819 rfl 3 rfl ?_
    refine x_iconst (v := (0 : Int32)) C dL_law_820 (by decide) ?_
    refine x_lald (n := 1) C 132 rfl (by unfold vp_in; decide) ((congrFun (g_app_lo nh1 nr (by decide)) 0).trans (hans h0)) dL_law_821 ?_
    refine x_iload C dL_law_822 6 rfl ?_
    refine x_i2l C dL_law_824 rfl ?_
    refine x_lcmp C dL_law_825 ?_
    refine x_if_eq (tgt := 831) C dL_law_826 (by decide) (fun _ => ?_) (fun h => absurd (lg_cmp_same _) h)
    refine x_goto (tgt := 1425) C dL_law_831 (by decide) ?_
    refine x_lv (lv' := [(0, .ref b), (1, .ref (q1 0)), (2, .ref (q1 133)), (3, .ref (q1 132)), (4, .int i)]) [0, 1, 2, 3, 4] rfl ?_
    exact K q1 e1 e2 hq1

set_option maxRecDepth 100000 in
set_option maxHeartbeats 4000000 in
theorem lw_block {p : Program} {l : Launch} {e : Env} {R : Room} {s : State} {m9 : MethodId} {args : Array Value} {below : List Frame} {meth : Method} {c : Code} {G : gG} {A : Nat → Prop} {Q : State → Prop} {cells slots : Nat} {q : Nat → Nat} {mh mr : gM} {nh nr : gN} (C : xC p s m9 args meth c G A 9 cL_law RL wsL_law) (hRf : 9 ≤ R.frames) (hRl : 240 ≤ R.locals) {b L : Nat} {xs : Nat → Int32} (hb : va_X b L xs s s.heap) (hbl : b < s.heap.size) (hbA : ¬ A b) (hX : gX A s) (hq : gD A q shLaw.length) {i a1 a2 : Int32} (h1 : vp_in (i + 1) L) (h2 : vp_in (i + 2) L) (ha1 : xs (i + 1).toNatClampNeg = a1) (ha2 : xs (i + 2).toNatClampNeg = a2) {mh1 : gM} {nh1 : gN} {r : Int32} (hM : gMw l yL_block wsL_block rmw_block G shW q [0, 1, 2, 3, 132] mh nh [.ref (q 0), .int a1, .int a2, .ref (q 132)] mh1 nh1 r) (hok : o_r_block mr a1 a2) (hth : f_r_thrown (f_r_block mr a1 a2).2 = r) (hans : r = 0 → nh1 132 0 = Int32.toInt64 (f_r_block mr a1 a2).1) (hc : cells + 1 ≤ R.cells) (hs : slots + 6 ≤ R.slots)
    (K : ∀ q1 : Nat → Nat, (∀ k ∈ [0, 1, 2, 3, 132], q1 k = q k) → (∀ k, 133 ≤ k → q1 k = q k) → gD A q1 shLaw.length → xJ p l e R s m9 args below meth c G A 9 Q (cells + 1) (slots + 6) shLaw q1 (g_app 133 mh1 (f_r_block mr a1 a2).2) (g_app 133 nh1 nr) [(0, .ref b), (1, .ref (q1 0)), (2, .ref (q1 133)), (3, .ref (q1 132)), (4, .int i)] [] 1425) :
    xJ p l e R s m9 args below meth c G A 9 Q cells slots shLaw q (g_app 133 mh mr) (g_app 133 nh nr) [(0, .ref b), (1, .ref (q 0)), (2, .ref (q 133)), (3, .ref (q 132)), (4, .int i)] [] 834 := by
  refine x_aload_n C dL_law_834 rfl 1 rfl ?_
  refine x_aload_n C dL_law_835 rfl 0 rfl ?_
  refine x_iload C dL_law_836 4 rfl ?_
  refine x_iconst (v := (1 : Int32)) C dL_law_838 (by decide) ?_
  refine x_iadd C dL_law_839 ?_
  refine x_sld C hb hbl hbA h1 ha1 dL_law_840 ?_
  refine x_aload_n C dL_law_841 rfl 0 rfl ?_
  refine x_iload C dL_law_842 4 rfl ?_
  refine x_iconst (v := (2 : Int32)) C dL_law_844 (by decide) ?_
  refine x_iadd C dL_law_845 ?_
  refine x_sld C hb hbl hbA h2 ha2 dL_law_846 ?_
  refine x_aload_n C dL_law_847 rfl 3 rfl ?_
  refine x_callLw (n := 4) (shc := shW) (rest := shM.map (g_shf 133)) (L := 133) C hq rfl rfl wf_shW rest_shM hX (by decide) hM (vx_cwSW 4 C.2.2.2.2.2.1 gL_law_L_block rfl rfl rfl (by decide +kernel) ⟨Nat.le_trans (by decide) hRf, Nat.le_trans (Nat.le_of_ble_eq_true rfl) hRl⟩) rfl rfl (Nat.le_of_ble_eq_true rfl) dL_law_848 hc hs (fun q1 e1 e2 hq1 => ?_)
  refine x_lve (lv' := [(0, .ref b), (1, .ref (q1 0)), (2, .ref (q1 133)), (3, .ref (q1 132)), (4, .int i)]) (by rw [e1 0 (by decide), e1 132 (by decide), e2 133 (by decide)]) ?_
  refine x_istore (lv' := [(0, .ref b), (1, .ref (q1 0)), (2, .ref (q1 133)), (3, .ref (q1 132)), (4, .int i), (5, .int r)]) C dL_law_851 (by decide) [1, 2, 3, 4, 5, 0] rfl ?_
  refine x_aload_n C dL_law_853 rfl 2 rfl ?_
  refine x_aload_n C dL_law_854 rfl 0 rfl ?_
  refine x_iload C dL_law_855 4 rfl ?_
  refine x_iconst (v := (1 : Int32)) C dL_law_857 (by decide) ?_
  refine x_iadd C dL_law_858 ?_
  refine x_sld C hb hbl hbA h1 ha1 dL_law_859 ?_
  refine x_aload_n C dL_law_860 rfl 0 rfl ?_
  refine x_iload C dL_law_861 4 rfl ?_
  refine x_iconst (v := (2 : Int32)) C dL_law_863 (by decide) ?_
  refine x_iadd C dL_law_864 ?_
  refine x_sld C hb hbl hbA h2 ha2 dL_law_865 ?_
  refine x_callVi (n := 2) (shc := shM) C hq1 (gFr_suf (sh0 := shW) (shm := shM) (L := 133) rfl) (c_r_block l G (fun k => q1 (k + 133)) mr nr a1 a2 hok) (cwV 2 C.2.2.2.2.2.1 gL_law_X3_block rfl rfl rfl (by decide +kernel) ⟨Nat.le_trans (by decide) hRf, Nat.le_trans (Nat.le_of_ble_eq_true rfl) hRl⟩) rfl rfl rfl rfl (Nat.le_of_ble_eq_true rfl) dL_law_866 hc hs ?_
  refine x_istore (lv' := [(0, .ref b), (1, .ref (q1 0)), (2, .ref (q1 133)), (3, .ref (q1 132)), (4, .int i), (5, .int r), (6, .int (f_r_block mr a1 a2).1)]) C dL_law_869 (by decide) [1, 2, 3, 4, 5, 6, 0] rfl ?_
  refine x_aload_n C dL_law_871 rfl 2 rfl ?_
  refine x_callVi (n := 0) (shc := shM) C hq1 (gFr_suf (sh0 := shW) (shm := shM) (L := 133) rfl) (c_r_thrown l G (fun k => q1 (k + 133)) ((f_r_block mr a1 a2).2) nr trivial) (cwV 0 C.2.2.2.2.2.1 gL_law_X3_thrown rfl rfl rfl (by decide +kernel) ⟨Nat.le_trans (by decide) hRf, Nat.le_trans (Nat.le_of_ble_eq_true rfl) hRl⟩) rfl rfl rfl rfl (Nat.le_of_ble_eq_true rfl) dL_law_872 hc hs ?_
  refine x_iload C dL_law_875 5 rfl ?_
  refine x_icmp_eq (tgt := 882) C dL_law_877 (by decide) (fun _ => ?_) (fun h => absurd hth h)
  refine x_iload C dL_law_882 5 rfl ?_
  refine x_if_ne (tgt := 899) C dL_law_884 (by decide) (fun _ => ?_) (fun h0 => ?_)
  · refine x_goto (tgt := 1425) C dL_law_899 (by decide) ?_
    refine x_lv (lv' := [(0, .ref b), (1, .ref (q1 0)), (2, .ref (q1 133)), (3, .ref (q1 132)), (4, .int i)]) [0, 1, 2, 3, 4] rfl ?_
    exact K q1 e1 e2 hq1
  · refine x_aload_n C dL_law_887 rfl 3 rfl ?_
    refine x_iconst (v := (0 : Int32)) C dL_law_888 (by decide) ?_
    refine x_lald (n := 1) C 132 rfl (by unfold vp_in; decide) ((congrFun (g_app_lo nh1 nr (by decide)) 0).trans (hans h0)) dL_law_889 ?_
    refine x_iload C dL_law_890 6 rfl ?_
    refine x_i2l C dL_law_892 rfl ?_
    refine x_lcmp C dL_law_893 ?_
    refine x_if_eq (tgt := 899) C dL_law_894 (by decide) (fun _ => ?_) (fun h => absurd (lg_cmp_same _) h)
    refine x_goto (tgt := 1425) C dL_law_899 (by decide) ?_
    refine x_lv (lv' := [(0, .ref b), (1, .ref (q1 0)), (2, .ref (q1 133)), (3, .ref (q1 132)), (4, .int i)]) [0, 1, 2, 3, 4] rfl ?_
    exact K q1 e1 e2 hq1

set_option maxRecDepth 100000 in
set_option maxHeartbeats 4000000 in
theorem lw_slot {p : Program} {l : Launch} {e : Env} {R : Room} {s : State} {m9 : MethodId} {args : Array Value} {below : List Frame} {meth : Method} {c : Code} {G : gG} {A : Nat → Prop} {Q : State → Prop} {cells slots : Nat} {q : Nat → Nat} {mh mr : gM} {nh nr : gN} (C : xC p s m9 args meth c G A 9 cL_law RL wsL_law) (hRf : 9 ≤ R.frames) (hRl : 240 ≤ R.locals) {b L : Nat} {xs : Nat → Int32} (hb : va_X b L xs s s.heap) (hbl : b < s.heap.size) (hbA : ¬ A b) (hX : gX A s) (hq : gD A q shLaw.length) {i a1 a2 a3 : Int32} (h1 : vp_in (i + 1) L) (h2 : vp_in (i + 2) L) (h3 : vp_in (i + 3) L) (ha1 : xs (i + 1).toNatClampNeg = a1) (ha2 : xs (i + 2).toNatClampNeg = a2) (ha3 : xs (i + 3).toNatClampNeg = a3) {mh1 : gM} {nh1 : gN} {r : Int32} (hM : gMw l yL_slot wsL_slot rmw_slot G shW q [0, 1, 2, 3, 132] mh nh [.ref (q 0), .int a1, .int a2, .int (if a3 = 0 then 0 else 1), .ref (q 132)] mh1 nh1 r) (hok : o_r_slot mr a1 a2 (if a3 = 0 then 0 else 1)) (hth : f_r_thrown (f_r_slot mr a1 a2 (if a3 = 0 then 0 else 1)).2 = r) (hans : r = 0 → nh1 132 0 = Int32.toInt64 (f_r_slot mr a1 a2 (if a3 = 0 then 0 else 1)).1) (hc : cells + 1 ≤ R.cells) (hs : slots + 6 ≤ R.slots)
    (K : ∀ q1 : Nat → Nat, (∀ k ∈ [0, 1, 2, 3, 132], q1 k = q k) → (∀ k, 133 ≤ k → q1 k = q k) → gD A q1 shLaw.length → xJ p l e R s m9 args below meth c G A 9 Q (cells + 1) (slots + 6) shLaw q1 (g_app 133 mh1 (f_r_slot mr a1 a2 (if a3 = 0 then 0 else 1)).2) (g_app 133 nh1 nr) [(0, .ref b), (1, .ref (q1 0)), (2, .ref (q1 133)), (3, .ref (q1 132)), (4, .int i)] [] 1425) :
    xJ p l e R s m9 args below meth c G A 9 Q cells slots shLaw q (g_app 133 mh mr) (g_app 133 nh nr) [(0, .ref b), (1, .ref (q 0)), (2, .ref (q 133)), (3, .ref (q 132)), (4, .int i)] [] 902 := by
  refine x_aload_n C dL_law_902 rfl 1 rfl ?_
  refine x_aload_n C dL_law_903 rfl 0 rfl ?_
  refine x_iload C dL_law_904 4 rfl ?_
  refine x_iconst (v := (1 : Int32)) C dL_law_906 (by decide) ?_
  refine x_iadd C dL_law_907 ?_
  refine x_sld C hb hbl hbA h1 ha1 dL_law_908 ?_
  refine x_aload_n C dL_law_909 rfl 0 rfl ?_
  refine x_iload C dL_law_910 4 rfl ?_
  refine x_iconst (v := (2 : Int32)) C dL_law_912 (by decide) ?_
  refine x_iadd C dL_law_913 ?_
  refine x_sld C hb hbl hbA h2 ha2 dL_law_914 ?_
  refine x_aload_n C dL_law_915 rfl 0 rfl ?_
  refine x_iload C dL_law_916 4 rfl ?_
  refine x_iconst (v := (3 : Int32)) C dL_law_918 (by decide) ?_
  refine x_iadd C dL_law_919 ?_
  refine x_sld C hb hbl hbA h3 ha3 dL_law_920 ?_
  refine x_pick01 (a := a3) C dL_law_921 (by decide) dL_law_924 dL_law_925 (by decide) dL_law_928 ?_
  refine x_aload_n C dL_law_929 rfl 3 rfl ?_
  refine x_callLw (n := 5) (shc := shW) (rest := shM.map (g_shf 133)) (L := 133) C hq rfl rfl wf_shW rest_shM hX (by decide) hM (vx_cwSW 5 C.2.2.2.2.2.1 gL_law_L_slot rfl rfl rfl (by decide +kernel) ⟨Nat.le_trans (by decide) hRf, Nat.le_trans (Nat.le_of_ble_eq_true rfl) hRl⟩) rfl rfl (Nat.le_of_ble_eq_true rfl) dL_law_930 hc hs (fun q1 e1 e2 hq1 => ?_)
  refine x_lve (lv' := [(0, .ref b), (1, .ref (q1 0)), (2, .ref (q1 133)), (3, .ref (q1 132)), (4, .int i)]) (by rw [e1 0 (by decide), e1 132 (by decide), e2 133 (by decide)]) ?_
  refine x_istore (lv' := [(0, .ref b), (1, .ref (q1 0)), (2, .ref (q1 133)), (3, .ref (q1 132)), (4, .int i), (5, .int r)]) C dL_law_933 (by decide) [1, 2, 3, 4, 5, 0] rfl ?_
  refine x_aload_n C dL_law_935 rfl 2 rfl ?_
  refine x_aload_n C dL_law_936 rfl 0 rfl ?_
  refine x_iload C dL_law_937 4 rfl ?_
  refine x_iconst (v := (1 : Int32)) C dL_law_939 (by decide) ?_
  refine x_iadd C dL_law_940 ?_
  refine x_sld C hb hbl hbA h1 ha1 dL_law_941 ?_
  refine x_aload_n C dL_law_942 rfl 0 rfl ?_
  refine x_iload C dL_law_943 4 rfl ?_
  refine x_iconst (v := (2 : Int32)) C dL_law_945 (by decide) ?_
  refine x_iadd C dL_law_946 ?_
  refine x_sld C hb hbl hbA h2 ha2 dL_law_947 ?_
  refine x_aload_n C dL_law_948 rfl 0 rfl ?_
  refine x_iload C dL_law_949 4 rfl ?_
  refine x_iconst (v := (3 : Int32)) C dL_law_951 (by decide) ?_
  refine x_iadd C dL_law_952 ?_
  refine x_sld C hb hbl hbA h3 ha3 dL_law_953 ?_
  refine x_pick01 (a := a3) C dL_law_954 (by decide) dL_law_957 dL_law_958 (by decide) dL_law_961 ?_
  refine x_callVi (n := 3) (shc := shM) C hq1 (gFr_suf (sh0 := shW) (shm := shM) (L := 133) rfl) (c_r_slot l G (fun k => q1 (k + 133)) mr nr a1 a2 (if a3 = 0 then 0 else 1) hok) (cwV 3 C.2.2.2.2.2.1 gL_law_X3_slot rfl rfl rfl (by decide +kernel) ⟨Nat.le_trans (by decide) hRf, Nat.le_trans (Nat.le_of_ble_eq_true rfl) hRl⟩) rfl rfl rfl rfl (Nat.le_of_ble_eq_true rfl) dL_law_962 hc hs ?_
  refine x_istore (lv' := [(0, .ref b), (1, .ref (q1 0)), (2, .ref (q1 133)), (3, .ref (q1 132)), (4, .int i), (5, .int r), (6, .int (f_r_slot mr a1 a2 (if a3 = 0 then 0 else 1)).1)]) C dL_law_965 (by decide) [1, 2, 3, 4, 5, 6, 0] rfl ?_
  refine x_aload_n C dL_law_967 rfl 2 rfl ?_
  refine x_callVi (n := 0) (shc := shM) C hq1 (gFr_suf (sh0 := shW) (shm := shM) (L := 133) rfl) (c_r_thrown l G (fun k => q1 (k + 133)) ((f_r_slot mr a1 a2 (if a3 = 0 then 0 else 1)).2) nr trivial) (cwV 0 C.2.2.2.2.2.1 gL_law_X3_thrown rfl rfl rfl (by decide +kernel) ⟨Nat.le_trans (by decide) hRf, Nat.le_trans (Nat.le_of_ble_eq_true rfl) hRl⟩) rfl rfl rfl rfl (Nat.le_of_ble_eq_true rfl) dL_law_968 hc hs ?_
  refine x_iload C dL_law_971 5 rfl ?_
  refine x_icmp_eq (tgt := 978) C dL_law_973 (by decide) (fun _ => ?_) (fun h => absurd hth h)
  refine x_iload C dL_law_978 5 rfl ?_
  refine x_if_ne (tgt := 995) C dL_law_980 (by decide) (fun _ => ?_) (fun h0 => ?_)
  · refine x_goto (tgt := 1425) C dL_law_995 (by decide) ?_
    refine x_lv (lv' := [(0, .ref b), (1, .ref (q1 0)), (2, .ref (q1 133)), (3, .ref (q1 132)), (4, .int i)]) [0, 1, 2, 3, 4] rfl ?_
    exact K q1 e1 e2 hq1
  · refine x_aload_n C dL_law_983 rfl 3 rfl ?_
    refine x_iconst (v := (0 : Int32)) C dL_law_984 (by decide) ?_
    refine x_lald (n := 1) C 132 rfl (by unfold vp_in; decide) ((congrFun (g_app_lo nh1 nr (by decide)) 0).trans (hans h0)) dL_law_985 ?_
    refine x_iload C dL_law_986 6 rfl ?_
    refine x_i2l C dL_law_988 rfl ?_
    refine x_lcmp C dL_law_989 ?_
    refine x_if_eq (tgt := 995) C dL_law_990 (by decide) (fun _ => ?_) (fun h => absurd (lg_cmp_same _) h)
    refine x_goto (tgt := 1425) C dL_law_995 (by decide) ?_
    refine x_lv (lv' := [(0, .ref b), (1, .ref (q1 0)), (2, .ref (q1 133)), (3, .ref (q1 132)), (4, .int i)]) [0, 1, 2, 3, 4] rfl ?_
    exact K q1 e1 e2 hq1

set_option maxRecDepth 100000 in
set_option maxHeartbeats 4000000 in
theorem lw_stream {p : Program} {l : Launch} {e : Env} {R : Room} {s : State} {m9 : MethodId} {args : Array Value} {below : List Frame} {meth : Method} {c : Code} {G : gG} {A : Nat → Prop} {Q : State → Prop} {cells slots : Nat} {q : Nat → Nat} {mh mr : gM} {nh nr : gN} (C : xC p s m9 args meth c G A 9 cL_law RL wsL_law) (hRf : 9 ≤ R.frames) (hRl : 240 ≤ R.locals) {b L : Nat} {xs : Nat → Int32} (hb : va_X b L xs s s.heap) (hbl : b < s.heap.size) (hbA : ¬ A b) (hX : gX A s) (hq : gD A q shLaw.length) {i a1 a2 : Int32} (h1 : vp_in (i + 1) L) (h2 : vp_in (i + 2) L) (ha1 : xs (i + 1).toNatClampNeg = a1) (ha2 : xs (i + 2).toNatClampNeg = a2) {mh1 : gM} {nh1 : gN} {r : Int32} (hM : gMw l yL_stream wsL_stream rmw_stream G shW q [0, 1, 2, 3, 132] mh nh [.ref (q 0), .int a1, .int a2, .ref (q 132)] mh1 nh1 r) (hok : o_r_stream mr a1 a2) (hth : f_r_thrown (f_r_stream mr a1 a2).2 = r) (hans : r = 0 → nh1 132 0 = Int32.toInt64 (f_r_stream mr a1 a2).1) (hc : cells + 1 ≤ R.cells) (hs : slots + 6 ≤ R.slots)
    (K : ∀ q1 : Nat → Nat, (∀ k ∈ [0, 1, 2, 3, 132], q1 k = q k) → (∀ k, 133 ≤ k → q1 k = q k) → gD A q1 shLaw.length → xJ p l e R s m9 args below meth c G A 9 Q (cells + 1) (slots + 6) shLaw q1 (g_app 133 mh1 (f_r_stream mr a1 a2).2) (g_app 133 nh1 nr) [(0, .ref b), (1, .ref (q1 0)), (2, .ref (q1 133)), (3, .ref (q1 132)), (4, .int i)] [] 1425) :
    xJ p l e R s m9 args below meth c G A 9 Q cells slots shLaw q (g_app 133 mh mr) (g_app 133 nh nr) [(0, .ref b), (1, .ref (q 0)), (2, .ref (q 133)), (3, .ref (q 132)), (4, .int i)] [] 998 := by
  refine x_aload_n C dL_law_998 rfl 1 rfl ?_
  refine x_aload_n C dL_law_999 rfl 0 rfl ?_
  refine x_iload C dL_law_1000 4 rfl ?_
  refine x_iconst (v := (1 : Int32)) C dL_law_1002 (by decide) ?_
  refine x_iadd C dL_law_1003 ?_
  refine x_sld C hb hbl hbA h1 ha1 dL_law_1004 ?_
  refine x_aload_n C dL_law_1005 rfl 0 rfl ?_
  refine x_iload C dL_law_1006 4 rfl ?_
  refine x_iconst (v := (2 : Int32)) C dL_law_1008 (by decide) ?_
  refine x_iadd C dL_law_1009 ?_
  refine x_sld C hb hbl hbA h2 ha2 dL_law_1010 ?_
  refine x_aload_n C dL_law_1011 rfl 3 rfl ?_
  refine x_callLw (n := 4) (shc := shW) (rest := shM.map (g_shf 133)) (L := 133) C hq rfl rfl wf_shW rest_shM hX (by decide) hM (vx_cwSW 4 C.2.2.2.2.2.1 gL_law_L_stream rfl rfl rfl (by decide +kernel) ⟨Nat.le_trans (by decide) hRf, Nat.le_trans (Nat.le_of_ble_eq_true rfl) hRl⟩) rfl rfl (Nat.le_of_ble_eq_true rfl) dL_law_1012 hc hs (fun q1 e1 e2 hq1 => ?_)
  refine x_lve (lv' := [(0, .ref b), (1, .ref (q1 0)), (2, .ref (q1 133)), (3, .ref (q1 132)), (4, .int i)]) (by rw [e1 0 (by decide), e1 132 (by decide), e2 133 (by decide)]) ?_
  refine x_istore (lv' := [(0, .ref b), (1, .ref (q1 0)), (2, .ref (q1 133)), (3, .ref (q1 132)), (4, .int i), (5, .int r)]) C dL_law_1015 (by decide) [1, 2, 3, 4, 5, 0] rfl ?_
  refine x_aload_n C dL_law_1017 rfl 2 rfl ?_
  refine x_aload_n C dL_law_1018 rfl 0 rfl ?_
  refine x_iload C dL_law_1019 4 rfl ?_
  refine x_iconst (v := (1 : Int32)) C dL_law_1021 (by decide) ?_
  refine x_iadd C dL_law_1022 ?_
  refine x_sld C hb hbl hbA h1 ha1 dL_law_1023 ?_
  refine x_aload_n C dL_law_1024 rfl 0 rfl ?_
  refine x_iload C dL_law_1025 4 rfl ?_
  refine x_iconst (v := (2 : Int32)) C dL_law_1027 (by decide) ?_
  refine x_iadd C dL_law_1028 ?_
  refine x_sld C hb hbl hbA h2 ha2 dL_law_1029 ?_
  refine x_callVi (n := 2) (shc := shM) C hq1 (gFr_suf (sh0 := shW) (shm := shM) (L := 133) rfl) (c_r_stream l G (fun k => q1 (k + 133)) mr nr a1 a2 hok) (cwV 2 C.2.2.2.2.2.1 gL_law_X3_stream rfl rfl rfl (by decide +kernel) ⟨Nat.le_trans (by decide) hRf, Nat.le_trans (Nat.le_of_ble_eq_true rfl) hRl⟩) rfl rfl rfl rfl (Nat.le_of_ble_eq_true rfl) dL_law_1030 hc hs ?_
  refine x_istore (lv' := [(0, .ref b), (1, .ref (q1 0)), (2, .ref (q1 133)), (3, .ref (q1 132)), (4, .int i), (5, .int r), (6, .int (f_r_stream mr a1 a2).1)]) C dL_law_1033 (by decide) [1, 2, 3, 4, 5, 6, 0] rfl ?_
  refine x_aload_n C dL_law_1035 rfl 2 rfl ?_
  refine x_callVi (n := 0) (shc := shM) C hq1 (gFr_suf (sh0 := shW) (shm := shM) (L := 133) rfl) (c_r_thrown l G (fun k => q1 (k + 133)) ((f_r_stream mr a1 a2).2) nr trivial) (cwV 0 C.2.2.2.2.2.1 gL_law_X3_thrown rfl rfl rfl (by decide +kernel) ⟨Nat.le_trans (by decide) hRf, Nat.le_trans (Nat.le_of_ble_eq_true rfl) hRl⟩) rfl rfl rfl rfl (Nat.le_of_ble_eq_true rfl) dL_law_1036 hc hs ?_
  refine x_iload C dL_law_1039 5 rfl ?_
  refine x_icmp_eq (tgt := 1046) C dL_law_1041 (by decide) (fun _ => ?_) (fun h => absurd hth h)
  refine x_iload C dL_law_1046 5 rfl ?_
  refine x_if_ne (tgt := 1063) C dL_law_1048 (by decide) (fun _ => ?_) (fun h0 => ?_)
  · refine x_goto (tgt := 1425) C dL_law_1063 (by decide) ?_
    refine x_lv (lv' := [(0, .ref b), (1, .ref (q1 0)), (2, .ref (q1 133)), (3, .ref (q1 132)), (4, .int i)]) [0, 1, 2, 3, 4] rfl ?_
    exact K q1 e1 e2 hq1
  · refine x_aload_n C dL_law_1051 rfl 3 rfl ?_
    refine x_iconst (v := (0 : Int32)) C dL_law_1052 (by decide) ?_
    refine x_lald (n := 1) C 132 rfl (by unfold vp_in; decide) ((congrFun (g_app_lo nh1 nr (by decide)) 0).trans (hans h0)) dL_law_1053 ?_
    refine x_iload C dL_law_1054 6 rfl ?_
    refine x_i2l C dL_law_1056 rfl ?_
    refine x_lcmp C dL_law_1057 ?_
    refine x_if_eq (tgt := 1063) C dL_law_1058 (by decide) (fun _ => ?_) (fun h => absurd (lg_cmp_same _) h)
    refine x_goto (tgt := 1425) C dL_law_1063 (by decide) ?_
    refine x_lv (lv' := [(0, .ref b), (1, .ref (q1 0)), (2, .ref (q1 133)), (3, .ref (q1 132)), (4, .int i)]) [0, 1, 2, 3, 4] rfl ?_
    exact K q1 e1 e2 hq1

set_option maxRecDepth 100000 in
set_option maxHeartbeats 4000000 in
theorem lw_count {p : Program} {l : Launch} {e : Env} {R : Room} {s : State} {m9 : MethodId} {args : Array Value} {below : List Frame} {meth : Method} {c : Code} {G : gG} {A : Nat → Prop} {Q : State → Prop} {cells slots : Nat} {q : Nat → Nat} {mh mr : gM} {nh nr : gN} (C : xC p s m9 args meth c G A 9 cL_law RL wsL_law) (hRf : 9 ≤ R.frames) (hRl : 240 ≤ R.locals) {b L : Nat} {xs : Nat → Int32} (hb : va_X b L xs s s.heap) (hbl : b < s.heap.size) (hbA : ¬ A b) (hX : gX A s) (hq : gD A q shLaw.length) {i a1 : Int32} (h1 : vp_in (i + 1) L) (ha1 : xs (i + 1).toNatClampNeg = a1) {mh1 : gM} {nh1 : gN} {r : Int32} (hM : gMw l yL_count wsL_count rmw_count G shW q [0, 1, 2, 3, 132] mh nh [.ref (q 0), .int a1, .ref (q 132)] mh1 nh1 r) (hok : o_r_count mr a1) (hth : f_r_thrown (f_r_count mr a1).2 = r) (hans : r = 0 → nh1 132 0 = Int32.toInt64 (f_r_count mr a1).1) (hc : cells + 1 ≤ R.cells) (hs : slots + 6 ≤ R.slots)
    (K : ∀ q1 : Nat → Nat, (∀ k ∈ [0, 1, 2, 3, 132], q1 k = q k) → (∀ k, 133 ≤ k → q1 k = q k) → gD A q1 shLaw.length → xJ p l e R s m9 args below meth c G A 9 Q (cells + 1) (slots + 6) shLaw q1 (g_app 133 mh1 (f_r_count mr a1).2) (g_app 133 nh1 nr) [(0, .ref b), (1, .ref (q1 0)), (2, .ref (q1 133)), (3, .ref (q1 132)), (4, .int i)] [] 1425) :
    xJ p l e R s m9 args below meth c G A 9 Q cells slots shLaw q (g_app 133 mh mr) (g_app 133 nh nr) [(0, .ref b), (1, .ref (q 0)), (2, .ref (q 133)), (3, .ref (q 132)), (4, .int i)] [] 1066 := by
  refine x_aload_n C dL_law_1066 rfl 1 rfl ?_
  refine x_aload_n C dL_law_1067 rfl 0 rfl ?_
  refine x_iload C dL_law_1068 4 rfl ?_
  refine x_iconst (v := (1 : Int32)) C dL_law_1070 (by decide) ?_
  refine x_iadd C dL_law_1071 ?_
  refine x_sld C hb hbl hbA h1 ha1 dL_law_1072 ?_
  refine x_aload_n C dL_law_1073 rfl 3 rfl ?_
  refine x_callLw (n := 3) (shc := shW) (rest := shM.map (g_shf 133)) (L := 133) C hq rfl rfl wf_shW rest_shM hX (by decide) hM (vx_cwSW 3 C.2.2.2.2.2.1 gL_law_L_count rfl rfl rfl (by decide +kernel) ⟨Nat.le_trans (by decide) hRf, Nat.le_trans (Nat.le_of_ble_eq_true rfl) hRl⟩) rfl rfl (Nat.le_of_ble_eq_true rfl) dL_law_1074 hc hs (fun q1 e1 e2 hq1 => ?_)
  refine x_lve (lv' := [(0, .ref b), (1, .ref (q1 0)), (2, .ref (q1 133)), (3, .ref (q1 132)), (4, .int i)]) (by rw [e1 0 (by decide), e1 132 (by decide), e2 133 (by decide)]) ?_
  refine x_istore (lv' := [(0, .ref b), (1, .ref (q1 0)), (2, .ref (q1 133)), (3, .ref (q1 132)), (4, .int i), (5, .int r)]) C dL_law_1077 (by decide) [1, 2, 3, 4, 5, 0] rfl ?_
  refine x_aload_n C dL_law_1079 rfl 2 rfl ?_
  refine x_aload_n C dL_law_1080 rfl 0 rfl ?_
  refine x_iload C dL_law_1081 4 rfl ?_
  refine x_iconst (v := (1 : Int32)) C dL_law_1083 (by decide) ?_
  refine x_iadd C dL_law_1084 ?_
  refine x_sld C hb hbl hbA h1 ha1 dL_law_1085 ?_
  refine x_callVi (n := 1) (shc := shM) C hq1 (gFr_suf (sh0 := shW) (shm := shM) (L := 133) rfl) (c_r_count l G (fun k => q1 (k + 133)) mr nr a1 hok) (cwV 1 C.2.2.2.2.2.1 gL_law_X3_count rfl rfl rfl (by decide +kernel) ⟨Nat.le_trans (by decide) hRf, Nat.le_trans (Nat.le_of_ble_eq_true rfl) hRl⟩) rfl rfl rfl rfl (Nat.le_of_ble_eq_true rfl) dL_law_1086 hc hs ?_
  refine x_istore (lv' := [(0, .ref b), (1, .ref (q1 0)), (2, .ref (q1 133)), (3, .ref (q1 132)), (4, .int i), (5, .int r), (6, .int (f_r_count mr a1).1)]) C dL_law_1089 (by decide) [1, 2, 3, 4, 5, 6, 0] rfl ?_
  refine x_aload_n C dL_law_1091 rfl 2 rfl ?_
  refine x_callVi (n := 0) (shc := shM) C hq1 (gFr_suf (sh0 := shW) (shm := shM) (L := 133) rfl) (c_r_thrown l G (fun k => q1 (k + 133)) ((f_r_count mr a1).2) nr trivial) (cwV 0 C.2.2.2.2.2.1 gL_law_X3_thrown rfl rfl rfl (by decide +kernel) ⟨Nat.le_trans (by decide) hRf, Nat.le_trans (Nat.le_of_ble_eq_true rfl) hRl⟩) rfl rfl rfl rfl (Nat.le_of_ble_eq_true rfl) dL_law_1092 hc hs ?_
  refine x_iload C dL_law_1095 5 rfl ?_
  refine x_icmp_eq (tgt := 1102) C dL_law_1097 (by decide) (fun _ => ?_) (fun h => absurd hth h)
  refine x_iload C dL_law_1102 5 rfl ?_
  refine x_if_ne (tgt := 1119) C dL_law_1104 (by decide) (fun _ => ?_) (fun h0 => ?_)
  · refine x_goto (tgt := 1425) C dL_law_1119 (by decide) ?_
    refine x_lv (lv' := [(0, .ref b), (1, .ref (q1 0)), (2, .ref (q1 133)), (3, .ref (q1 132)), (4, .int i)]) [0, 1, 2, 3, 4] rfl ?_
    exact K q1 e1 e2 hq1
  · refine x_aload_n C dL_law_1107 rfl 3 rfl ?_
    refine x_iconst (v := (0 : Int32)) C dL_law_1108 (by decide) ?_
    refine x_lald (n := 1) C 132 rfl (by unfold vp_in; decide) ((congrFun (g_app_lo nh1 nr (by decide)) 0).trans (hans h0)) dL_law_1109 ?_
    refine x_iload C dL_law_1110 6 rfl ?_
    refine x_i2l C dL_law_1112 rfl ?_
    refine x_lcmp C dL_law_1113 ?_
    refine x_if_eq (tgt := 1119) C dL_law_1114 (by decide) (fun _ => ?_) (fun h => absurd (lg_cmp_same _) h)
    refine x_goto (tgt := 1425) C dL_law_1119 (by decide) ?_
    refine x_lv (lv' := [(0, .ref b), (1, .ref (q1 0)), (2, .ref (q1 133)), (3, .ref (q1 132)), (4, .int i)]) [0, 1, 2, 3, 4] rfl ?_
    exact K q1 e1 e2 hq1

set_option maxRecDepth 100000 in
set_option maxHeartbeats 4000000 in
theorem lw_setting {p : Program} {l : Launch} {e : Env} {R : Room} {s : State} {m9 : MethodId} {args : Array Value} {below : List Frame} {meth : Method} {c : Code} {G : gG} {A : Nat → Prop} {Q : State → Prop} {cells slots : Nat} {q : Nat → Nat} {mh mr : gM} {nh nr : gN} (C : xC p s m9 args meth c G A 9 cL_law RL wsL_law) (hRf : 9 ≤ R.frames) (hRl : 240 ≤ R.locals) {b L : Nat} {xs : Nat → Int32} (hb : va_X b L xs s s.heap) (hbl : b < s.heap.size) (hbA : ¬ A b) (hX : gX A s) (hq : gD A q shLaw.length) {i a1 : Int32} (h1 : vp_in (i + 1) L) (ha1 : xs (i + 1).toNatClampNeg = a1) {mh1 : gM} {nh1 : gN} {r : Int32} (hM : gMw l yL_setting wsL_setting rmw_setting G shW q [0, 1, 2, 3, 132] mh nh [.ref (q 0), .int a1, .ref (q 132)] mh1 nh1 r) (hok : o_r_setting mr a1) (hth : f_r_thrown (f_r_setting mr a1).2 = r) (hans : r = 0 → nh1 132 0 = Int32.toInt64 (f_r_setting mr a1).1) (hc : cells + 1 ≤ R.cells) (hs : slots + 6 ≤ R.slots)
    (K : ∀ q1 : Nat → Nat, (∀ k ∈ [0, 1, 2, 3, 132], q1 k = q k) → (∀ k, 133 ≤ k → q1 k = q k) → gD A q1 shLaw.length → xJ p l e R s m9 args below meth c G A 9 Q (cells + 1) (slots + 6) shLaw q1 (g_app 133 mh1 (f_r_setting mr a1).2) (g_app 133 nh1 nr) [(0, .ref b), (1, .ref (q1 0)), (2, .ref (q1 133)), (3, .ref (q1 132)), (4, .int i)] [] 1425) :
    xJ p l e R s m9 args below meth c G A 9 Q cells slots shLaw q (g_app 133 mh mr) (g_app 133 nh nr) [(0, .ref b), (1, .ref (q 0)), (2, .ref (q 133)), (3, .ref (q 132)), (4, .int i)] [] 1122 := by
  refine x_aload_n C dL_law_1122 rfl 1 rfl ?_
  refine x_aload_n C dL_law_1123 rfl 0 rfl ?_
  refine x_iload C dL_law_1124 4 rfl ?_
  refine x_iconst (v := (1 : Int32)) C dL_law_1126 (by decide) ?_
  refine x_iadd C dL_law_1127 ?_
  refine x_sld C hb hbl hbA h1 ha1 dL_law_1128 ?_
  refine x_aload_n C dL_law_1129 rfl 3 rfl ?_
  refine x_callLw (n := 3) (shc := shW) (rest := shM.map (g_shf 133)) (L := 133) C hq rfl rfl wf_shW rest_shM hX (by decide) hM (vx_cwSW 3 C.2.2.2.2.2.1 gL_law_L_setting rfl rfl rfl (by decide +kernel) ⟨Nat.le_trans (by decide) hRf, Nat.le_trans (Nat.le_of_ble_eq_true rfl) hRl⟩) rfl rfl (Nat.le_of_ble_eq_true rfl) dL_law_1130 hc hs (fun q1 e1 e2 hq1 => ?_)
  refine x_lve (lv' := [(0, .ref b), (1, .ref (q1 0)), (2, .ref (q1 133)), (3, .ref (q1 132)), (4, .int i)]) (by rw [e1 0 (by decide), e1 132 (by decide), e2 133 (by decide)]) ?_
  refine x_istore (lv' := [(0, .ref b), (1, .ref (q1 0)), (2, .ref (q1 133)), (3, .ref (q1 132)), (4, .int i), (5, .int r)]) C dL_law_1133 (by decide) [1, 2, 3, 4, 5, 0] rfl ?_
  refine x_aload_n C dL_law_1135 rfl 2 rfl ?_
  refine x_aload_n C dL_law_1136 rfl 0 rfl ?_
  refine x_iload C dL_law_1137 4 rfl ?_
  refine x_iconst (v := (1 : Int32)) C dL_law_1139 (by decide) ?_
  refine x_iadd C dL_law_1140 ?_
  refine x_sld C hb hbl hbA h1 ha1 dL_law_1141 ?_
  refine x_callVi (n := 1) (shc := shM) C hq1 (gFr_suf (sh0 := shW) (shm := shM) (L := 133) rfl) (c_r_setting l G (fun k => q1 (k + 133)) mr nr a1 hok) (cwV 1 C.2.2.2.2.2.1 gL_law_X3_setting rfl rfl rfl (by decide +kernel) ⟨Nat.le_trans (by decide) hRf, Nat.le_trans (Nat.le_of_ble_eq_true rfl) hRl⟩) rfl rfl rfl rfl (Nat.le_of_ble_eq_true rfl) dL_law_1142 hc hs ?_
  refine x_istore (lv' := [(0, .ref b), (1, .ref (q1 0)), (2, .ref (q1 133)), (3, .ref (q1 132)), (4, .int i), (5, .int r), (6, .int (f_r_setting mr a1).1)]) C dL_law_1145 (by decide) [1, 2, 3, 4, 5, 6, 0] rfl ?_
  refine x_aload_n C dL_law_1147 rfl 2 rfl ?_
  refine x_callVi (n := 0) (shc := shM) C hq1 (gFr_suf (sh0 := shW) (shm := shM) (L := 133) rfl) (c_r_thrown l G (fun k => q1 (k + 133)) ((f_r_setting mr a1).2) nr trivial) (cwV 0 C.2.2.2.2.2.1 gL_law_X3_thrown rfl rfl rfl (by decide +kernel) ⟨Nat.le_trans (by decide) hRf, Nat.le_trans (Nat.le_of_ble_eq_true rfl) hRl⟩) rfl rfl rfl rfl (Nat.le_of_ble_eq_true rfl) dL_law_1148 hc hs ?_
  refine x_iload C dL_law_1151 5 rfl ?_
  refine x_icmp_eq (tgt := 1158) C dL_law_1153 (by decide) (fun _ => ?_) (fun h => absurd hth h)
  refine x_iload C dL_law_1158 5 rfl ?_
  refine x_if_ne (tgt := 1175) C dL_law_1160 (by decide) (fun _ => ?_) (fun h0 => ?_)
  · refine x_goto (tgt := 1425) C dL_law_1175 (by decide) ?_
    refine x_lv (lv' := [(0, .ref b), (1, .ref (q1 0)), (2, .ref (q1 133)), (3, .ref (q1 132)), (4, .int i)]) [0, 1, 2, 3, 4] rfl ?_
    exact K q1 e1 e2 hq1
  · refine x_aload_n C dL_law_1163 rfl 3 rfl ?_
    refine x_iconst (v := (0 : Int32)) C dL_law_1164 (by decide) ?_
    refine x_lald (n := 1) C 132 rfl (by unfold vp_in; decide) ((congrFun (g_app_lo nh1 nr (by decide)) 0).trans (hans h0)) dL_law_1165 ?_
    refine x_iload C dL_law_1166 6 rfl ?_
    refine x_i2l C dL_law_1168 rfl ?_
    refine x_lcmp C dL_law_1169 ?_
    refine x_if_eq (tgt := 1175) C dL_law_1170 (by decide) (fun _ => ?_) (fun h => absurd (lg_cmp_same _) h)
    refine x_goto (tgt := 1425) C dL_law_1175 (by decide) ?_
    refine x_lv (lv' := [(0, .ref b), (1, .ref (q1 0)), (2, .ref (q1 133)), (3, .ref (q1 132)), (4, .int i)]) [0, 1, 2, 3, 4] rfl ?_
    exact K q1 e1 e2 hq1

set_option maxRecDepth 100000 in
set_option maxHeartbeats 4000000 in
theorem lw_ifWritten {p : Program} {l : Launch} {e : Env} {R : Room} {s : State} {m9 : MethodId} {args : Array Value} {below : List Frame} {meth : Method} {c : Code} {G : gG} {A : Nat → Prop} {Q : State → Prop} {cells slots : Nat} {q : Nat → Nat} {mh mr : gM} {nh nr : gN} (C : xC p s m9 args meth c G A 9 cL_law RL wsL_law) (hRf : 9 ≤ R.frames) (hRl : 240 ≤ R.locals) {b L : Nat} {xs : Nat → Int32} (hb : va_X b L xs s s.heap) (hbl : b < s.heap.size) (hbA : ¬ A b) (hX : gX A s) (hq : gD A q shLaw.length) {i a1 a2 a3 : Int32} (h1 : vp_in (i + 1) L) (h2 : vp_in (i + 2) L) (h3 : vp_in (i + 3) L) (ha1 : xs (i + 1).toNatClampNeg = a1) (ha2 : xs (i + 2).toNatClampNeg = a2) (ha3 : xs (i + 3).toNatClampNeg = a3) {mh1 : gM} {nh1 : gN} {r : Int32} (hM : gMw l yL_ifWritten wsL_ifWritten rmw_ifWritten G shW q [0, 1, 2, 3, 132] mh nh [.ref (q 0), .int a1, .int a2, .int a3, .ref (q 132)] mh1 nh1 r) (hok : o_r_ifWritten mr a1 a2 a3) (hth : f_r_thrown (f_r_ifWritten mr a1 a2 a3).2 = r) (hans : r = 0 → nh1 132 0 = Int32.toInt64 (f_r_ifWritten mr a1 a2 a3).1) (hc : cells + 1 ≤ R.cells) (hs : slots + 6 ≤ R.slots)
    (K : ∀ q1 : Nat → Nat, (∀ k ∈ [0, 1, 2, 3, 132], q1 k = q k) → (∀ k, 133 ≤ k → q1 k = q k) → gD A q1 shLaw.length → xJ p l e R s m9 args below meth c G A 9 Q (cells + 1) (slots + 6) shLaw q1 (g_app 133 mh1 (f_r_ifWritten mr a1 a2 a3).2) (g_app 133 nh1 nr) [(0, .ref b), (1, .ref (q1 0)), (2, .ref (q1 133)), (3, .ref (q1 132)), (4, .int i)] [] 1425) :
    xJ p l e R s m9 args below meth c G A 9 Q cells slots shLaw q (g_app 133 mh mr) (g_app 133 nh nr) [(0, .ref b), (1, .ref (q 0)), (2, .ref (q 133)), (3, .ref (q 132)), (4, .int i)] [] 1178 := by
  refine x_aload_n C dL_law_1178 rfl 1 rfl ?_
  refine x_aload_n C dL_law_1179 rfl 0 rfl ?_
  refine x_iload C dL_law_1180 4 rfl ?_
  refine x_iconst (v := (1 : Int32)) C dL_law_1182 (by decide) ?_
  refine x_iadd C dL_law_1183 ?_
  refine x_sld C hb hbl hbA h1 ha1 dL_law_1184 ?_
  refine x_aload_n C dL_law_1185 rfl 0 rfl ?_
  refine x_iload C dL_law_1186 4 rfl ?_
  refine x_iconst (v := (2 : Int32)) C dL_law_1188 (by decide) ?_
  refine x_iadd C dL_law_1189 ?_
  refine x_sld C hb hbl hbA h2 ha2 dL_law_1190 ?_
  refine x_aload_n C dL_law_1191 rfl 0 rfl ?_
  refine x_iload C dL_law_1192 4 rfl ?_
  refine x_iconst (v := (3 : Int32)) C dL_law_1194 (by decide) ?_
  refine x_iadd C dL_law_1195 ?_
  refine x_sld C hb hbl hbA h3 ha3 dL_law_1196 ?_
  refine x_aload_n C dL_law_1197 rfl 3 rfl ?_
  refine x_callLw (n := 5) (shc := shW) (rest := shM.map (g_shf 133)) (L := 133) C hq rfl rfl wf_shW rest_shM hX (by decide) hM (vx_cwSW 5 C.2.2.2.2.2.1 gL_law_L_ifWritten rfl rfl rfl (by decide +kernel) ⟨Nat.le_trans (by decide) hRf, Nat.le_trans (Nat.le_of_ble_eq_true rfl) hRl⟩) rfl rfl (Nat.le_of_ble_eq_true rfl) dL_law_1198 hc hs (fun q1 e1 e2 hq1 => ?_)
  refine x_lve (lv' := [(0, .ref b), (1, .ref (q1 0)), (2, .ref (q1 133)), (3, .ref (q1 132)), (4, .int i)]) (by rw [e1 0 (by decide), e1 132 (by decide), e2 133 (by decide)]) ?_
  refine x_istore (lv' := [(0, .ref b), (1, .ref (q1 0)), (2, .ref (q1 133)), (3, .ref (q1 132)), (4, .int i), (5, .int r)]) C dL_law_1201 (by decide) [1, 2, 3, 4, 5, 0] rfl ?_
  refine x_aload_n C dL_law_1203 rfl 2 rfl ?_
  refine x_aload_n C dL_law_1204 rfl 0 rfl ?_
  refine x_iload C dL_law_1205 4 rfl ?_
  refine x_iconst (v := (1 : Int32)) C dL_law_1207 (by decide) ?_
  refine x_iadd C dL_law_1208 ?_
  refine x_sld C hb hbl hbA h1 ha1 dL_law_1209 ?_
  refine x_aload_n C dL_law_1210 rfl 0 rfl ?_
  refine x_iload C dL_law_1211 4 rfl ?_
  refine x_iconst (v := (2 : Int32)) C dL_law_1213 (by decide) ?_
  refine x_iadd C dL_law_1214 ?_
  refine x_sld C hb hbl hbA h2 ha2 dL_law_1215 ?_
  refine x_aload_n C dL_law_1216 rfl 0 rfl ?_
  refine x_iload C dL_law_1217 4 rfl ?_
  refine x_iconst (v := (3 : Int32)) C dL_law_1219 (by decide) ?_
  refine x_iadd C dL_law_1220 ?_
  refine x_sld C hb hbl hbA h3 ha3 dL_law_1221 ?_
  refine x_callVi (n := 3) (shc := shM) C hq1 (gFr_suf (sh0 := shW) (shm := shM) (L := 133) rfl) (c_r_ifWritten l G (fun k => q1 (k + 133)) mr nr a1 a2 a3 hok) (cwV 3 C.2.2.2.2.2.1 gL_law_X3_ifWritten rfl rfl rfl (by decide +kernel) ⟨Nat.le_trans (by decide) hRf, Nat.le_trans (Nat.le_of_ble_eq_true rfl) hRl⟩) rfl rfl rfl rfl (Nat.le_of_ble_eq_true rfl) dL_law_1222 hc hs ?_
  refine x_istore (lv' := [(0, .ref b), (1, .ref (q1 0)), (2, .ref (q1 133)), (3, .ref (q1 132)), (4, .int i), (5, .int r), (6, .int (f_r_ifWritten mr a1 a2 a3).1)]) C dL_law_1225 (by decide) [1, 2, 3, 4, 5, 6, 0] rfl ?_
  refine x_aload_n C dL_law_1227 rfl 2 rfl ?_
  refine x_callVi (n := 0) (shc := shM) C hq1 (gFr_suf (sh0 := shW) (shm := shM) (L := 133) rfl) (c_r_thrown l G (fun k => q1 (k + 133)) ((f_r_ifWritten mr a1 a2 a3).2) nr trivial) (cwV 0 C.2.2.2.2.2.1 gL_law_X3_thrown rfl rfl rfl (by decide +kernel) ⟨Nat.le_trans (by decide) hRf, Nat.le_trans (Nat.le_of_ble_eq_true rfl) hRl⟩) rfl rfl rfl rfl (Nat.le_of_ble_eq_true rfl) dL_law_1228 hc hs ?_
  refine x_iload C dL_law_1231 5 rfl ?_
  refine x_icmp_eq (tgt := 1238) C dL_law_1233 (by decide) (fun _ => ?_) (fun h => absurd hth h)
  refine x_iload C dL_law_1238 5 rfl ?_
  refine x_if_ne (tgt := 1255) C dL_law_1240 (by decide) (fun _ => ?_) (fun h0 => ?_)
  · refine x_goto (tgt := 1425) C dL_law_1255 (by decide) ?_
    refine x_lv (lv' := [(0, .ref b), (1, .ref (q1 0)), (2, .ref (q1 133)), (3, .ref (q1 132)), (4, .int i)]) [0, 1, 2, 3, 4] rfl ?_
    exact K q1 e1 e2 hq1
  · refine x_aload_n C dL_law_1243 rfl 3 rfl ?_
    refine x_iconst (v := (0 : Int32)) C dL_law_1244 (by decide) ?_
    refine x_lald (n := 1) C 132 rfl (by unfold vp_in; decide) ((congrFun (g_app_lo nh1 nr (by decide)) 0).trans (hans h0)) dL_law_1245 ?_
    refine x_iload C dL_law_1246 6 rfl ?_
    refine x_i2l C dL_law_1248 rfl ?_
    refine x_lcmp C dL_law_1249 ?_
    refine x_if_eq (tgt := 1255) C dL_law_1250 (by decide) (fun _ => ?_) (fun h => absurd (lg_cmp_same _) h)
    refine x_goto (tgt := 1425) C dL_law_1255 (by decide) ?_
    refine x_lv (lv' := [(0, .ref b), (1, .ref (q1 0)), (2, .ref (q1 133)), (3, .ref (q1 132)), (4, .int i)]) [0, 1, 2, 3, 4] rfl ?_
    exact K q1 e1 e2 hq1

set_option maxRecDepth 100000 in
set_option maxHeartbeats 4000000 in
theorem lw_ifRewritten {p : Program} {l : Launch} {e : Env} {R : Room} {s : State} {m9 : MethodId} {args : Array Value} {below : List Frame} {meth : Method} {c : Code} {G : gG} {A : Nat → Prop} {Q : State → Prop} {cells slots : Nat} {q : Nat → Nat} {mh mr : gM} {nh nr : gN} (C : xC p s m9 args meth c G A 9 cL_law RL wsL_law) (hRf : 9 ≤ R.frames) (hRl : 240 ≤ R.locals) {b L : Nat} {xs : Nat → Int32} (hb : va_X b L xs s s.heap) (hbl : b < s.heap.size) (hbA : ¬ A b) (hX : gX A s) (hq : gD A q shLaw.length) {i a1 : Int32} (h1 : vp_in (i + 1) L) (ha1 : xs (i + 1).toNatClampNeg = a1) {mh1 : gM} {nh1 : gN} {r : Int32} (hM : gMw l yL_ifRewritten wsL_ifRewritten rmw_ifRewritten G shW q [0, 1, 2, 3, 132] mh nh [.ref (q 0), .int a1, .ref (q 132)] mh1 nh1 r) (hok : o_r_ifRewritten mr a1) (hth : f_r_thrown (f_r_ifRewritten mr a1).2 = r) (hans : r = 0 → nh1 132 0 = Int32.toInt64 (f_r_ifRewritten mr a1).1) (hc : cells + 1 ≤ R.cells) (hs : slots + 6 ≤ R.slots)
    (K : ∀ q1 : Nat → Nat, (∀ k ∈ [0, 1, 2, 3, 132], q1 k = q k) → (∀ k, 133 ≤ k → q1 k = q k) → gD A q1 shLaw.length → xJ p l e R s m9 args below meth c G A 9 Q (cells + 1) (slots + 6) shLaw q1 (g_app 133 mh1 (f_r_ifRewritten mr a1).2) (g_app 133 nh1 nr) [(0, .ref b), (1, .ref (q1 0)), (2, .ref (q1 133)), (3, .ref (q1 132)), (4, .int i)] [] 1425) :
    xJ p l e R s m9 args below meth c G A 9 Q cells slots shLaw q (g_app 133 mh mr) (g_app 133 nh nr) [(0, .ref b), (1, .ref (q 0)), (2, .ref (q 133)), (3, .ref (q 132)), (4, .int i)] [] 1258 := by
  refine x_aload_n C dL_law_1258 rfl 1 rfl ?_
  refine x_aload_n C dL_law_1259 rfl 0 rfl ?_
  refine x_iload C dL_law_1260 4 rfl ?_
  refine x_iconst (v := (1 : Int32)) C dL_law_1262 (by decide) ?_
  refine x_iadd C dL_law_1263 ?_
  refine x_sld C hb hbl hbA h1 ha1 dL_law_1264 ?_
  refine x_aload_n C dL_law_1265 rfl 3 rfl ?_
  refine x_callLw (n := 3) (shc := shW) (rest := shM.map (g_shf 133)) (L := 133) C hq rfl rfl wf_shW rest_shM hX (by decide) hM (vx_cwSW 3 C.2.2.2.2.2.1 gL_law_L_ifRewritten rfl rfl rfl (by decide +kernel) ⟨Nat.le_trans (by decide) hRf, Nat.le_trans (Nat.le_of_ble_eq_true rfl) hRl⟩) rfl rfl (Nat.le_of_ble_eq_true rfl) dL_law_1266 hc hs (fun q1 e1 e2 hq1 => ?_)
  refine x_lve (lv' := [(0, .ref b), (1, .ref (q1 0)), (2, .ref (q1 133)), (3, .ref (q1 132)), (4, .int i)]) (by rw [e1 0 (by decide), e1 132 (by decide), e2 133 (by decide)]) ?_
  refine x_istore (lv' := [(0, .ref b), (1, .ref (q1 0)), (2, .ref (q1 133)), (3, .ref (q1 132)), (4, .int i), (5, .int r)]) C dL_law_1269 (by decide) [1, 2, 3, 4, 5, 0] rfl ?_
  refine x_aload_n C dL_law_1271 rfl 2 rfl ?_
  refine x_aload_n C dL_law_1272 rfl 0 rfl ?_
  refine x_iload C dL_law_1273 4 rfl ?_
  refine x_iconst (v := (1 : Int32)) C dL_law_1275 (by decide) ?_
  refine x_iadd C dL_law_1276 ?_
  refine x_sld C hb hbl hbA h1 ha1 dL_law_1277 ?_
  refine x_callVi (n := 1) (shc := shM) C hq1 (gFr_suf (sh0 := shW) (shm := shM) (L := 133) rfl) (c_r_ifRewritten l G (fun k => q1 (k + 133)) mr nr a1 hok) (cwV 1 C.2.2.2.2.2.1 gL_law_X3_ifRewritten rfl rfl rfl (by decide +kernel) ⟨Nat.le_trans (by decide) hRf, Nat.le_trans (Nat.le_of_ble_eq_true rfl) hRl⟩) rfl rfl rfl rfl (Nat.le_of_ble_eq_true rfl) dL_law_1278 hc hs ?_
  refine x_istore (lv' := [(0, .ref b), (1, .ref (q1 0)), (2, .ref (q1 133)), (3, .ref (q1 132)), (4, .int i), (5, .int r), (6, .int (f_r_ifRewritten mr a1).1)]) C dL_law_1281 (by decide) [1, 2, 3, 4, 5, 6, 0] rfl ?_
  refine x_aload_n C dL_law_1283 rfl 2 rfl ?_
  refine x_callVi (n := 0) (shc := shM) C hq1 (gFr_suf (sh0 := shW) (shm := shM) (L := 133) rfl) (c_r_thrown l G (fun k => q1 (k + 133)) ((f_r_ifRewritten mr a1).2) nr trivial) (cwV 0 C.2.2.2.2.2.1 gL_law_X3_thrown rfl rfl rfl (by decide +kernel) ⟨Nat.le_trans (by decide) hRf, Nat.le_trans (Nat.le_of_ble_eq_true rfl) hRl⟩) rfl rfl rfl rfl (Nat.le_of_ble_eq_true rfl) dL_law_1284 hc hs ?_
  refine x_iload C dL_law_1287 5 rfl ?_
  refine x_icmp_eq (tgt := 1294) C dL_law_1289 (by decide) (fun _ => ?_) (fun h => absurd hth h)
  refine x_iload C dL_law_1294 5 rfl ?_
  refine x_if_ne (tgt := 1311) C dL_law_1296 (by decide) (fun _ => ?_) (fun h0 => ?_)
  · refine x_goto (tgt := 1425) C dL_law_1311 (by decide) ?_
    refine x_lv (lv' := [(0, .ref b), (1, .ref (q1 0)), (2, .ref (q1 133)), (3, .ref (q1 132)), (4, .int i)]) [0, 1, 2, 3, 4] rfl ?_
    exact K q1 e1 e2 hq1
  · refine x_aload_n C dL_law_1299 rfl 3 rfl ?_
    refine x_iconst (v := (0 : Int32)) C dL_law_1300 (by decide) ?_
    refine x_lald (n := 1) C 132 rfl (by unfold vp_in; decide) ((congrFun (g_app_lo nh1 nr (by decide)) 0).trans (hans h0)) dL_law_1301 ?_
    refine x_iload C dL_law_1302 6 rfl ?_
    refine x_i2l C dL_law_1304 rfl ?_
    refine x_lcmp C dL_law_1305 ?_
    refine x_if_eq (tgt := 1311) C dL_law_1306 (by decide) (fun _ => ?_) (fun h => absurd (lg_cmp_same _) h)
    refine x_goto (tgt := 1425) C dL_law_1311 (by decide) ?_
    refine x_lv (lv' := [(0, .ref b), (1, .ref (q1 0)), (2, .ref (q1 133)), (3, .ref (q1 132)), (4, .int i)]) [0, 1, 2, 3, 4] rfl ?_
    exact K q1 e1 e2 hq1

set_option maxRecDepth 100000 in
set_option maxHeartbeats 4000000 in
theorem lw_bestRule {p : Program} {l : Launch} {e : Env} {R : Room} {s : State} {m9 : MethodId} {args : Array Value} {below : List Frame} {meth : Method} {c : Code} {G : gG} {A : Nat → Prop} {Q : State → Prop} {cells slots : Nat} {q : Nat → Nat} {mh mr : gM} {nh nr : gN} (C : xC p s m9 args meth c G A 9 cL_law RL wsL_law) (hRf : 9 ≤ R.frames) (hRl : 240 ≤ R.locals) {b L : Nat} {xs : Nat → Int32} (hb : va_X b L xs s s.heap) (hbl : b < s.heap.size) (hbA : ¬ A b) (hX : gX A s) (hq : gD A q shLaw.length) {i a1 : Int32} (h1 : vp_in (i + 1) L) (ha1 : xs (i + 1).toNatClampNeg = a1) {mh1 : gM} {nh1 : gN} {r : Int32} (hM : gMw l yL_bestRule wsL_bestRule rmw_bestRule G shW q [0, 1, 2, 3, 132] mh nh [.ref (q 0), .int a1, .ref (q 132)] mh1 nh1 r) (hok : o_r_bestRule mr a1) (hth : f_r_thrown (f_r_bestRule mr a1).2 = r) (hans : r = 0 → nh1 132 0 = Int32.toInt64 (f_r_bestRule mr a1).1) (hc : cells + 1 ≤ R.cells) (hs : slots + 6 ≤ R.slots)
    (K : ∀ q1 : Nat → Nat, (∀ k ∈ [0, 1, 2, 3, 132], q1 k = q k) → (∀ k, 133 ≤ k → q1 k = q k) → gD A q1 shLaw.length → xJ p l e R s m9 args below meth c G A 9 Q (cells + 1) (slots + 6) shLaw q1 (g_app 133 mh1 (f_r_bestRule mr a1).2) (g_app 133 nh1 nr) [(0, .ref b), (1, .ref (q1 0)), (2, .ref (q1 133)), (3, .ref (q1 132)), (4, .int i)] [] 1425) :
    xJ p l e R s m9 args below meth c G A 9 Q cells slots shLaw q (g_app 133 mh mr) (g_app 133 nh nr) [(0, .ref b), (1, .ref (q 0)), (2, .ref (q 133)), (3, .ref (q 132)), (4, .int i)] [] 1314 := by
  refine x_aload_n C dL_law_1314 rfl 1 rfl ?_
  refine x_aload_n C dL_law_1315 rfl 0 rfl ?_
  refine x_iload C dL_law_1316 4 rfl ?_
  refine x_iconst (v := (1 : Int32)) C dL_law_1318 (by decide) ?_
  refine x_iadd C dL_law_1319 ?_
  refine x_sld C hb hbl hbA h1 ha1 dL_law_1320 ?_
  refine x_aload_n C dL_law_1321 rfl 3 rfl ?_
  refine x_callLw (n := 3) (shc := shW) (rest := shM.map (g_shf 133)) (L := 133) C hq rfl rfl wf_shW rest_shM hX (by decide) hM (vx_cwSW 3 C.2.2.2.2.2.1 gL_law_L_bestRule rfl rfl rfl (by decide +kernel) ⟨Nat.le_trans (by decide) hRf, Nat.le_trans (Nat.le_of_ble_eq_true rfl) hRl⟩) rfl rfl (Nat.le_of_ble_eq_true rfl) dL_law_1322 hc hs (fun q1 e1 e2 hq1 => ?_)
  refine x_lve (lv' := [(0, .ref b), (1, .ref (q1 0)), (2, .ref (q1 133)), (3, .ref (q1 132)), (4, .int i)]) (by rw [e1 0 (by decide), e1 132 (by decide), e2 133 (by decide)]) ?_
  refine x_istore (lv' := [(0, .ref b), (1, .ref (q1 0)), (2, .ref (q1 133)), (3, .ref (q1 132)), (4, .int i), (5, .int r)]) C dL_law_1325 (by decide) [1, 2, 3, 4, 5, 0] rfl ?_
  refine x_aload_n C dL_law_1327 rfl 2 rfl ?_
  refine x_aload_n C dL_law_1328 rfl 0 rfl ?_
  refine x_iload C dL_law_1329 4 rfl ?_
  refine x_iconst (v := (1 : Int32)) C dL_law_1331 (by decide) ?_
  refine x_iadd C dL_law_1332 ?_
  refine x_sld C hb hbl hbA h1 ha1 dL_law_1333 ?_
  refine x_callVi (n := 1) (shc := shM) C hq1 (gFr_suf (sh0 := shW) (shm := shM) (L := 133) rfl) (c_r_bestRule l G (fun k => q1 (k + 133)) mr nr a1 hok) (cwV 1 C.2.2.2.2.2.1 gL_law_X3_bestRule rfl rfl rfl (by decide +kernel) ⟨Nat.le_trans (by decide) hRf, Nat.le_trans (Nat.le_of_ble_eq_true rfl) hRl⟩) rfl rfl rfl rfl (Nat.le_of_ble_eq_true rfl) dL_law_1334 hc hs ?_
  refine x_istore (lv' := [(0, .ref b), (1, .ref (q1 0)), (2, .ref (q1 133)), (3, .ref (q1 132)), (4, .int i), (5, .int r), (6, .int (f_r_bestRule mr a1).1)]) C dL_law_1337 (by decide) [1, 2, 3, 4, 5, 6, 0] rfl ?_
  refine x_aload_n C dL_law_1339 rfl 2 rfl ?_
  refine x_callVi (n := 0) (shc := shM) C hq1 (gFr_suf (sh0 := shW) (shm := shM) (L := 133) rfl) (c_r_thrown l G (fun k => q1 (k + 133)) ((f_r_bestRule mr a1).2) nr trivial) (cwV 0 C.2.2.2.2.2.1 gL_law_X3_thrown rfl rfl rfl (by decide +kernel) ⟨Nat.le_trans (by decide) hRf, Nat.le_trans (Nat.le_of_ble_eq_true rfl) hRl⟩) rfl rfl rfl rfl (Nat.le_of_ble_eq_true rfl) dL_law_1340 hc hs ?_
  refine x_iload C dL_law_1343 5 rfl ?_
  refine x_icmp_eq (tgt := 1350) C dL_law_1345 (by decide) (fun _ => ?_) (fun h => absurd hth h)
  refine x_iload C dL_law_1350 5 rfl ?_
  refine x_if_ne (tgt := 1367) C dL_law_1352 (by decide) (fun _ => ?_) (fun h0 => ?_)
  · refine x_goto (tgt := 1425) C dL_law_1367 (by decide) ?_
    refine x_lv (lv' := [(0, .ref b), (1, .ref (q1 0)), (2, .ref (q1 133)), (3, .ref (q1 132)), (4, .int i)]) [0, 1, 2, 3, 4] rfl ?_
    exact K q1 e1 e2 hq1
  · refine x_aload_n C dL_law_1355 rfl 3 rfl ?_
    refine x_iconst (v := (0 : Int32)) C dL_law_1356 (by decide) ?_
    refine x_lald (n := 1) C 132 rfl (by unfold vp_in; decide) ((congrFun (g_app_lo nh1 nr (by decide)) 0).trans (hans h0)) dL_law_1357 ?_
    refine x_iload C dL_law_1358 6 rfl ?_
    refine x_i2l C dL_law_1360 rfl ?_
    refine x_lcmp C dL_law_1361 ?_
    refine x_if_eq (tgt := 1367) C dL_law_1362 (by decide) (fun _ => ?_) (fun h => absurd (lg_cmp_same _) h)
    refine x_goto (tgt := 1425) C dL_law_1367 (by decide) ?_
    refine x_lv (lv' := [(0, .ref b), (1, .ref (q1 0)), (2, .ref (q1 133)), (3, .ref (q1 132)), (4, .int i)]) [0, 1, 2, 3, 4] rfl ?_
    exact K q1 e1 e2 hq1

set_option maxRecDepth 100000 in
set_option maxHeartbeats 4000000 in
theorem lw_amplification {p : Program} {l : Launch} {e : Env} {R : Room} {s : State} {m9 : MethodId} {args : Array Value} {below : List Frame} {meth : Method} {c : Code} {G : gG} {A : Nat → Prop} {Q : State → Prop} {cells slots : Nat} {q : Nat → Nat} {mh mr : gM} {nh nr : gN} (C : xC p s m9 args meth c G A 9 cL_law RL wsL_law) (hRf : 9 ≤ R.frames) (hRl : 240 ≤ R.locals) {b : Nat} {i : Int32} (hq : gD A q shLaw.length) (hok1 : o_h_amplification mh) (hok2 : o_r_amplification mr) (heq : Op.cmpValue (FP.dcmp (f_h_amplification mh) (f_r_amplification mr).1) .l = 0) (hc : cells ≤ R.cells) (hs : slots ≤ R.slots)
    (K : xJ p l e R s m9 args below meth c G A 9 Q cells slots shLaw q (g_app 133 mh ((f_r_amplification mr).2)) (g_app 133 nh nr) [(0, .ref b), (1, .ref (q 0)), (2, .ref (q 133)), (3, .ref (q 132)), (4, .int i)] [] 1425) :
    xJ p l e R s m9 args below meth c G A 9 Q cells slots shLaw q (g_app 133 mh mr) (g_app 133 nh nr) [(0, .ref b), (1, .ref (q 0)), (2, .ref (q 133)), (3, .ref (q 132)), (4, .int i)] [] 1370 := by
  refine x_aload_n C dL_law_1370 rfl 1 rfl ?_
  refine x_callVd (n := 0) (shc := shH) C hq (fr_shH (μr := mh)) (c_h_amplification l G q mh nh hok1) (cwV 0 C.2.2.2.2.2.1 gL_law_X2_amplification rfl rfl rfl (by decide +kernel) ⟨Nat.le_trans (by decide) hRf, Nat.le_trans (Nat.le_of_ble_eq_true rfl) hRl⟩) rfl rfl rfl rfl (Nat.le_of_ble_eq_true rfl) dL_law_1371 hc hs ?_
  refine x_dstore (lv' := [(0, .ref b), (1, .ref (q 0)), (2, .ref (q 133)), (3, .ref (q 132)), (4, .int i), (5, .double (f_h_amplification mh))]) C dL_law_1374 (by decide) [1, 2, 3, 4, 5, 0] rfl ?_
  refine x_aload_n C dL_law_1376 rfl 2 rfl ?_
  refine x_callVd (n := 0) (shc := shM) C hq (gFr_suf (sh0 := shW) (shm := shM) (L := 133) rfl) (c_r_amplification l G (fun k => q (k + 133)) mr nr hok2) (cwV 0 C.2.2.2.2.2.1 gL_law_X3_amplification rfl rfl rfl (by decide +kernel) ⟨Nat.le_trans (by decide) hRf, Nat.le_trans (Nat.le_of_ble_eq_true rfl) hRl⟩) rfl rfl rfl rfl (Nat.le_of_ble_eq_true rfl) dL_law_1377 hc hs ?_
  refine x_dstore (lv' := [(0, .ref b), (1, .ref (q 0)), (2, .ref (q 133)), (3, .ref (q 132)), (4, .int i), (5, .double (f_h_amplification mh)), (7, .double (f_r_amplification mr).1)]) C dL_law_1380 (by decide) [1, 2, 3, 4, 5, 6, 0] rfl ?_
  refine x_dload C dL_law_1382 5 rfl ?_
  refine x_dload C dL_law_1384 6 rfl ?_
  refine x_dcmp C dL_law_1386 ?_
  refine x_if_eq (tgt := 1408) C dL_law_1387 (by decide) (fun _ => ?_) (fun h => absurd heq h)
  refine x_goto (tgt := 1425) C dL_law_1408 (by decide) ?_
  refine x_lv (lv' := [(0, .ref b), (1, .ref (q 0)), (2, .ref (q 133)), (3, .ref (q 132)), (4, .int i)]) [0, 1, 2, 3, 4] rfl ?_
  exact K

set_option maxRecDepth 100000 in
set_option maxHeartbeats 4000000 in
theorem lw_digest {p : Program} {l : Launch} {e : Env} {R : Room} {s : State} {m9 : MethodId} {args : Array Value} {below : List Frame} {meth : Method} {c : Code} {G : gG} {A : Nat → Prop} {Q : State → Prop} {cells slots : Nat} {q : Nat → Nat} {mh mr : gM} {nh nr : gN} (C : xC p s m9 args meth c G A 9 cL_law RL wsL_law) (hRf : 9 ≤ R.frames) (hRl : 240 ≤ R.locals) {b : Nat} {i : Int32} (hq : gD A q shLaw.length) (hok1 : o_h_digest mh) (hok2 : o_r_digest mr nr) (heq : (f_h_digest mh).1 = (f_r_digest mr nr).1) (hc : cells ≤ R.cells) (hs : slots ≤ R.slots)
    (K : xJ p l e R s m9 args below meth c G A 9 Q cells slots shLaw q (g_app 133 ((f_h_digest mh).2) ((f_r_digest mr nr).2.1)) (g_app 133 nh ((f_r_digest mr nr).2.2)) [(0, .ref b), (1, .ref (q 0)), (2, .ref (q 133)), (3, .ref (q 132)), (4, .int i)] [] 1425) :
    xJ p l e R s m9 args below meth c G A 9 Q cells slots shLaw q (g_app 133 mh mr) (g_app 133 nh nr) [(0, .ref b), (1, .ref (q 0)), (2, .ref (q 133)), (3, .ref (q 132)), (4, .int i)] [] 1411 := by
  refine x_aload_n C dL_law_1411 rfl 1 rfl ?_
  refine x_callVl (n := 0) (shc := shH) C hq (fr_shH (μr := (f_h_digest mh).2)) (c_h_digest l G q mh nh hok1) (cwV 0 C.2.2.2.2.2.1 gL_law_X2_digest rfl rfl rfl (by decide +kernel) ⟨Nat.le_trans (by decide) hRf, Nat.le_trans (Nat.le_of_ble_eq_true rfl) hRl⟩) rfl rfl rfl rfl (Nat.le_of_ble_eq_true rfl) dL_law_1412 hc hs ?_
  refine x_aload_n C dL_law_1415 rfl 2 rfl ?_
  refine x_callVl (n := 0) (shc := shM) C hq (gFr_suf (sh0 := shW) (shm := shM) (L := 133) rfl) (c_r_digest l G (fun k => q (k + 133)) mr nr hok2) (cwV 0 C.2.2.2.2.2.1 gL_law_X3_digest rfl rfl rfl (by decide +kernel) ⟨Nat.le_trans (by decide) hRf, Nat.le_trans (Nat.le_of_ble_eq_true rfl) hRl⟩) rfl rfl rfl rfl (Nat.le_of_ble_eq_true rfl) dL_law_1416 hc hs ?_
  refine x_lcmp C dL_law_1419 ?_
  refine x_if_eq (tgt := 1425) C dL_law_1420 (by decide) (fun _ => ?_) (fun h => absurd (heq ▸ lg_cmp_same _) h)
  exact K
def op_write (P : gM → gM → Prop) (mh mr : gM) (a1 : Int32) (a2 : Int32) : Prop := o_r_write mr a1 a2 ∧ ((o_h_write mh a1 a2 ∧ f_r_thrown (f_r_write mr a1 a2).2 = 0 ∧ (f_h_write mh a1 a2).1 = (f_r_write mr a1 a2).1 ∧ P (f_h_write mh a1 a2).2 (f_r_write mr a1 a2).2) ∨ (ox_h_write mh a1 a2 ∧ (fx_h_write mh a1 a2) = "java/lang/IndexOutOfBoundsException" ∧ f_r_thrown (f_r_write mr a1 a2).2 = 1 ∧ P mh (f_r_write mr a1 a2).2) ∨ (ox_h_write mh a1 a2 ∧ (fx_h_write mh a1 a2) = "java/lang/IllegalArgumentException" ∧ f_r_thrown (f_r_write mr a1 a2).2 = 2 ∧ P mh (f_r_write mr a1 a2).2))

set_option maxHeartbeats 4000000 in
theorem ls_write {p : Program} {l : Launch} {e : Env} {R : Room} {s : State} {m9 : MethodId} {args : Array Value} {below : List Frame} {meth : Method} {c : Code} {G : gG} {A : Nat → Prop} {Q : State → Prop} {cells slots : Nat} {q : Nat → Nat} {mh mr : gM} {nh nr : gN} (C : xC p s m9 args meth c G A 9 cL_law RL wsL_law) (hRf : 9 ≤ R.frames) (hRl : 240 ≤ R.locals) {b L : Nat} {xs : Nat → Int32} (hb : va_X b L xs s s.heap) (hbl : b < s.heap.size) (hbA : ¬ A b) (hl9 : l.stackTraces = false) (hX : gX A s) (hq : gD A q shLaw.length) {i : Int32} {a1 : Int32} {a2 : Int32} (h1 : vp_in (i + 1) L) (h2 : vp_in (i + 2) L) (ha1 : xs (i + 1).toNatClampNeg = a1) (ha2 : xs (i + 2).toNatClampNeg = a2) {P : gM → gM → Prop} (hop : op_write P mh mr a1 a2) (hc : cells + 1 ≤ R.cells) (hs : slots + 6 ≤ R.slots)
    (K : ∀ (q1 : Nat → Nat) (mh1 : gM) (nh1 : gN) (mr1 : gM) (nr1 : gN), P mh1 mr1 → gD A q1 shLaw.length → xJ p l e R s m9 args below meth c G A 9 Q (cells + 1) (slots + 6) shLaw q1 (g_app 133 mh1 mr1) (g_app 133 nh1 nr1) [(0, .ref b), (1, .ref (q1 0)), (2, .ref (q1 133)), (3, .ref (q1 132)), (4, .int i)] [] 1425) :
    xJ p l e R s m9 args below meth c G A 9 Q cells slots shLaw q (g_app 133 mh mr) (g_app 133 nh nr) [(0, .ref b), (1, .ref (q 0)), (2, .ref (q 133)), (3, .ref (q 132)), (4, .int i)] [] 144 := by
  obtain ⟨hok, hop⟩ := hop
  rcases hop with ⟨ho, hth, he, hP⟩ | ⟨ho, he, hth, hP⟩ | ⟨ho, he, hth, hP⟩
  · exact lw_write C hRf hRl hb hbl hbA hX hq h1 h2 ha1 ha2 (cw_write l G q mh nh a1 a2 ho) hok hth (fun _ => by rw [g_setN_s]; unfold vp_updL; rw [if_pos rfl, he]) hc hs (fun q1 _ _ hq1 => K q1 _ _ _ _ hP hq1)
  · exact lw_write C hRf hRl hb hbl hbA hX hq h1 h2 ha1 ha2 (cw_write_IO l hl9 G q mh nh a1 a2 ho he) hok hth (fun h => absurd h (by decide)) hc hs (fun q1 _ _ hq1 => K q1 _ _ _ _ hP hq1)
  · exact lw_write C hRf hRl hb hbl hbA hX hq h1 h2 ha1 ha2 (cw_write_IA l hl9 G q mh nh a1 a2 ho he) hok hth (fun h => absurd h (by decide)) hc hs (fun q1 _ _ hq1 => K q1 _ _ _ _ hP hq1)

def op_writeRow (P : gM → gM → Prop) (mh mr : gM) (a1 : Int32) (a2 : Int32) (a3 : Int32) : Prop := o_r_writeRow mr a1 a2 a3 ∧ ((o_h_writeRow mh a1 a2 a3 ∧ f_r_thrown (f_r_writeRow mr a1 a2 a3).2 = 0 ∧ (f_h_writeRow mh a1 a2 a3).1 = (f_r_writeRow mr a1 a2 a3).1 ∧ P (f_h_writeRow mh a1 a2 a3).2 (f_r_writeRow mr a1 a2 a3).2) ∨ (ox_h_writeRow mh a1 a2 a3 ∧ (fx_h_writeRow mh a1 a2 a3) = "java/lang/IndexOutOfBoundsException" ∧ f_r_thrown (f_r_writeRow mr a1 a2 a3).2 = 1 ∧ P mh (f_r_writeRow mr a1 a2 a3).2) ∨ (ox_h_writeRow mh a1 a2 a3 ∧ (fx_h_writeRow mh a1 a2 a3) = "java/lang/IllegalArgumentException" ∧ f_r_thrown (f_r_writeRow mr a1 a2 a3).2 = 2 ∧ P mh (f_r_writeRow mr a1 a2 a3).2))

set_option maxHeartbeats 4000000 in
theorem ls_writeRow {p : Program} {l : Launch} {e : Env} {R : Room} {s : State} {m9 : MethodId} {args : Array Value} {below : List Frame} {meth : Method} {c : Code} {G : gG} {A : Nat → Prop} {Q : State → Prop} {cells slots : Nat} {q : Nat → Nat} {mh mr : gM} {nh nr : gN} (C : xC p s m9 args meth c G A 9 cL_law RL wsL_law) (hRf : 9 ≤ R.frames) (hRl : 240 ≤ R.locals) {b L : Nat} {xs : Nat → Int32} (hb : va_X b L xs s s.heap) (hbl : b < s.heap.size) (hbA : ¬ A b) (hl9 : l.stackTraces = false) (hX : gX A s) (hq : gD A q shLaw.length) {i : Int32} {a1 : Int32} {a2 : Int32} {a3 : Int32} (h1 : vp_in (i + 1) L) (h2 : vp_in (i + 2) L) (h3 : vp_in (i + 3) L) (ha1 : xs (i + 1).toNatClampNeg = a1) (ha2 : xs (i + 2).toNatClampNeg = a2) (ha3 : xs (i + 3).toNatClampNeg = a3) {P : gM → gM → Prop} (hop : op_writeRow P mh mr a1 a2 a3) (hc : cells + 1 ≤ R.cells) (hs : slots + 6 ≤ R.slots)
    (K : ∀ (q1 : Nat → Nat) (mh1 : gM) (nh1 : gN) (mr1 : gM) (nr1 : gN), P mh1 mr1 → gD A q1 shLaw.length → xJ p l e R s m9 args below meth c G A 9 Q (cells + 1) (slots + 6) shLaw q1 (g_app 133 mh1 mr1) (g_app 133 nh1 nr1) [(0, .ref b), (1, .ref (q1 0)), (2, .ref (q1 133)), (3, .ref (q1 132)), (4, .int i)] [] 1425) :
    xJ p l e R s m9 args below meth c G A 9 Q cells slots shLaw q (g_app 133 mh mr) (g_app 133 nh nr) [(0, .ref b), (1, .ref (q 0)), (2, .ref (q 133)), (3, .ref (q 132)), (4, .int i)] [] 212 := by
  obtain ⟨hok, hop⟩ := hop
  rcases hop with ⟨ho, hth, he, hP⟩ | ⟨ho, he, hth, hP⟩ | ⟨ho, he, hth, hP⟩
  · exact lw_writeRow C hRf hRl hb hbl hbA hX hq h1 h2 h3 ha1 ha2 ha3 (cw_writeRow l G q mh nh a1 a2 a3 ho) hok hth (fun _ => by rw [g_setN_s]; unfold vp_updL; rw [if_pos rfl, he]) hc hs (fun q1 _ _ hq1 => K q1 _ _ _ _ hP hq1)
  · exact lw_writeRow C hRf hRl hb hbl hbA hX hq h1 h2 h3 ha1 ha2 ha3 (cw_writeRow_IO l hl9 G q mh nh a1 a2 a3 ho he) hok hth (fun h => absurd h (by decide)) hc hs (fun q1 _ _ hq1 => K q1 _ _ _ _ hP hq1)
  · exact lw_writeRow C hRf hRl hb hbl hbA hX hq h1 h2 h3 ha1 ha2 ha3 (cw_writeRow_IA l hl9 G q mh nh a1 a2 a3 ho he) hok hth (fun h => absurd h (by decide)) hc hs (fun q1 _ _ hq1 => K q1 _ _ _ _ hP hq1)

def op_trim (P : gM → gM → Prop) (mh mr : gM) (a1 : Int32) : Prop := o_r_trim mr a1 ∧ ((o_h_trim mh a1 ∧ f_r_thrown (f_r_trim mr a1).2 = 0 ∧ (f_h_trim mh a1).1 = (f_r_trim mr a1).1 ∧ P (f_h_trim mh a1).2 (f_r_trim mr a1).2) ∨ (ox_h_trim mh a1 ∧ (fx_h_trim mh a1) = "java/lang/IndexOutOfBoundsException" ∧ f_r_thrown (f_r_trim mr a1).2 = 1 ∧ P mh (f_r_trim mr a1).2))

set_option maxHeartbeats 4000000 in
theorem ls_trim {p : Program} {l : Launch} {e : Env} {R : Room} {s : State} {m9 : MethodId} {args : Array Value} {below : List Frame} {meth : Method} {c : Code} {G : gG} {A : Nat → Prop} {Q : State → Prop} {cells slots : Nat} {q : Nat → Nat} {mh mr : gM} {nh nr : gN} (C : xC p s m9 args meth c G A 9 cL_law RL wsL_law) (hRf : 9 ≤ R.frames) (hRl : 240 ≤ R.locals) {b L : Nat} {xs : Nat → Int32} (hb : va_X b L xs s s.heap) (hbl : b < s.heap.size) (hbA : ¬ A b) (hl9 : l.stackTraces = false) (hX : gX A s) (hq : gD A q shLaw.length) {i : Int32} {a1 : Int32} (h1 : vp_in (i + 1) L) (ha1 : xs (i + 1).toNatClampNeg = a1) {P : gM → gM → Prop} (hop : op_trim P mh mr a1) (hc : cells + 1 ≤ R.cells) (hs : slots + 6 ≤ R.slots)
    (K : ∀ (q1 : Nat → Nat) (mh1 : gM) (nh1 : gN) (mr1 : gM) (nr1 : gN), P mh1 mr1 → gD A q1 shLaw.length → xJ p l e R s m9 args below meth c G A 9 Q (cells + 1) (slots + 6) shLaw q1 (g_app 133 mh1 mr1) (g_app 133 nh1 nr1) [(0, .ref b), (1, .ref (q1 0)), (2, .ref (q1 133)), (3, .ref (q1 132)), (4, .int i)] [] 1425) :
    xJ p l e R s m9 args below meth c G A 9 Q cells slots shLaw q (g_app 133 mh mr) (g_app 133 nh nr) [(0, .ref b), (1, .ref (q 0)), (2, .ref (q 133)), (3, .ref (q 132)), (4, .int i)] [] 292 := by
  obtain ⟨hok, hop⟩ := hop
  rcases hop with ⟨ho, hth, he, hP⟩ | ⟨ho, he, hth, hP⟩
  · exact lw_trim C hRf hRl hb hbl hbA hX hq h1 ha1 (cw_trim l G q mh nh a1 ho) hok hth (fun _ => by rw [g_setN_s]; unfold vp_updL; rw [if_pos rfl, he]) hc hs (fun q1 _ _ hq1 => K q1 _ _ _ _ hP hq1)
  · exact lw_trim C hRf hRl hb hbl hbA hX hq h1 ha1 (cw_trim_IO l hl9 G q mh nh a1 ho he) hok hth (fun h => absurd h (by decide)) hc hs (fun q1 _ _ hq1 => K q1 _ _ _ _ hP hq1)

def op_hint (P : gM → gM → Prop) (mh mr : gM) (a1 : Int32) (a2 : Int32) : Prop := o_r_hint mr a1 a2 ∧ ((o_h_hint mh a1 a2 ∧ f_r_thrown (f_r_hint mr a1 a2).2 = 0 ∧ (f_h_hint mh a1 a2).1 = (f_r_hint mr a1 a2).1 ∧ P (f_h_hint mh a1 a2).2 (f_r_hint mr a1 a2).2) ∨ (ox_h_hint mh a1 a2 ∧ (fx_h_hint mh a1 a2) = "java/lang/IndexOutOfBoundsException" ∧ f_r_thrown (f_r_hint mr a1 a2).2 = 1 ∧ P mh (f_r_hint mr a1 a2).2) ∨ (ox_h_hint mh a1 a2 ∧ (fx_h_hint mh a1 a2) = "java/lang/IllegalArgumentException" ∧ f_r_thrown (f_r_hint mr a1 a2).2 = 2 ∧ P mh (f_r_hint mr a1 a2).2) ∨ (ox_h_hint mh a1 a2 ∧ (fx_h_hint mh a1 a2) = "java/lang/IllegalStateException" ∧ f_r_thrown (f_r_hint mr a1 a2).2 = 3 ∧ P mh (f_r_hint mr a1 a2).2))

set_option maxHeartbeats 4000000 in
theorem ls_hint {p : Program} {l : Launch} {e : Env} {R : Room} {s : State} {m9 : MethodId} {args : Array Value} {below : List Frame} {meth : Method} {c : Code} {G : gG} {A : Nat → Prop} {Q : State → Prop} {cells slots : Nat} {q : Nat → Nat} {mh mr : gM} {nh nr : gN} (C : xC p s m9 args meth c G A 9 cL_law RL wsL_law) (hRf : 9 ≤ R.frames) (hRl : 240 ≤ R.locals) {b L : Nat} {xs : Nat → Int32} (hb : va_X b L xs s s.heap) (hbl : b < s.heap.size) (hbA : ¬ A b) (hl9 : l.stackTraces = false) (hX : gX A s) (hq : gD A q shLaw.length) {i : Int32} {a1 : Int32} {a2 : Int32} (h1 : vp_in (i + 1) L) (h2 : vp_in (i + 2) L) (ha1 : xs (i + 1).toNatClampNeg = a1) (ha2 : xs (i + 2).toNatClampNeg = a2) {P : gM → gM → Prop} (hop : op_hint P mh mr a1 a2) (hc : cells + 1 ≤ R.cells) (hs : slots + 6 ≤ R.slots)
    (K : ∀ (q1 : Nat → Nat) (mh1 : gM) (nh1 : gN) (mr1 : gM) (nr1 : gN), P mh1 mr1 → gD A q1 shLaw.length → xJ p l e R s m9 args below meth c G A 9 Q (cells + 1) (slots + 6) shLaw q1 (g_app 133 mh1 mr1) (g_app 133 nh1 nr1) [(0, .ref b), (1, .ref (q1 0)), (2, .ref (q1 133)), (3, .ref (q1 132)), (4, .int i)] [] 1425) :
    xJ p l e R s m9 args below meth c G A 9 Q cells slots shLaw q (g_app 133 mh mr) (g_app 133 nh nr) [(0, .ref b), (1, .ref (q 0)), (2, .ref (q 133)), (3, .ref (q 132)), (4, .int i)] [] 348 := by
  obtain ⟨hok, hop⟩ := hop
  rcases hop with ⟨ho, hth, he, hP⟩ | ⟨ho, he, hth, hP⟩ | ⟨ho, he, hth, hP⟩ | ⟨ho, he, hth, hP⟩
  · exact lw_hint C hRf hRl hb hbl hbA hX hq h1 h2 ha1 ha2 (cw_hint l G q mh nh a1 a2 ho) hok hth (fun _ => by rw [g_setN_s]; unfold vp_updL; rw [if_pos rfl, he]) hc hs (fun q1 _ _ hq1 => K q1 _ _ _ _ hP hq1)
  · exact lw_hint C hRf hRl hb hbl hbA hX hq h1 h2 ha1 ha2 (cw_hint_IO l hl9 G q mh nh a1 a2 ho he) hok hth (fun h => absurd h (by decide)) hc hs (fun q1 _ _ hq1 => K q1 _ _ _ _ hP hq1)
  · exact lw_hint C hRf hRl hb hbl hbA hX hq h1 h2 ha1 ha2 (cw_hint_IA l hl9 G q mh nh a1 a2 ho he) hok hth (fun h => absurd h (by decide)) hc hs (fun q1 _ _ hq1 => K q1 _ _ _ _ hP hq1)
  · exact lw_hint C hRf hRl hb hbl hbA hX hq h1 h2 ha1 ha2 (cw_hint_IS l hl9 G q mh nh a1 a2 ho he) hok hth (fun h => absurd h (by decide)) hc hs (fun q1 _ _ hq1 => K q1 _ _ _ _ hP hq1)

def op_collect (P : gM → gM → Prop) (mh mr : gM) (a1 : Int32) : Prop := o_r_collect mr a1 ∧ ((o_h_collect mh a1 ∧ f_r_thrown (f_r_collect mr a1).2 = 0 ∧ (f_h_collect mh a1).1 = (f_r_collect mr a1).1 ∧ P (f_h_collect mh a1).2 (f_r_collect mr a1).2) ∨ (ox_h_collect mh a1 ∧ (fx_h_collect mh a1) = "java/lang/IndexOutOfBoundsException" ∧ f_r_thrown (f_r_collect mr a1).2 = 1 ∧ P mh (f_r_collect mr a1).2) ∨ (ox_h_collect mh a1 ∧ (fx_h_collect mh a1) = "java/lang/IllegalStateException" ∧ f_r_thrown (f_r_collect mr a1).2 = 2 ∧ P mh (f_r_collect mr a1).2))

set_option maxHeartbeats 4000000 in
theorem ls_collect {p : Program} {l : Launch} {e : Env} {R : Room} {s : State} {m9 : MethodId} {args : Array Value} {below : List Frame} {meth : Method} {c : Code} {G : gG} {A : Nat → Prop} {Q : State → Prop} {cells slots : Nat} {q : Nat → Nat} {mh mr : gM} {nh nr : gN} (C : xC p s m9 args meth c G A 9 cL_law RL wsL_law) (hRf : 9 ≤ R.frames) (hRl : 240 ≤ R.locals) {b L : Nat} {xs : Nat → Int32} (hb : va_X b L xs s s.heap) (hbl : b < s.heap.size) (hbA : ¬ A b) (hl9 : l.stackTraces = false) (hX : gX A s) (hq : gD A q shLaw.length) {i : Int32} {a1 : Int32} (h1 : vp_in (i + 1) L) (ha1 : xs (i + 1).toNatClampNeg = a1) {P : gM → gM → Prop} (hop : op_collect P mh mr a1) (hc : cells + 1 ≤ R.cells) (hs : slots + 6 ≤ R.slots)
    (K : ∀ (q1 : Nat → Nat) (mh1 : gM) (nh1 : gN) (mr1 : gM) (nr1 : gN), P mh1 mr1 → gD A q1 shLaw.length → xJ p l e R s m9 args below meth c G A 9 Q (cells + 1) (slots + 6) shLaw q1 (g_app 133 mh1 mr1) (g_app 133 nh1 nr1) [(0, .ref b), (1, .ref (q1 0)), (2, .ref (q1 133)), (3, .ref (q1 132)), (4, .int i)] [] 1425) :
    xJ p l e R s m9 args below meth c G A 9 Q cells slots shLaw q (g_app 133 mh mr) (g_app 133 nh nr) [(0, .ref b), (1, .ref (q 0)), (2, .ref (q 133)), (3, .ref (q 132)), (4, .int i)] [] 416 := by
  obtain ⟨hok, hop⟩ := hop
  rcases hop with ⟨ho, hth, he, hP⟩ | ⟨ho, he, hth, hP⟩ | ⟨ho, he, hth, hP⟩
  · exact lw_collect C hRf hRl hb hbl hbA hX hq h1 ha1 (cw_collect l G q mh nh a1 ho) hok hth (fun _ => by rw [g_setN_s]; unfold vp_updL; rw [if_pos rfl, he]) hc hs (fun q1 _ _ hq1 => K q1 _ _ _ _ hP hq1)
  · exact lw_collect C hRf hRl hb hbl hbA hX hq h1 ha1 (cw_collect_IO l hl9 G q mh nh a1 ho he) hok hth (fun h => absurd h (by decide)) hc hs (fun q1 _ _ hq1 => K q1 _ _ _ _ hP hq1)
  · exact lw_collect C hRf hRl hb hbl hbA hX hq h1 ha1 (cw_collect_IS l hl9 G q mh nh a1 ho he) hok hth (fun h => absurd h (by decide)) hc hs (fun q1 _ _ hq1 => K q1 _ _ _ _ hP hq1)

def op_tidy (P : gM → gM → Prop) (mh mr : gM) (a1 : Int32) : Prop := o_r_tidy mr a1 ∧ ((o_h_tidy mh a1 ∧ f_r_thrown (f_r_tidy mr a1).2 = 0 ∧ (f_h_tidy mh a1).1 = (f_r_tidy mr a1).1 ∧ P (f_h_tidy mh a1).2 (f_r_tidy mr a1).2) ∨ (ox_h_tidy mh a1 ∧ (fx_h_tidy mh a1) = "java/lang/IllegalArgumentException" ∧ f_r_thrown (f_r_tidy mr a1).2 = 1 ∧ P mh (f_r_tidy mr a1).2))

set_option maxHeartbeats 4000000 in
theorem ls_tidy {p : Program} {l : Launch} {e : Env} {R : Room} {s : State} {m9 : MethodId} {args : Array Value} {below : List Frame} {meth : Method} {c : Code} {G : gG} {A : Nat → Prop} {Q : State → Prop} {cells slots : Nat} {q : Nat → Nat} {mh mr : gM} {nh nr : gN} (C : xC p s m9 args meth c G A 9 cL_law RL wsL_law) (hRf : 9 ≤ R.frames) (hRl : 240 ≤ R.locals) {b L : Nat} {xs : Nat → Int32} (hb : va_X b L xs s s.heap) (hbl : b < s.heap.size) (hbA : ¬ A b) (hl9 : l.stackTraces = false) (hX : gX A s) (hq : gD A q shLaw.length) {i : Int32} {a1 : Int32} (h1 : vp_in (i + 1) L) (ha1 : xs (i + 1).toNatClampNeg = a1) {P : gM → gM → Prop} (hop : op_tidy P mh mr a1) (hc : cells + 1 ≤ R.cells) (hs : slots + 6 ≤ R.slots)
    (K : ∀ (q1 : Nat → Nat) (mh1 : gM) (nh1 : gN) (mr1 : gM) (nr1 : gN), P mh1 mr1 → gD A q1 shLaw.length → xJ p l e R s m9 args below meth c G A 9 Q (cells + 1) (slots + 6) shLaw q1 (g_app 133 mh1 mr1) (g_app 133 nh1 nr1) [(0, .ref b), (1, .ref (q1 0)), (2, .ref (q1 133)), (3, .ref (q1 132)), (4, .int i)] [] 1425) :
    xJ p l e R s m9 args below meth c G A 9 Q cells slots shLaw q (g_app 133 mh mr) (g_app 133 nh nr) [(0, .ref b), (1, .ref (q 0)), (2, .ref (q 133)), (3, .ref (q 132)), (4, .int i)] [] 472 := by
  obtain ⟨hok, hop⟩ := hop
  rcases hop with ⟨ho, hth, he, hP⟩ | ⟨ho, he, hth, hP⟩
  · exact lw_tidy C hRf hRl hb hbl hbA hX hq h1 ha1 (cw_tidy l G q mh nh a1 ho) hok hth (fun _ => by rw [g_setN_s]; unfold vp_updL; rw [if_pos rfl, he]) hc hs (fun q1 _ _ hq1 => K q1 _ _ _ _ hP hq1)
  · exact lw_tidy C hRf hRl hb hbl hbA hX hq h1 ha1 (cw_tidy_IA l hl9 G q mh nh a1 ho he) hok hth (fun h => absurd h (by decide)) hc hs (fun q1 _ _ hq1 => K q1 _ _ _ _ hP hq1)

def op_set (P : gM → gM → Prop) (mh mr : gM) (a1 : Int32) (a2 : Int32) : Prop := o_r_set mr a1 a2 ∧ ((o_h_set mh a1 a2 ∧ f_r_thrown (f_r_set mr a1 a2).2 = 0 ∧ (f_h_set mh a1 a2).1 = (f_r_set mr a1 a2).1 ∧ P (f_h_set mh a1 a2).2 (f_r_set mr a1 a2).2) ∨ (ox_h_set mh a1 a2 ∧ (fx_h_set mh a1 a2) = "java/lang/IndexOutOfBoundsException" ∧ f_r_thrown (f_r_set mr a1 a2).2 = 1 ∧ P mh (f_r_set mr a1 a2).2) ∨ (ox_h_set mh a1 a2 ∧ (fx_h_set mh a1 a2) = "java/lang/IllegalArgumentException" ∧ f_r_thrown (f_r_set mr a1 a2).2 = 2 ∧ P mh (f_r_set mr a1 a2).2))

set_option maxHeartbeats 4000000 in
theorem ls_set {p : Program} {l : Launch} {e : Env} {R : Room} {s : State} {m9 : MethodId} {args : Array Value} {below : List Frame} {meth : Method} {c : Code} {G : gG} {A : Nat → Prop} {Q : State → Prop} {cells slots : Nat} {q : Nat → Nat} {mh mr : gM} {nh nr : gN} (C : xC p s m9 args meth c G A 9 cL_law RL wsL_law) (hRf : 9 ≤ R.frames) (hRl : 240 ≤ R.locals) {b L : Nat} {xs : Nat → Int32} (hb : va_X b L xs s s.heap) (hbl : b < s.heap.size) (hbA : ¬ A b) (hl9 : l.stackTraces = false) (hX : gX A s) (hq : gD A q shLaw.length) {i : Int32} {a1 : Int32} {a2 : Int32} (h1 : vp_in (i + 1) L) (h2 : vp_in (i + 2) L) (ha1 : xs (i + 1).toNatClampNeg = a1) (ha2 : xs (i + 2).toNatClampNeg = a2) {P : gM → gM → Prop} (hop : op_set P mh mr a1 a2) (hc : cells + 1 ≤ R.cells) (hs : slots + 6 ≤ R.slots)
    (K : ∀ (q1 : Nat → Nat) (mh1 : gM) (nh1 : gN) (mr1 : gM) (nr1 : gN), P mh1 mr1 → gD A q1 shLaw.length → xJ p l e R s m9 args below meth c G A 9 Q (cells + 1) (slots + 6) shLaw q1 (g_app 133 mh1 mr1) (g_app 133 nh1 nr1) [(0, .ref b), (1, .ref (q1 0)), (2, .ref (q1 133)), (3, .ref (q1 132)), (4, .int i)] [] 1425) :
    xJ p l e R s m9 args below meth c G A 9 Q cells slots shLaw q (g_app 133 mh mr) (g_app 133 nh nr) [(0, .ref b), (1, .ref (q 0)), (2, .ref (q 133)), (3, .ref (q 132)), (4, .int i)] [] 528 := by
  obtain ⟨hok, hop⟩ := hop
  rcases hop with ⟨ho, hth, he, hP⟩ | ⟨ho, he, hth, hP⟩ | ⟨ho, he, hth, hP⟩
  · exact lw_set C hRf hRl hb hbl hbA hX hq h1 h2 ha1 ha2 (cw_set l G q mh nh a1 a2 ho) hok hth (fun _ => by rw [g_setN_s]; unfold vp_updL; rw [if_pos rfl, he]) hc hs (fun q1 _ _ hq1 => K q1 _ _ _ _ hP hq1)
  · exact lw_set C hRf hRl hb hbl hbA hX hq h1 h2 ha1 ha2 (cw_set_IO l hl9 G q mh nh a1 a2 ho he) hok hth (fun h => absurd h (by decide)) hc hs (fun q1 _ _ hq1 => K q1 _ _ _ _ hP hq1)
  · exact lw_set C hRf hRl hb hbl hbA hX hq h1 h2 ha1 ha2 (cw_set_IA l hl9 G q mh nh a1 a2 ho he) hok hth (fun h => absurd h (by decide)) hc hs (fun q1 _ _ hq1 => K q1 _ _ _ _ hP hq1)

def op_append (P : gM → gM → Prop) (mh mr : gM) (a1 : Int32) : Prop := o_r_append mr a1 ∧ ((o_h_append mh a1 ∧ f_r_thrown (f_r_append mr a1).2 = 0 ∧ (f_h_append mh a1).1 = (f_r_append mr a1).1 ∧ P (f_h_append mh a1).2 (f_r_append mr a1).2) ∨ (ox_h_append mh a1 ∧ (fx_h_append mh a1) = "java/lang/IllegalArgumentException" ∧ f_r_thrown (f_r_append mr a1).2 = 1 ∧ P mh (f_r_append mr a1).2) ∨ (ox_h_append mh a1 ∧ (fx_h_append mh a1) = "java/lang/IllegalStateException" ∧ f_r_thrown (f_r_append mr a1).2 = 2 ∧ P mh (f_r_append mr a1).2))

set_option maxHeartbeats 4000000 in
theorem ls_append {p : Program} {l : Launch} {e : Env} {R : Room} {s : State} {m9 : MethodId} {args : Array Value} {below : List Frame} {meth : Method} {c : Code} {G : gG} {A : Nat → Prop} {Q : State → Prop} {cells slots : Nat} {q : Nat → Nat} {mh mr : gM} {nh nr : gN} (C : xC p s m9 args meth c G A 9 cL_law RL wsL_law) (hRf : 9 ≤ R.frames) (hRl : 240 ≤ R.locals) {b L : Nat} {xs : Nat → Int32} (hb : va_X b L xs s s.heap) (hbl : b < s.heap.size) (hbA : ¬ A b) (hl9 : l.stackTraces = false) (hX : gX A s) (hq : gD A q shLaw.length) {i : Int32} {a1 : Int32} (h1 : vp_in (i + 1) L) (ha1 : xs (i + 1).toNatClampNeg = a1) {P : gM → gM → Prop} (hop : op_append P mh mr a1) (hc : cells + 1 ≤ R.cells) (hs : slots + 6 ≤ R.slots)
    (K : ∀ (q1 : Nat → Nat) (mh1 : gM) (nh1 : gN) (mr1 : gM) (nr1 : gN), P mh1 mr1 → gD A q1 shLaw.length → xJ p l e R s m9 args below meth c G A 9 Q (cells + 1) (slots + 6) shLaw q1 (g_app 133 mh1 mr1) (g_app 133 nh1 nr1) [(0, .ref b), (1, .ref (q1 0)), (2, .ref (q1 133)), (3, .ref (q1 132)), (4, .int i)] [] 1425) :
    xJ p l e R s m9 args below meth c G A 9 Q cells slots shLaw q (g_app 133 mh mr) (g_app 133 nh nr) [(0, .ref b), (1, .ref (q 0)), (2, .ref (q 133)), (3, .ref (q 132)), (4, .int i)] [] 596 := by
  obtain ⟨hok, hop⟩ := hop
  rcases hop with ⟨ho, hth, he, hP⟩ | ⟨ho, he, hth, hP⟩ | ⟨ho, he, hth, hP⟩
  · exact lw_append C hRf hRl hb hbl hbA hX hq h1 ha1 (cw_append l G q mh nh a1 ho) hok hth (fun _ => by rw [g_setN_s]; unfold vp_updL; rw [if_pos rfl, he]) hc hs (fun q1 _ _ hq1 => K q1 _ _ _ _ hP hq1)
  · exact lw_append C hRf hRl hb hbl hbA hX hq h1 ha1 (cw_append_IA l hl9 G q mh nh a1 ho he) hok hth (fun h => absurd h (by decide)) hc hs (fun q1 _ _ hq1 => K q1 _ _ _ _ hP hq1)
  · exact lw_append C hRf hRl hb hbl hbA hX hq h1 ha1 (cw_append_IS l hl9 G q mh nh a1 ho he) hok hth (fun h => absurd h (by decide)) hc hs (fun q1 _ _ hq1 => K q1 _ _ _ _ hP hq1)

def op_clearBuffer (P : gM → gM → Prop) (mh mr : gM) : Prop := o_h_clearBuffer mh ∧ o_r_clearBuffer mr ∧ (f_h_clearBuffer mh).1 = (f_r_clearBuffer mr).1 ∧ P (f_h_clearBuffer mh).2 (f_r_clearBuffer mr).2

set_option maxHeartbeats 4000000 in
theorem ls_clearBuffer {p : Program} {l : Launch} {e : Env} {R : Room} {s : State} {m9 : MethodId} {args : Array Value} {below : List Frame} {meth : Method} {c : Code} {G : gG} {A : Nat → Prop} {Q : State → Prop} {cells slots : Nat} {q : Nat → Nat} {mh mr : gM} {nh nr : gN} (C : xC p s m9 args meth c G A 9 cL_law RL wsL_law) (hRf : 9 ≤ R.frames) (hRl : 240 ≤ R.locals) {b L : Nat} {xs : Nat → Int32} (hb : va_X b L xs s s.heap) (hbl : b < s.heap.size) (hbA : ¬ A b) (hl9 : l.stackTraces = false) (hX : gX A s) (hq : gD A q shLaw.length) {i : Int32} {P : gM → gM → Prop} (hop : op_clearBuffer P mh mr) (hc : cells + 1 ≤ R.cells) (hs : slots + 6 ≤ R.slots)
    (K : ∀ (q1 : Nat → Nat) (mh1 : gM) (nh1 : gN) (mr1 : gM) (nr1 : gN), P mh1 mr1 → gD A q1 shLaw.length → xJ p l e R s m9 args below meth c G A 9 Q (cells + 1) (slots + 6) shLaw q1 (g_app 133 mh1 mr1) (g_app 133 nh1 nr1) [(0, .ref b), (1, .ref (q1 0)), (2, .ref (q1 133)), (3, .ref (q1 132)), (4, .int i)] [] 1425) :
    xJ p l e R s m9 args below meth c G A 9 Q cells slots shLaw q (g_app 133 mh mr) (g_app 133 nh nr) [(0, .ref b), (1, .ref (q 0)), (2, .ref (q 133)), (3, .ref (q 132)), (4, .int i)] [] 652 := by
  obtain ⟨h1, h2, he, hP⟩ := hop
  exact lw_clearBuffer C hRf hRl hq h1 h2 he (Nat.le_of_succ_le hc) (Nat.le_trans (Nat.le_add_right _ _) hs) (x_wid (Nat.le_succ _) (Nat.le_add_right _ _) (K q _ _ _ _ hP hq))

def op_firstError (P : gM → gM → Prop) (mh mr : gM) : Prop := o_h_firstError mh ∧ o_r_firstError mr ∧ (f_h_firstError mh).1 = (f_r_firstError mr).1 ∧ P (f_h_firstError mh).2 (f_r_firstError mr).2

set_option maxHeartbeats 4000000 in
theorem ls_firstError {p : Program} {l : Launch} {e : Env} {R : Room} {s : State} {m9 : MethodId} {args : Array Value} {below : List Frame} {meth : Method} {c : Code} {G : gG} {A : Nat → Prop} {Q : State → Prop} {cells slots : Nat} {q : Nat → Nat} {mh mr : gM} {nh nr : gN} (C : xC p s m9 args meth c G A 9 cL_law RL wsL_law) (hRf : 9 ≤ R.frames) (hRl : 240 ≤ R.locals) {b L : Nat} {xs : Nat → Int32} (hb : va_X b L xs s s.heap) (hbl : b < s.heap.size) (hbA : ¬ A b) (hl9 : l.stackTraces = false) (hX : gX A s) (hq : gD A q shLaw.length) {i : Int32} {P : gM → gM → Prop} (hop : op_firstError P mh mr) (hc : cells + 1 ≤ R.cells) (hs : slots + 6 ≤ R.slots)
    (K : ∀ (q1 : Nat → Nat) (mh1 : gM) (nh1 : gN) (mr1 : gM) (nr1 : gN), P mh1 mr1 → gD A q1 shLaw.length → xJ p l e R s m9 args below meth c G A 9 Q (cells + 1) (slots + 6) shLaw q1 (g_app 133 mh1 mr1) (g_app 133 nh1 nr1) [(0, .ref b), (1, .ref (q1 0)), (2, .ref (q1 133)), (3, .ref (q1 132)), (4, .int i)] [] 1425) :
    xJ p l e R s m9 args below meth c G A 9 Q cells slots shLaw q (g_app 133 mh mr) (g_app 133 nh nr) [(0, .ref b), (1, .ref (q 0)), (2, .ref (q 133)), (3, .ref (q 132)), (4, .int i)] [] 665 := by
  obtain ⟨h1, h2, he, hP⟩ := hop
  exact lw_firstError C hRf hRl hq h1 h2 he (Nat.le_of_succ_le hc) (Nat.le_trans (Nat.le_add_right _ _) hs) (x_wid (Nat.le_succ _) (Nat.le_add_right _ _) (K q _ _ _ _ hP hq))

def op_writeAll (P : gM → gM → Prop) (mh mr : gM) : Prop := o_r_writeAll mr ∧ ((o_h_writeAll mh ∧ f_r_thrown (f_r_writeAll mr).2 = 0 ∧ (f_h_writeAll mh).1 = (f_r_writeAll mr).1 ∧ P (f_h_writeAll mh).2 (f_r_writeAll mr).2) ∨ (ox_h_writeAll mh ∧ (fx_h_writeAll mh).1 = "java/lang/IllegalArgumentException" ∧ f_r_thrown (f_r_writeAll mr).2 = 1 ∧ P (fx_h_writeAll mh).2 (f_r_writeAll mr).2))

set_option maxHeartbeats 4000000 in
theorem ls_writeAll {p : Program} {l : Launch} {e : Env} {R : Room} {s : State} {m9 : MethodId} {args : Array Value} {below : List Frame} {meth : Method} {c : Code} {G : gG} {A : Nat → Prop} {Q : State → Prop} {cells slots : Nat} {q : Nat → Nat} {mh mr : gM} {nh nr : gN} (C : xC p s m9 args meth c G A 9 cL_law RL wsL_law) (hRf : 9 ≤ R.frames) (hRl : 240 ≤ R.locals) {b L : Nat} {xs : Nat → Int32} (hb : va_X b L xs s s.heap) (hbl : b < s.heap.size) (hbA : ¬ A b) (hl9 : l.stackTraces = false) (hX : gX A s) (hq : gD A q shLaw.length) {i : Int32} {P : gM → gM → Prop} (hop : op_writeAll P mh mr) (hc : cells + 1 ≤ R.cells) (hs : slots + 6 ≤ R.slots)
    (K : ∀ (q1 : Nat → Nat) (mh1 : gM) (nh1 : gN) (mr1 : gM) (nr1 : gN), P mh1 mr1 → gD A q1 shLaw.length → xJ p l e R s m9 args below meth c G A 9 Q (cells + 1) (slots + 6) shLaw q1 (g_app 133 mh1 mr1) (g_app 133 nh1 nr1) [(0, .ref b), (1, .ref (q1 0)), (2, .ref (q1 133)), (3, .ref (q1 132)), (4, .int i)] [] 1425) :
    xJ p l e R s m9 args below meth c G A 9 Q cells slots shLaw q (g_app 133 mh mr) (g_app 133 nh nr) [(0, .ref b), (1, .ref (q 0)), (2, .ref (q 133)), (3, .ref (q 132)), (4, .int i)] [] 678 := by
  obtain ⟨hok, hop⟩ := hop
  rcases hop with ⟨ho, hth, he, hP⟩ | ⟨ho, he, hth, hP⟩
  · exact lw_writeAll C hRf hRl hb hbl hbA hX hq (cw_writeAll l G q mh nh ho) hok hth (fun _ => by rw [g_setN_s]; unfold vp_updL; rw [if_pos rfl, he]) hc hs (fun q1 _ _ hq1 => K q1 _ _ _ _ hP hq1)
  · exact lw_writeAll C hRf hRl hb hbl hbA hX hq (cw_writeAll_IA l hl9 G q mh nh ho he) hok hth (fun h => absurd h (by decide)) hc hs (fun q1 _ _ hq1 => K q1 _ _ _ _ hP hq1)

def op_undo (P : gM → gM → Prop) (mh mr : gM) : Prop := o_r_undo mr ∧ ((o_h_undo mh ∧ f_r_thrown (f_r_undo mr).2 = 0 ∧ (f_h_undo mh).1 = (f_r_undo mr).1 ∧ P (f_h_undo mh).2 (f_r_undo mr).2) ∨ (ox_h_undo mh ∧ (fx_h_undo mh) = "java/lang/IllegalStateException" ∧ f_r_thrown (f_r_undo mr).2 = 1 ∧ P mh (f_r_undo mr).2))

set_option maxHeartbeats 4000000 in
theorem ls_undo {p : Program} {l : Launch} {e : Env} {R : Room} {s : State} {m9 : MethodId} {args : Array Value} {below : List Frame} {meth : Method} {c : Code} {G : gG} {A : Nat → Prop} {Q : State → Prop} {cells slots : Nat} {q : Nat → Nat} {mh mr : gM} {nh nr : gN} (C : xC p s m9 args meth c G A 9 cL_law RL wsL_law) (hRf : 9 ≤ R.frames) (hRl : 240 ≤ R.locals) {b L : Nat} {xs : Nat → Int32} (hb : va_X b L xs s s.heap) (hbl : b < s.heap.size) (hbA : ¬ A b) (hl9 : l.stackTraces = false) (hX : gX A s) (hq : gD A q shLaw.length) {i : Int32} {P : gM → gM → Prop} (hop : op_undo P mh mr) (hc : cells + 1 ≤ R.cells) (hs : slots + 6 ≤ R.slots)
    (K : ∀ (q1 : Nat → Nat) (mh1 : gM) (nh1 : gN) (mr1 : gM) (nr1 : gN), P mh1 mr1 → gD A q1 shLaw.length → xJ p l e R s m9 args below meth c G A 9 Q (cells + 1) (slots + 6) shLaw q1 (g_app 133 mh1 mr1) (g_app 133 nh1 nr1) [(0, .ref b), (1, .ref (q1 0)), (2, .ref (q1 133)), (3, .ref (q1 132)), (4, .int i)] [] 1425) :
    xJ p l e R s m9 args below meth c G A 9 Q cells slots shLaw q (g_app 133 mh mr) (g_app 133 nh nr) [(0, .ref b), (1, .ref (q 0)), (2, .ref (q 133)), (3, .ref (q 132)), (4, .int i)] [] 722 := by
  obtain ⟨hok, hop⟩ := hop
  rcases hop with ⟨ho, hth, he, hP⟩ | ⟨ho, he, hth, hP⟩
  · exact lw_undo C hRf hRl hb hbl hbA hX hq (cw_undo l G q mh nh ho) hok hth (fun _ => by rw [g_setN_s]; unfold vp_updL; rw [if_pos rfl, he]) hc hs (fun q1 _ _ hq1 => K q1 _ _ _ _ hP hq1)
  · exact lw_undo C hRf hRl hb hbl hbA hX hq (cw_undo_IS l hl9 G q mh nh ho he) hok hth (fun h => absurd h (by decide)) hc hs (fun q1 _ _ hq1 => K q1 _ _ _ _ hP hq1)

def op_page (P : gM → gM → Prop) (mh mr : gM) (a1 : Int32) (a2 : Int32) : Prop := o_r_page mr a1 a2 ∧ ((o_h_page mh a1 a2 ∧ f_r_thrown (f_r_page mr a1 a2).2 = 0 ∧ (f_h_page mh a1 a2) = (f_r_page mr a1 a2).1 ∧ P mh (f_r_page mr a1 a2).2) ∨ (ox_h_page mh a1 a2 ∧ (fx_h_page mh a1 a2) = "java/lang/IndexOutOfBoundsException" ∧ f_r_thrown (f_r_page mr a1 a2).2 = 1 ∧ P mh (f_r_page mr a1 a2).2) ∨ (ox_h_page mh a1 a2 ∧ (fx_h_page mh a1 a2) = "java/lang/IllegalArgumentException" ∧ f_r_thrown (f_r_page mr a1 a2).2 = 2 ∧ P mh (f_r_page mr a1 a2).2))

set_option maxHeartbeats 4000000 in
theorem ls_page {p : Program} {l : Launch} {e : Env} {R : Room} {s : State} {m9 : MethodId} {args : Array Value} {below : List Frame} {meth : Method} {c : Code} {G : gG} {A : Nat → Prop} {Q : State → Prop} {cells slots : Nat} {q : Nat → Nat} {mh mr : gM} {nh nr : gN} (C : xC p s m9 args meth c G A 9 cL_law RL wsL_law) (hRf : 9 ≤ R.frames) (hRl : 240 ≤ R.locals) {b L : Nat} {xs : Nat → Int32} (hb : va_X b L xs s s.heap) (hbl : b < s.heap.size) (hbA : ¬ A b) (hl9 : l.stackTraces = false) (hX : gX A s) (hq : gD A q shLaw.length) {i : Int32} {a1 : Int32} {a2 : Int32} (h1 : vp_in (i + 1) L) (h2 : vp_in (i + 2) L) (ha1 : xs (i + 1).toNatClampNeg = a1) (ha2 : xs (i + 2).toNatClampNeg = a2) {P : gM → gM → Prop} (hop : op_page P mh mr a1 a2) (hc : cells + 1 ≤ R.cells) (hs : slots + 6 ≤ R.slots)
    (K : ∀ (q1 : Nat → Nat) (mh1 : gM) (nh1 : gN) (mr1 : gM) (nr1 : gN), P mh1 mr1 → gD A q1 shLaw.length → xJ p l e R s m9 args below meth c G A 9 Q (cells + 1) (slots + 6) shLaw q1 (g_app 133 mh1 mr1) (g_app 133 nh1 nr1) [(0, .ref b), (1, .ref (q1 0)), (2, .ref (q1 133)), (3, .ref (q1 132)), (4, .int i)] [] 1425) :
    xJ p l e R s m9 args below meth c G A 9 Q cells slots shLaw q (g_app 133 mh mr) (g_app 133 nh nr) [(0, .ref b), (1, .ref (q 0)), (2, .ref (q 133)), (3, .ref (q 132)), (4, .int i)] [] 766 := by
  obtain ⟨hok, hop⟩ := hop
  rcases hop with ⟨ho, hth, he, hP⟩ | ⟨ho, he, hth, hP⟩ | ⟨ho, he, hth, hP⟩
  · exact lw_page C hRf hRl hb hbl hbA hX hq h1 h2 ha1 ha2 (cw_page l G q mh nh a1 a2 ho) hok hth (fun _ => by rw [g_setN_s]; unfold vp_updL; rw [if_pos rfl, he]) hc hs (fun q1 _ _ hq1 => K q1 _ _ _ _ hP hq1)
  · exact lw_page C hRf hRl hb hbl hbA hX hq h1 h2 ha1 ha2 (cw_page_IO l hl9 G q mh nh a1 a2 ho he) hok hth (fun h => absurd h (by decide)) hc hs (fun q1 _ _ hq1 => K q1 _ _ _ _ hP hq1)
  · exact lw_page C hRf hRl hb hbl hbA hX hq h1 h2 ha1 ha2 (cw_page_IA l hl9 G q mh nh a1 a2 ho he) hok hth (fun h => absurd h (by decide)) hc hs (fun q1 _ _ hq1 => K q1 _ _ _ _ hP hq1)

def op_block (P : gM → gM → Prop) (mh mr : gM) (a1 : Int32) (a2 : Int32) : Prop := o_r_block mr a1 a2 ∧ ((o_h_block mh a1 a2 ∧ f_r_thrown (f_r_block mr a1 a2).2 = 0 ∧ (f_h_block mh a1 a2) = (f_r_block mr a1 a2).1 ∧ P mh (f_r_block mr a1 a2).2) ∨ (ox_h_block mh a1 a2 ∧ (fx_h_block mh a1 a2) = "java/lang/IndexOutOfBoundsException" ∧ f_r_thrown (f_r_block mr a1 a2).2 = 1 ∧ P mh (f_r_block mr a1 a2).2) ∨ (ox_h_block mh a1 a2 ∧ (fx_h_block mh a1 a2) = "java/lang/IllegalArgumentException" ∧ f_r_thrown (f_r_block mr a1 a2).2 = 2 ∧ P mh (f_r_block mr a1 a2).2))

set_option maxHeartbeats 4000000 in
theorem ls_block {p : Program} {l : Launch} {e : Env} {R : Room} {s : State} {m9 : MethodId} {args : Array Value} {below : List Frame} {meth : Method} {c : Code} {G : gG} {A : Nat → Prop} {Q : State → Prop} {cells slots : Nat} {q : Nat → Nat} {mh mr : gM} {nh nr : gN} (C : xC p s m9 args meth c G A 9 cL_law RL wsL_law) (hRf : 9 ≤ R.frames) (hRl : 240 ≤ R.locals) {b L : Nat} {xs : Nat → Int32} (hb : va_X b L xs s s.heap) (hbl : b < s.heap.size) (hbA : ¬ A b) (hl9 : l.stackTraces = false) (hX : gX A s) (hq : gD A q shLaw.length) {i : Int32} {a1 : Int32} {a2 : Int32} (h1 : vp_in (i + 1) L) (h2 : vp_in (i + 2) L) (ha1 : xs (i + 1).toNatClampNeg = a1) (ha2 : xs (i + 2).toNatClampNeg = a2) {P : gM → gM → Prop} (hop : op_block P mh mr a1 a2) (hc : cells + 1 ≤ R.cells) (hs : slots + 6 ≤ R.slots)
    (K : ∀ (q1 : Nat → Nat) (mh1 : gM) (nh1 : gN) (mr1 : gM) (nr1 : gN), P mh1 mr1 → gD A q1 shLaw.length → xJ p l e R s m9 args below meth c G A 9 Q (cells + 1) (slots + 6) shLaw q1 (g_app 133 mh1 mr1) (g_app 133 nh1 nr1) [(0, .ref b), (1, .ref (q1 0)), (2, .ref (q1 133)), (3, .ref (q1 132)), (4, .int i)] [] 1425) :
    xJ p l e R s m9 args below meth c G A 9 Q cells slots shLaw q (g_app 133 mh mr) (g_app 133 nh nr) [(0, .ref b), (1, .ref (q 0)), (2, .ref (q 133)), (3, .ref (q 132)), (4, .int i)] [] 834 := by
  obtain ⟨hok, hop⟩ := hop
  rcases hop with ⟨ho, hth, he, hP⟩ | ⟨ho, he, hth, hP⟩ | ⟨ho, he, hth, hP⟩
  · exact lw_block C hRf hRl hb hbl hbA hX hq h1 h2 ha1 ha2 (cw_block l G q mh nh a1 a2 ho) hok hth (fun _ => by rw [g_setN_s]; unfold vp_updL; rw [if_pos rfl, he]) hc hs (fun q1 _ _ hq1 => K q1 _ _ _ _ hP hq1)
  · exact lw_block C hRf hRl hb hbl hbA hX hq h1 h2 ha1 ha2 (cw_block_IO l hl9 G q mh nh a1 a2 ho he) hok hth (fun h => absurd h (by decide)) hc hs (fun q1 _ _ hq1 => K q1 _ _ _ _ hP hq1)
  · exact lw_block C hRf hRl hb hbl hbA hX hq h1 h2 ha1 ha2 (cw_block_IA l hl9 G q mh nh a1 a2 ho he) hok hth (fun h => absurd h (by decide)) hc hs (fun q1 _ _ hq1 => K q1 _ _ _ _ hP hq1)

def op_slot (P : gM → gM → Prop) (mh mr : gM) (a1 : Int32) (a2 : Int32) (a3 : Int32) : Prop := o_r_slot mr a1 a2 a3 ∧ ((o_h_slot mh a1 a2 a3 ∧ f_r_thrown (f_r_slot mr a1 a2 a3).2 = 0 ∧ (f_h_slot mh a1 a2 a3) = (f_r_slot mr a1 a2 a3).1 ∧ P mh (f_r_slot mr a1 a2 a3).2) ∨ (ox_h_slot mh a1 a2 a3 ∧ (fx_h_slot mh a1 a2 a3) = "java/lang/IndexOutOfBoundsException" ∧ f_r_thrown (f_r_slot mr a1 a2 a3).2 = 1 ∧ P mh (f_r_slot mr a1 a2 a3).2))

set_option maxHeartbeats 4000000 in
theorem ls_slot {p : Program} {l : Launch} {e : Env} {R : Room} {s : State} {m9 : MethodId} {args : Array Value} {below : List Frame} {meth : Method} {c : Code} {G : gG} {A : Nat → Prop} {Q : State → Prop} {cells slots : Nat} {q : Nat → Nat} {mh mr : gM} {nh nr : gN} (C : xC p s m9 args meth c G A 9 cL_law RL wsL_law) (hRf : 9 ≤ R.frames) (hRl : 240 ≤ R.locals) {b L : Nat} {xs : Nat → Int32} (hb : va_X b L xs s s.heap) (hbl : b < s.heap.size) (hbA : ¬ A b) (hl9 : l.stackTraces = false) (hX : gX A s) (hq : gD A q shLaw.length) {i : Int32} {a1 : Int32} {a2 : Int32} {a3 : Int32} (h1 : vp_in (i + 1) L) (h2 : vp_in (i + 2) L) (h3 : vp_in (i + 3) L) (ha1 : xs (i + 1).toNatClampNeg = a1) (ha2 : xs (i + 2).toNatClampNeg = a2) (ha3 : xs (i + 3).toNatClampNeg = a3) {P : gM → gM → Prop} (hop : op_slot P mh mr a1 a2 (if a3 = 0 then 0 else 1)) (hc : cells + 1 ≤ R.cells) (hs : slots + 6 ≤ R.slots)
    (K : ∀ (q1 : Nat → Nat) (mh1 : gM) (nh1 : gN) (mr1 : gM) (nr1 : gN), P mh1 mr1 → gD A q1 shLaw.length → xJ p l e R s m9 args below meth c G A 9 Q (cells + 1) (slots + 6) shLaw q1 (g_app 133 mh1 mr1) (g_app 133 nh1 nr1) [(0, .ref b), (1, .ref (q1 0)), (2, .ref (q1 133)), (3, .ref (q1 132)), (4, .int i)] [] 1425) :
    xJ p l e R s m9 args below meth c G A 9 Q cells slots shLaw q (g_app 133 mh mr) (g_app 133 nh nr) [(0, .ref b), (1, .ref (q 0)), (2, .ref (q 133)), (3, .ref (q 132)), (4, .int i)] [] 902 := by
  obtain ⟨hok, hop⟩ := hop
  rcases hop with ⟨ho, hth, he, hP⟩ | ⟨ho, he, hth, hP⟩
  · exact lw_slot C hRf hRl hb hbl hbA hX hq h1 h2 h3 ha1 ha2 ha3 (cw_slot l G q mh nh a1 a2 (if a3 = 0 then 0 else 1) ho) hok hth (fun _ => by rw [g_setN_s]; unfold vp_updL; rw [if_pos rfl, he]) hc hs (fun q1 _ _ hq1 => K q1 _ _ _ _ hP hq1)
  · exact lw_slot C hRf hRl hb hbl hbA hX hq h1 h2 h3 ha1 ha2 ha3 (cw_slot_IO l hl9 G q mh nh a1 a2 (if a3 = 0 then 0 else 1) ho he) hok hth (fun h => absurd h (by decide)) hc hs (fun q1 _ _ hq1 => K q1 _ _ _ _ hP hq1)

def op_stream (P : gM → gM → Prop) (mh mr : gM) (a1 : Int32) (a2 : Int32) : Prop := o_r_stream mr a1 a2 ∧ ((o_h_stream mh a1 a2 ∧ f_r_thrown (f_r_stream mr a1 a2).2 = 0 ∧ (f_h_stream mh a1 a2) = (f_r_stream mr a1 a2).1 ∧ P mh (f_r_stream mr a1 a2).2) ∨ (ox_h_stream mh a1 a2 ∧ (fx_h_stream mh a1 a2) = "java/lang/IndexOutOfBoundsException" ∧ f_r_thrown (f_r_stream mr a1 a2).2 = 1 ∧ P mh (f_r_stream mr a1 a2).2) ∨ (ox_h_stream mh a1 a2 ∧ (fx_h_stream mh a1 a2) = "java/lang/IllegalArgumentException" ∧ f_r_thrown (f_r_stream mr a1 a2).2 = 2 ∧ P mh (f_r_stream mr a1 a2).2))

set_option maxHeartbeats 4000000 in
theorem ls_stream {p : Program} {l : Launch} {e : Env} {R : Room} {s : State} {m9 : MethodId} {args : Array Value} {below : List Frame} {meth : Method} {c : Code} {G : gG} {A : Nat → Prop} {Q : State → Prop} {cells slots : Nat} {q : Nat → Nat} {mh mr : gM} {nh nr : gN} (C : xC p s m9 args meth c G A 9 cL_law RL wsL_law) (hRf : 9 ≤ R.frames) (hRl : 240 ≤ R.locals) {b L : Nat} {xs : Nat → Int32} (hb : va_X b L xs s s.heap) (hbl : b < s.heap.size) (hbA : ¬ A b) (hl9 : l.stackTraces = false) (hX : gX A s) (hq : gD A q shLaw.length) {i : Int32} {a1 : Int32} {a2 : Int32} (h1 : vp_in (i + 1) L) (h2 : vp_in (i + 2) L) (ha1 : xs (i + 1).toNatClampNeg = a1) (ha2 : xs (i + 2).toNatClampNeg = a2) {P : gM → gM → Prop} (hop : op_stream P mh mr a1 a2) (hc : cells + 1 ≤ R.cells) (hs : slots + 6 ≤ R.slots)
    (K : ∀ (q1 : Nat → Nat) (mh1 : gM) (nh1 : gN) (mr1 : gM) (nr1 : gN), P mh1 mr1 → gD A q1 shLaw.length → xJ p l e R s m9 args below meth c G A 9 Q (cells + 1) (slots + 6) shLaw q1 (g_app 133 mh1 mr1) (g_app 133 nh1 nr1) [(0, .ref b), (1, .ref (q1 0)), (2, .ref (q1 133)), (3, .ref (q1 132)), (4, .int i)] [] 1425) :
    xJ p l e R s m9 args below meth c G A 9 Q cells slots shLaw q (g_app 133 mh mr) (g_app 133 nh nr) [(0, .ref b), (1, .ref (q 0)), (2, .ref (q 133)), (3, .ref (q 132)), (4, .int i)] [] 998 := by
  obtain ⟨hok, hop⟩ := hop
  rcases hop with ⟨ho, hth, he, hP⟩ | ⟨ho, he, hth, hP⟩ | ⟨ho, he, hth, hP⟩
  · exact lw_stream C hRf hRl hb hbl hbA hX hq h1 h2 ha1 ha2 (cw_stream l G q mh nh a1 a2 ho) hok hth (fun _ => by rw [g_setN_s]; unfold vp_updL; rw [if_pos rfl, he]) hc hs (fun q1 _ _ hq1 => K q1 _ _ _ _ hP hq1)
  · exact lw_stream C hRf hRl hb hbl hbA hX hq h1 h2 ha1 ha2 (cw_stream_IO l hl9 G q mh nh a1 a2 ho he) hok hth (fun h => absurd h (by decide)) hc hs (fun q1 _ _ hq1 => K q1 _ _ _ _ hP hq1)
  · exact lw_stream C hRf hRl hb hbl hbA hX hq h1 h2 ha1 ha2 (cw_stream_IA l hl9 G q mh nh a1 a2 ho he) hok hth (fun h => absurd h (by decide)) hc hs (fun q1 _ _ hq1 => K q1 _ _ _ _ hP hq1)

def op_count (P : gM → gM → Prop) (mh mr : gM) (a1 : Int32) : Prop := o_r_count mr a1 ∧ ((o_h_count mh a1 ∧ f_r_thrown (f_r_count mr a1).2 = 0 ∧ (f_h_count mh a1) = (f_r_count mr a1).1 ∧ P mh (f_r_count mr a1).2) ∨ (ox_h_count mh a1 ∧ (fx_h_count mh a1) = "java/lang/IllegalArgumentException" ∧ f_r_thrown (f_r_count mr a1).2 = 1 ∧ P mh (f_r_count mr a1).2))

set_option maxHeartbeats 4000000 in
theorem ls_count {p : Program} {l : Launch} {e : Env} {R : Room} {s : State} {m9 : MethodId} {args : Array Value} {below : List Frame} {meth : Method} {c : Code} {G : gG} {A : Nat → Prop} {Q : State → Prop} {cells slots : Nat} {q : Nat → Nat} {mh mr : gM} {nh nr : gN} (C : xC p s m9 args meth c G A 9 cL_law RL wsL_law) (hRf : 9 ≤ R.frames) (hRl : 240 ≤ R.locals) {b L : Nat} {xs : Nat → Int32} (hb : va_X b L xs s s.heap) (hbl : b < s.heap.size) (hbA : ¬ A b) (hl9 : l.stackTraces = false) (hX : gX A s) (hq : gD A q shLaw.length) {i : Int32} {a1 : Int32} (h1 : vp_in (i + 1) L) (ha1 : xs (i + 1).toNatClampNeg = a1) {P : gM → gM → Prop} (hop : op_count P mh mr a1) (hc : cells + 1 ≤ R.cells) (hs : slots + 6 ≤ R.slots)
    (K : ∀ (q1 : Nat → Nat) (mh1 : gM) (nh1 : gN) (mr1 : gM) (nr1 : gN), P mh1 mr1 → gD A q1 shLaw.length → xJ p l e R s m9 args below meth c G A 9 Q (cells + 1) (slots + 6) shLaw q1 (g_app 133 mh1 mr1) (g_app 133 nh1 nr1) [(0, .ref b), (1, .ref (q1 0)), (2, .ref (q1 133)), (3, .ref (q1 132)), (4, .int i)] [] 1425) :
    xJ p l e R s m9 args below meth c G A 9 Q cells slots shLaw q (g_app 133 mh mr) (g_app 133 nh nr) [(0, .ref b), (1, .ref (q 0)), (2, .ref (q 133)), (3, .ref (q 132)), (4, .int i)] [] 1066 := by
  obtain ⟨hok, hop⟩ := hop
  rcases hop with ⟨ho, hth, he, hP⟩ | ⟨ho, he, hth, hP⟩
  · exact lw_count C hRf hRl hb hbl hbA hX hq h1 ha1 (cw_count l G q mh nh a1 ho) hok hth (fun _ => by rw [g_setN_s]; unfold vp_updL; rw [if_pos rfl, he]) hc hs (fun q1 _ _ hq1 => K q1 _ _ _ _ hP hq1)
  · exact lw_count C hRf hRl hb hbl hbA hX hq h1 ha1 (cw_count_IA l hl9 G q mh nh a1 ho he) hok hth (fun h => absurd h (by decide)) hc hs (fun q1 _ _ hq1 => K q1 _ _ _ _ hP hq1)

def op_setting (P : gM → gM → Prop) (mh mr : gM) (a1 : Int32) : Prop := o_r_setting mr a1 ∧ ((o_h_setting mh a1 ∧ f_r_thrown (f_r_setting mr a1).2 = 0 ∧ (f_h_setting mh a1) = (f_r_setting mr a1).1 ∧ P mh (f_r_setting mr a1).2) ∨ (ox_h_setting mh a1 ∧ (fx_h_setting mh a1) = "java/lang/IndexOutOfBoundsException" ∧ f_r_thrown (f_r_setting mr a1).2 = 1 ∧ P mh (f_r_setting mr a1).2))

set_option maxHeartbeats 4000000 in
theorem ls_setting {p : Program} {l : Launch} {e : Env} {R : Room} {s : State} {m9 : MethodId} {args : Array Value} {below : List Frame} {meth : Method} {c : Code} {G : gG} {A : Nat → Prop} {Q : State → Prop} {cells slots : Nat} {q : Nat → Nat} {mh mr : gM} {nh nr : gN} (C : xC p s m9 args meth c G A 9 cL_law RL wsL_law) (hRf : 9 ≤ R.frames) (hRl : 240 ≤ R.locals) {b L : Nat} {xs : Nat → Int32} (hb : va_X b L xs s s.heap) (hbl : b < s.heap.size) (hbA : ¬ A b) (hl9 : l.stackTraces = false) (hX : gX A s) (hq : gD A q shLaw.length) {i : Int32} {a1 : Int32} (h1 : vp_in (i + 1) L) (ha1 : xs (i + 1).toNatClampNeg = a1) {P : gM → gM → Prop} (hop : op_setting P mh mr a1) (hc : cells + 1 ≤ R.cells) (hs : slots + 6 ≤ R.slots)
    (K : ∀ (q1 : Nat → Nat) (mh1 : gM) (nh1 : gN) (mr1 : gM) (nr1 : gN), P mh1 mr1 → gD A q1 shLaw.length → xJ p l e R s m9 args below meth c G A 9 Q (cells + 1) (slots + 6) shLaw q1 (g_app 133 mh1 mr1) (g_app 133 nh1 nr1) [(0, .ref b), (1, .ref (q1 0)), (2, .ref (q1 133)), (3, .ref (q1 132)), (4, .int i)] [] 1425) :
    xJ p l e R s m9 args below meth c G A 9 Q cells slots shLaw q (g_app 133 mh mr) (g_app 133 nh nr) [(0, .ref b), (1, .ref (q 0)), (2, .ref (q 133)), (3, .ref (q 132)), (4, .int i)] [] 1122 := by
  obtain ⟨hok, hop⟩ := hop
  rcases hop with ⟨ho, hth, he, hP⟩ | ⟨ho, he, hth, hP⟩
  · exact lw_setting C hRf hRl hb hbl hbA hX hq h1 ha1 (cw_setting l G q mh nh a1 ho) hok hth (fun _ => by rw [g_setN_s]; unfold vp_updL; rw [if_pos rfl, he]) hc hs (fun q1 _ _ hq1 => K q1 _ _ _ _ hP hq1)
  · exact lw_setting C hRf hRl hb hbl hbA hX hq h1 ha1 (cw_setting_IO l hl9 G q mh nh a1 ho he) hok hth (fun h => absurd h (by decide)) hc hs (fun q1 _ _ hq1 => K q1 _ _ _ _ hP hq1)

def op_ifWritten (P : gM → gM → Prop) (mh mr : gM) (a1 : Int32) (a2 : Int32) (a3 : Int32) : Prop := o_r_ifWritten mr a1 a2 a3 ∧ ((o_h_ifWritten mh a1 a2 a3 ∧ f_r_thrown (f_r_ifWritten mr a1 a2 a3).2 = 0 ∧ (f_h_ifWritten mh a1 a2 a3).1 = (f_r_ifWritten mr a1 a2 a3).1 ∧ P (f_h_ifWritten mh a1 a2 a3).2 (f_r_ifWritten mr a1 a2 a3).2) ∨ (ox_h_ifWritten mh a1 a2 a3 ∧ (fx_h_ifWritten mh a1 a2 a3) = "java/lang/IndexOutOfBoundsException" ∧ f_r_thrown (f_r_ifWritten mr a1 a2 a3).2 = 1 ∧ P mh (f_r_ifWritten mr a1 a2 a3).2) ∨ (ox_h_ifWritten mh a1 a2 a3 ∧ (fx_h_ifWritten mh a1 a2 a3) = "java/lang/IllegalArgumentException" ∧ f_r_thrown (f_r_ifWritten mr a1 a2 a3).2 = 2 ∧ P mh (f_r_ifWritten mr a1 a2 a3).2))

set_option maxHeartbeats 4000000 in
theorem ls_ifWritten {p : Program} {l : Launch} {e : Env} {R : Room} {s : State} {m9 : MethodId} {args : Array Value} {below : List Frame} {meth : Method} {c : Code} {G : gG} {A : Nat → Prop} {Q : State → Prop} {cells slots : Nat} {q : Nat → Nat} {mh mr : gM} {nh nr : gN} (C : xC p s m9 args meth c G A 9 cL_law RL wsL_law) (hRf : 9 ≤ R.frames) (hRl : 240 ≤ R.locals) {b L : Nat} {xs : Nat → Int32} (hb : va_X b L xs s s.heap) (hbl : b < s.heap.size) (hbA : ¬ A b) (hl9 : l.stackTraces = false) (hX : gX A s) (hq : gD A q shLaw.length) {i : Int32} {a1 : Int32} {a2 : Int32} {a3 : Int32} (h1 : vp_in (i + 1) L) (h2 : vp_in (i + 2) L) (h3 : vp_in (i + 3) L) (ha1 : xs (i + 1).toNatClampNeg = a1) (ha2 : xs (i + 2).toNatClampNeg = a2) (ha3 : xs (i + 3).toNatClampNeg = a3) {P : gM → gM → Prop} (hop : op_ifWritten P mh mr a1 a2 a3) (hc : cells + 1 ≤ R.cells) (hs : slots + 6 ≤ R.slots)
    (K : ∀ (q1 : Nat → Nat) (mh1 : gM) (nh1 : gN) (mr1 : gM) (nr1 : gN), P mh1 mr1 → gD A q1 shLaw.length → xJ p l e R s m9 args below meth c G A 9 Q (cells + 1) (slots + 6) shLaw q1 (g_app 133 mh1 mr1) (g_app 133 nh1 nr1) [(0, .ref b), (1, .ref (q1 0)), (2, .ref (q1 133)), (3, .ref (q1 132)), (4, .int i)] [] 1425) :
    xJ p l e R s m9 args below meth c G A 9 Q cells slots shLaw q (g_app 133 mh mr) (g_app 133 nh nr) [(0, .ref b), (1, .ref (q 0)), (2, .ref (q 133)), (3, .ref (q 132)), (4, .int i)] [] 1178 := by
  obtain ⟨hok, hop⟩ := hop
  rcases hop with ⟨ho, hth, he, hP⟩ | ⟨ho, he, hth, hP⟩ | ⟨ho, he, hth, hP⟩
  · exact lw_ifWritten C hRf hRl hb hbl hbA hX hq h1 h2 h3 ha1 ha2 ha3 (cw_ifWritten l G q mh nh a1 a2 a3 ho) hok hth (fun _ => by rw [g_setN_s]; unfold vp_updL; rw [if_pos rfl, he]) hc hs (fun q1 _ _ hq1 => K q1 _ _ _ _ hP hq1)
  · exact lw_ifWritten C hRf hRl hb hbl hbA hX hq h1 h2 h3 ha1 ha2 ha3 (cw_ifWritten_IO l hl9 G q mh nh a1 a2 a3 ho he) hok hth (fun h => absurd h (by decide)) hc hs (fun q1 _ _ hq1 => K q1 _ _ _ _ hP hq1)
  · exact lw_ifWritten C hRf hRl hb hbl hbA hX hq h1 h2 h3 ha1 ha2 ha3 (cw_ifWritten_IA l hl9 G q mh nh a1 a2 a3 ho he) hok hth (fun h => absurd h (by decide)) hc hs (fun q1 _ _ hq1 => K q1 _ _ _ _ hP hq1)

def op_ifRewritten (P : gM → gM → Prop) (mh mr : gM) (a1 : Int32) : Prop := o_r_ifRewritten mr a1 ∧ ((o_h_ifRewritten mh a1 ∧ f_r_thrown (f_r_ifRewritten mr a1).2 = 0 ∧ (f_h_ifRewritten mh a1).1 = (f_r_ifRewritten mr a1).1 ∧ P (f_h_ifRewritten mh a1).2 (f_r_ifRewritten mr a1).2) ∨ (ox_h_ifRewritten mh a1 ∧ (fx_h_ifRewritten mh a1) = "java/lang/IllegalArgumentException" ∧ f_r_thrown (f_r_ifRewritten mr a1).2 = 1 ∧ P mh (f_r_ifRewritten mr a1).2))

set_option maxHeartbeats 4000000 in
theorem ls_ifRewritten {p : Program} {l : Launch} {e : Env} {R : Room} {s : State} {m9 : MethodId} {args : Array Value} {below : List Frame} {meth : Method} {c : Code} {G : gG} {A : Nat → Prop} {Q : State → Prop} {cells slots : Nat} {q : Nat → Nat} {mh mr : gM} {nh nr : gN} (C : xC p s m9 args meth c G A 9 cL_law RL wsL_law) (hRf : 9 ≤ R.frames) (hRl : 240 ≤ R.locals) {b L : Nat} {xs : Nat → Int32} (hb : va_X b L xs s s.heap) (hbl : b < s.heap.size) (hbA : ¬ A b) (hl9 : l.stackTraces = false) (hX : gX A s) (hq : gD A q shLaw.length) {i : Int32} {a1 : Int32} (h1 : vp_in (i + 1) L) (ha1 : xs (i + 1).toNatClampNeg = a1) {P : gM → gM → Prop} (hop : op_ifRewritten P mh mr a1) (hc : cells + 1 ≤ R.cells) (hs : slots + 6 ≤ R.slots)
    (K : ∀ (q1 : Nat → Nat) (mh1 : gM) (nh1 : gN) (mr1 : gM) (nr1 : gN), P mh1 mr1 → gD A q1 shLaw.length → xJ p l e R s m9 args below meth c G A 9 Q (cells + 1) (slots + 6) shLaw q1 (g_app 133 mh1 mr1) (g_app 133 nh1 nr1) [(0, .ref b), (1, .ref (q1 0)), (2, .ref (q1 133)), (3, .ref (q1 132)), (4, .int i)] [] 1425) :
    xJ p l e R s m9 args below meth c G A 9 Q cells slots shLaw q (g_app 133 mh mr) (g_app 133 nh nr) [(0, .ref b), (1, .ref (q 0)), (2, .ref (q 133)), (3, .ref (q 132)), (4, .int i)] [] 1258 := by
  obtain ⟨hok, hop⟩ := hop
  rcases hop with ⟨ho, hth, he, hP⟩ | ⟨ho, he, hth, hP⟩
  · exact lw_ifRewritten C hRf hRl hb hbl hbA hX hq h1 ha1 (cw_ifRewritten l G q mh nh a1 ho) hok hth (fun _ => by rw [g_setN_s]; unfold vp_updL; rw [if_pos rfl, he]) hc hs (fun q1 _ _ hq1 => K q1 _ _ _ _ hP hq1)
  · exact lw_ifRewritten C hRf hRl hb hbl hbA hX hq h1 ha1 (cw_ifRewritten_IA l hl9 G q mh nh a1 ho he) hok hth (fun h => absurd h (by decide)) hc hs (fun q1 _ _ hq1 => K q1 _ _ _ _ hP hq1)

def op_bestRule (P : gM → gM → Prop) (mh mr : gM) (a1 : Int32) : Prop := o_r_bestRule mr a1 ∧ ((o_h_bestRule mh a1 ∧ f_r_thrown (f_r_bestRule mr a1).2 = 0 ∧ (f_h_bestRule mh a1).1 = (f_r_bestRule mr a1).1 ∧ P (f_h_bestRule mh a1).2 (f_r_bestRule mr a1).2) ∨ (ox_h_bestRule mh a1 ∧ (fx_h_bestRule mh a1) = "java/lang/IllegalArgumentException" ∧ f_r_thrown (f_r_bestRule mr a1).2 = 1 ∧ P mh (f_r_bestRule mr a1).2))

set_option maxHeartbeats 4000000 in
theorem ls_bestRule {p : Program} {l : Launch} {e : Env} {R : Room} {s : State} {m9 : MethodId} {args : Array Value} {below : List Frame} {meth : Method} {c : Code} {G : gG} {A : Nat → Prop} {Q : State → Prop} {cells slots : Nat} {q : Nat → Nat} {mh mr : gM} {nh nr : gN} (C : xC p s m9 args meth c G A 9 cL_law RL wsL_law) (hRf : 9 ≤ R.frames) (hRl : 240 ≤ R.locals) {b L : Nat} {xs : Nat → Int32} (hb : va_X b L xs s s.heap) (hbl : b < s.heap.size) (hbA : ¬ A b) (hl9 : l.stackTraces = false) (hX : gX A s) (hq : gD A q shLaw.length) {i : Int32} {a1 : Int32} (h1 : vp_in (i + 1) L) (ha1 : xs (i + 1).toNatClampNeg = a1) {P : gM → gM → Prop} (hop : op_bestRule P mh mr a1) (hc : cells + 1 ≤ R.cells) (hs : slots + 6 ≤ R.slots)
    (K : ∀ (q1 : Nat → Nat) (mh1 : gM) (nh1 : gN) (mr1 : gM) (nr1 : gN), P mh1 mr1 → gD A q1 shLaw.length → xJ p l e R s m9 args below meth c G A 9 Q (cells + 1) (slots + 6) shLaw q1 (g_app 133 mh1 mr1) (g_app 133 nh1 nr1) [(0, .ref b), (1, .ref (q1 0)), (2, .ref (q1 133)), (3, .ref (q1 132)), (4, .int i)] [] 1425) :
    xJ p l e R s m9 args below meth c G A 9 Q cells slots shLaw q (g_app 133 mh mr) (g_app 133 nh nr) [(0, .ref b), (1, .ref (q 0)), (2, .ref (q 133)), (3, .ref (q 132)), (4, .int i)] [] 1314 := by
  obtain ⟨hok, hop⟩ := hop
  rcases hop with ⟨ho, hth, he, hP⟩ | ⟨ho, he, hth, hP⟩
  · exact lw_bestRule C hRf hRl hb hbl hbA hX hq h1 ha1 (cw_bestRule l G q mh nh a1 ho) hok hth (fun _ => by rw [g_setN_s]; unfold vp_updL; rw [if_pos rfl, he]) hc hs (fun q1 _ _ hq1 => K q1 _ _ _ _ hP hq1)
  · exact lw_bestRule C hRf hRl hb hbl hbA hX hq h1 ha1 (cw_bestRule_IA l hl9 G q mh nh a1 ho he) hok hth (fun h => absurd h (by decide)) hc hs (fun q1 _ _ hq1 => K q1 _ _ _ _ hP hq1)

def op_amplification (P : gM → gM → Prop) (mh mr : gM) : Prop := o_h_amplification mh ∧ o_r_amplification mr ∧ Op.cmpValue (FP.dcmp (f_h_amplification mh) (f_r_amplification mr).1) .l = 0 ∧ P mh (f_r_amplification mr).2

set_option maxHeartbeats 4000000 in
theorem ls_amplification {p : Program} {l : Launch} {e : Env} {R : Room} {s : State} {m9 : MethodId} {args : Array Value} {below : List Frame} {meth : Method} {c : Code} {G : gG} {A : Nat → Prop} {Q : State → Prop} {cells slots : Nat} {q : Nat → Nat} {mh mr : gM} {nh nr : gN} (C : xC p s m9 args meth c G A 9 cL_law RL wsL_law) (hRf : 9 ≤ R.frames) (hRl : 240 ≤ R.locals) {b L : Nat} {xs : Nat → Int32} (hb : va_X b L xs s s.heap) (hbl : b < s.heap.size) (hbA : ¬ A b) (hl9 : l.stackTraces = false) (hX : gX A s) (hq : gD A q shLaw.length) {i : Int32} {P : gM → gM → Prop} (hop : op_amplification P mh mr) (hc : cells + 1 ≤ R.cells) (hs : slots + 6 ≤ R.slots)
    (K : ∀ (q1 : Nat → Nat) (mh1 : gM) (nh1 : gN) (mr1 : gM) (nr1 : gN), P mh1 mr1 → gD A q1 shLaw.length → xJ p l e R s m9 args below meth c G A 9 Q (cells + 1) (slots + 6) shLaw q1 (g_app 133 mh1 mr1) (g_app 133 nh1 nr1) [(0, .ref b), (1, .ref (q1 0)), (2, .ref (q1 133)), (3, .ref (q1 132)), (4, .int i)] [] 1425) :
    xJ p l e R s m9 args below meth c G A 9 Q cells slots shLaw q (g_app 133 mh mr) (g_app 133 nh nr) [(0, .ref b), (1, .ref (q 0)), (2, .ref (q 133)), (3, .ref (q 132)), (4, .int i)] [] 1370 := by
  obtain ⟨h1, h2, he, hP⟩ := hop
  exact lw_amplification C hRf hRl hq h1 h2 he (Nat.le_of_succ_le hc) (Nat.le_trans (Nat.le_add_right _ _) hs) (x_wid (Nat.le_succ _) (Nat.le_add_right _ _) (K q _ _ _ _ hP hq))

def op_digest (P : gM → gM → Prop) (mh mr : gM) : Prop := o_h_digest mh ∧ ∀ nr : gN, o_r_digest mr nr ∧ (f_h_digest mh).1 = (f_r_digest mr nr).1 ∧ P (f_h_digest mh).2 (f_r_digest mr nr).2.1

set_option maxHeartbeats 4000000 in
theorem ls_digest {p : Program} {l : Launch} {e : Env} {R : Room} {s : State} {m9 : MethodId} {args : Array Value} {below : List Frame} {meth : Method} {c : Code} {G : gG} {A : Nat → Prop} {Q : State → Prop} {cells slots : Nat} {q : Nat → Nat} {mh mr : gM} {nh nr : gN} (C : xC p s m9 args meth c G A 9 cL_law RL wsL_law) (hRf : 9 ≤ R.frames) (hRl : 240 ≤ R.locals) {b L : Nat} {xs : Nat → Int32} (hb : va_X b L xs s s.heap) (hbl : b < s.heap.size) (hbA : ¬ A b) (hl9 : l.stackTraces = false) (hX : gX A s) (hq : gD A q shLaw.length) {i : Int32} {P : gM → gM → Prop} (hop : op_digest P mh mr) (hc : cells + 1 ≤ R.cells) (hs : slots + 6 ≤ R.slots)
    (K : ∀ (q1 : Nat → Nat) (mh1 : gM) (nh1 : gN) (mr1 : gM) (nr1 : gN), P mh1 mr1 → gD A q1 shLaw.length → xJ p l e R s m9 args below meth c G A 9 Q (cells + 1) (slots + 6) shLaw q1 (g_app 133 mh1 mr1) (g_app 133 nh1 nr1) [(0, .ref b), (1, .ref (q1 0)), (2, .ref (q1 133)), (3, .ref (q1 132)), (4, .int i)] [] 1425) :
    xJ p l e R s m9 args below meth c G A 9 Q cells slots shLaw q (g_app 133 mh mr) (g_app 133 nh nr) [(0, .ref b), (1, .ref (q 0)), (2, .ref (q 133)), (3, .ref (q 132)), (4, .int i)] [] 1411 := by
  obtain ⟨h1, h2⟩ := hop
  obtain ⟨h2, he, hP⟩ := h2 nr
  exact lw_digest C hRf hRl hq h1 h2 he (Nat.le_of_succ_le hc) (Nat.le_trans (Nat.le_add_right _ _) hs) (x_wid (Nat.le_succ _) (Nat.le_add_right _ _) (K q _ _ _ _ hP hq))
def oq_write (P : gM → gM → Prop) (mh mr : gM) : Prop := (∀ a1 a2 : Int32, op_write P mh mr a1 a2)
def oq_writeRow (P : gM → gM → Prop) (mh mr : gM) : Prop := (∀ a1 a2 a3 : Int32, op_writeRow P mh mr a1 a2 a3)
def oq_trim (P : gM → gM → Prop) (mh mr : gM) : Prop := (∀ a1 : Int32, op_trim P mh mr a1)
def oq_hint (P : gM → gM → Prop) (mh mr : gM) : Prop := (∀ a1 a2 : Int32, op_hint P mh mr a1 a2)
def oq_collect (P : gM → gM → Prop) (mh mr : gM) : Prop := (∀ a1 : Int32, op_collect P mh mr a1)
def oq_tidy (P : gM → gM → Prop) (mh mr : gM) : Prop := (∀ a1 : Int32, op_tidy P mh mr a1)
def oq_set (P : gM → gM → Prop) (mh mr : gM) : Prop := (∀ a1 a2 : Int32, op_set P mh mr a1 a2)
def oq_append (P : gM → gM → Prop) (mh mr : gM) : Prop := (∀ a1 : Int32, op_append P mh mr a1)
def oq_clearBuffer (P : gM → gM → Prop) (mh mr : gM) : Prop := op_clearBuffer P mh mr
def oq_firstError (P : gM → gM → Prop) (mh mr : gM) : Prop := op_firstError P mh mr
def oq_writeAll (P : gM → gM → Prop) (mh mr : gM) : Prop := op_writeAll P mh mr
def oq_undo (P : gM → gM → Prop) (mh mr : gM) : Prop := op_undo P mh mr
def oq_page (P : gM → gM → Prop) (mh mr : gM) : Prop := (∀ a1 a2 : Int32, op_page P mh mr a1 a2)
def oq_block (P : gM → gM → Prop) (mh mr : gM) : Prop := (∀ a1 a2 : Int32, op_block P mh mr a1 a2)
def oq_slot (P : gM → gM → Prop) (mh mr : gM) : Prop := (∀ a1 a2 a3 : Int32, a3 = 0 ∨ a3 = 1 → op_slot P mh mr a1 a2 a3)
def oq_stream (P : gM → gM → Prop) (mh mr : gM) : Prop := (∀ a1 a2 : Int32, op_stream P mh mr a1 a2)
def oq_count (P : gM → gM → Prop) (mh mr : gM) : Prop := (∀ a1 : Int32, op_count P mh mr a1)
def oq_setting (P : gM → gM → Prop) (mh mr : gM) : Prop := (∀ a1 : Int32, op_setting P mh mr a1)
def oq_ifWritten (P : gM → gM → Prop) (mh mr : gM) : Prop := (∀ a1 a2 a3 : Int32, op_ifWritten P mh mr a1 a2 a3)
def oq_ifRewritten (P : gM → gM → Prop) (mh mr : gM) : Prop := (∀ a1 : Int32, op_ifRewritten P mh mr a1)
def oq_bestRule (P : gM → gM → Prop) (mh mr : gM) : Prop := (∀ a1 : Int32, op_bestRule P mh mr a1)
def oq_amplification (P : gM → gM → Prop) (mh mr : gM) : Prop := op_amplification P mh mr
def oq_digest (P : gM → gM → Prop) (mh mr : gM) : Prop := op_digest P mh mr
/-- every call of the law from these two pictures answers alike and leads on -/
def ops_all (P : gM → gM → Prop) (mh mr : gM) : Prop := P mh mr ∧ oq_write P mh mr ∧ oq_writeRow P mh mr ∧ oq_trim P mh mr ∧ oq_hint P mh mr ∧ oq_collect P mh mr ∧ oq_tidy P mh mr ∧ oq_set P mh mr ∧ oq_append P mh mr ∧ oq_clearBuffer P mh mr ∧ oq_firstError P mh mr ∧ oq_writeAll P mh mr ∧ oq_undo P mh mr ∧ oq_page P mh mr ∧ oq_block P mh mr ∧ oq_slot P mh mr ∧ oq_stream P mh mr ∧ oq_count P mh mr ∧ oq_setting P mh mr ∧ oq_ifWritten P mh mr ∧ oq_ifRewritten P mh mr ∧ oq_bestRule P mh mr ∧ oq_amplification P mh mr ∧ oq_digest P mh mr
theorem pick01_or (x : Int32) : (if x = 0 then (0 : Int32) else 1) = 0 ∨ (if x = 0 then (0 : Int32) else 1) = 1 := by
  by_cases h : x = 0
  · left; rw [if_pos h]
  · right; rw [if_neg h]
theorem and31 (x : Int32) : ∃ n : Nat, n < 32 ∧ x &&& 31 = Int32.ofNat n := by
  refine ⟨(x &&& 31).toBitVec.toNat, ?_, ?_⟩
  · show (x.toBitVec &&& (31 : Int32).toBitVec).toNat < 32
    rw [BitVec.toNat_and]
    exact Nat.lt_of_le_of_lt Nat.and_le_right (by decide)
  · apply Int32.toBitVec_inj.mp
    show (x &&& 31).toBitVec = BitVec.ofNat 32 _
    rw [BitVec.ofNat_toNat, BitVec.setWidth_eq]
theorem nI_at {n N : Nat} (h : n < N) (hN : N ≤ 2048) : vp_in (Int32.ofNat n) N ∧ (Int32.ofNat n).toNatClampNeg = n := ⟨vp_in_nI h (by omega), Int32.toNatClampNeg_ofNat_of_lt (by omega)⟩
theorem nI_plus (n k : Nat) : Int32.ofNat n + Int32.ofNat k = Int32.ofNat (n + k) := (Int32.ofNat_add n k).symm
theorem head_lt {n L : Nat} (hL : L ≤ 2048) (hn : n ≤ 2048) : (Int32.ofNat L - 4 < Int32.ofNat n) ↔ L < n + 4 := by
  rw [Int32.lt_iff_toInt_lt]
  have h1 : (Int32.ofNat L - 4).toInt = (L : Int) - 4 := by
    have e : Int32.ofNat L - 4 = Int32.ofInt ((L : Int) - 4) := by
      rw [Int32.ofInt_sub]; rfl
    rw [e, Int32.toInt_ofInt_of_le (by omega) (by omega)]
  have h2 : (Int32.ofNat n).toInt = (n : Int) := Int32.toInt_ofNat_of_lt (by omega)
  rw [h1, h2]
  omega
set_option maxHeartbeats 4000000 in
set_option maxRecDepth 20000 in
theorem law_turn {p : Program} {l : Launch} {e : Env} {R : Room} {s : State} {m9 : MethodId} {args : Array Value} {below : List Frame} {meth : Method} {c : Code} {G : gG} {A : Nat → Prop} {Q : State → Prop} (C : xC p s m9 args meth c G A 9 cL_law RL wsL_law) (hRf : 9 ≤ R.frames) (hRl : 240 ≤ R.locals) {b L : Nat} {xs : Nat → Int32} (hb : va_X b L xs s s.heap) (hbl : b < s.heap.size) (hbA : ¬ A b) (hl9 : l.stackTraces = false) (hX : gX A s) (hL : L ≤ 2048) {cells slots n : Nat} (hn : 4 * n + 4 ≤ L) {q : Nat → Nat} {mh mr : gM} {nh nr : gN} (hq : gD A q shLaw.length) {P : gM → gM → Prop} (hall : ops_all P mh mr) (hc : cells + 1 ≤ R.cells) (hs : slots + 6 ≤ R.slots)
    (K : ∀ (q1 : Nat → Nat) (mh1 : gM) (nh1 : gN) (mr1 : gM) (nr1 : gN), P mh1 mr1 → gD A q1 shLaw.length → xJ p l e R s m9 args below meth c G A 9 Q (cells + 1) (slots + 6) shLaw q1 (g_app 133 mh1 mr1) (g_app 133 nh1 nr1) [(0, .ref b), (1, .ref (q1 0)), (2, .ref (q1 133)), (3, .ref (q1 132)), (4, .int (Int32.ofNat (4 * n)))] [] 1425) :
    xJ p l e R s m9 args below meth c G A 9 Q cells slots shLaw q (g_app 133 mh mr) (g_app 133 nh nr) [(0, .ref b), (1, .ref (q 0)), (2, .ref (q 133)), (3, .ref (q 132)), (4, .int (Int32.ofNat (4 * n)))] [.int (xs (4 * n) &&& 31)] 39 := by
  obtain ⟨v, hv, ev⟩ := and31 (xs (4 * n))
  have i1 : vp_in (Int32.ofNat (4 * n) + 1) L ∧ (Int32.ofNat (4 * n) + 1).toNatClampNeg = 4 * n + 1 := by
    rw [show (1 : Int32) = Int32.ofNat 1 from rfl, nI_plus]; exact nI_at (by omega) hL
  have i2 : vp_in (Int32.ofNat (4 * n) + 2) L ∧ (Int32.ofNat (4 * n) + 2).toNatClampNeg = 4 * n + 2 := by
    rw [show (2 : Int32) = Int32.ofNat 2 from rfl, nI_plus]; exact nI_at (by omega) hL
  have i3 : vp_in (Int32.ofNat (4 * n) + 3) L ∧ (Int32.ofNat (4 * n) + 3).toNatClampNeg = 4 * n + 3 := by
    rw [show (3 : Int32) = Int32.ofNat 3 from rfl, nI_plus]; exact nI_at (by omega) hL
  obtain ⟨hP, o0, o1, o2, o3, o4, o5, o6, o7, o8, o9, o10, o11, o12, o13, o14, o15, o16, o17, o18, o19, o20, o21, o22⟩ := hall
  have out : ∀ j : Nat, 23 ≤ j → j < 32 → xs (4 * n) &&& 31 = Int32.ofNat j → xJ p l e R s m9 args below meth c G A 9 Q cells slots shLaw q (g_app 133 mh mr) (g_app 133 nh nr) [(0, .ref b), (1, .ref (q 0)), (2, .ref (q 133)), (3, .ref (q 132)), (4, .int (Int32.ofNat (4 * n)))] [.int (xs (4 * n) &&& 31)] 39 := fun j h1 h2 e => by
    refine x_tout (tgt := 1425) C dL_law_39 (Or.inr ?_) (by decide) (x_wid (Nat.le_succ _) (Nat.le_add_right _ _) (K q _ _ _ _ hP hq))
    rw [e, Int32.toInt_ofNat_of_lt (by omega)]; omega
  match v, hv, ev with
  | 0, _, e => exact x_tin (v := Int32.ofNat 0) (off := 105) (tgt := 144) C dL_law_39 e (by decide) (by decide) rfl (by decide) (ls_write C hRf hRl hb hbl hbA hl9 hX hq i1.1 i2.1 rfl rfl (o0 _ _) hc hs K)
  | 1, _, e => exact x_tin (v := Int32.ofNat 1) (off := 173) (tgt := 212) C dL_law_39 e (by decide) (by decide) rfl (by decide) (ls_writeRow C hRf hRl hb hbl hbA hl9 hX hq i1.1 i2.1 i3.1 rfl rfl rfl (o1 _ _ _) hc hs K)
  | 2, _, e => exact x_tin (v := Int32.ofNat 2) (off := 253) (tgt := 292) C dL_law_39 e (by decide) (by decide) rfl (by decide) (ls_trim C hRf hRl hb hbl hbA hl9 hX hq i1.1 rfl (o2 _) hc hs K)
  | 3, _, e => exact x_tin (v := Int32.ofNat 3) (off := 309) (tgt := 348) C dL_law_39 e (by decide) (by decide) rfl (by decide) (ls_hint C hRf hRl hb hbl hbA hl9 hX hq i1.1 i2.1 rfl rfl (o3 _ _) hc hs K)
  | 4, _, e => exact x_tin (v := Int32.ofNat 4) (off := 377) (tgt := 416) C dL_law_39 e (by decide) (by decide) rfl (by decide) (ls_collect C hRf hRl hb hbl hbA hl9 hX hq i1.1 rfl (o4 _) hc hs K)
  | 5, _, e => exact x_tin (v := Int32.ofNat 5) (off := 433) (tgt := 472) C dL_law_39 e (by decide) (by decide) rfl (by decide) (ls_tidy C hRf hRl hb hbl hbA hl9 hX hq i1.1 rfl (o5 _) hc hs K)
  | 6, _, e => exact x_tin (v := Int32.ofNat 6) (off := 489) (tgt := 528) C dL_law_39 e (by decide) (by decide) rfl (by decide) (ls_set C hRf hRl hb hbl hbA hl9 hX hq i1.1 i2.1 rfl rfl (o6 _ _) hc hs K)
  | 7, _, e => exact x_tin (v := Int32.ofNat 7) (off := 557) (tgt := 596) C dL_law_39 e (by decide) (by decide) rfl (by decide) (ls_append C hRf hRl hb hbl hbA hl9 hX hq i1.1 rfl (o7 _) hc hs K)
  | 8, _, e => exact x_tin (v := Int32.ofNat 8) (off := 613) (tgt := 652) C dL_law_39 e (by decide) (by decide) rfl (by decide) (ls_clearBuffer C hRf hRl hb hbl hbA hl9 hX hq o8 hc hs K)
  | 9, _, e => exact x_tin (v := Int32.ofNat 9) (off := 626) (tgt := 665) C dL_law_39 e (by decide) (by decide) rfl (by decide) (ls_firstError C hRf hRl hb hbl hbA hl9 hX hq o9 hc hs K)
  | 10, _, e => exact x_tin (v := Int32.ofNat 10) (off := 639) (tgt := 678) C dL_law_39 e (by decide) (by decide) rfl (by decide) (ls_writeAll C hRf hRl hb hbl hbA hl9 hX hq o10 hc hs K)
  | 11, _, e => exact x_tin (v := Int32.ofNat 11) (off := 683) (tgt := 722) C dL_law_39 e (by decide) (by decide) rfl (by decide) (ls_undo C hRf hRl hb hbl hbA hl9 hX hq o11 hc hs K)
  | 12, _, e => exact x_tin (v := Int32.ofNat 12) (off := 727) (tgt := 766) C dL_law_39 e (by decide) (by decide) rfl (by decide) (ls_page C hRf hRl hb hbl hbA hl9 hX hq i1.1 i2.1 rfl rfl (o12 _ _) hc hs K)
  | 13, _, e => exact x_tin (v := Int32.ofNat 13) (off := 795) (tgt := 834) C dL_law_39 e (by decide) (by decide) rfl (by decide) (ls_block C hRf hRl hb hbl hbA hl9 hX hq i1.1 i2.1 rfl rfl (o13 _ _) hc hs K)
  | 14, _, e => exact x_tin (v := Int32.ofNat 14) (off := 863) (tgt := 902) C dL_law_39 e (by decide) (by decide) rfl (by decide) (ls_slot C hRf hRl hb hbl hbA hl9 hX hq i1.1 i2.1 i3.1 rfl rfl rfl (o14 _ _ _ (pick01_or _)) hc hs K)
  | 15, _, e => exact x_tin (v := Int32.ofNat 15) (off := 959) (tgt := 998) C dL_law_39 e (by decide) (by decide) rfl (by decide) (ls_stream C hRf hRl hb hbl hbA hl9 hX hq i1.1 i2.1 rfl rfl (o15 _ _) hc hs K)
  | 16, _, e => exact x_tin (v := Int32.ofNat 16) (off := 1027) (tgt := 1066) C dL_law_39 e (by decide) (by decide) rfl (by decide) (ls_count C hRf hRl hb hbl hbA hl9 hX hq i1.1 rfl (o16 _) hc hs K)
  | 17, _, e => exact x_tin (v := Int32.ofNat 17) (off := 1083) (tgt := 1122) C dL_law_39 e (by decide) (by decide) rfl (by decide) (ls_setting C hRf hRl hb hbl hbA hl9 hX hq i1.1 rfl (o17 _) hc hs K)
  | 18, _, e => exact x_tin (v := Int32.ofNat 18) (off := 1139) (tgt := 1178) C dL_law_39 e (by decide) (by decide) rfl (by decide) (ls_ifWritten C hRf hRl hb hbl hbA hl9 hX hq i1.1 i2.1 i3.1 rfl rfl rfl (o18 _ _ _) hc hs K)
  | 19, _, e => exact x_tin (v := Int32.ofNat 19) (off := 1219) (tgt := 1258) C dL_law_39 e (by decide) (by decide) rfl (by decide) (ls_ifRewritten C hRf hRl hb hbl hbA hl9 hX hq i1.1 rfl (o19 _) hc hs K)
  | 20, _, e => exact x_tin (v := Int32.ofNat 20) (off := 1275) (tgt := 1314) C dL_law_39 e (by decide) (by decide) rfl (by decide) (ls_bestRule C hRf hRl hb hbl hbA hl9 hX hq i1.1 rfl (o20 _) hc hs K)
  | 21, _, e => exact x_tin (v := Int32.ofNat 21) (off := 1331) (tgt := 1370) C dL_law_39 e (by decide) (by decide) rfl (by decide) (ls_amplification C hRf hRl hb hbl hbA hl9 hX hq o21 hc hs K)
  | 22, _, e => exact x_tin (v := Int32.ofNat 22) (off := 1372) (tgt := 1411) C dL_law_39 e (by decide) (by decide) rfl (by decide) (ls_digest C hRf hRl hb hbl hbA hl9 hX hq o22 hc hs K)
  | j + 23, h, e => exact out (j + 23) (by omega) h e
set_option maxHeartbeats 4000000 in
set_option maxRecDepth 20000 in
theorem law_loop {p : Program} {l : Launch} {e : Env} {R : Room} {s : State} {m9 : MethodId} {args : Array Value} {below : List Frame} {meth : Method} {c : Code} {G : gG} {A : Nat → Prop} {Q : State → Prop} (C : xC p s m9 args meth c G A 9 cL_law RL wsL_law) (hRf : 9 ≤ R.frames) (hRl : 240 ≤ R.locals) {b L : Nat} {xs : Nat → Int32} (hb : va_X b L xs s s.heap) (hbl : b < s.heap.size) (hbA : ¬ A b) (hl9 : l.stackTraces = false) (hX : gX A s) (hL : L ≤ 2048) {Rl : Nat → gM → gM → Prop} (ops : ∀ n mh mr, n < 512 → Rl n mh mr → ops_all (Rl (n + 1)) mh mr) (hRc : 651 ≤ R.cells) (hRs : 9350 ≤ R.slots)
    (fin : ∀ (cells slots : Nat) (q1 : Nat → Nat) (mh1 : gM) (nh1 : gN) (mr1 : gM) (nr1 : gN) (i : Int32), cells ≤ 651 → slots ≤ 9350 → xJ p l e R s m9 args below meth c G A 9 Q cells slots shLaw q1 (g_app 133 mh1 mr1) (g_app 133 nh1 nr1) [(0, .ref b), (1, .ref (q1 0)), (2, .ref (q1 133)), (3, .ref (q1 132)), (4, .int i)] [] 1431) :
    ∀ (k n : Nat), n + k = 512 → ∀ (q : Nat → Nat) (mh : gM) (nh : gN) (mr : gM) (nr : gN), Rl n mh mr → gD A q shLaw.length → 4 * n ≤ L → xJ p l e R s m9 args below meth c G A 9 Q (139 + n) (6278 + 6 * n) shLaw q (g_app 133 mh mr) (g_app 133 nh nr) [(0, .ref b), (1, .ref (q 0)), (2, .ref (q 133)), (3, .ref (q 132)), (4, .int (Int32.ofNat (4 * n)))] [] 23 := by
  have hd : ∀ n : Nat, ∀ (q : Nat → Nat) (mh : gM) (nh : gN) (mr : gM) (nr : gN), 4 * n ≤ L → n ≤ 512 → (L < 4 * n + 4 → xJ p l e R s m9 args below meth c G A 9 Q (139 + n) (6278 + 6 * n) shLaw q (g_app 133 mh mr) (g_app 133 nh nr) [(0, .ref b), (1, .ref (q 0)), (2, .ref (q 133)), (3, .ref (q 132)), (4, .int (Int32.ofNat (4 * n)))] [] 1431) → (4 * n + 4 ≤ L → xJ p l e R s m9 args below meth c G A 9 Q (139 + n) (6278 + 6 * n) shLaw q (g_app 133 mh mr) (g_app 133 nh nr) [(0, .ref b), (1, .ref (q 0)), (2, .ref (q 133)), (3, .ref (q 132)), (4, .int (Int32.ofNat (4 * n)))] [.int (xs (4 * n) &&& 31)] 39) → xJ p l e R s m9 args below meth c G A 9 Q (139 + n) (6278 + 6 * n) shLaw q (g_app 133 mh mr) (g_app 133 nh nr) [(0, .ref b), (1, .ref (q 0)), (2, .ref (q 133)), (3, .ref (q 132)), (4, .int (Int32.ofNat (4 * n)))] [] 23 := by
    intro n q mh nh mr nr h1 h2 ka kb
    refine x_iload C dL_law_23 4 rfl ?_
    refine x_aload_n C dL_law_25 rfl 0 rfl ?_
    refine x_slen C hb hbl hbA dL_law_26 ?_
    refine x_iconst (v := (4 : Int32)) C dL_law_27 (by decide) ?_
    refine x_isub C dL_law_28 ?_
    refine x_icmp_gt (tgt := 1431) C dL_law_29 (by decide) (fun h => ka ((head_lt hL (by omega)).mp h)) (fun h => ?_)
    have hn : 4 * n + 4 ≤ L := by
      refine Nat.not_lt.mp fun h9 => h ((head_lt hL (by omega)).mpr h9)
    obtain ⟨j1, j2⟩ := nI_at (n := 4 * n) (N := L) (by omega) hL
    refine x_aload_n C dL_law_32 rfl 0 rfl ?_
    refine x_iload C dL_law_33 4 rfl ?_
    refine x_sld (v := xs (4 * n)) C hb hbl hbA j1 (by rw [j2]) dL_law_35 ?_
    refine x_bipush (v := (31 : Int32)) C dL_law_36 (by decide) ?_
    refine x_iand C dL_law_38 ?_
    exact kb hn
  intro k
  induction k with
  | zero =>
    intro n hnk q mh nh mr nr hR hq h4
    refine hd n q mh nh mr nr h4 (by omega) (fun _ => fin _ _ q mh nh mr nr _ (by omega) (by omega)) (fun h => ?_)
    omega
  | succ k ih =>
    intro n hnk q mh nh mr nr hR hq h4
    refine hd n q mh nh mr nr h4 (by omega) (fun _ => fin _ _ q mh nh mr nr _ (by omega) (by omega)) (fun hn => ?_)
    refine law_turn C hRf hRl hb hbl hbA hl9 hX hL hn hq (ops n mh mr (by omega) hR) (by omega) (by omega) (fun q1 mh1 nh1 mr1 nr1 hP hq1 => ?_)
    refine x_iinc (lv' := [(0, .ref b), (1, .ref (q1 0)), (2, .ref (q1 133)), (3, .ref (q1 132)), (4, .int (Int32.ofNat (4 * (n + 1))))]) C dL_law_1425 4 rfl (by rw [show Int32.ofInt 4 = Int32.ofNat 4 from rfl, nI_plus, show 4 * n + 4 = 4 * (n + 1) from by omega]) (by decide) [1, 2, 3, 4, 0] rfl ?_
    refine x_goto (tgt := 23) C dL_law_1428 (by decide) ?_
    have h9 := ih (n + 1) (by omega) q1 mh1 nh1 mr1 nr1 hP hq1 (by omega)
    rw [show 139 + (n + 1) = 139 + n + 1 from by omega, show 6278 + 6 * (n + 1) = 6278 + 6 * n + 6 from by omega] at h9
    exact h9
