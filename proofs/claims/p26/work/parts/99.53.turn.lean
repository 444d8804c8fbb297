/-! the law's own walk -/
def shL : List gC := shH ++ [.inr (.inr (.inr 64))]
theorem len_shL : shL.length = 133 := by unfold shL; rw [List.length_append, len_shH]; rfl
set_option maxRecDepth 20000 in
theorem shL_132 : shL[132]? = some (.inr (.inr (.inr 64))) := rfl
theorem h4H : 4 ≤ shH.length := by rw [len_shH]; omega
theorem rm1c : room_1.cells = 600130 := rfl
theorem rm1s : room_1.slots = 7301080 := rfl
theorem sub40 {pg : Nat} (h : pg < 40) : (40 : Int32) - Int32.ofNat pg = Int32.ofNat (40 - pg) := by
  rw [show (40 : Int32) = Int32.ofNat ((40 - pg) + pg) by rw [show (40 - pg) + pg = 40 by omega]; rfl, subNN]
theorem add1j (j : Nat) : (1 : Int32) + Int32.ofNat j = Int32.ofNat (1 + j) := nI_plus2 1 j
section ACT
variable {c p h k b i : Nat} {x : Int32} {m : gM} {r : Nat → Int32} {rs : List (Nat → Int32)}
theorem actW (hR : Rq c m r rs) (hp : p < 40) (hh : h < 4) (hc : c + 97 * 40 < 100000000) : o_h_write m (Int32.ofNat p) (Int32.ofNat h) ∧ (∃ x, x ≤ 100000 ∧ (f_h_write m (Int32.ofNat p) (Int32.ofNat h)).1 = Int32.ofNat x) ∧ Rq (c + 97) (f_h_write m (Int32.ofNat p) (Int32.ofNat h)).2 (wrow h r p 1) (pus rs r) ∧ ∀ f, f ≠ 3 → (f_h_write m (Int32.ofNat p) (Int32.ofNat h)).2 0 f = m 0 f := by
  obtain ⟨a1, ⟨x, a2, a3, -⟩, a4, a5⟩ := writeQ hR hp hh hc
  exact ⟨a1, ⟨x, by omega, a3⟩, a4, a5⟩
theorem actR (hR : Rq c m r rs) (hk1 : 1 ≤ k) (hpk : p + k ≤ 40) (hh : h < 4) (hc : c + 97 * 40 < 100000000) : o_h_writeRow m (Int32.ofNat p) (Int32.ofNat k) (Int32.ofNat h) ∧ (∃ x, x ≤ 100000 ∧ (f_h_writeRow m (Int32.ofNat p) (Int32.ofNat k) (Int32.ofNat h)).1 = Int32.ofNat x) ∧ Rq (c + 3880) (f_h_writeRow m (Int32.ofNat p) (Int32.ofNat k) (Int32.ofNat h)).2 (wrow h r p k) (pus rs r) ∧ ∀ f, f ≠ 3 → (f_h_writeRow m (Int32.ofNat p) (Int32.ofNat k) (Int32.ofNat h)).2 0 f = m 0 f := by
  obtain ⟨a1, ⟨x, a2, a3, -⟩, a4, a5⟩ := writeRowQ hR hk1 hpk hh hc
  exact ⟨a1, ⟨x, by omega, a3⟩, Rq_up a4 (by omega), a5⟩
theorem actH (hR : Rq c m r rs) (hp : p < 40) (hh : h < 4) (hz : ¬ (r (144 + 5 * p) = -1)) : o_h_hint m (Int32.ofNat p) (Int32.ofNat h) ∧ (∃ x, x ≤ 100000 ∧ (f_h_hint m (Int32.ofNat p) (Int32.ofNat h)).1 = Int32.ofNat x) ∧ Rq c (f_h_hint m (Int32.ofNat p) (Int32.ofNat h)).2 (hrow r p h) (pus rs r) ∧ ∀ f, f ≠ 3 → (f_h_hint m (Int32.ofNat p) (Int32.ofNat h)).2 0 f = m 0 f := by
  obtain ⟨a1, a2, ⟨x, a3, e⟩, a4, a5⟩ := hintQ hR hp hh hz
  exact ⟨a1, ⟨x, by omega, a2.trans e⟩, a4, a5⟩
theorem actC (hR : Rq c m r rs) (hb : b < 12) (hz : r (96 + b) = 2) (hc : c + 97 * 40 < 100000000) : o_h_collect m (Int32.ofNat b) ∧ (∃ x, x ≤ 100000 ∧ (f_h_collect m (Int32.ofNat b)).1 = Int32.ofNat x) ∧ Rq (c + 97) (f_h_collect m (Int32.ofNat b)).2 ((f_r_collects (m0 r) (Int32.ofNat b)).2 0) (pus rs r) ∧ ∀ f, f ≠ 3 → (f_h_collect m (Int32.ofNat b)).2 0 f = m 0 f := by
  obtain ⟨a1, ⟨x, a2, a3, -⟩, a4, a5⟩ := collectQ hR hb hz hc
  exact ⟨a1, ⟨x, by omega, a3⟩, a4, a5⟩
theorem actT (hR : Rq c m r rs) (hk1 : 1 ≤ k) (hk2 : k ≤ 12) (hc : c + 97 * 40 < 100000000) : o_h_tidy m (Int32.ofNat k) ∧ (∃ x, x ≤ 100000 ∧ (f_h_tidy m (Int32.ofNat k)).1 = Int32.ofNat x) ∧ Rq (c + 97) (f_h_tidy m (Int32.ofNat k)).2 ((f_r_frees (m0 r) (Int32.ofNat k)).2 0) (pus rs r) ∧ ∀ f, f ≠ 3 → (f_h_tidy m (Int32.ofNat k)).2 0 f = m 0 f := by
  obtain ⟨a1, ⟨x, a2, a3, -⟩, a4, a5⟩ := tidyQ hR hk1 hk2 hc
  exact ⟨a1, ⟨x, by omega, a3⟩, a4, a5⟩
theorem actS (hR : Rq c m r rs) (hi : (i = 0 ∧ (x = 0 ∨ x = 1 ∨ x = 2)) ∨ (i = 1 ∧ (x = 2 ∨ x = 3 ∨ x = 4))) : o_h_set m (Int32.ofNat i) x ∧ (∃ x', x' ≤ 100000 ∧ (f_h_set m (Int32.ofNat i) x).1 = Int32.ofNat x') ∧ Rq c (f_h_set m (Int32.ofNat i) x).2 (srow r i x) (pus rs r) ∧ ∀ f, f ≠ 3 → (f_h_set m (Int32.ofNat i) x).2 0 f = m 0 f := by
  obtain ⟨a1, a2, ⟨y, a3, e⟩, a4, a5⟩ := setQ hR hi
  exact ⟨a1, ⟨y, by omega, a2.trans e⟩, a4, a5⟩
end ACT
set_option maxRecDepth 100000 in
set_option maxHeartbeats 4000000 in
theorem law_ok {p : Program} {l : Launch} {e : Env} {s : State} {m9 : MethodId} {args : Array Value} {below : List Frame} {meth : Method} {c9 : Code} {G : gG} {A : Nat → Prop} {Q : State → Prop} (C : xC p s m9 args meth c9 G A 11 cL_law RL wsL_law) {b acts k d cells slots : Nat} {q : Nat → Nat} {μ : gM} {ν : gN} {x5 x6 x7 x8 x9 : Int32} (hd : d < 1000000) (K : xJ p l e room_1 s m9 args below meth c9 G A 11 Q cells slots shL q μ ν [(0, .ref b), (1, .ref (q 0)), (2, .ref (q 132)), (3, .int (Int32.ofNat (acts + 1))), (4, .int (Int32.ofNat (k + 1)))] [] 32) : xJ p l e room_1 s m9 args below meth c9 G A 11 Q cells slots shL q μ ν [(0, .ref b), (1, .ref (q 0)), (2, .ref (q 132)), (3, .int (Int32.ofNat acts)), (4, .int (Int32.ofNat k)), (5, .int x5), (6, .int x6), (7, .int x7), (8, .int x8), (9, .int x9)] [.int (Int32.ofNat d)] 243 := by
  have hge : (0 : Int32) ≤ Int32.ofNat d := (leI (a := 0) (by omega) (by omega)).mpr (by omega)
  refine x_istore (lv' := [(0, .ref b), (1, .ref (q 0)), (2, .ref (q 132)), (3, .int (Int32.ofNat acts)), (4, .int (Int32.ofNat k)), (5, .int x5), (6, .int x6), (7, .int x7), (8, .int x8), (9, .int x9), (10, .int (Int32.ofNat d))]) C dL_law_243 (by decide) [1, 2, 3, 4, 5, 6, 7, 8, 9, 10, 0] rfl ?_
  refine x_iload C dL_law_245 10 rfl ?_
  refine x_if_ge (tgt := 274) C dL_law_247 (by decide) (fun _ => ?_) (fun w => absurd hge w)
  refine x_iload_n C dL_law_274 rfl 3 rfl ?_
  refine x_iload C dL_law_275 10 rfl ?_
  refine x_if_ge (tgt := 284) C dL_law_277 (by decide) (fun _ => ?_) (fun w => absurd hge w)
  refine x_iconst (v := (1 : Int32)) C dL_law_284 (by decide) ?_
  refine x_iadd C dL_law_285 ?_
  refine x_topi (z := Int32.ofNat (acts + 1)) (e1r acts).symm ?_
  refine x_istore_n (lv' := [(0, .ref b), (1, .ref (q 0)), (2, .ref (q 132)), (3, .int (Int32.ofNat (acts + 1))), (4, .int (Int32.ofNat k)), (5, .int x5), (6, .int x6), (7, .int x7), (8, .int x8), (9, .int x9), (10, .int (Int32.ofNat d))]) C dL_law_286 rfl (by decide) [1, 2, 3, 0, 4, 5, 6, 7, 8, 9, 10] rfl ?_
  refine x_iinc (v := Int32.ofNat (k + 1)) (lv' := [(0, .ref b), (1, .ref (q 0)), (2, .ref (q 132)), (3, .int (Int32.ofNat (acts + 1))), (4, .int (Int32.ofNat (k + 1))), (5, .int x5), (6, .int x6), (7, .int x7), (8, .int x8), (9, .int x9), (10, .int (Int32.ofNat d))]) C dL_law_287 4 rfl (by rw [show Int32.ofInt 1 = (1 : Int32) from by decide]; exact e1r k) (by decide) [1, 2, 3, 4, 0, 5, 6, 7, 8, 9, 10] rfl ?_
  refine x_lv (lv' := [(0, .ref b), (1, .ref (q 0)), (2, .ref (q 132)), (3, .int (Int32.ofNat (acts + 1))), (4, .int (Int32.ofNat (k + 1)))]) [0, 1, 2, 3, 4] rfl ?_
  refine x_goto (tgt := 32) C dL_law_290 (by decide) ?_
  exact K
set_option maxRecDepth 100000 in
set_option maxHeartbeats 4000000 in
theorem law_no {p : Program} {l : Launch} {e : Env} {s : State} {m9 : MethodId} {args : Array Value} {below : List Frame} {meth : Method} {c9 : Code} {G : gG} {A : Nat → Prop} {Q : State → Prop} (C : xC p s m9 args meth c9 G A 11 cL_law RL wsL_law) {b acts k c cells slots : Nat} {q : Nat → Nat} {μ : gM} {ν : gN} {x5 x6 x7 x8 x9 v : Int32} {r : Nat → Int32} {rs : List (Nat → Int32)} (hq : gD A q shL.length) (hc : cells ≤ room_1.cells) (hs : slots ≤ room_1.slots) (hR : Rq c μ r rs) (hcc : c < 100000000) (hx7 : Int32.ofNat rs.length = x7) (ha : acts < 64) (hw : ν 132 acts = sn5 r) (hv : ¬ (0 : Int32) ≤ v) (K : xJ p l e room_1 s m9 args below meth c9 G A 11 Q cells slots shL q μ ν [(0, .ref b), (1, .ref (q 0)), (2, .ref (q 132)), (3, .int (Int32.ofNat acts)), (4, .int (Int32.ofNat (k + 1)))] [] 32) : xJ p l e room_1 s m9 args below meth c9 G A 11 Q cells slots shL q μ ν [(0, .ref b), (1, .ref (q 0)), (2, .ref (q 132)), (3, .int (Int32.ofNat acts)), (4, .int (Int32.ofNat k)), (5, .int x5), (6, .int x6), (7, .int x7), (8, .int x8), (9, .int x9)] [.int v] 243 := by
  refine x_istore (lv' := [(0, .ref b), (1, .ref (q 0)), (2, .ref (q 132)), (3, .int (Int32.ofNat acts)), (4, .int (Int32.ofNat k)), (5, .int x5), (6, .int x6), (7, .int x7), (8, .int x8), (9, .int x9), (10, .int v)]) C dL_law_243 (by decide) [1, 2, 3, 4, 5, 6, 7, 8, 9, 10, 0] rfl ?_
  refine x_iload C dL_law_245 10 rfl ?_
  refine x_if_ge (tgt := 274) C dL_law_247 (by decide) (fun w => absurd w hv) (fun _ => ?_)
  refine x_aload_n C dL_law_250 rfl 1 rfl ?_
  refine x_bipush (v := (11 : Int32)) C dL_law_251 (by decide) ?_
  refine x_callVi (n := 1) C hq (gFr_lng (rest := [.inr (.inr (.inr 64))]) rfl wf_shH rfl) (c_h_count l G q μ ν (11 : Int32) (count11Q hR).1) (cwV 1 C.2.2.2.2.2.1 gL_law_X2_count rfl rfl rfl (by decide +kernel) ⟨Nat.le_of_ble_eq_true rfl, Nat.le_of_ble_eq_true rfl⟩) rfl rfl rfl rfl (Nat.le_of_ble_eq_true rfl) dL_law_253 hc hs ?_
  refine x_topi (z := Int32.ofNat rs.length) (count11Q hR).2.symm ?_
  refine x_iload C dL_law_256 7 rfl ?_
  refine x_icmp_ne (tgt := 272) C dL_law_258 (by decide) (fun w => absurd hx7 w) (fun _ => ?_)
  refine x_aload_n C dL_law_261 rfl 1 rfl ?_
  refine x_callSl (n := 1) C hq (gFr_lng (rest := [.inr (.inr (.inr 64))]) rfl wf_shH rfl) (c_l_seen l G q μ ν (seenQ hR hcc).1) (va_cwS 1 C.2.2.2.2.2.1 gL_law_L_seen rfl rfl rfl (by decide +kernel) ⟨Nat.le_of_ble_eq_true rfl, Nat.le_of_ble_eq_true rfl⟩) rfl rfl (Nat.le_of_ble_eq_true rfl) dL_law_262 hc hs ?_
  refine x_topl (z := sn5 r) (seenQ hR hcc).2.symm ?_
  refine x_aload_n C dL_law_265 rfl 2 rfl ?_
  refine x_iload_n C dL_law_266 rfl 3 rfl ?_
  refine x_lald (v := sn5 r) C 132 shL_132 (vp_in_nI ha (by omega)) (by rw [nI_ix (by omega)]; exact hw) dL_law_267 ?_
  refine x_lcmp C dL_law_268 ?_
  refine x_topi (z := (0 : Int32)) (lg_same _).symm ?_
  refine x_if_eq (tgt := 274) C dL_law_269 (by decide) (fun _ => ?_) (fun w => absurd (by decide) w)
  refine x_iload_n C dL_law_274 rfl 3 rfl ?_
  refine x_iload C dL_law_275 10 rfl ?_
  refine x_if_ge (tgt := 284) C dL_law_277 (by decide) (fun w => absurd w hv) (fun _ => ?_)
  refine x_iconst (v := (0 : Int32)) C dL_law_280 (by decide) ?_
  refine x_goto (tgt := 285) C dL_law_281 (by decide) ?_
  refine x_iadd C dL_law_285 ?_
  refine x_topi (z := Int32.ofNat acts) (Int32.add_zero _).symm ?_
  refine x_istore_n (lv' := [(0, .ref b), (1, .ref (q 0)), (2, .ref (q 132)), (3, .int (Int32.ofNat acts)), (4, .int (Int32.ofNat k)), (5, .int x5), (6, .int x6), (7, .int x7), (8, .int x8), (9, .int x9), (10, .int v)]) C dL_law_286 rfl (by decide) [1, 2, 3, 0, 4, 5, 6, 7, 8, 9, 10] rfl ?_
  refine x_iinc (v := Int32.ofNat (k + 1)) (lv' := [(0, .ref b), (1, .ref (q 0)), (2, .ref (q 132)), (3, .int (Int32.ofNat acts)), (4, .int (Int32.ofNat (k + 1))), (5, .int x5), (6, .int x6), (7, .int x7), (8, .int x8), (9, .int x9), (10, .int v)]) C dL_law_287 4 rfl (by rw [show Int32.ofInt 1 = (1 : Int32) from by decide]; exact e1r k) (by decide) [1, 2, 3, 4, 0, 5, 6, 7, 8, 9, 10] rfl ?_
  refine x_lv (lv' := [(0, .ref b), (1, .ref (q 0)), (2, .ref (q 132)), (3, .int (Int32.ofNat acts)), (4, .int (Int32.ofNat (k + 1)))]) [0, 1, 2, 3, 4] rfl ?_
  refine x_goto (tgt := 32) C dL_law_290 (by decide) ?_
  exact K
set_option maxRecDepth 100000 in
set_option maxHeartbeats 4000000 in
theorem law_k0 {p : Program} {l : Launch} {e : Env} {s : State} {m9 : MethodId} {args : Array Value} {below : List Frame} {meth : Method} {c9 : Code} {G : gG} {A : Nat → Prop} {Q : State → Prop} (C : xC p s m9 args meth c9 G A 11 cL_law RL wsL_law) {b acts k c cells slots pg hn : Nat} {q : Nat → Nat} {μ : gM} {ν : gN} {x : Int32} {r : Nat → Int32} {rs : List (Nat → Int32)} (hq : gD A q shL.length) (hX : gX A s) (hl9 : l.stackTraces = false) (hc : cells ≤ room_1.cells) (hs : slots ≤ room_1.slots) (hc1 : cells + 1 ≤ room_1.cells) (hs1 : slots + 6 ≤ room_1.slots) (hI : LI c acts μ (ν 132) r rs) (hcc : c < 1000000) (ha : acts < 64) (hw : ν 132 acts = sn5 r) (hpg : pg < 40) (hhn : hn < 4)  (K : ∀ (q1 : Nat → Nat) (m1 : gM) (c1 : Nat) (r1 : Nat → Int32) (acts1 cells1 slots1 : Nat) (rs1 : List (Nat → Int32)), LI c1 acts1 m1 (ν 132) r1 rs1 → acts1 ≤ acts + 1 → c1 ≤ c + 3880 → cells1 ≤ cells + 1 → slots1 ≤ slots + 6 → gD A q1 shL.length → xJ p l e room_1 s m9 args below meth c9 G A 11 Q cells1 slots1 shL q1 m1 ν [(0, .ref b), (1, .ref (q1 0)), (2, .ref (q1 132)), (3, .int (Int32.ofNat acts1)), (4, .int (Int32.ofNat (k + 1)))] [] 32) : xJ p l e room_1 s m9 args below meth c9 G A 11 Q cells slots shL q μ ν [(0, .ref b), (1, .ref (q 0)), (2, .ref (q 132)), (3, .int (Int32.ofNat acts)), (4, .int (Int32.ofNat k)), (5, .int x), (6, .int (Int32.ofNat 0)), (7, .int (Int32.ofNat rs.length)), (8, .int (Int32.ofNat pg)), (9, .int (Int32.ofNat hn))] [] 98 := by
  have hR := hI.1
  refine x_aload_n C dL_law_98 rfl 1 rfl ?_
  refine x_iconst (v := (0 : Int32)) C dL_law_99 (by decide) ?_
  refine x_iload C dL_law_100 8 rfl ?_
  refine x_iload C dL_law_102 9 rfl ?_
  refine x_iconst (v := (0 : Int32)) C dL_law_104 (by decide) ?_
  obtain ⟨y1, ⟨v, hv, y2⟩, y3, y4⟩ := actW hR hpg hhn (by omega)
  refine x_callZw (n := 5) (shc := shH) (rest := [.inr (.inr (.inr 64))]) (n4 := 4) (cells' := cells + 1) (slots' := slots + 6) C rfl hq wf_shH rfl hX h4H (cT_write l G q μ ν (Int32.ofNat pg) (Int32.ofNat hn) (0 : Int32) y1) (vx_cwSW 5 C.2.2.2.2.2.1 gL_law_L_told rfl rfl rfl (by decide +kernel) ⟨Nat.le_of_ble_eq_true rfl, Nat.le_of_ble_eq_true rfl⟩) rfl rfl (Nat.le_of_ble_eq_true rfl) dL_law_105 rfl rfl hc1 hs1 (fun q1 e1 hq1 => ?_)
  refine x_topi (z := Int32.ofNat v) y2.symm ?_
  obtain ⟨m1, hm1⟩ : ∃ y : gM, y = (f_h_write μ (Int32.ofNat pg) (Int32.ofNat hn)).2 := ⟨_, rfl⟩
  have y5 : (f_h_write μ (Int32.ofNat pg) (Int32.ofNat hn)).2 0 5 = 0 := (y4 5 (by decide)).trans hI.2.1
  rw [← hm1] at y3 y5
  refine x_mu2 hm1 rfl ?_
  refine x_lve (lv' := [(0, .ref b), (1, .ref (q1 0)), (2, .ref (q1 132)), (3, .int (Int32.ofNat acts)), (4, .int (Int32.ofNat k)), (5, .int x), (6, .int (Int32.ofNat 0)), (7, .int (Int32.ofNat rs.length)), (8, .int (Int32.ofNat pg)), (9, .int (Int32.ofNat hn))]) (by rw [e1 0 (Or.inl (by decide)), e1 132 (Or.inr (Nat.le_of_eq len_shH))]) ?_
  refine x_goto (tgt := 243) C dL_law_108 (by decide) ?_
  exact law_ok C (d := v) (by omega) (K q1 m1 _ _ (acts + 1) (cells + 1) (slots + 6) _ (LI_push hI y3 y5 hw (fun _ _ => rfl)) (by omega) (by omega) (by omega) (by omega) hq1)
set_option maxRecDepth 100000 in
set_option maxHeartbeats 4000000 in
theorem law_k1 {kd : Nat} {p : Program} {l : Launch} {e : Env} {s : State} {m9 : MethodId} {args : Array Value} {below : List Frame} {meth : Method} {c9 : Code} {G : gG} {A : Nat → Prop} {Q : State → Prop} (C : xC p s m9 args meth c9 G A 11 cL_law RL wsL_law) {b acts k c cells slots pg hn : Nat} {q : Nat → Nat} {μ : gM} {ν : gN} {x : Int32} {r : Nat → Int32} {rs : List (Nat → Int32)} (hq : gD A q shL.length) (hX : gX A s) (hl9 : l.stackTraces = false) (hc : cells ≤ room_1.cells) (hs : slots ≤ room_1.slots) (hc1 : cells + 1 ≤ room_1.cells) (hs1 : slots + 6 ≤ room_1.slots) (hI : LI c acts μ (ν 132) r rs) (hcc : c < 1000000) (ha : acts < 64) (hw : ν 132 acts = sn5 r) (hpg : pg < 40) (hhn : hn < 4) (K : ∀ (q1 : Nat → Nat) (m1 : gM) (c1 : Nat) (r1 : Nat → Int32) (acts1 cells1 slots1 : Nat) (rs1 : List (Nat → Int32)), LI c1 acts1 m1 (ν 132) r1 rs1 → acts1 ≤ acts + 1 → c1 ≤ c + 3880 → cells1 ≤ cells + 1 → slots1 ≤ slots + 6 → gD A q1 shL.length → xJ p l e room_1 s m9 args below meth c9 G A 11 Q cells1 slots1 shL q1 m1 ν [(0, .ref b), (1, .ref (q1 0)), (2, .ref (q1 132)), (3, .int (Int32.ofNat acts1)), (4, .int (Int32.ofNat (k + 1)))] [] 32) : xJ p l e room_1 s m9 args below meth c9 G A 11 Q cells slots shL q μ ν [(0, .ref b), (1, .ref (q 0)), (2, .ref (q 132)), (3, .int (Int32.ofNat acts)), (4, .int (Int32.ofNat k)), (5, .int x), (6, .int (Int32.ofNat kd)), (7, .int (Int32.ofNat rs.length)), (8, .int (Int32.ofNat pg)), (9, .int (Int32.ofNat hn))] [] 117 := by
  have hR := hI.1
  refine x_aload_n C dL_law_117 rfl 1 rfl ?_
  refine x_iconst (v := (1 : Int32)) C dL_law_118 (by decide) ?_
  refine x_iload C dL_law_119 8 rfl ?_
  refine x_iconst (v := (1 : Int32)) C dL_law_121 (by decide) ?_
  refine x_iload C dL_law_122 5 rfl ?_
  refine x_bipush (v := (11 : Int32)) C dL_law_124 (by decide) ?_
  refine x_ishr C dL_law_126 ?_
  refine x_bipush (v := (40 : Int32)) C dL_law_127 (by decide) ?_
  refine x_iload C dL_law_129 8 rfl ?_
  refine x_isub C dL_law_131 ?_
  refine x_topi (z := Int32.ofNat (40 - pg)) (sub40 hpg).symm ?_
  obtain ⟨po, j, hj, pe⟩ := part_v (x >>> ((11 : Int32) &&& 31)) (n := 40 - pg) (by omega) (by omega)
  refine x_callSi (n := 2) C hq (gFr_pure ⟨List.nodup_nil, rfl⟩) (c_l_part l G (g_sel [] q) (g_sel [] μ) (g_sel [] ν) (x >>> ((11 : Int32) &&& 31)) (Int32.ofNat (40 - pg)) po) (va_cwS 2 C.2.2.2.2.2.1 gL_law_L_part rfl rfl rfl (by decide +kernel) ⟨Nat.le_of_ble_eq_true rfl, Nat.le_of_ble_eq_true rfl⟩) rfl rfl (Nat.le_of_ble_eq_true rfl) dL_law_132 hc hs ?_
  refine x_topi (z := Int32.ofNat j) pe.symm ?_
  clear po pe
  refine x_iadd C dL_law_135 ?_
  refine x_topi (z := Int32.ofNat (1 + j)) (add1j j).symm ?_
  refine x_iload C dL_law_136 9 rfl ?_
  obtain ⟨y1, ⟨v, hv, y2⟩, y3, y4⟩ := actR (p := pg) (k := 1 + j) hR (by omega) (by omega) hhn (by omega)
  refine x_callZw (n := 5) (shc := shH) (rest := [.inr (.inr (.inr 64))]) (n4 := 4) (cells' := cells + 1) (slots' := slots + 6) C rfl hq wf_shH rfl hX h4H (cT_writeRow l G q μ ν (Int32.ofNat pg) (Int32.ofNat (1 + j)) (Int32.ofNat hn) y1) (vx_cwSW 5 C.2.2.2.2.2.1 gL_law_L_told rfl rfl rfl (by decide +kernel) ⟨Nat.le_of_ble_eq_true rfl, Nat.le_of_ble_eq_true rfl⟩) rfl rfl (Nat.le_of_ble_eq_true rfl) dL_law_138 rfl rfl hc1 hs1 (fun q1 e1 hq1 => ?_)
  refine x_topi (z := Int32.ofNat v) y2.symm ?_
  obtain ⟨m1, hm1⟩ : ∃ y : gM, y = (f_h_writeRow μ (Int32.ofNat pg) (Int32.ofNat (1 + j)) (Int32.ofNat hn)).2 := ⟨_, rfl⟩
  have y5 : (f_h_writeRow μ (Int32.ofNat pg) (Int32.ofNat (1 + j)) (Int32.ofNat hn)).2 0 5 = 0 := (y4 5 (by decide)).trans hI.2.1
  rw [← hm1] at y3 y5
  refine x_mu2 hm1 rfl ?_
  refine x_lve (lv' := [(0, .ref b), (1, .ref (q1 0)), (2, .ref (q1 132)), (3, .int (Int32.ofNat acts)), (4, .int (Int32.ofNat k)), (5, .int x), (6, .int (Int32.ofNat kd)), (7, .int (Int32.ofNat rs.length)), (8, .int (Int32.ofNat pg)), (9, .int (Int32.ofNat hn))]) (by rw [e1 0 (Or.inl (by decide)), e1 132 (Or.inr (Nat.le_of_eq len_shH))]) ?_
  refine x_goto (tgt := 243) C dL_law_141 (by decide) ?_
  exact law_ok C (d := v) (by omega) (K q1 m1 _ _ (acts + 1) (cells + 1) (slots + 6) _ (LI_push hI y3 y5 hw (fun _ _ => rfl)) (by omega) (by omega) (by omega) (by omega) hq1)
set_option maxRecDepth 100000 in
set_option maxHeartbeats 4000000 in
theorem law_k4 {p : Program} {l : Launch} {e : Env} {s : State} {m9 : MethodId} {args : Array Value} {below : List Frame} {meth : Method} {c9 : Code} {G : gG} {A : Nat → Prop} {Q : State → Prop} (C : xC p s m9 args meth c9 G A 11 cL_law RL wsL_law) {b acts k c cells slots pg hn : Nat} {q : Nat → Nat} {μ : gM} {ν : gN} {x : Int32} {r : Nat → Int32} {rs : List (Nat → Int32)} (hq : gD A q shL.length) (hX : gX A s) (hl9 : l.stackTraces = false) (hc : cells ≤ room_1.cells) (hs : slots ≤ room_1.slots) (hc1 : cells + 1 ≤ room_1.cells) (hs1 : slots + 6 ≤ room_1.slots) (hI : LI c acts μ (ν 132) r rs) (hcc : c < 1000000) (ha : acts < 64) (hw : ν 132 acts = sn5 r) (hpg : pg < 40) (hhn : hn < 4)  (K : ∀ (q1 : Nat → Nat) (m1 : gM) (c1 : Nat) (r1 : Nat → Int32) (acts1 cells1 slots1 : Nat) (rs1 : List (Nat → Int32)), LI c1 acts1 m1 (ν 132) r1 rs1 → acts1 ≤ acts + 1 → c1 ≤ c + 3880 → cells1 ≤ cells + 1 → slots1 ≤ slots + 6 → gD A q1 shL.length → xJ p l e room_1 s m9 args below meth c9 G A 11 Q cells1 slots1 shL q1 m1 ν [(0, .ref b), (1, .ref (q1 0)), (2, .ref (q1 132)), (3, .int (Int32.ofNat acts1)), (4, .int (Int32.ofNat (k + 1)))] [] 32) : xJ p l e room_1 s m9 args below meth c9 G A 11 Q cells slots shL q μ ν [(0, .ref b), (1, .ref (q 0)), (2, .ref (q 132)), (3, .int (Int32.ofNat acts)), (4, .int (Int32.ofNat k)), (5, .int x), (6, .int (Int32.ofNat 4)), (7, .int (Int32.ofNat rs.length)), (8, .int (Int32.ofNat pg)), (9, .int (Int32.ofNat hn))] [] 150 := by
  have hR := hI.1
  refine x_aload_n C dL_law_150 rfl 1 rfl ?_
  refine x_iconst (v := (3 : Int32)) C dL_law_151 (by decide) ?_
  refine x_iload C dL_law_152 8 rfl ?_
  refine x_iload C dL_law_154 9 rfl ?_
  refine x_iconst (v := (0 : Int32)) C dL_law_156 (by decide) ?_
  by_cases hz : r (144 + 5 * pg) = -1
  · refine x_callZw0 (n := 5) (shc := shH) (rest := [.inr (.inr (.inr 64))]) (cells' := cells + 1) (slots' := slots + 6) C rfl hq wf_shH rfl hX (cT_hint_IS l hl9 G q μ ν (Int32.ofNat pg) (Int32.ofNat hn) (0 : Int32) (hintX hR hpg hhn hz).1 (hintX hR hpg hhn hz).2) (vx_cwSW 5 C.2.2.2.2.2.1 gL_law_L_told rfl rfl rfl (by decide +kernel) ⟨Nat.le_of_ble_eq_true rfl, Nat.le_of_ble_eq_true rfl⟩) rfl rfl (Nat.le_of_ble_eq_true rfl) dL_law_157 rfl rfl hc1 hs1 ?_
    refine x_goto (tgt := 243) C dL_law_160 (by decide) ?_
    exact law_no C hq hc1 hs1 hR (by omega) rfl ha hw (by decide) (K q μ _ _ acts (cells + 1) (slots + 6) _ hI (by omega) (by omega) (by omega) (by omega) hq)
  · obtain ⟨y1, ⟨v, hv, y2⟩, y3, y4⟩ := actH hR hpg hhn hz
    refine x_callZw (n := 5) (shc := shH) (rest := [.inr (.inr (.inr 64))]) (n4 := 4) (cells' := cells + 1) (slots' := slots + 6) C rfl hq wf_shH rfl hX h4H (cT_hint l G q μ ν (Int32.ofNat pg) (Int32.ofNat hn) (0 : Int32) y1) (vx_cwSW 5 C.2.2.2.2.2.1 gL_law_L_told rfl rfl rfl (by decide +kernel) ⟨Nat.le_of_ble_eq_true rfl, Nat.le_of_ble_eq_true rfl⟩) rfl rfl (Nat.le_of_ble_eq_true rfl) dL_law_157 rfl rfl hc1 hs1 (fun q1 e1 hq1 => ?_)
    refine x_topi (z := Int32.ofNat v) y2.symm ?_
    obtain ⟨m1, hm1⟩ : ∃ y : gM, y = (f_h_hint μ (Int32.ofNat pg) (Int32.ofNat hn)).2 := ⟨_, rfl⟩
    have y5 : (f_h_hint μ (Int32.ofNat pg) (Int32.ofNat hn)).2 0 5 = 0 := (y4 5 (by decide)).trans hI.2.1
    rw [← hm1] at y3 y5
    refine x_mu2 hm1 rfl ?_
    refine x_lve (lv' := [(0, .ref b), (1, .ref (q1 0)), (2, .ref (q1 132)), (3, .int (Int32.ofNat acts)), (4, .int (Int32.ofNat k)), (5, .int x), (6, .int (Int32.ofNat 4)), (7, .int (Int32.ofNat rs.length)), (8, .int (Int32.ofNat pg)), (9, .int (Int32.ofNat hn))]) (by rw [e1 0 (Or.inl (by decide)), e1 132 (Or.inr (Nat.le_of_eq len_shH))]) ?_
    refine x_goto (tgt := 243) C dL_law_160 (by decide) ?_
    exact law_ok C (d := v) (by omega) (K q1 m1 _ _ (acts + 1) (cells + 1) (slots + 6) _ (LI_push hI y3 y5 hw (fun _ _ => rfl)) (by omega) (by omega) (by omega) (by omega) hq1)
set_option maxRecDepth 100000 in
set_option maxHeartbeats 4000000 in
theorem law_k5 {p : Program} {l : Launch} {e : Env} {s : State} {m9 : MethodId} {args : Array Value} {below : List Frame} {meth : Method} {c9 : Code} {G : gG} {A : Nat → Prop} {Q : State → Prop} (C : xC p s m9 args meth c9 G A 11 cL_law RL wsL_law) {b acts k c cells slots pg hn : Nat} {q : Nat → Nat} {μ : gM} {ν : gN} {x : Int32} {r : Nat → Int32} {rs : List (Nat → Int32)} (hq : gD A q shL.length) (hX : gX A s) (hl9 : l.stackTraces = false) (hc : cells ≤ room_1.cells) (hs : slots ≤ room_1.slots) (hc1 : cells + 1 ≤ room_1.cells) (hs1 : slots + 6 ≤ room_1.slots) (hI : LI c acts μ (ν 132) r rs) (hcc : c < 1000000) (ha : acts < 64) (hw : ν 132 acts = sn5 r) (hpg : pg < 40) (hhn : hn < 4)  (K : ∀ (q1 : Nat → Nat) (m1 : gM) (c1 : Nat) (r1 : Nat → Int32) (acts1 cells1 slots1 : Nat) (rs1 : List (Nat → Int32)), LI c1 acts1 m1 (ν 132) r1 rs1 → acts1 ≤ acts + 1 → c1 ≤ c + 3880 → cells1 ≤ cells + 1 → slots1 ≤ slots + 6 → gD A q1 shL.length → xJ p l e room_1 s m9 args below meth c9 G A 11 Q cells1 slots1 shL q1 m1 ν [(0, .ref b), (1, .ref (q1 0)), (2, .ref (q1 132)), (3, .int (Int32.ofNat acts1)), (4, .int (Int32.ofNat (k + 1)))] [] 32) : xJ p l e room_1 s m9 args below meth c9 G A 11 Q cells slots shL q μ ν [(0, .ref b), (1, .ref (q 0)), (2, .ref (q 132)), (3, .int (Int32.ofNat acts)), (4, .int (Int32.ofNat k)), (5, .int x), (6, .int (Int32.ofNat 5)), (7, .int (Int32.ofNat rs.length)), (8, .int (Int32.ofNat pg)), (9, .int (Int32.ofNat hn))] [] 169 := by
  have hR := hI.1
  refine x_aload_n C dL_law_169 rfl 1 rfl ?_
  refine x_iconst (v := (4 : Int32)) C dL_law_170 (by decide) ?_
  refine x_iload C dL_law_171 5 rfl ?_
  refine x_bipush (v := (11 : Int32)) C dL_law_173 (by decide) ?_
  refine x_ishr C dL_law_175 ?_
  refine x_bipush (v := (12 : Int32)) C dL_law_176 (by decide) ?_
  obtain ⟨po, j, hj, pe⟩ := part_v (x >>> ((11 : Int32) &&& 31)) (n := 12) (by omega) (by omega)
  refine x_callSi (n := 2) C hq (gFr_pure ⟨List.nodup_nil, rfl⟩) (c_l_part l G (g_sel [] q) (g_sel [] μ) (g_sel [] ν) (x >>> ((11 : Int32) &&& 31)) (12 : Int32) po) (va_cwS 2 C.2.2.2.2.2.1 gL_law_L_part rfl rfl rfl (by decide +kernel) ⟨Nat.le_of_ble_eq_true rfl, Nat.le_of_ble_eq_true rfl⟩) rfl rfl (Nat.le_of_ble_eq_true rfl) dL_law_178 hc hs ?_
  refine x_topi (z := Int32.ofNat j) pe.symm ?_
  clear po pe
  refine x_iconst (v := (0 : Int32)) C dL_law_181 (by decide) ?_
  refine x_iconst (v := (0 : Int32)) C dL_law_182 (by decide) ?_
  by_cases hz : r (96 + j) = 2
  · obtain ⟨y1, ⟨v, hv, y2⟩, y3, y4⟩ := actC hR hj hz (by omega)
    refine x_callZw (n := 5) (shc := shH) (rest := [.inr (.inr (.inr 64))]) (n4 := 4) (cells' := cells + 1) (slots' := slots + 6) C rfl hq wf_shH rfl hX h4H (cT_collect l G q μ ν (Int32.ofNat j) (0 : Int32) (0 : Int32) y1) (vx_cwSW 5 C.2.2.2.2.2.1 gL_law_L_told rfl rfl rfl (by decide +kernel) ⟨Nat.le_of_ble_eq_true rfl, Nat.le_of_ble_eq_true rfl⟩) rfl rfl (Nat.le_of_ble_eq_true rfl) dL_law_183 rfl rfl hc1 hs1 (fun q1 e1 hq1 => ?_)
    refine x_topi (z := Int32.ofNat v) y2.symm ?_
    obtain ⟨m1, hm1⟩ : ∃ y : gM, y = (f_h_collect μ (Int32.ofNat j)).2 := ⟨_, rfl⟩
    have y5 : (f_h_collect μ (Int32.ofNat j)).2 0 5 = 0 := (y4 5 (by decide)).trans hI.2.1
    rw [← hm1] at y3 y5
    refine x_mu2 hm1 rfl ?_
    refine x_lve (lv' := [(0, .ref b), (1, .ref (q1 0)), (2, .ref (q1 132)), (3, .int (Int32.ofNat acts)), (4, .int (Int32.ofNat k)), (5, .int x), (6, .int (Int32.ofNat 5)), (7, .int (Int32.ofNat rs.length)), (8, .int (Int32.ofNat pg)), (9, .int (Int32.ofNat hn))]) (by rw [e1 0 (Or.inl (by decide)), e1 132 (Or.inr (Nat.le_of_eq len_shH))]) ?_
    refine x_goto (tgt := 243) C dL_law_186 (by decide) ?_
    exact law_ok C (d := v) (by omega) (K q1 m1 _ _ (acts + 1) (cells + 1) (slots + 6) _ (LI_push hI y3 y5 hw (fun _ _ => rfl)) (by omega) (by omega) (by omega) (by omega) hq1)
  · refine x_callZw0 (n := 5) (shc := shH) (rest := [.inr (.inr (.inr 64))]) (cells' := cells + 1) (slots' := slots + 6) C rfl hq wf_shH rfl hX (cT_collect_IS l hl9 G q μ ν (Int32.ofNat j) (0 : Int32) (0 : Int32) (collectX hR hj hz).1 (collectX hR hj hz).2) (vx_cwSW 5 C.2.2.2.2.2.1 gL_law_L_told rfl rfl rfl (by decide +kernel) ⟨Nat.le_of_ble_eq_true rfl, Nat.le_of_ble_eq_true rfl⟩) rfl rfl (Nat.le_of_ble_eq_true rfl) dL_law_183 rfl rfl hc1 hs1 ?_
    refine x_goto (tgt := 243) C dL_law_186 (by decide) ?_
    exact law_no C hq hc1 hs1 hR (by omega) rfl ha hw (by decide) (K q μ _ _ acts (cells + 1) (slots + 6) _ hI (by omega) (by omega) (by omega) (by omega) hq)
set_option maxRecDepth 100000 in
set_option maxHeartbeats 4000000 in
theorem law_k6 {p : Program} {l : Launch} {e : Env} {s : State} {m9 : MethodId} {args : Array Value} {below : List Frame} {meth : Method} {c9 : Code} {G : gG} {A : Nat → Prop} {Q : State → Prop} (C : xC p s m9 args meth c9 G A 11 cL_law RL wsL_law) {b acts k c cells slots pg hn : Nat} {q : Nat → Nat} {μ : gM} {ν : gN} {x : Int32} {r : Nat → Int32} {rs : List (Nat → Int32)} (hq : gD A q shL.length) (hX : gX A s) (hl9 : l.stackTraces = false) (hc : cells ≤ room_1.cells) (hs : slots ≤ room_1.slots) (hc1 : cells + 1 ≤ room_1.cells) (hs1 : slots + 6 ≤ room_1.slots) (hI : LI c acts μ (ν 132) r rs) (hcc : c < 1000000) (ha : acts < 64) (hw : ν 132 acts = sn5 r) (hpg : pg < 40) (hhn : hn < 4)  (K : ∀ (q1 : Nat → Nat) (m1 : gM) (c1 : Nat) (r1 : Nat → Int32) (acts1 cells1 slots1 : Nat) (rs1 : List (Nat → Int32)), LI c1 acts1 m1 (ν 132) r1 rs1 → acts1 ≤ acts + 1 → c1 ≤ c + 3880 → cells1 ≤ cells + 1 → slots1 ≤ slots + 6 → gD A q1 shL.length → xJ p l e room_1 s m9 args below meth c9 G A 11 Q cells1 slots1 shL q1 m1 ν [(0, .ref b), (1, .ref (q1 0)), (2, .ref (q1 132)), (3, .int (Int32.ofNat acts1)), (4, .int (Int32.ofNat (k + 1)))] [] 32) : xJ p l e room_1 s m9 args below meth c9 G A 11 Q cells slots shL q μ ν [(0, .ref b), (1, .ref (q 0)), (2, .ref (q 132)), (3, .int (Int32.ofNat acts)), (4, .int (Int32.ofNat k)), (5, .int x), (6, .int (Int32.ofNat 6)), (7, .int (Int32.ofNat rs.length)), (8, .int (Int32.ofNat pg)), (9, .int (Int32.ofNat hn))] [] 196 := by
  have hR := hI.1
  refine x_aload_n C dL_law_196 rfl 1 rfl ?_
  refine x_iconst (v := (5 : Int32)) C dL_law_197 (by decide) ?_
  refine x_iconst (v := (1 : Int32)) C dL_law_198 (by decide) ?_
  refine x_iload C dL_law_199 5 rfl ?_
  refine x_bipush (v := (11 : Int32)) C dL_law_201 (by decide) ?_
  refine x_ishr C dL_law_203 ?_
  refine x_bipush (v := (12 : Int32)) C dL_law_204 (by decide) ?_
  obtain ⟨po, j, hj, pe⟩ := part_v (x >>> ((11 : Int32) &&& 31)) (n := 12) (by omega) (by omega)
  refine x_callSi (n := 2) C hq (gFr_pure ⟨List.nodup_nil, rfl⟩) (c_l_part l G (g_sel [] q) (g_sel [] μ) (g_sel [] ν) (x >>> ((11 : Int32) &&& 31)) (12 : Int32) po) (va_cwS 2 C.2.2.2.2.2.1 gL_law_L_part rfl rfl rfl (by decide +kernel) ⟨Nat.le_of_ble_eq_true rfl, Nat.le_of_ble_eq_true rfl⟩) rfl rfl (Nat.le_of_ble_eq_true rfl) dL_law_206 hc hs ?_
  refine x_topi (z := Int32.ofNat j) pe.symm ?_
  clear po pe
  refine x_iadd C dL_law_209 ?_
  refine x_topi (z := Int32.ofNat (1 + j)) (add1j j).symm ?_
  refine x_iconst (v := (0 : Int32)) C dL_law_210 (by decide) ?_
  refine x_iconst (v := (0 : Int32)) C dL_law_211 (by decide) ?_
  obtain ⟨y1, ⟨v, hv, y2⟩, y3, y4⟩ := actT (k := 1 + j) hR (by omega) (by omega) (by omega)
  refine x_callZw (n := 5) (shc := shH) (rest := [.inr (.inr (.inr 64))]) (n4 := 4) (cells' := cells + 1) (slots' := slots + 6) C rfl hq wf_shH rfl hX h4H (cT_tidy l G q μ ν (Int32.ofNat (1 + j)) (0 : Int32) (0 : Int32) y1) (vx_cwSW 5 C.2.2.2.2.2.1 gL_law_L_told rfl rfl rfl (by decide +kernel) ⟨Nat.le_of_ble_eq_true rfl, Nat.le_of_ble_eq_true rfl⟩) rfl rfl (Nat.le_of_ble_eq_true rfl) dL_law_212 rfl rfl hc1 hs1 (fun q1 e1 hq1 => ?_)
  refine x_topi (z := Int32.ofNat v) y2.symm ?_
  obtain ⟨m1, hm1⟩ : ∃ y : gM, y = (f_h_tidy μ (Int32.ofNat (1 + j))).2 := ⟨_, rfl⟩
  have y5 : (f_h_tidy μ (Int32.ofNat (1 + j))).2 0 5 = 0 := (y4 5 (by decide)).trans hI.2.1
  rw [← hm1] at y3 y5
  refine x_mu2 hm1 rfl ?_
  refine x_lve (lv' := [(0, .ref b), (1, .ref (q1 0)), (2, .ref (q1 132)), (3, .int (Int32.ofNat acts)), (4, .int (Int32.ofNat k)), (5, .int x), (6, .int (Int32.ofNat 6)), (7, .int (Int32.ofNat rs.length)), (8, .int (Int32.ofNat pg)), (9, .int (Int32.ofNat hn))]) (by rw [e1 0 (Or.inl (by decide)), e1 132 (Or.inr (Nat.le_of_eq len_shH))]) ?_
  refine x_goto (tgt := 243) C dL_law_215 (by decide) ?_
  exact law_ok C (d := v) (by omega) (K q1 m1 _ _ (acts + 1) (cells + 1) (slots + 6) _ (LI_push hI y3 y5 hw (fun _ _ => rfl)) (by omega) (by omega) (by omega) (by omega) hq1)
set_option maxRecDepth 100000 in
set_option maxHeartbeats 4000000 in
theorem law_k7 {p : Program} {l : Launch} {e : Env} {s : State} {m9 : MethodId} {args : Array Value} {below : List Frame} {meth : Method} {c9 : Code} {G : gG} {A : Nat → Prop} {Q : State → Prop} (C : xC p s m9 args meth c9 G A 11 cL_law RL wsL_law) {b acts k c cells slots pg hn : Nat} {q : Nat → Nat} {μ : gM} {ν : gN} {x : Int32} {r : Nat → Int32} {rs : List (Nat → Int32)} (hq : gD A q shL.length) (hX : gX A s) (hl9 : l.stackTraces = false) (hc : cells ≤ room_1.cells) (hs : slots ≤ room_1.slots) (hc1 : cells + 1 ≤ room_1.cells) (hs1 : slots + 6 ≤ room_1.slots) (hI : LI c acts μ (ν 132) r rs) (hcc : c < 1000000) (ha : acts < 64) (hw : ν 132 acts = sn5 r) (hpg : pg < 40) (hhn : hn < 4)  (K : ∀ (q1 : Nat → Nat) (m1 : gM) (c1 : Nat) (r1 : Nat → Int32) (acts1 cells1 slots1 : Nat) (rs1 : List (Nat → Int32)), LI c1 acts1 m1 (ν 132) r1 rs1 → acts1 ≤ acts + 1 → c1 ≤ c + 3880 → cells1 ≤ cells + 1 → slots1 ≤ slots + 6 → gD A q1 shL.length → xJ p l e room_1 s m9 args below meth c9 G A 11 Q cells1 slots1 shL q1 m1 ν [(0, .ref b), (1, .ref (q1 0)), (2, .ref (q1 132)), (3, .int (Int32.ofNat acts1)), (4, .int (Int32.ofNat (k + 1)))] [] 32) : xJ p l e room_1 s m9 args below meth c9 G A 11 Q cells slots shL q μ ν [(0, .ref b), (1, .ref (q 0)), (2, .ref (q 132)), (3, .int (Int32.ofNat acts)), (4, .int (Int32.ofNat k)), (5, .int x), (6, .int (Int32.ofNat 7)), (7, .int (Int32.ofNat rs.length)), (8, .int (Int32.ofNat pg)), (9, .int (Int32.ofNat hn))] [] 218 := by
  have hR := hI.1
  refine x_aload_n C dL_law_218 rfl 1 rfl ?_
  refine x_bipush (v := (6 : Int32)) C dL_law_219 (by decide) ?_
  refine x_iload C dL_law_221 5 rfl ?_
  refine x_bipush (v := (11 : Int32)) C dL_law_223 (by decide) ?_
  refine x_ishr C dL_law_225 ?_
  refine x_iconst (v := (2 : Int32)) C dL_law_226 (by decide) ?_
  obtain ⟨po, i, hi, pe⟩ := part_v (x >>> ((11 : Int32) &&& 31)) (n := 2) (by omega) (by omega)
  refine x_callSi (n := 2) C hq (gFr_pure ⟨List.nodup_nil, rfl⟩) (c_l_part l G (g_sel [] q) (g_sel [] μ) (g_sel [] ν) (x >>> ((11 : Int32) &&& 31)) (2 : Int32) po) (va_cwS 2 C.2.2.2.2.2.1 gL_law_L_part rfl rfl rfl (by decide +kernel) ⟨Nat.le_of_ble_eq_true rfl, Nat.le_of_ble_eq_true rfl⟩) rfl rfl (Nat.le_of_ble_eq_true rfl) dL_law_227 hc hs ?_
  refine x_topi (z := Int32.ofNat i) pe.symm ?_
  clear po pe
  refine x_iload C dL_law_230 5 rfl ?_
  refine x_bipush (v := (13 : Int32)) C dL_law_232 (by decide) ?_
  refine x_ishr C dL_law_234 ?_
  refine x_iconst (v := (5 : Int32)) C dL_law_235 (by decide) ?_
  obtain ⟨po, j, hj, pe⟩ := part_v (x >>> ((13 : Int32) &&& 31)) (n := 5) (by omega) (by omega)
  refine x_callSi (n := 2) C hq (gFr_pure ⟨List.nodup_nil, rfl⟩) (c_l_part l G (g_sel [] q) (g_sel [] μ) (g_sel [] ν) (x >>> ((13 : Int32) &&& 31)) (5 : Int32) po) (va_cwS 2 C.2.2.2.2.2.1 gL_law_L_part rfl rfl rfl (by decide +kernel) ⟨Nat.le_of_ble_eq_true rfl, Nat.le_of_ble_eq_true rfl⟩) rfl rfl (Nat.le_of_ble_eq_true rfl) dL_law_236 hc hs ?_
  refine x_topi (z := Int32.ofNat j) pe.symm ?_
  clear po pe
  refine x_iconst (v := (0 : Int32)) C dL_law_239 (by decide) ?_
  rcases set_kind hi hj with hz | hz
  · obtain ⟨y1, ⟨v, hv, y2⟩, y3, y4⟩ := actS hR hz
    refine x_callZw (n := 5) (shc := shH) (rest := [.inr (.inr (.inr 64))]) (n4 := 4) (cells' := cells + 1) (slots' := slots + 6) C rfl hq wf_shH rfl hX h4H (cT_set l G q μ ν (Int32.ofNat i) (Int32.ofNat j) (0 : Int32) y1) (vx_cwSW 5 C.2.2.2.2.2.1 gL_law_L_told rfl rfl rfl (by decide +kernel) ⟨Nat.le_of_ble_eq_true rfl, Nat.le_of_ble_eq_true rfl⟩) rfl rfl (Nat.le_of_ble_eq_true rfl) dL_law_240 rfl rfl hc1 hs1 (fun q1 e1 hq1 => ?_)
    refine x_topi (z := Int32.ofNat v) y2.symm ?_
    obtain ⟨m1, hm1⟩ : ∃ y : gM, y = (f_h_set μ (Int32.ofNat i) (Int32.ofNat j)).2 := ⟨_, rfl⟩
    have y5 : (f_h_set μ (Int32.ofNat i) (Int32.ofNat j)).2 0 5 = 0 := (y4 5 (by decide)).trans hI.2.1
    rw [← hm1] at y3 y5
    refine x_mu2 hm1 rfl ?_
    refine x_lve (lv' := [(0, .ref b), (1, .ref (q1 0)), (2, .ref (q1 132)), (3, .int (Int32.ofNat acts)), (4, .int (Int32.ofNat k)), (5, .int x), (6, .int (Int32.ofNat 7)), (7, .int (Int32.ofNat rs.length)), (8, .int (Int32.ofNat pg)), (9, .int (Int32.ofNat hn))]) (by rw [e1 0 (Or.inl (by decide)), e1 132 (Or.inr (Nat.le_of_eq len_shH))]) ?_
    exact law_ok C (d := v) (by omega) (K q1 m1 _ _ (acts + 1) (cells + 1) (slots + 6) _ (LI_push hI y3 y5 hw (fun _ _ => rfl)) (by omega) (by omega) (by omega) (by omega) hq1)
  · refine x_callZw0 (n := 5) (shc := shH) (rest := [.inr (.inr (.inr 64))]) (cells' := cells + 1) (slots' := slots + 6) C rfl hq wf_shH rfl hX (cT_set_IA l hl9 G q μ ν (Int32.ofNat i) (Int32.ofNat j) (0 : Int32) (setX μ hz).1 (setX μ hz).2) (vx_cwSW 5 C.2.2.2.2.2.1 gL_law_L_told rfl rfl rfl (by decide +kernel) ⟨Nat.le_of_ble_eq_true rfl, Nat.le_of_ble_eq_true rfl⟩) rfl rfl (Nat.le_of_ble_eq_true rfl) dL_law_240 rfl rfl hc1 hs1 ?_
    exact law_no C hq hc1 hs1 hR (by omega) rfl ha hw (by decide) (K q μ _ _ acts (cells + 1) (slots + 6) _ hI (by omega) (by omega) (by omega) (by omega) hq)
set_option maxRecDepth 100000 in
set_option maxHeartbeats 4000000 in
theorem law_turn {p : Program} {l : Launch} {e : Env} {s : State} {m9 : MethodId} {args : Array Value} {below : List Frame} {meth : Method} {c9 : Code} {G : gG} {A : Nat → Prop} {Q : State → Prop} (C : xC p s m9 args meth c9 G A 11 cL_law RL wsL_law) {b L acts k c cells slots : Nat} {xs : Nat → Int32} {q : Nat → Nat} {μ : gM} {ν : gN} {r : Nat → Int32} {rs : List (Nat → Int32)} (hXs : va_X b L xs s s.heap) (hbl : b < s.heap.size) (hbA : ¬ A b) (hL : L ≤ 260) (hq : gD A q shL.length) (hX : gX A s) (hl9 : l.stackTraces = false) (hk : k < 24) (hak : acts ≤ k) (hc9 : cells + 1 ≤ 600130) (hs9 : slots + 6 ≤ 7301080) (hI : LI c acts μ (ν 132) r rs) (hc5 : c < 1000000) (K : ∀ (q1 : Nat → Nat) (m1 : gM) (ν1 : gN) (c1 : Nat) (r1 : Nat → Int32) (acts1 cells1 slots1 : Nat) (rs1 : List (Nat → Int32)), LI c1 acts1 m1 (ν1 132) r1 rs1 → acts1 ≤ acts + 1 → c1 ≤ c + 3880 → cells1 ≤ cells + 1 → slots1 ≤ slots + 6 → gD A q1 shL.length → xJ p l e room_1 s m9 args below meth c9 G A 11 Q cells1 slots1 shL q1 m1 ν1 [(0, .ref b), (1, .ref (q1 0)), (2, .ref (q1 132)), (3, .int (Int32.ofNat acts1)), (4, .int (Int32.ofNat (k + 1)))] [] 32) : xJ p l e room_1 s m9 args below meth c9 G A 11 Q cells slots shL q μ ν [(0, .ref b), (1, .ref (q 0)), (2, .ref (q 132)), (3, .int (Int32.ofNat acts)), (4, .int (Int32.ofNat k))] [] 39 := by
  have hR := hI.1
  have hcc : c < 100000000 := by omega
  have hc : cells ≤ room_1.cells := by rw [rm1c]; omega
  have hs : slots ≤ room_1.slots := by rw [rm1s]; omega
  have hc1 : cells + 1 ≤ room_1.cells := hc9
  have hs1 : slots + 6 ≤ room_1.slots := hs9
  refine x_aload_n C dL_law_39 rfl 0 rfl ?_
  refine x_iload C dL_law_40 4 rfl ?_
  refine x_callD (n := 2) C hq hXs hbl hbA (c_l_drawn l G (g_sel [] q) (g_sel [] μ) (g_sel [] ν) (by omega) k (by omega)) (va_cwS 2 C.2.2.2.2.2.1 gL_law_L_drawn rfl rfl rfl (by decide +kernel) ⟨Nat.le_of_ble_eq_true rfl, Nat.le_of_ble_eq_true rfl⟩) rfl rfl (Nat.le_of_ble_eq_true rfl) dL_law_42 hc hs ?_
  obtain ⟨x, hx⟩ : ∃ x, x = fdr L xs k := ⟨_, rfl⟩
  refine x_topi (z := x) hx ?_
  refine x_istore (lv' := [(0, .ref b), (1, .ref (q 0)), (2, .ref (q 132)), (3, .int (Int32.ofNat acts)), (4, .int (Int32.ofNat k)), (5, .int x)]) C dL_law_45 (by decide) [1, 2, 3, 4, 5, 0] rfl ?_
  refine x_iload C dL_law_47 5 rfl ?_
  refine x_bipush (v := (8 : Int32)) C dL_law_49 (by decide) ?_
  obtain ⟨po, kd, hkd, pe⟩ := part_v x (n := 8) (by omega) (by omega)
  refine x_callSi (n := 2) C hq (gFr_pure ⟨List.nodup_nil, rfl⟩) (c_l_part l G (g_sel [] q) (g_sel [] μ) (g_sel [] ν) x (8 : Int32) po) (va_cwS 2 C.2.2.2.2.2.1 gL_law_L_part rfl rfl rfl (by decide +kernel) ⟨Nat.le_of_ble_eq_true rfl, Nat.le_of_ble_eq_true rfl⟩) rfl rfl (Nat.le_of_ble_eq_true rfl) dL_law_51 hc hs ?_
  refine x_topi (z := Int32.ofNat kd) pe.symm ?_
  clear po pe
  refine x_istore (lv' := [(0, .ref b), (1, .ref (q 0)), (2, .ref (q 132)), (3, .int (Int32.ofNat acts)), (4, .int (Int32.ofNat k)), (5, .int x), (6, .int (Int32.ofNat kd))]) C dL_law_54 (by decide) [1, 2, 3, 4, 5, 6, 0] rfl ?_
  refine x_aload_n C dL_law_56 rfl 2 rfl ?_
  refine x_iload_n C dL_law_57 rfl 3 rfl ?_
  refine x_aload_n C dL_law_58 rfl 1 rfl ?_
  refine x_callSl (n := 1) C hq (gFr_lng (rest := [.inr (.inr (.inr 64))]) rfl wf_shH rfl) (c_l_seen l G q μ ν (seenQ hR hcc).1) (va_cwS 1 C.2.2.2.2.2.1 gL_law_L_seen rfl rfl rfl (by decide +kernel) ⟨Nat.le_of_ble_eq_true rfl, Nat.le_of_ble_eq_true rfl⟩) rfl rfl (Nat.le_of_ble_eq_true rfl) dL_law_59 hc hs ?_
  refine x_topl (z := sn5 r) (seenQ hR hcc).2.symm ?_
  obtain ⟨ν1, hν1⟩ : ∃ y : gN, y = g_setN ν 132 (vp_updL (ν 132) (Int32.ofNat acts).toNatClampNeg (sn5 r)) := ⟨_, rfl⟩
  refine x_last C hq 132 shL_132 (vp_in_nI (show acts < 64 by omega) (by omega)) hν1 dL_law_62 ?_
  have w1 : ν1 132 acts = sn5 r := by rw [hν1, g_setN_s, nI_ix (by omega)]; exact if_pos rfl
  have w2 : ∀ j, j < acts → ν1 132 j = ν 132 j := fun j hj => by rw [hν1, g_setN_s, nI_ix (by omega)]; exact if_neg (by omega)
  have hI1 : LI c acts μ (ν1 132) r rs := LI_W hI w2
  clear hν1 w2 hx
  refine x_aload_n C dL_law_63 rfl 1 rfl ?_
  refine x_bipush (v := (11 : Int32)) C dL_law_64 (by decide) ?_
  refine x_callVi (n := 1) C hq (gFr_lng (rest := [.inr (.inr (.inr 64))]) rfl wf_shH rfl) (c_h_count l G q μ ν1 (11 : Int32) (count11Q hR).1) (cwV 1 C.2.2.2.2.2.1 gL_law_X2_count rfl rfl rfl (by decide +kernel) ⟨Nat.le_of_ble_eq_true rfl, Nat.le_of_ble_eq_true rfl⟩) rfl rfl rfl rfl (Nat.le_of_ble_eq_true rfl) dL_law_66 hc hs ?_
  refine x_topi (z := Int32.ofNat rs.length) (count11Q hR).2.symm ?_
  refine x_istore (lv' := [(0, .ref b), (1, .ref (q 0)), (2, .ref (q 132)), (3, .int (Int32.ofNat acts)), (4, .int (Int32.ofNat k)), (5, .int x), (6, .int (Int32.ofNat kd)), (7, .int (Int32.ofNat rs.length))]) C dL_law_69 (by decide) [1, 2, 3, 4, 5, 6, 7, 0] rfl ?_
  refine x_iload C dL_law_71 5 rfl ?_
  refine x_iconst (v := (3 : Int32)) C dL_law_73 (by decide) ?_
  refine x_ishr C dL_law_74 ?_
  refine x_bipush (v := (40 : Int32)) C dL_law_75 (by decide) ?_
  obtain ⟨po, pg, hpg, pe⟩ := part_v (x >>> ((3 : Int32) &&& 31)) (n := 40) (by omega) (by omega)
  refine x_callSi (n := 2) C hq (gFr_pure ⟨List.nodup_nil, rfl⟩) (c_l_part l G (g_sel [] q) (g_sel [] μ) (g_sel [] ν1) (x >>> ((3 : Int32) &&& 31)) (40 : Int32) po) (va_cwS 2 C.2.2.2.2.2.1 gL_law_L_part rfl rfl rfl (by decide +kernel) ⟨Nat.le_of_ble_eq_true rfl, Nat.le_of_ble_eq_true rfl⟩) rfl rfl (Nat.le_of_ble_eq_true rfl) dL_law_77 hc hs ?_
  refine x_topi (z := Int32.ofNat pg) pe.symm ?_
  clear po pe
  refine x_istore (lv' := [(0, .ref b), (1, .ref (q 0)), (2, .ref (q 132)), (3, .int (Int32.ofNat acts)), (4, .int (Int32.ofNat k)), (5, .int x), (6, .int (Int32.ofNat kd)), (7, .int (Int32.ofNat rs.length)), (8, .int (Int32.ofNat pg))]) C dL_law_80 (by decide) [1, 2, 3, 4, 5, 6, 7, 8, 0] rfl ?_
  refine x_iload C dL_law_82 5 rfl ?_
  refine x_bipush (v := (9 : Int32)) C dL_law_84 (by decide) ?_
  refine x_ishr C dL_law_86 ?_
  refine x_iconst (v := (4 : Int32)) C dL_law_87 (by decide) ?_
  obtain ⟨po, hn, hhn, pe⟩ := part_v (x >>> ((9 : Int32) &&& 31)) (n := 4) (by omega) (by omega)
  refine x_callSi (n := 2) C hq (gFr_pure ⟨List.nodup_nil, rfl⟩) (c_l_part l G (g_sel [] q) (g_sel [] μ) (g_sel [] ν1) (x >>> ((9 : Int32) &&& 31)) (4 : Int32) po) (va_cwS 2 C.2.2.2.2.2.1 gL_law_L_part rfl rfl rfl (by decide +kernel) ⟨Nat.le_of_ble_eq_true rfl, Nat.le_of_ble_eq_true rfl⟩) rfl rfl (Nat.le_of_ble_eq_true rfl) dL_law_88 hc hs ?_
  refine x_topi (z := Int32.ofNat hn) pe.symm ?_
  clear po pe
  refine x_istore (lv' := [(0, .ref b), (1, .ref (q 0)), (2, .ref (q 132)), (3, .int (Int32.ofNat acts)), (4, .int (Int32.ofNat k)), (5, .int x), (6, .int (Int32.ofNat kd)), (7, .int (Int32.ofNat rs.length)), (8, .int (Int32.ofNat pg)), (9, .int (Int32.ofNat hn))]) C dL_law_91 (by decide) [1, 2, 3, 4, 5, 6, 7, 8, 9, 0] rfl ?_
  rcases (show kd = 0 ∨ (1 ≤ kd ∧ kd < 4) ∨ kd = 4 ∨ kd = 5 ∨ kd = 6 ∨ kd = 7 by omega) with rfl | hk2 | rfl | rfl | rfl | rfl
  · refine x_iload C dL_law_93 6 rfl ?_
    refine x_if_ne (tgt := 111) C dL_law_95 (by decide) (fun w => absurd (by decide) w) (fun _ => ?_)
    exact law_k0 C hq hX hl9 hc hs hc1 hs1 hI1 (by omega) (by omega) w1 hpg hhn (fun q1 m1 c1 r1 acts1 cells1 slots1 rs1 => K q1 m1 ν1 c1 r1 acts1 cells1 slots1 rs1)
  · refine x_iload C dL_law_93 6 rfl ?_
    refine x_if_ne (tgt := 111) C dL_law_95 (by decide) (fun _ => ?_) (fun w => absurd w (neL (b := 0) (by omega) (by omega) (by omega)))
    refine x_iload C dL_law_111 6 rfl ?_
    refine x_iconst (v := (4 : Int32)) C dL_law_113 (by decide) ?_
    refine x_icmp_ge (tgt := 144) C dL_law_114 (by decide) (fun w => absurd ((leI (a := 4) (by omega) (by omega)).mp w) (by omega)) (fun _ => ?_)
    exact law_k1 C hq hX hl9 hc hs hc1 hs1 hI1 (by omega) (by omega) w1 hpg hhn (fun q1 m1 c1 r1 acts1 cells1 slots1 rs1 => K q1 m1 ν1 c1 r1 acts1 cells1 slots1 rs1)
  · refine x_iload C dL_law_93 6 rfl ?_
    refine x_if_ne (tgt := 111) C dL_law_95 (by decide) (fun _ => ?_) (fun w => absurd w (by decide))
    refine x_iload C dL_law_111 6 rfl ?_
    refine x_iconst (v := (4 : Int32)) C dL_law_113 (by decide) ?_
    refine x_icmp_ge (tgt := 144) C dL_law_114 (by decide) (fun _ => ?_) (fun w => absurd (by decide) w)
    refine x_iload C dL_law_144 6 rfl ?_
    refine x_iconst (v := (4 : Int32)) C dL_law_146 (by decide) ?_
    refine x_icmp_ne (tgt := 163) C dL_law_147 (by decide) (fun w => absurd (by decide) w) (fun _ => ?_)
    exact law_k4 C hq hX hl9 hc hs hc1 hs1 hI1 (by omega) (by omega) w1 hpg hhn (fun q1 m1 c1 r1 acts1 cells1 slots1 rs1 => K q1 m1 ν1 c1 r1 acts1 cells1 slots1 rs1)
  · refine x_iload C dL_law_93 6 rfl ?_
    refine x_if_ne (tgt := 111) C dL_law_95 (by decide) (fun _ => ?_) (fun w => absurd w (by decide))
    refine x_iload C dL_law_111 6 rfl ?_
    refine x_iconst (v := (4 : Int32)) C dL_law_113 (by decide) ?_
    refine x_icmp_ge (tgt := 144) C dL_law_114 (by decide) (fun _ => ?_) (fun w => absurd (by decide) w)
    refine x_iload C dL_law_144 6 rfl ?_
    refine x_iconst (v := (4 : Int32)) C dL_law_146 (by decide) ?_
    refine x_icmp_ne (tgt := 163) C dL_law_147 (by decide) (fun _ => ?_) (fun w => absurd w (by decide))
    refine x_iload C dL_law_163 6 rfl ?_
    refine x_iconst (v := (5 : Int32)) C dL_law_165 (by decide) ?_
    refine x_icmp_ne (tgt := 189) C dL_law_166 (by decide) (fun w => absurd (by decide) w) (fun _ => ?_)
    exact law_k5 C hq hX hl9 hc hs hc1 hs1 hI1 (by omega) (by omega) w1 hpg hhn (fun q1 m1 c1 r1 acts1 cells1 slots1 rs1 => K q1 m1 ν1 c1 r1 acts1 cells1 slots1 rs1)
  · refine x_iload C dL_law_93 6 rfl ?_
    refine x_if_ne (tgt := 111) C dL_law_95 (by decide) (fun _ => ?_) (fun w => absurd w (by decide))
    refine x_iload C dL_law_111 6 rfl ?_
    refine x_iconst (v := (4 : Int32)) C dL_law_113 (by decide) ?_
    refine x_icmp_ge (tgt := 144) C dL_law_114 (by decide) (fun _ => ?_) (fun w => absurd (by decide) w)
    refine x_iload C dL_law_144 6 rfl ?_
    refine x_iconst (v := (4 : Int32)) C dL_law_146 (by decide) ?_
    refine x_icmp_ne (tgt := 163) C dL_law_147 (by decide) (fun _ => ?_) (fun w => absurd w (by decide))
    refine x_iload C dL_law_163 6 rfl ?_
    refine x_iconst (v := (5 : Int32)) C dL_law_165 (by decide) ?_
    refine x_icmp_ne (tgt := 189) C dL_law_166 (by decide) (fun _ => ?_) (fun w => absurd w (by decide))
    refine x_iload C dL_law_189 6 rfl ?_
    refine x_bipush (v := (6 : Int32)) C dL_law_191 (by decide) ?_
    refine x_icmp_ne (tgt := 218) C dL_law_193 (by decide) (fun w => absurd (by decide) w) (fun _ => ?_)
    exact law_k6 C hq hX hl9 hc hs hc1 hs1 hI1 (by omega) (by omega) w1 hpg hhn (fun q1 m1 c1 r1 acts1 cells1 slots1 rs1 => K q1 m1 ν1 c1 r1 acts1 cells1 slots1 rs1)
  · refine x_iload C dL_law_93 6 rfl ?_
    refine x_if_ne (tgt := 111) C dL_law_95 (by decide) (fun _ => ?_) (fun w => absurd w (by decide))
    refine x_iload C dL_law_111 6 rfl ?_
    refine x_iconst (v := (4 : Int32)) C dL_law_113 (by decide) ?_
    refine x_icmp_ge (tgt := 144) C dL_law_114 (by decide) (fun _ => ?_) (fun w => absurd (by decide) w)
    refine x_iload C dL_law_144 6 rfl ?_
    refine x_iconst (v := (4 : Int32)) C dL_law_146 (by decide) ?_
    refine x_icmp_ne (tgt := 163) C dL_law_147 (by decide) (fun _ => ?_) (fun w => absurd w (by decide))
    refine x_iload C dL_law_163 6 rfl ?_
    refine x_iconst (v := (5 : Int32)) C dL_law_165 (by decide) ?_
    refine x_icmp_ne (tgt := 189) C dL_law_166 (by decide) (fun _ => ?_) (fun w => absurd w (by decide))
    refine x_iload C dL_law_189 6 rfl ?_
    refine x_bipush (v := (6 : Int32)) C dL_law_191 (by decide) ?_
    refine x_icmp_ne (tgt := 218) C dL_law_193 (by decide) (fun _ => ?_) (fun w => absurd w (by decide))
    exact law_k7 C hq hX hl9 hc hs hc1 hs1 hI1 (by omega) (by omega) w1 hpg hhn (fun q1 m1 c1 r1 acts1 cells1 slots1 rs1 => K q1 m1 ν1 c1 r1 acts1 cells1 slots1 rs1)
