/-! a call's row as a number -/
theorem rwN_out (T : Nat) {j : Nat} (h : 364 ≤ j) : rwN T j = 0 := if_neg (by omega)
theorem cl_fix {f : Nat → Int32} (h : ∀ j, 364 ≤ j → f j = 0) : cl f = f := by
  funext j
  unfold cl
  by_cases hj : j < 364
  · rw [if_pos hj]
  · rw [if_neg hj, h j (by omega)]
theorem srow_N {T T' i : Nat} {x : Int32} (hi : i < 2) (e : pk (srow (rwN T) i x) 364 = T') : srow (rwN T) i x = rwN T' := by
  rw [← st_of e]
  refine (cl_fix fun j hj => ?_).symm
  unfold srow
  rw [upd_at, if_neg (by omega)]
  exact rwN_out T hj
theorem Rq_N {c T : Nat} {m : gM} {r : Nat → Int32} {rs : List (Nat → Int32)} (h : Rq c m r rs) (e : pk r 364 = T) : Rq c m (rwN T) rs := by
  rw [← st_of e]; exact Rq_row h (fun k hk => cl_at r hk)
theorem sub_of {a b x : Int32} (h : b = a + x) : x = b - a := by rw [h, sub_same2]
theorem pus_lt {rs : List (Nat → Int32)} {r : Nat → Int32} (h : rs.length < 6) : pus rs r = rs ++ [r] := by
  unfold pus; rw [if_neg (by omega)]
theorem pus_6 {a : Nat → Int32} {rs : List (Nat → Int32)} {r : Nat → Int32} (h : (a :: rs).length = 6) : pus (a :: rs) r = rs ++ [r] := by
  unfold pus; rw [if_pos h]; rfl
theorem write_N {c p h T T' : Nat} {v : Int32} {m : gM} {rs : List (Nat → Int32)} (hR : Rq c m (rwN T) rs) (hp : p < 40) (hh : h < 4) (hc : c < 1000000) (e : wrN h T p 1 = T') (hv : rwN T' 361 - rwN T 361 = v) :
    o_h_write m (Int32.ofNat p) (Int32.ofNat h) ∧ (f_h_write m (Int32.ofNat p) (Int32.ofNat h)).1 = v ∧ Rq (c + 97) (f_h_write m (Int32.ofNat p) (Int32.ofNat h)).2 (rwN T') (pus rs (rwN T)) := by
  obtain ⟨a1, ⟨x, -, a2, a3⟩, a4, -⟩ := writeQ hR hp hh (by omega)
  rw [wrow_N, e] at a3 a4
  exact ⟨a1, by rw [a2, sub_of a3]; exact hv, a4⟩
theorem writeRow_N {c p k h T T' : Nat} {v : Int32} {m : gM} {rs : List (Nat → Int32)} (hR : Rq c m (rwN T) rs) (hk1 : 1 ≤ k) (hpk : p + k ≤ 40) (hh : h < 4) (hc : c < 1000000) (e : wrN h T p k = T') (hv : rwN T' 361 - rwN T 361 = v) :
    o_h_writeRow m (Int32.ofNat p) (Int32.ofNat k) (Int32.ofNat h) ∧ (f_h_writeRow m (Int32.ofNat p) (Int32.ofNat k) (Int32.ofNat h)).1 = v ∧ Rq (c + 97 * k) (f_h_writeRow m (Int32.ofNat p) (Int32.ofNat k) (Int32.ofNat h)).2 (rwN T') (pus rs (rwN T)) := by
  obtain ⟨a1, ⟨x, -, a2, a3⟩, a4, -⟩ := writeRowQ hR hk1 hpk hh (by omega)
  rw [wrow_N, e] at a3 a4
  exact ⟨a1, by rw [a2, sub_of a3]; exact hv, a4⟩
theorem trim_N {c p T T' : Nat} {v : Int32} {m : gM} {rs : List (Nat → Int32)} (hR : Rq c m (rwN T) rs) (hp : p < 40) (e : pk (trow (rwN T) p) 364 = T') (hv : (if rwN T (144 + 5 * p) = -1 then -1 else rwN T (144 + 5 * p) / 8) = v) :
    o_h_trim m (Int32.ofNat p) ∧ (f_h_trim m (Int32.ofNat p)).1 = v ∧ Rq c (f_h_trim m (Int32.ofNat p)).2 (rwN T') (pus rs (rwN T)) := by
  obtain ⟨a1, a2, a4, -⟩ := trimQ hR hp
  exact ⟨a1, a2.trans hv, Rq_N a4 e⟩
theorem hint_N {c p h T T' : Nat} {v : Int32} {m : gM} {rs : List (Nat → Int32)} (hR : Rq c m (rwN T) rs) (hp : p < 40) (hh : h < 4) (hz : ¬ (rwN T (144 + 5 * p) = -1)) (e : pk (hrow (rwN T) p h) 364 = T') (hv : rwN T (145 + 5 * p) = v) :
    o_h_hint m (Int32.ofNat p) (Int32.ofNat h) ∧ (f_h_hint m (Int32.ofNat p) (Int32.ofNat h)).1 = v ∧ Rq c (f_h_hint m (Int32.ofNat p) (Int32.ofNat h)).2 (rwN T') (pus rs (rwN T)) := by
  obtain ⟨a1, a2, -, a4, -⟩ := hintQ hR hp hh hz
  exact ⟨a1, a2.trans hv, Rq_N a4 e⟩
theorem collect_N {c b T T' : Nat} {v : Int32} {m : gM} {rs : List (Nat → Int32)} (hR : Rq c m (rwN T) rs) (hb : b < 12) (hz : rwN T (96 + b) = 2) (hc : c < 1000000) (e : pk ((ef_r_collects (m0 (rwN T)) (Int32.ofNat b)).2 0) 364 = T') (hv : rwN T' 361 - rwN T 361 = v) :
    o_h_collect m (Int32.ofNat b) ∧ (f_h_collect m (Int32.ofNat b)).1 = v ∧ Rq (c + 97) (f_h_collect m (Int32.ofNat b)).2 (rwN T') (pus rs (rwN T)) := by
  obtain ⟨a1, ⟨x, -, a2, a3⟩, a4, -⟩ := collectQ hR hb hz (by omega)
  rw [ee_f_r_collects] at a3 a4
  have e3 : (ef_r_collects (m0 (rwN T)) (Int32.ofNat b)).2 0 361 = rwN T' 361 := by rw [← st_of e, cl_at _ (by omega)]
  rw [e3] at a3
  exact ⟨a1, by rw [a2, sub_of a3]; exact hv, Rq_N a4 e⟩
theorem tidy_N {c k T T' : Nat} {v : Int32} {m : gM} {rs : List (Nat → Int32)} (hR : Rq c m (rwN T) rs) (hk1 : 1 ≤ k) (hk2 : k ≤ 12) (hc : c < 1000000) (e : pk ((ef_r_frees (m0 (rwN T)) (Int32.ofNat k)).2 0) 364 = T') (hv : rwN T' 362 - rwN T 362 = v) :
    o_h_tidy m (Int32.ofNat k) ∧ (f_h_tidy m (Int32.ofNat k)).1 = v ∧ Rq (c + 97) (f_h_tidy m (Int32.ofNat k)).2 (rwN T') (pus rs (rwN T)) := by
  obtain ⟨a1, ⟨x, -, a2, a3⟩, a4, -⟩ := tidyQ hR hk1 hk2 (by omega)
  rw [ee_f_r_frees] at a3 a4
  have e3 : (ef_r_frees (m0 (rwN T)) (Int32.ofNat k)).2 0 362 = rwN T' 362 := by rw [← st_of e, cl_at _ (by omega)]
  rw [e3] at a3
  exact ⟨a1, by rw [a2, sub_of a3]; exact hv, Rq_N a4 e⟩
theorem set_N {c i T T' : Nat} {x v : Int32} {m : gM} {rs : List (Nat → Int32)} (hR : Rq c m (rwN T) rs) (hi : (i = 0 ∧ (x = 0 ∨ x = 1 ∨ x = 2)) ∨ (i = 1 ∧ (x = 2 ∨ x = 3 ∨ x = 4))) (e : pk (srow (rwN T) i x) 364 = T') (hv : rwN T (358 + i) = v) :
    o_h_set m (Int32.ofNat i) x ∧ (f_h_set m (Int32.ofNat i) x).1 = v ∧ Rq c (f_h_set m (Int32.ofNat i) x).2 (rwN T') (pus rs (rwN T)) := by
  obtain ⟨a1, a2, -, a4, -⟩ := setQ hR hi
  exact ⟨a1, a2.trans hv, Rq_N a4 e⟩
theorem ifWritten_N {c p h w T T' : Nat} {v : Int32} {m : gM} {rs : List (Nat → Int32)} (hR : Rq c m (rwN T) rs) (hp : p < 40) (hh : h < 4) (hw : w < 3) (hc : c < 1000000) (e : wrN h T p 1 = T') (hv : (if w = 0 then rwN T' 361 - rwN T 361 else if w = 1 then rwN T' (144 + 5 * p) / 8 else rwN T' 362 - rwN T 362) = v) :
    o_h_ifWritten m (Int32.ofNat p) (Int32.ofNat h) (Int32.ofNat w) ∧ (f_h_ifWritten m (Int32.ofNat p) (Int32.ofNat h) (Int32.ofNat w)).1 = v ∧ Rq c (f_h_ifWritten m (Int32.ofNat p) (Int32.ofNat h) (Int32.ofNat w)).2 (rwN T) rs := by
  obtain ⟨a1, a2, a3⟩ := ifWrittenQ hR hp hh hw (by omega)
  rw [wrow_N, e] at a2
  exact ⟨a1, a2.trans hv, Rq_trial hR a3⟩
theorem ifRewritten_N {c k u T T' T2 : Nat} {v : Int32} {m : gM} {rs : List (Nat → Int32)} (hR : Rq c m (rwN T) rs) (hk1 : 1 ≤ k) (hk : k ≤ 9) (hu : u < 3) (hr : rwN T 358 = Int32.ofNat u) (hc : c < 1000000) (e : pk (srow (rwN T) 0 (Int32.ofNat u)) 364 = T2) (e2 : zN T2 (40 * k) = T') (hv : rwN T' 361 - rwN T 361 = v) :
    o_h_ifRewritten m (Int32.ofNat k) ∧ (f_h_ifRewritten m (Int32.ofNat k)).1 = v ∧ Rq c (f_h_ifRewritten m (Int32.ofNat k)).2 (rwN T) rs := by
  obtain ⟨a1, a2, a3⟩ := ifRewrittenQ hR hk1 hk hu hr (by omega)
  rw [srow_N (by omega) e, rwr_N, e2] at a2
  exact ⟨a1, a2.trans hv, Rq_trial hR a3⟩
theorem bestRule_N {c k T : Nat} {m : gM} {rs : List (Nat → Int32)} (hR : Rq c m (rwN T) rs) (hk1 : 1 ≤ k) (hk : k ≤ 9) (hc : c < 1000000) (hz : ∀ u, u < 3 → ∃ T2 T', pk (srow (rwN T) 0 (Int32.ofNat u)) 364 = T2 ∧ zN T2 (40 * k) = T' ∧ rwN T' 361 - rwN T 361 = 0) :
    o_h_bestRule m (Int32.ofNat k) ∧ (f_h_bestRule m (Int32.ofNat k)).1 = 0 ∧ Rq c (f_h_bestRule m (Int32.ofNat k)).2 (rwN T) rs := by
  obtain ⟨a1, a2, a3⟩ := bestRuleQ0 hR hk1 hk (fun u hu => by
    obtain ⟨T2, T', e1, e2, e3⟩ := hz u hu
    rw [srow_N (by omega) e1, rwr_N, e2]; exact e3) (by omega)
  exact ⟨a1, a2, Rq_trial hR a3⟩
theorem Rq_fresh {m : gM} {T : Nat} (h : hQ 0 4 m row0) (h3 : m 0 3 = 0) (e : pk row0 364 = T) : Rq 0 m (rwN T) [] := Rq_N ⟨h, h3, Nat.zero_le _, fun i f hf => by cases hf⟩ e
theorem undoX {c : Nat} {m : gM} {r : Nat → Int32} (hR : Rq c m r []) : ox_h_undo m ∧ fx_h_undo m = "java/lang/IllegalStateException" := by
  have h : ¬ (0 < m 0 3) := by rw [hR.2.1]; decide
  unfold ox_h_undo fx_h_undo
  rw [if_neg h, if_neg h]
  exact ⟨trivial, rfl⟩
