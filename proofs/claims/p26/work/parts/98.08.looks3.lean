/-! the relation between the object's picture and the reference's, after n calls -/
def rTx (mh mr : gM) : Prop := ∃ n, n ≤ 60 ∧ mh 0 5 = Int32.ofNat n ∧ mr 0 5 = Int32.ofNat n ∧ ∀ i, i < n → mh 2 i = mr 4 i ∧ ∃ c, 33 ≤ c ∧ c ≤ 126 ∧ mr 4 i = Int32.ofNat c
def Rl (n : Nat) (mh mr : gM) : Prop := hQ (116400 * n) 4 mh (mr 1) ∧ (∃ k, k ≤ 6 ∧ rSv (116400 * n) k mh mr) ∧ rTx mh mr
theorem rSv_up {c c' k : Nat} {mh mr : gM} (h : rSv c k mh mr) (hc : c ≤ c') : rSv c' k mh mr := ⟨h.1, h.2.1, fun i hi => hQ_up (h.2.2 i hi) hc⟩
theorem Rl_up {n n' : Nat} {mh mr : gM} (h : Rl n mh mr) (hn : n ≤ n') : Rl n' mh mr := by
  obtain ⟨h1, ⟨k, hk, h2⟩, h3⟩ := h
  have : 116400 * n ≤ 116400 * n' := Nat.mul_le_mul_left _ hn
  exact ⟨hQ_up h1 this, ⟨k, hk, rSv_up h2 this⟩, h3⟩
theorem rTx_same {mh mh' mr mr' : gM} (a1 : mh' 2 = mh 2) (a2 : mh' 0 5 = mh 0 5) (b1 : mr' 4 = mr 4) (b2 : mr' 0 5 = mr 0 5) (h : rTx mh mr) : rTx mh' mr' := by
  unfold rTx at h ⊢; rw [a1, a2, b1, b2]; exact h
theorem rSv_same {c k : Nat} {mh mh' mr mr' : gM} (a1 : mh' 0 3 = mh 0 3) (a2 : ∀ x, 36 ≤ x → x < 132 → mh' x = mh x) (b1 : mr' 0 3 = mr 0 3) (b2 : mr' 3 = mr 3) (hk : k ≤ 6) (h : rSv c k mh mr) : rSv c k mh' mr' := by
  obtain ⟨h1, h2, h3⟩ := h
  refine ⟨a1.trans h1, b1.trans h2, fun i hi => ?_⟩
  have e : ∀ j, j < 16 → mh' (36 + 16 * i + j) = mh (36 + 16 * i + j) := fun j hj => a2 _ (by omega) (by omega)
  exact hQ_cell (b := 36 + 16 * i) (m := mh) (r := fun j => mr 3 (364 * i + j)) (fun j hj1 hj2 => e j hj2) (congrFun (e 0 (by omega)) 15) (congrFun (e 0 (by omega)) 16) (fun j hj => by rw [b2]) (h3 i hi)
theorem Rl_r {n : Nat} {mh mr mr' : gM} (b1 : mr' 1 = mr 1) (b3 : mr' 3 = mr 3) (b4 : mr' 4 = mr 4) (b03 : mr' 0 3 = mr 0 3) (b05 : mr' 0 5 = mr 0 5) (h : Rl n mh mr) : Rl n mh mr' := by
  obtain ⟨h1, ⟨k, hk, h2⟩, h3⟩ := h
  exact ⟨by unfold hQ at h1 ⊢; rw [b1]; exact h1, ⟨k, hk, rSv_same rfl (fun _ _ _ => rfl) b03 b3 hk h2⟩, rTx_same rfl rfl b4 b05 h3⟩
theorem selQ {c : Nat} {mh : gM} {r : Nat → Int32} (h : hQ c 4 mh r) : jQ c (8 * c) (g_sel [4, 5, 6, 7, 8, 9, 10, 11, 12, 13, 14, 15, 16, 17, 18, 19] mh) (vA r) := by
  refine ⟨jR_cell (m := hS 4 mh) (fun k h1 h2 => ?_) rfl rfl h.1, h.2⟩
  match k, h1, h2 with
  | 1, _, _ => rfl
  | 2, _, _ => rfl
  | 3, _, _ => rfl
  | 4, _, _ => rfl
  | 5, _, _ => rfl
  | 6, _, _ => rfl
  | 7, _, _ => rfl
  | 8, _, _ => rfl
  | 9, _, _ => rfl
  | 10, _, _ => rfl
  | 11, _, _ => rfl
  | 12, _, _ => rfl
  | 13, _, _ => rfl
  | 14, _, _ => rfl
  | 15, _, _ => rfl
  | n + 16, _, h => omega
  | 0, h, _ => omega
/-- a store's cells, put back -/
theorem mrgQ {c : Nat} {z r : gM} {f : Nat → Int32} (h : jQ c (8 * c) r (vA f)) : hQ c 4 (g_mrg [4, 5, 6, 7, 8, 9, 10, 11, 12, 13, 14, 15, 16, 17, 18, 19] z r) f := by
  refine ⟨jR_cell (m := r) (fun k h1 h2 => ?_) rfl rfl h.1, h.2⟩
  match k, h1, h2 with
  | 1, _, _ => rfl
  | 2, _, _ => rfl
  | 3, _, _ => rfl
  | 4, _, _ => rfl
  | 5, _, _ => rfl
  | 6, _, _ => rfl
  | 7, _, _ => rfl
  | 8, _, _ => rfl
  | 9, _, _ => rfl
  | 10, _, _ => rfl
  | 11, _, _ => rfl
  | 12, _, _ => rfl
  | 13, _, _ => rfl
  | 14, _, _ => rfl
  | 15, _, _ => rfl
  | n + 16, _, h => omega
  | 0, h, _ => omega
theorem mrg_out (z r : gM) : ∀ c, ¬ (4 ≤ c ∧ c < 20) → g_mrg [4, 5, 6, 7, 8, 9, 10, 11, 12, 13, 14, 15, 16, 17, 18, 19] z r c = z c := fun c hc => g_mrg_out (by simp only [List.mem_cons, List.not_mem_nil, or_false]; omega)
/-! wrong arguments -/
theorem fl_thrown (m : gM) (k : Int32) : f_r_thrown (f_r_fails m k).2 = k := by unfold f_r_thrown f_r_fails; rw [g_let_def]; show upd (m 0) 6 k 6 = k; rw [upd_at, if_pos rfl]
theorem fl_o (m : gM) (k : Int32) : o_r_fails m k := by unfold o_r_fails; rw [g_let_def]; trivial
theorem z_Rl {n : Nat} {mh mr : gM} (h : Rl n mh mr) : Rl (n + 1) mh (g_set mr 0 (upd (mr 0) 6 (0 : Int32))) := Rl_r rfl rfl rfl rfl rfl (Rl_up h (by omega))
theorem fl_Rl {n : Nat} {mh mr : gM} (k : Int32) (h : Rl n mh mr) : Rl (n + 1) mh (f_r_fails (g_set mr 0 (upd (mr 0) 6 (0 : Int32))) k).2 := by
  unfold f_r_fails
  rw [g_let_def]
  exact Rl_r rfl rfl rfl rfl rfl (z_Rl h)
theorem z_thrown (mr : gM) : f_r_thrown (g_set mr 0 (upd (mr 0) 6 (0 : Int32))) = 0 := rfl
theorem o_isIn (a b : Int32) : o_h_isIn a b := by
  unfold o_h_isIn; split
  · trivial
  · split <;> trivial
theorem o_in (a b c : Int32) : o_r_in a b c := by
  unfold o_r_in; split
  · trivial
  · split <;> trivial
theorem in01 (a b c : Int32) : f_r_in a b c = 0 ∨ f_r_in a b c = 1 := by
  unfold f_r_in; split
  · exact Or.inl rfl
  · split
    · exact Or.inl rfl
    · exact Or.inr rfl
theorem isIn01 (a b : Int32) : f_h_isIn a b = 0 ∨ f_h_isIn a b = 1 := by
  unfold f_h_isIn; split
  · exact Or.inl rfl
  · split
    · exact Or.inl rfl
    · exact Or.inr rfl
theorem o_isPage (a : Int32) : o_r_isPage a := ⟨o_in _ _ _, in01 _ _ _, trivial⟩
theorem o_isBlock (a : Int32) : o_r_isBlock a := ⟨o_in _ _ _, in01 _ _ _, trivial⟩
theorem o_isHint (a : Int32) : o_r_isHint a := ⟨o_in _ _ _, in01 _ _ _, trivial⟩
theorem isIn_c {M L : Int32} (N : Nat) (a : Int32) (h0 : 0 < N) (hN : N < 1000) (h1 : M = Int32.ofNat N) (h2 : L = Int32.ofNat (N - 1)) : (f_h_isIn a M = 0 ∧ f_r_in a 0 L = 0) ∨ ∃ x, x < N ∧ a = Int32.ofNat x ∧ ¬ (f_h_isIn a M = 0) ∧ ¬ (f_r_in a 0 L = 0) := by
  subst h1
  subst h2
  unfold f_h_isIn f_r_in
  by_cases ha : a < 0
  · rw [if_pos ha, if_pos ha]; exact Or.inl ⟨rfl, rfl⟩
  · obtain ⟨x, hx, hxx⟩ := nI_of ha
    have hxx : a = Int32.ofNat x := hxx
    subst hxx
    rw [if_neg ha, if_neg ha]
    have k1 := leI (a := N) (b := x) (by omega) (by omega)
    have k2 := ltI (a := N - 1) (b := x) (by omega) (by omega)
    by_cases hxN : x < N
    · refine Or.inr ⟨x, hxN, rfl, ?_, ?_⟩
      · rw [if_neg (fun w => by have := k1.mp w; omega)]; decide
      · rw [if_neg (fun w => by have := k2.mp w; omega)]; decide
    · rw [if_pos (k1.mpr (by omega)), if_pos (k2.mpr (by omega))]; exact Or.inl ⟨rfl, rfl⟩
theorem bd {n : Nat} (hn : n < 512) : 116400 * n < 100000000 ∧ 8 * (116400 * n) < 800000000 := by omega
theorem zr1 (mr : gM) : vA ((g_set mr 0 (upd (mr 0) 6 (0 : Int32))) 1) = vA (mr 1) := rfl
theorem op_page_ok {n : Nat} {mh mr : gM} (hn : n < 512) (h : Rl n mh mr) (a1 a2 : Int32) : op_page (Rl (n + 1)) mh mr a1 a2 := by
  have hT := selQ h.1
  obtain ⟨hR, hT⟩ := hT
  have hV := hT.1
  obtain ⟨bd1, bd2⟩ := bd hn
  rcases isIn_c (M := 40) (L := 39) 40 a1 (by omega) (by omega) rfl rfl with ⟨u0, v0⟩ | ⟨p, hp, ep, u0, v0⟩
  · have v0' : f_r_isPage a1 = 0 := v0
    refine ⟨?_, Or.inr (Or.inl ⟨?_, ?_, ?_, ?_⟩)⟩
    · unfold o_r_page
      simp only [g_let_def, if_pos v0']
      exact ⟨o_isPage _, fl_o _ _, trivial⟩
    · unfold ox_h_page
      simp only [if_pos u0]
      exact ⟨o_isIn _ _, trivial⟩
    · unfold fx_h_page
      simp only [if_pos u0]
    · unfold f_r_page
      simp only [g_let_def, if_pos v0']
      exact fl_thrown _ _
    · unfold f_r_page
      simp only [g_let_def, if_pos v0']
      exact fl_Rl _ h
  · have v0' : ¬ (f_r_isPage a1 = 0) := v0
    rcases isIn_c (M := 6) (L := 5) 6 a2 (by omega) (by omega) rfl rfl with ⟨u1, v1⟩ | ⟨q, hq, eq, u1, v1⟩
    · have v1' : f_r_in a2 (0 : Int32) (5 : Int32) = 0 := v1
      refine ⟨?_, Or.inr (Or.inr (⟨?_, ?_, ?_, ?_⟩))⟩
      · unfold o_r_page
        simp only [g_let_def, if_neg v0', if_pos v1']
        exact ⟨o_isPage _, o_in _ _ _, fl_o _ _, trivial⟩
      · unfold ox_h_page
        simp only [if_neg u0, if_pos u1]
        exact ⟨o_isIn _ _, o_isIn _ _, trivial⟩
      · unfold fx_h_page
        simp only [if_neg u0, if_pos u1]
      · unfold f_r_page
        simp only [g_let_def, if_neg v0', if_pos v1']
        exact fl_thrown _ _
      · unfold f_r_page
        simp only [g_let_def, if_neg v0', if_pos v1']
        exact fl_Rl _ h
    · have v1' : ¬ (f_r_in a2 (0 : Int32) (5 : Int32) = 0) := v1
      subst ep
      subst eq
      obtain ⟨k1, k2, k3⟩ := page_RS (M := g_set mr 0 (upd (mr 0) 6 (0 : Int32))) (zr1 mr) hR hV hp hq
      refine ⟨?_, Or.inl ⟨?_, ?_, ?_, ?_⟩⟩
      · unfold o_r_page
        simp only [g_let_def, if_neg v0', if_neg v1']
        exact ⟨o_isPage _, o_in _ _ _, k3, trivial⟩
      · unfold o_h_page
        simp only [g_let_def, if_neg u0, if_neg u1]
        exact ⟨o_isIn _ _, o_isIn _ _, k2, trivial⟩
      · unfold f_r_page
        simp only [g_let_def, if_neg v0', if_neg v1']
        exact z_thrown _
      · unfold f_h_page f_r_page
        simp only [g_let_def, if_neg u0, if_neg u1, if_neg v0', if_neg v1']
        exact k1
      · unfold f_r_page
        simp only [g_let_def, if_neg v0', if_neg v1']
        exact z_Rl h
theorem op_block_ok {n : Nat} {mh mr : gM} (hn : n < 512) (h : Rl n mh mr) (a1 a2 : Int32) : op_block (Rl (n + 1)) mh mr a1 a2 := by
  have hT := selQ h.1
  obtain ⟨hR, hT⟩ := hT
  have hV := hT.1
  obtain ⟨bd1, bd2⟩ := bd hn
  rcases isIn_c (M := 12) (L := 11) 12 a1 (by omega) (by omega) rfl rfl with ⟨u0, v0⟩ | ⟨p, hp, ep, u0, v0⟩
  · have v0' : f_r_isBlock a1 = 0 := v0
    refine ⟨?_, Or.inr (Or.inl ⟨?_, ?_, ?_, ?_⟩)⟩
    · unfold o_r_block
      simp only [g_let_def, if_pos v0']
      exact ⟨o_isBlock _, fl_o _ _, trivial⟩
    · unfold ox_h_block
      simp only [if_pos u0]
      exact ⟨o_isIn _ _, trivial⟩
    · unfold fx_h_block
      simp only [if_pos u0]
    · unfold f_r_block
      simp only [g_let_def, if_pos v0']
      exact fl_thrown _ _
    · unfold f_r_block
      simp only [g_let_def, if_pos v0']
      exact fl_Rl _ h
  · have v0' : ¬ (f_r_isBlock a1 = 0) := v0
    rcases isIn_c (M := 8) (L := 7) 8 a2 (by omega) (by omega) rfl rfl with ⟨u1, v1⟩ | ⟨q, hq, eq, u1, v1⟩
    · have v1' : f_r_in a2 (0 : Int32) (7 : Int32) = 0 := v1
      refine ⟨?_, Or.inr (Or.inr (⟨?_, ?_, ?_, ?_⟩))⟩
      · unfold o_r_block
        simp only [g_let_def, if_neg v0', if_pos v1']
        exact ⟨o_isBlock _, o_in _ _ _, fl_o _ _, trivial⟩
      · unfold ox_h_block
        simp only [if_neg u0, if_pos u1]
        exact ⟨o_isIn _ _, o_isIn _ _, trivial⟩
      · unfold fx_h_block
        simp only [if_neg u0, if_pos u1]
      · unfold f_r_block
        simp only [g_let_def, if_neg v0', if_pos v1']
        exact fl_thrown _ _
      · unfold f_r_block
        simp only [g_let_def, if_neg v0', if_pos v1']
        exact fl_Rl _ h
    · have v1' : ¬ (f_r_in a2 (0 : Int32) (7 : Int32) = 0) := v1
      subst ep
      subst eq
      obtain ⟨k1, k2, k3⟩ := block_RS (M := g_set mr 0 (upd (mr 0) 6 (0 : Int32))) (zr1 mr) hR hV hp hq
      refine ⟨?_, Or.inl ⟨?_, ?_, ?_, ?_⟩⟩
      · unfold o_r_block
        simp only [g_let_def, if_neg v0', if_neg v1']
        exact ⟨o_isBlock _, o_in _ _ _, k3, trivial⟩
      · unfold o_h_block
        simp only [g_let_def, if_neg u0, if_neg u1]
        exact ⟨o_isIn _ _, o_isIn _ _, k2, trivial⟩
      · unfold f_r_block
        simp only [g_let_def, if_neg v0', if_neg v1']
        exact z_thrown _
      · unfold f_h_block f_r_block
        simp only [g_let_def, if_neg u0, if_neg u1, if_neg v0', if_neg v1']
        exact k1
      · unfold f_r_block
        simp only [g_let_def, if_neg v0', if_neg v1']
        exact z_Rl h
theorem op_stream_ok {n : Nat} {mh mr : gM} (hn : n < 512) (h : Rl n mh mr) (a1 a2 : Int32) : op_stream (Rl (n + 1)) mh mr a1 a2 := by
  have hT := selQ h.1
  obtain ⟨hR, hT⟩ := hT
  have hV := hT.1
  obtain ⟨bd1, bd2⟩ := bd hn
  rcases isIn_c (M := 5) (L := 4) 5 a1 (by omega) (by omega) rfl rfl with ⟨u0, v0⟩ | ⟨p, hp, ep, u0, v0⟩
  · have v0' : f_r_in a1 (0 : Int32) (4 : Int32) = 0 := v0
    refine ⟨?_, Or.inr (Or.inl ⟨?_, ?_, ?_, ?_⟩)⟩
    · unfold o_r_stream
      simp only [g_let_def, if_pos v0']
      exact ⟨o_in _ _ _, fl_o _ _, trivial⟩
    · unfold ox_h_stream
      simp only [if_pos u0]
      exact ⟨o_isIn _ _, trivial⟩
    · unfold fx_h_stream
      simp only [if_pos u0]
    · unfold f_r_stream
      simp only [g_let_def, if_pos v0']
      exact fl_thrown _ _
    · unfold f_r_stream
      simp only [g_let_def, if_pos v0']
      exact fl_Rl _ h
  · have v0' : ¬ (f_r_in a1 (0 : Int32) (4 : Int32) = 0) := v0
    rcases isIn_c (M := 5) (L := 4) 5 a2 (by omega) (by omega) rfl rfl with ⟨u1, v1⟩ | ⟨q, hq, eq, u1, v1⟩
    · have v1' : f_r_in a2 (0 : Int32) (4 : Int32) = 0 := v1
      refine ⟨?_, Or.inr (Or.inr (⟨?_, ?_, ?_, ?_⟩))⟩
      · unfold o_r_stream
        simp only [g_let_def, if_neg v0', if_pos v1']
        exact ⟨o_in _ _ _, o_in _ _ _, fl_o _ _, trivial⟩
      · unfold ox_h_stream
        simp only [if_neg u0, if_pos u1]
        exact ⟨o_isIn _ _, o_isIn _ _, trivial⟩
      · unfold fx_h_stream
        simp only [if_neg u0, if_pos u1]
      · unfold f_r_stream
        simp only [g_let_def, if_neg v0', if_pos v1']
        exact fl_thrown _ _
      · unfold f_r_stream
        simp only [g_let_def, if_neg v0', if_pos v1']
        exact fl_Rl _ h
    · have v1' : ¬ (f_r_in a2 (0 : Int32) (4 : Int32) = 0) := v1
      subst ep
      subst eq
      obtain ⟨k1, k2, k3⟩ := stream_RS (M := g_set mr 0 (upd (mr 0) 6 (0 : Int32))) (zr1 mr) hR hV hp hq
      refine ⟨?_, Or.inl ⟨?_, ?_, ?_, ?_⟩⟩
      · unfold o_r_stream
        simp only [g_let_def, if_neg v0', if_neg v1']
        exact ⟨o_in _ _ _, o_in _ _ _, k3, trivial⟩
      · unfold o_h_stream
        simp only [g_let_def, if_neg u0, if_neg u1]
        exact ⟨o_isIn _ _, o_isIn _ _, k2, trivial⟩
      · unfold f_r_stream
        simp only [g_let_def, if_neg v0', if_neg v1']
        exact z_thrown _
      · unfold f_h_stream f_r_stream
        simp only [g_let_def, if_neg u0, if_neg u1, if_neg v0', if_neg v1']
        exact k1
      · unfold f_r_stream
        simp only [g_let_def, if_neg v0', if_neg v1']
        exact z_Rl h
theorem counted_RS {n w : Nat} {mh mr : gM} (hn : n < 512) (h : Rl n mh mr) (hw : w < 12) : f_h_count mh (Int32.ofNat w) = f_r_counted mr (Int32.ofNat w) ∧ o_h_count mh (Int32.ofNat w) ∧ o_r_counted mr (Int32.ofNat w) := by
  obtain ⟨hR, hT⟩ := selQ h.1
  obtain ⟨bd1, bd2⟩ := bd hn
  obtain ⟨-, ⟨k, hk, s1, s2, -⟩, -⟩ := h
  rcases isIn_c (M := 12) (L := 11) 12 (Int32.ofNat w) (by omega) (by omega) rfl rfl with ⟨u0, v0⟩ | ⟨x, hx, ex, u0, v0⟩
  · exfalso
    unfold f_h_isIn at u0
    have hp0 : ¬ (Int32.ofNat w < 0) := nI_pos (show w < 2 ^ 31 by omega)
    rw [if_neg hp0, if_neg (lq12 hw)] at u0
    exact absurd u0 (by decide)
  · unfold f_h_count o_h_count
    rw [if_neg u0, if_neg u0]
    by_cases h11 : w = 11
    · subst h11
      have e : Int32.ofNat 11 = (11 : Int32) := rfl
      rw [if_pos e, if_pos e]
      refine ⟨?_, ⟨o_isIn _ _, trivial⟩, trivial⟩
      show mh 0 3 = mr 0 3
      rw [s1, s2]
    · have ne : ¬ (Int32.ofNat w = (11 : Int32)) := fun z => h11 (nI_inj (b := 11) (by omega) (by omega) z)
      rw [if_neg ne, if_neg ne]
      obtain ⟨k1, k2, k3⟩ := total_RS (M := mr) rfl hR hT bd1 bd2 (show w < 11 by omega)
      exact ⟨k1, ⟨o_isIn _ _, k2, trivial⟩, k3⟩
theorem op_count_ok {n : Nat} {mh mr : gM} (hn : n < 512) (h : Rl n mh mr) (a1 : Int32) : op_count (Rl (n + 1)) mh mr a1 := by
  have hT := selQ h.1
  obtain ⟨hR, hT⟩ := hT
  have hV := hT.1
  obtain ⟨bd1, bd2⟩ := bd hn
  rcases isIn_c (M := 12) (L := 11) 12 a1 (by omega) (by omega) rfl rfl with ⟨u0, v0⟩ | ⟨p, hp, ep, u0, v0⟩
  · have v0' : f_r_in a1 (0 : Int32) (11 : Int32) = 0 := v0
    refine ⟨?_, Or.inr (⟨?_, ?_, ?_, ?_⟩)⟩
    · unfold o_r_count
      simp only [g_let_def, if_pos v0']
      exact ⟨o_in _ _ _, fl_o _ _, trivial⟩
    · unfold ox_h_count
      simp only [if_pos u0]
      exact ⟨o_isIn _ _, trivial⟩
    · unfold fx_h_count
      simp only [if_pos u0]
    · unfold f_r_count
      simp only [g_let_def, if_pos v0']
      exact fl_thrown _ _
    · unfold f_r_count
      simp only [g_let_def, if_pos v0']
      exact fl_Rl _ h
  · have v0' : ¬ (f_r_in a1 (0 : Int32) (11 : Int32) = 0) := v0
    subst ep
    obtain ⟨k1, k2, k3⟩ := counted_RS (mr := g_set mr 0 (upd (mr 0) 6 (0 : Int32))) hn (Rl_r (mr := mr) rfl rfl rfl rfl rfl h) hp
    refine ⟨?_, Or.inl ⟨?_, ?_, ?_, ?_⟩⟩
    · unfold o_r_count
      simp only [g_let_def, if_neg v0']
      exact ⟨o_in _ _ _, k3, trivial⟩
    · exact k2
    · unfold f_r_count
      simp only [g_let_def, if_neg v0']
      exact z_thrown _
    · unfold f_r_count
      simp only [g_let_def, if_neg v0']
      exact k1
    · unfold f_r_count
      simp only [g_let_def, if_neg v0']
      exact z_Rl h
theorem op_setting_ok {n : Nat} {mh mr : gM} (hn : n < 512) (h : Rl n mh mr) (a1 : Int32) : op_setting (Rl (n + 1)) mh mr a1 := by
  have hT := selQ h.1
  obtain ⟨hR, hT⟩ := hT
  have hV := hT.1
  obtain ⟨bd1, bd2⟩ := bd hn
  rcases isIn_c (M := 2) (L := 1) 2 a1 (by omega) (by omega) rfl rfl with ⟨u0, v0⟩ | ⟨p, hp, ep, u0, v0⟩
  · have v0' : f_r_in a1 (0 : Int32) (1 : Int32) = 0 := v0
    refine ⟨?_, Or.inr (⟨?_, ?_, ?_, ?_⟩)⟩
    · unfold o_r_setting
      simp only [g_let_def, if_pos v0']
      exact ⟨o_in _ _ _, fl_o _ _, trivial⟩
    · unfold ox_h_setting
      simp only [if_pos u0]
      exact ⟨o_isIn _ _, trivial⟩
    · unfold fx_h_setting
      simp only [if_pos u0]
    · unfold f_r_setting
      simp only [g_let_def, if_pos v0']
      exact fl_thrown _ _
    · unfold f_r_setting
      simp only [g_let_def, if_pos v0']
      exact fl_Rl _ h
  · have v0' : ¬ (f_r_in a1 (0 : Int32) (1 : Int32) = 0) := v0
    subst ep
    have r1 : vp_in ((358 : Int32) + Int32.ofNat p) 364 := by rw [show (358 : Int32) = Int32.ofNat 358 from rfl, nI_plus2]; exact vp_in_nI (by omega) (by omega)
    have r2 : mh 19 (Int32.ofNat p).toNatClampNeg = mr 1 ((358 : Int32) + Int32.ofNat p).toNatClampNeg := by
      obtain ⟨-, -, -, -, -, R6, R7, -⟩ := hR
      match p, hp with
      | 0, _ => exact R6
      | 1, _ => exact R7
      | n + 2, z => omega
    refine ⟨?_, Or.inl ⟨?_, ?_, ?_, ?_⟩⟩
    · unfold o_r_setting
      simp only [g_let_def, if_neg v0']
      exact ⟨o_in _ _ _, r1, trivial⟩
    · unfold o_h_setting
      simp only [g_let_def, if_neg u0]
      exact ⟨o_isIn _ _, vp_in_nI hp (by omega), trivial⟩
    · unfold f_r_setting
      simp only [g_let_def, if_neg v0']
      exact z_thrown _
    · unfold f_h_setting f_r_setting
      simp only [g_let_def, if_neg u0, if_neg v0']
      exact r2
    · unfold f_r_setting
      simp only [g_let_def, if_neg v0']
      exact z_Rl h
theorem op_slot_ok {n : Nat} {mh mr : gM} (hn : n < 512) (h : Rl n mh mr) (a1 a2 a3 : Int32) (h3 : a3 = 0 ∨ a3 = 1) : op_slot (Rl (n + 1)) mh mr a1 a2 a3 := by
  have hT := selQ h.1
  obtain ⟨hR, hT⟩ := hT
  have hV := hT.1
  obtain ⟨bd1, bd2⟩ := bd hn
  rcases isIn_c (M := 12) (L := 11) 12 a1 (by omega) (by omega) rfl rfl with ⟨u0, v0⟩ | ⟨p, hp, ep, u0, v0⟩
  · have v0' : f_r_isBlock a1 = 0 := v0
    refine ⟨?_, Or.inr (⟨?_, ?_, ?_, ?_⟩)⟩
    · unfold o_r_slot
      simp only [g_let_def, if_pos v0']
      exact ⟨o_isBlock _, fl_o _ _, trivial⟩
    · unfold ox_h_slot
      simp only [if_pos u0]
      exact ⟨o_isIn _ _, trivial⟩
    · unfold fx_h_slot
      simp only [if_pos u0]
    · unfold f_r_slot
      simp only [g_let_def, if_pos v0']
      exact fl_thrown _ _
    · unfold f_r_slot
      simp only [g_let_def, if_pos v0']
      exact fl_Rl _ h
  · have v0' : ¬ (f_r_isBlock a1 = 0) := v0
    rcases isIn_c (M := 8) (L := 7) 8 a2 (by omega) (by omega) rfl rfl with ⟨u1, v1⟩ | ⟨q, hq, eq, u1, v1⟩
    · have v1' : f_r_in a2 (0 : Int32) (7 : Int32) = 0 := v1
      refine ⟨?_, Or.inr (⟨?_, ?_, ?_, ?_⟩)⟩
      · unfold o_r_slot
        simp only [g_let_def, if_neg v0', if_pos v1']
        exact ⟨o_isBlock _, o_in _ _ _, fl_o _ _, trivial⟩
      · unfold ox_h_slot
        simp only [if_neg u0, if_pos u1]
        exact ⟨o_isIn _ _, o_isIn _ _, trivial⟩
      · unfold fx_h_slot
        simp only [if_neg u0, if_pos u1]
      · unfold f_r_slot
        simp only [g_let_def, if_neg v0', if_pos v1']
        exact fl_thrown _ _
      · unfold f_r_slot
        simp only [g_let_def, if_neg v0', if_pos v1']
        exact fl_Rl _ h
    · have v1' : ¬ (f_r_in a2 (0 : Int32) (7 : Int32) = 0) := v1
      subst ep
      subst eq
      have hk : 8 * p + q < 96 := by omega
      have q1 : (8 : Int32) * Int32.ofNat p + Int32.ofNat q = Int32.ofNat (8 * p + q) := by rw [e8l, nI_plus2]
      have q2 : Int32.ofNat p * (8 : Int32) + Int32.ofNat q = Int32.ofNat (8 * p + q) := by rw [e8r, nI_plus2]
      obtain ⟨w1, w2⟩ := validPageAt_S hR hV.1 hk
      obtain ⟨x1, x2⟩ := isValid_A (m := g_sel [1] (g_set mr 0 (upd (mr 0) 6 (0 : Int32)))) hV.1 hk
      have x1' : f_r_isValid (g_sel [1] (g_set mr 0 (upd (mr 0) 6 (0 : Int32)))) (Int32.ofNat (8 * p + q)) = Int32.ofNat (vd (vA (mr 1)) (8 * p + q)) := x1
      have y1 : (g_set mr 0 (upd (mr 0) 6 (0 : Int32))) 1 (Int32.ofNat (8 * p + q)).toNatClampNeg = vA (mr 1) 0 (8 * p + q) := rh0 (m := mr) hk
      have y2 : mh 10 (Int32.ofNat (8 * p + q)).toNatClampNeg = vA (mr 1) 0 (8 * p + q) := by rw [nI_ix (by omega)]; exact hR.2.1 _ hk
      have hv : vd (vA (mr 1)) (8 * p + q) = 0 ∨ vd (vA (mr 1)) (8 * p + q) = 1 := by
        have := vd_le (vA (mr 1)) (8 * p + q); have := bN_le (vA (mr 1)) (8 * p + q); omega
      have n10 : ¬ ((1 : Int32) = 0) := by decide
      rcases h3 with h3 | h3
      · subst h3
        refine ⟨?_, Or.inl ⟨?_, ?_, ?_, ?_⟩⟩
        · unfold o_r_slot
          simp only [g_let_def, if_neg v0', if_neg v1', q1, if_true]
          exact ⟨o_isBlock _, o_in _ _ _, ro0 hk, trivial⟩
        · unfold o_h_slot
          simp only [g_let_def, if_neg u0, if_neg u1, q2, if_true]
          exact ⟨o_isIn _ _, o_isIn _ _, vp_in_nI hk (by omega), trivial⟩
        · unfold f_r_slot
          simp only [g_let_def, if_neg v0', if_neg v1', if_true]
          exact z_thrown _
        · unfold f_h_slot f_r_slot
          simp only [g_let_def, if_neg u0, if_neg u1, if_neg v0', if_neg v1', q1, q2, if_true, y1, y2]
        · unfold f_r_slot
          simp only [g_let_def, if_neg v0', if_neg v1', if_true]
          exact z_Rl h
      · subst h3
        rcases hv with hv | hv
        · have x3 : f_r_isValid (g_sel [1] (g_set mr 0 (upd (mr 0) 6 (0 : Int32)))) (Int32.ofNat (8 * p + q)) = 0 := by rw [x1', hv]; rfl
          refine ⟨?_, Or.inl ⟨?_, ?_, ?_, ?_⟩⟩
          · unfold o_r_slot
            simp only [g_let_def, if_neg v0', if_neg v1', q1, if_neg n10, if_pos x3]
            exact ⟨o_isBlock _, o_in _ _ _, x2, trivial⟩
          · unfold o_h_slot
            simp only [g_let_def, if_neg u0, if_neg u1, q2, if_neg n10]
            exact ⟨o_isIn _ _, o_isIn _ _, w2, trivial⟩
          · unfold f_r_slot
            simp only [g_let_def, if_neg v0', if_neg v1', q1, if_neg n10, if_pos x3]
            exact z_thrown _
          · unfold f_h_slot f_r_slot
            simp only [g_let_def, if_neg u0, if_neg u1, if_neg v0', if_neg v1', q1, q2, if_neg n10, if_pos x3]
            rw [w1, hv, if_neg (by omega)]
          · unfold f_r_slot
            simp only [g_let_def, if_neg v0', if_neg v1', q1, if_neg n10, if_pos x3]
            exact z_Rl h
        · have x3 : ¬ (f_r_isValid (g_sel [1] (g_set mr 0 (upd (mr 0) 6 (0 : Int32)))) (Int32.ofNat (8 * p + q)) = 0) := by rw [x1', hv]; decide
          refine ⟨?_, Or.inl ⟨?_, ?_, ?_, ?_⟩⟩
          · unfold o_r_slot
            simp only [g_let_def, if_neg v0', if_neg v1', q1, if_neg n10, if_neg x3]
            exact ⟨o_isBlock _, o_in _ _ _, x2, ro0 hk, trivial⟩
          · unfold o_h_slot
            simp only [g_let_def, if_neg u0, if_neg u1, q2, if_neg n10]
            exact ⟨o_isIn _ _, o_isIn _ _, w2, trivial⟩
          · unfold f_r_slot
            simp only [g_let_def, if_neg v0', if_neg v1', q1, if_neg n10, if_neg x3]
            exact z_thrown _
          · unfold f_h_slot f_r_slot
            simp only [g_let_def, if_neg u0, if_neg u1, if_neg v0', if_neg v1', q1, q2, if_neg n10, if_neg x3, y1]
            rw [w1, hv, if_pos rfl]
          · unfold f_r_slot
            simp only [g_let_def, if_neg v0', if_neg v1', q1, if_neg n10, if_neg x3]
            exact z_Rl h
