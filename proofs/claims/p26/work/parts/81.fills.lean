theorem lit_le {c n : Nat} (hc : c < 2147483648) (hn : n < 2147483648) : (Int32.ofNat c ≤ Int32.ofNat n) ↔ c ≤ n := nI_leI (by omega) (by omega)
theorem upd_at (f : Nat → Int32) (i : Nat) (x : Int32) (j : Nat) : upd f i x j = if j = i then x else f j := rfl
theorem g_set_at (m : gM) (k : Nat) (f : Nat → Int32) (a : Nat) : g_set m k f a = if a = k then f else m a := rfl
theorem fill40_at (m : gM) (v : Int32) : o_j_fill40 m v ∧ ∀ k j, f_j_fill40 m v k j = if k = 0 ∧ j < 40 then v else m k j := by
  have h := run_count (f := L_j_fill40_5 v (40 : Int32)) (K := K_j_fill40_5 v (40 : Int32)) (N := 40) (fuel := 400) (fun n z => z.1 = Int32.ofNat n ∧ ∀ k j, z.2 k j = if k = 0 ∧ j < n then v else m k j) (fun z => ∀ k j, z.2 k j = if k = 0 ∧ j < 40 then v else m k j) (z := (0, m)) (by decide) ⟨rfl, fun k j => by rw [if_neg (by omega)]⟩ (fun n z hn hz => ?_) (fun z hz => ?_)
  · unfold o_j_fill40 f_j_fill40
    simp only [g_let_def]
    exact ⟨⟨h.1, trivial⟩, h.2⟩
  · obtain ⟨i, z⟩ := z
    obtain ⟨h1, h2⟩ := hz
    dsimp only at h1 h2
    subst h1
    have hlt : ¬ ((40 : Int32) ≤ Int32.ofNat n) := fun h => absurd ((lit_le (c := 40) (by omega) (by omega)).mp h) (by omega)
    unfold K_j_fill40_5 L_j_fill40_5
    simp only [g_let_def, if_neg hlt]
    refine ⟨⟨vp_in_nI (by omega) (by omega), trivial⟩, trivial, nI_plus2 n 1, fun k j => ?_⟩
    rw [g_set_at]
    by_cases hk : k = 0
    · subst hk
      rw [if_pos rfl, upd_at, nI_ix (by omega)]
      by_cases hj : j = n
      · subst hj; rw [if_pos rfl, if_pos ⟨rfl, by omega⟩]
      · rw [if_neg hj, h2]
        by_cases h9 : j < n
        · rw [if_pos ⟨rfl, h9⟩, if_pos ⟨rfl, by omega⟩]
        · rw [if_neg (fun h => h9 h.2), if_neg (fun h => by omega)]
    · rw [if_neg hk, h2, if_neg (fun h => hk h.1), if_neg (fun h => hk h.1)]
  · obtain ⟨i, z⟩ := z
    obtain ⟨h1, h2⟩ := hz
    dsimp only at h1 h2
    subst h1
    have hle : (40 : Int32) ≤ Int32.ofNat 40 := by decide
    unfold K_j_fill40_5 L_j_fill40_5
    simp only [if_pos hle]
    exact ⟨trivial, trivial, h2⟩
theorem fill96_at (m : gM) (v : Int32) : o_j_fill96 m v ∧ ∀ k j, f_j_fill96 m v k j = if k = 0 ∧ j < 96 then v else m k j := by
  have h := run_count (f := L_j_fill96_5 v (96 : Int32)) (K := K_j_fill96_5 v (96 : Int32)) (N := 96) (fuel := 400) (fun n z => z.1 = Int32.ofNat n ∧ ∀ k j, z.2 k j = if k = 0 ∧ j < n then v else m k j) (fun z => ∀ k j, z.2 k j = if k = 0 ∧ j < 96 then v else m k j) (z := (0, m)) (by decide) ⟨rfl, fun k j => by rw [if_neg (by omega)]⟩ (fun n z hn hz => ?_) (fun z hz => ?_)
  · unfold o_j_fill96 f_j_fill96
    simp only [g_let_def]
    exact ⟨⟨h.1, trivial⟩, h.2⟩
  · obtain ⟨i, z⟩ := z
    obtain ⟨h1, h2⟩ := hz
    dsimp only at h1 h2
    subst h1
    have hlt : ¬ ((96 : Int32) ≤ Int32.ofNat n) := fun h => absurd ((lit_le (c := 96) (by omega) (by omega)).mp h) (by omega)
    unfold K_j_fill96_5 L_j_fill96_5
    simp only [g_let_def, if_neg hlt]
    refine ⟨⟨vp_in_nI (by omega) (by omega), trivial⟩, trivial, nI_plus2 n 1, fun k j => ?_⟩
    rw [g_set_at]
    by_cases hk : k = 0
    · subst hk
      rw [if_pos rfl, upd_at, nI_ix (by omega)]
      by_cases hj : j = n
      · subst hj; rw [if_pos rfl, if_pos ⟨rfl, by omega⟩]
      · rw [if_neg hj, h2]
        by_cases h9 : j < n
        · rw [if_pos ⟨rfl, h9⟩, if_pos ⟨rfl, by omega⟩]
        · rw [if_neg (fun h => h9 h.2), if_neg (fun h => by omega)]
    · rw [if_neg hk, h2, if_neg (fun h => hk h.1), if_neg (fun h => hk h.1)]
  · obtain ⟨i, z⟩ := z
    obtain ⟨h1, h2⟩ := hz
    dsimp only at h1 h2
    subst h1
    have hle : (96 : Int32) ≤ Int32.ofNat 96 := by decide
    unfold K_j_fill96_5 L_j_fill96_5
    simp only [if_pos hle]
    exact ⟨trivial, trivial, h2⟩
theorem fill12_at (m : gM) (v : Int32) : o_j_fill12 m v ∧ ∀ k j, f_j_fill12 m v k j = if k = 0 ∧ j < 12 then v else m k j := by
  have h := run_count (f := L_j_fill12_5 v (12 : Int32)) (K := K_j_fill12_5 v (12 : Int32)) (N := 12) (fuel := 400) (fun n z => z.1 = Int32.ofNat n ∧ ∀ k j, z.2 k j = if k = 0 ∧ j < n then v else m k j) (fun z => ∀ k j, z.2 k j = if k = 0 ∧ j < 12 then v else m k j) (z := (0, m)) (by decide) ⟨rfl, fun k j => by rw [if_neg (by omega)]⟩ (fun n z hn hz => ?_) (fun z hz => ?_)
  · unfold o_j_fill12 f_j_fill12
    simp only [g_let_def]
    exact ⟨⟨h.1, trivial⟩, h.2⟩
  · obtain ⟨i, z⟩ := z
    obtain ⟨h1, h2⟩ := hz
    dsimp only at h1 h2
    subst h1
    have hlt : ¬ ((12 : Int32) ≤ Int32.ofNat n) := fun h => absurd ((lit_le (c := 12) (by omega) (by omega)).mp h) (by omega)
    unfold K_j_fill12_5 L_j_fill12_5
    simp only [g_let_def, if_neg hlt]
    refine ⟨⟨vp_in_nI (by omega) (by omega), trivial⟩, trivial, nI_plus2 n 1, fun k j => ?_⟩
    rw [g_set_at]
    by_cases hk : k = 0
    · subst hk
      rw [if_pos rfl, upd_at, nI_ix (by omega)]
      by_cases hj : j = n
      · subst hj; rw [if_pos rfl, if_pos ⟨rfl, by omega⟩]
      · rw [if_neg hj, h2]
        by_cases h9 : j < n
        · rw [if_pos ⟨rfl, h9⟩, if_pos ⟨rfl, by omega⟩]
        · rw [if_neg (fun h => h9 h.2), if_neg (fun h => by omega)]
    · rw [if_neg hk, h2, if_neg (fun h => hk h.1), if_neg (fun h => hk h.1)]
  · obtain ⟨i, z⟩ := z
    obtain ⟨h1, h2⟩ := hz
    dsimp only at h1 h2
    subst h1
    have hle : (12 : Int32) ≤ Int32.ofNat 12 := by decide
    unfold K_j_fill12_5 L_j_fill12_5
    simp only [if_pos hle]
    exact ⟨trivial, trivial, h2⟩
theorem fill5_at (m : gM) (v : Int32) : o_j_fill5 m v ∧ ∀ k j, f_j_fill5 m v k j = if k = 0 ∧ j < 5 then v else m k j := by
  have h := run_count (f := L_j_fill5_5 v (5 : Int32)) (K := K_j_fill5_5 v (5 : Int32)) (N := 5) (fuel := 400) (fun n z => z.1 = Int32.ofNat n ∧ ∀ k j, z.2 k j = if k = 0 ∧ j < n then v else m k j) (fun z => ∀ k j, z.2 k j = if k = 0 ∧ j < 5 then v else m k j) (z := (0, m)) (by decide) ⟨rfl, fun k j => by rw [if_neg (by omega)]⟩ (fun n z hn hz => ?_) (fun z hz => ?_)
  · unfold o_j_fill5 f_j_fill5
    simp only [g_let_def]
    exact ⟨⟨h.1, trivial⟩, h.2⟩
  · obtain ⟨i, z⟩ := z
    obtain ⟨h1, h2⟩ := hz
    dsimp only at h1 h2
    subst h1
    have hlt : ¬ ((5 : Int32) ≤ Int32.ofNat n) := fun h => absurd ((lit_le (c := 5) (by omega) (by omega)).mp h) (by omega)
    unfold K_j_fill5_5 L_j_fill5_5
    simp only [g_let_def, if_neg hlt]
    refine ⟨⟨vp_in_nI (by omega) (by omega), trivial⟩, trivial, nI_plus2 n 1, fun k j => ?_⟩
    rw [g_set_at]
    by_cases hk : k = 0
    · subst hk
      rw [if_pos rfl, upd_at, nI_ix (by omega)]
      by_cases hj : j = n
      · subst hj; rw [if_pos rfl, if_pos ⟨rfl, by omega⟩]
      · rw [if_neg hj, h2]
        by_cases h9 : j < n
        · rw [if_pos ⟨rfl, h9⟩, if_pos ⟨rfl, by omega⟩]
        · rw [if_neg (fun h => h9 h.2), if_neg (fun h => by omega)]
    · rw [if_neg hk, h2, if_neg (fun h => hk h.1), if_neg (fun h => hk h.1)]
  · obtain ⟨i, z⟩ := z
    obtain ⟨h1, h2⟩ := hz
    dsimp only at h1 h2
    subst h1
    have hle : (5 : Int32) ≤ Int32.ofNat 5 := by decide
    unfold K_j_fill5_5 L_j_fill5_5
    simp only [if_pos hle]
    exact ⟨trivial, trivial, h2⟩
