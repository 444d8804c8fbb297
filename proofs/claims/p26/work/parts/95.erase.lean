/-! two loops side by side -/
theorem runC2 {S T : Type} {f : S → Bool × S} {g : T → Bool × T} {K : S → Prop} {K' : T → Prop} (I : Nat → S → T → Prop) (P : S → T → Prop)
    (hs : ∀ n z w, I n z w → K z ∧ K' w ∧ (((f z).1 = true ∧ (g w).1 = true ∧ ∃ k, k < n ∧ I k (f z).2 (g w).2) ∨ ((f z).1 = false ∧ (g w).1 = false ∧ P (f z).2 (g w).2))) :
    ∀ (n fuel fuel' : Nat) (z : S) (w : T), n < fuel → n < fuel' → I n z w → rOk f K fuel z ∧ rOk g K' fuel' w ∧ P (runC f fuel z) (runC g fuel' w) := by
  intro n
  induction n using Nat.strongRecOn with
  | ind n ih =>
    intro fuel fuel' z w h1 h2 hI
    match fuel, fuel', h1, h2 with
    | a + 1, b + 1, h1, h2 =>
      obtain ⟨k1, k2, k3⟩ := hs n z w hI
      rcases k3 with ⟨t1, t2, k, hk, hI'⟩ | ⟨t1, t2, hP⟩
      · obtain ⟨r1, r2, r3⟩ := ih k hk a b _ _ (by omega) (by omega) hI'
        exact ⟨⟨k1, fun _ => r1⟩, ⟨k2, fun _ => r2⟩, by unfold runC; rw [if_pos t1, if_pos t2]; exact r3⟩
      · exact ⟨⟨k1, fun h => by rw [t1] at h; cases h⟩, ⟨k2, fun h => by rw [t2] at h; cases h⟩, by unfold runC; rw [if_neg (by rw [t1]; decide), if_neg (by rw [t2]; decide)]; exact hP⟩
theorem run2 {S T : Type} {f : S → Bool × S} {g : T → Bool × T} {K : S → Prop} {K' : T → Prop} (I : Nat → S → T → Prop) (P : S → T → Prop) {n fuel fuel' : Nat} {z : S} {w : T} (h1 : n < fuel) (h2 : n < fuel') (h0 : I n z w)
    (hs : ∀ n z w, I n z w → K z ∧ K' w ∧ (((f z).1 = true ∧ (g w).1 = true ∧ ∃ k, k < n ∧ I k (f z).2 (g w).2) ∨ ((f z).1 = false ∧ (g w).1 = false ∧ P (f z).2 (g w).2))) :
    rOk f K fuel z ∧ rOk g K' fuel' w ∧ P (run f fuel z) (run g fuel' w) := by
  rw [run_def, run_def]; exact runC2 I P hs n fuel fuel' z w h1 h2 h0
/-! a block is erased -/
def eR0 (f : Nat → Int32) (B i : Nat) : Nat → Int32 := fun k => if 8 * B ≤ k ∧ k < 8 * B + i then -1 else f k
theorem eR0_0 (f : Nat → Int32) (B : Nat) : eR0 f B 0 = f := by funext k; unfold eR0; rw [if_neg (by omega)]
theorem eR0_s (f : Nat → Int32) (B i : Nat) : upd (eR0 f B i) (8 * B + i) (-1) = eR0 f B (i + 1) := by
  funext k; rw [upd_at]; unfold eR0
  by_cases h : k = 8 * B + i
  · rw [if_pos h, if_pos (by omega)]
  · rw [if_neg h]
    by_cases h2 : 8 * B ≤ k ∧ k < 8 * B + i
    · rw [if_pos h2, if_pos (by omega)]
    · rw [if_neg h2, if_neg (by omega)]
def sEr (A : gM) (B : Nat) : gM := g_set (g_set (g_set (g_set A 0 (eR0 (A 0) B 8)) 6 (upd (A 6) B 0)) 7 (upd (A 7) B (-1))) 8 (upd (A 8) B (A 8 B + 1))
theorem jV_sEr {e t B : Nat} {A : gM} (hA : jV e t 99 99 A) (hB : B < 12) (h6 : A 6 B = 2) (hv : ∀ j, j < 8 → vd A (8 * B + j) = 0) :
    jV (e + 1) t 99 99 (sEr A B) ∧ (∀ b, b < 12 → b ≠ B → cN (sEr A B) b = cN A b ∧ vL (sEr A B) b = vL A b) ∧ cN (sEr A B) B = 0 ∧ vL (sEr A B) B = 0 ∧ frN (sEr A B) = frN A + 1 ∧ sS 12 (cN (sEr A B)) + 8 = sS 12 (cN A) := by
  obtain ⟨ia, ib, ih, ic, id, ie, if', ⟨g1, g2, g3⟩, ii, is⟩ := hA
  have e0 : sEr A B 0 = eR0 (A 0) B 8 := rfl
  have e1 : sEr A B 1 = A 1 := rfl
  have e6 : sEr A B 6 = upd (A 6) B 0 := rfl
  have e7 : sEr A B 7 = upd (A 7) B (-1) := rfl
  have e8 : sEr A B 8 = upd (A 8) B (A 8 B + 1) := rfl
  have e10 : sEr A B 10 = A 10 := rfl
  have k0 : ∀ k, ¬ (8 * B ≤ k ∧ k < 8 * B + 8) → sEr A B 0 k = A 0 k := fun k h => by rw [e0]; unfold eR0; rw [if_neg h]
  have k1 : ∀ k, (8 * B ≤ k ∧ k < 8 * B + 8) → sEr A B 0 k = -1 := fun k h => by rw [e0]; unfold eR0; rw [if_pos h]
  have b0 : ∀ k, ¬ (8 * B ≤ k ∧ k < 8 * B + 8) → bN (sEr A B) k = bN A k := fun k h => by unfold bN; rw [k0 k h]
  have b1 : ∀ k, (8 * B ≤ k ∧ k < 8 * B + 8) → bN (sEr A B) k = 0 := fun k h => by unfold bN; rw [k1 k h, if_pos rfl]
  have v0 : ∀ k, ¬ (8 * B ≤ k ∧ k < 8 * B + 8) → vd (sEr A B) k = vd A k := fun k h => by unfold vd; rw [k0 k h, e1]
  have v1 : ∀ k, (8 * B ≤ k ∧ k < 8 * B + 8) → vd (sEr A B) k = 0 := fun k h => by unfold vd; rw [k1 k h, if_pos rfl]
  have c0 : ∀ b, b ≠ B → cN (sEr A B) b = cN A b := fun b h => sS_c 8 (fun j hj => b0 _ (by omega))
  have c1 : cN (sEr A B) B = 0 := by
    unfold cN; rw [sS_c (g := fun _ => 0) 8 (fun j hj => b1 _ (by omega))]; rfl
  have l0 : ∀ b, b ≠ B → vL (sEr A B) b = vL A b := fun b h => sS_c 8 (fun j hj => v0 _ (by omega))
  have l1 : vL (sEr A B) B = 0 := by
    unfold vL; rw [sS_c (g := fun _ => 0) 8 (fun j hj => v1 _ (by omega))]; rfl
  have l2 : vL A B = 0 := by
    unfold vL; rw [sS_c (g := fun _ => 0) 8 (fun j hj => hv j hj)]; rfl
  have c8 : cN A B = 8 := (jC_shut ic hB).mp h6
  have n20 : ¬ ((2 : Int32) = 0) := by decide
  have n21 : ¬ ((2 : Int32) = 1) := by decide
  have n01 : ¬ ((0 : Int32) = 1) := by decide
  have n02 : ¬ ((0 : Int32) = 2) := by decide
  refine ⟨⟨?_, ?_, ih, ?_, ?_, ?_, ?_, ⟨?_, g2, g3⟩, ?_, is⟩, fun b _ h => ⟨c0 b h, l0 b h⟩, c1, l1, ?_, ?_⟩
  · intro k hk
    by_cases h : 8 * B ≤ k ∧ k < 8 * B + 8
    · exact Or.inl (k1 k h)
    · rw [k0 k h]; exact ia k hk
  · intro p hp
    rw [e1]
    rcases ib p hp with z | ⟨k, hk, z1, z2⟩
    · exact Or.inl z
    · refine Or.inr ⟨k, hk, z1, ?_⟩
      rw [k0 k (fun h => ?_)]
      · exact z2
      · have := hv (k - 8 * B) (by omega)
        rw [show 8 * B + (k - 8 * B) = k by omega] at this
        unfold vd at this
        rw [z2, if_neg (nI_ne1 (by omega)), nI_ix (by omega), z1, if_pos rfl] at this
        omega
  · intro b hb
    by_cases h : b = B
    · subst h
      rw [c1, e6, e7, upd_at, upd_at, if_pos rfl, if_pos rfl]
      exact ⟨fun j hj => ⟨fun _ => Nat.zero_le _, fun _ => k1 _ (by omega)⟩, Or.inl ⟨rfl, rfl, rfl⟩⟩
    · rw [c0 b h, e6, e7, upd_at, upd_at, if_neg h, if_neg h, e10]
      exact ⟨fun j hj => by rw [k0 _ (by omega)]; exact (ic b hb).1 j hj, (ic b hb).2⟩
  · intro s hs
    rw [e10, e6, e7]
    rcases id s hs with z | ⟨b, hb, z1, z2, z3⟩
    · exact Or.inl z
    · have h : b ≠ B := fun w => by subst w; rw [h6] at z2; exact n21 z2
      exact Or.inr ⟨b, hb, z1, by rw [upd_at, if_neg h]; exact z2, by rw [upd_at, if_neg h]; exact z3⟩
  · unfold jE
    rw [wN_c (A := A) e1, ← ie]
    refine sS_c 12 (fun b hb => ?_)
    by_cases h : b = B
    · rw [h, l1, l2]
    · exact l0 b h
  · have q1 := sS_c (f := sN (sEr A B) 1) (g := sN A 1) 12 (fun b hb => by
      unfold sN; rw [e6, upd_at]
      by_cases h : b = B
      · rw [if_pos h, h, h6, if_neg n01, if_neg n21]
      · rw [if_neg h])
    unfold jF
    rw [q1, oN_c (A := A) e10]; exact if'
  · intro b hb
    rw [e8, upd_at]
    by_cases h : b = B
    · rw [if_pos h]; obtain ⟨x, hx, z⟩ := g1 B hB; exact ⟨x + 1, by omega, by rw [z, e1r]⟩
    · rw [if_neg h]; obtain ⟨x, hx, z⟩ := g1 b hb; exact ⟨x, by omega, z⟩
  · have hh : ∀ b, sEr A B 6 b = 2 → A 6 b = 2 := by
      intro b w
      rw [e6, upd_at] at w
      by_cases h : b = B
      · rw [if_pos h] at w; exact absurd w n02
      · rw [if_neg h] at w; exact w
    exact ⟨fun b hb w => ii.1 b hb (hh b w), fun b b' hb hb' w w' z => ii.2 b b' hb hb' (hh b w) (hh b' w') z⟩
  · have q1 := sS_one (f := sN (sEr A B) 0) (g := sN A 0) (i := B) 12 hB (fun b hb h => by unfold sN; rw [e6, upd_at, if_neg h])
    have q2 : sN (sEr A B) 0 B = 1 := by unfold sN; rw [e6, upd_at, if_pos rfl, if_pos rfl]
    have q3 : sN A 0 B = 0 := by unfold sN; rw [h6, if_neg n20]
    unfold frN
    omega
  · have q1 := sS_one (f := cN (sEr A B)) (g := cN A) (i := B) 12 hB (fun b hb h => c0 b h)
    omega
/-- the reference's erasing, what is behind its loop -/
theorem e110 {m : gM} {n : Int32} {B : Nat} (hB : B < 12) : rOk (L_r_collects_110 (Int32.ofNat B) n) (K_r_collects_110 (Int32.ofNat B) n) 400 (Int32.ofNat (8 * B), m) ∧ aR (run (L_r_collects_110 (Int32.ofNat B) n) 400 (Int32.ofNat (8 * B), m)).2 = g_set (aR m) 0 (eR0 (aR m 0) B 8) := by
  refine run_count (N := 8) (fuel := 400) (fun i (z : Int32 × gM) => z.1 = Int32.ofNat (8 * B + i) ∧ aR z.2 = g_set (aR m) 0 (eR0 (aR m 0) B i)) (fun (z : Int32 × gM) => aR z.2 = g_set (aR m) 0 (eR0 (aR m 0) B 8)) (by decide) ⟨rfl, ?_⟩ (fun i z hi hz => ?_) (fun z hz => ?_)
  · rw [eR0_0]; funext f; rw [g_set_at]; split
    · rename_i h; rw [h]
    · rfl
  · obtain ⟨z1, z2⟩ := z
    obtain ⟨h1, h2⟩ := hz
    dsimp only at h1 h2
    subst h1
    have hlt : ¬ (Int32.ofNat (8 * B + 8) ≤ Int32.ofNat (8 * B + i)) := by rw [leI (by omega) (by omega)]; omega
    unfold L_r_collects_110 K_r_collects_110
    simp only [g_let_def, e8l, e8p, if_neg hlt]
    refine ⟨⟨ro0 (by omega), trivial⟩, trivial, e1r _, ?_⟩
    rw [rs0 (show 8 * B + i < 96 by omega), h2, g_set_s, eR0_s]
    funext f; rw [g_set_at, g_set_at, g_set_at]; split <;> rfl
  · obtain ⟨z1, z2⟩ := z
    obtain ⟨h1, h2⟩ := hz
    dsimp only at h1 h2
    subst h1
    have hle : (Int32.ofNat (8 * B + 8) ≤ Int32.ofNat (8 * B + 8)) := by rw [leI (by omega) (by omega)]; omega
    unfold L_r_collects_110 K_r_collects_110
    simp only [e8l, e8p, if_pos hle]
    exact ⟨trivial, trivial, h2⟩
theorem g_set_same (m : gM) (k : Nat) : g_set m k (m k) = m := by
  funext j; rw [g_set_at]; split
  · rename_i h; rw [h]
  · rfl
theorem g_set_twice (m : gM) (k : Nat) (f g : Nat → Int32) : g_set (g_set m k f) k g = g_set m k g := by
  funext j; rw [g_set_at, g_set_at, g_set_at]; split <;> rfl
theorem erase_2 {m : gM} {B : Nat} (hB : B < 12) : rOk (L_s_erase_2 (Int32.ofNat B)) (K_s_erase_2 (Int32.ofNat B)) 400 ((0 : Int32), m) ∧ run (L_s_erase_2 (Int32.ofNat B)) 400 ((0 : Int32), m) = (Int32.ofNat 8, g_set m 6 (eR0 (m 6) B 8)) := by
  refine run_count (N := 8) (fuel := 400) (fun i (z : Int32 × gM) => z = (Int32.ofNat i, g_set m 6 (eR0 (m 6) B i))) (fun (z : Int32 × gM) => z = (Int32.ofNat 8, g_set m 6 (eR0 (m 6) B 8))) (by decide) (by rw [eR0_0, g_set_same]; rfl) (fun i z hi hz => ?_) (fun z hz => ?_)
  · subst hz
    have hlt : ¬ ((8 : Int32) ≤ Int32.ofNat i) := by intro h; have := (leI (a := 8) (by omega) (by omega)).mp h; omega
    unfold L_s_erase_2 K_s_erase_2
    simp only [g_let_def, e8r, nI_plus2, if_neg hlt, nI_ix (show 8 * B + i < 2147483648 by omega), g_set_s]
    refine ⟨⟨vp_in_nI (by omega) (by omega), trivial⟩, trivial, ?_⟩
    rw [e1r, eR0_s, g_set_twice]
  · subst hz
    have hle : (8 : Int32) ≤ Int32.ofNat 8 := by decide
    unfold L_s_erase_2 K_s_erase_2
    simp only [if_pos hle]
    exact ⟨trivial, trivial, trivial⟩
theorem erase_R {m A : gM} {e t B : Nat} (hR : jR m A) (hA : jV e t 99 99 A) (hB : B < 12) (h6 : A 6 B = 2) (hv : ∀ j, j < 8 → vd A (8 * B + j) = 0) : jR (f_s_erase m (Int32.ofNat B)) (sEr A B) ∧ o_s_erase m (Int32.ofNat B) := by
  obtain ⟨r1, r2, r3, r4, r5, r6⟩ := jV_sEr hA hB h6 hv
  obtain ⟨k1, k2⟩ := erase_2 (m := m) hB
  obtain ⟨R1, R2, R3, R4, R5, R6, R7, R8, R9⟩ := hR
  have hb := vp_in_nI hB (show 12 < 2 ^ 31 by omega)
  unfold f_s_erase o_s_erase
  simp only [g_let_def, k2, nI_ix (show B < 2147483648 by omega)]
  refine ⟨⟨R1, fun k hk => ?_, fun b hb => ?_, R4, R5, R6, R7, ?_, R9⟩, k1, hb, hb, hb, hb, hb, trivial⟩
  · show eR0 (m 6) B 8 k = eR0 (A 0) B 8 k
    unfold eR0; rw [R2 k hk]
  · obtain ⟨a1, a2, a3, a4, a5⟩ := R3 b hb
    refine ⟨?_, ?_, ?_, ?_, a5⟩
    · show upd (m 7) B (-1) b = upd (A 7) B (-1) b
      rw [upd_at, upd_at, a1]
    · show upd (m 8) B 0 b = _
      rw [upd_at]
      by_cases h : b = B
      · rw [if_pos h, h, r3]; rfl
      · rw [if_neg h, (r2 b hb h).1]; exact a2
    · show upd (m 9) B 0 b = _
      rw [upd_at]
      by_cases h : b = B
      · rw [if_pos h, h, r4]; rfl
      · rw [if_neg h, (r2 b hb h).2]; exact a3
    · show upd (m 10) B (m 10 B + 1) b = upd (A 8) B (A 8 B + 1) b
      rw [upd_at, upd_at, a4, (R3 B hB).2.2.2.1]
  · show upd (m 0) 15 (m 0 15 + 1) 15 = _
    rw [upd_at, if_pos rfl, R8, r5, e1r]
