/-! the digest: a fold on both sides -/
def itr (S : Nat → Int64 → Int64) (h : Int64) : Nat → Int64
  | 0 => h
  | n + 1 => S n (itr S h n)
def mx (G : Nat → Int32) (k : Nat) (a : Int64) : Int64 := 31 * a + (G k).toInt64
theorem itr_eq {S S' : Nat → Int64 → Int64} {h : Int64} (n : Nat) (e : ∀ k a, k < n → S k a = S' k a) : itr S h n = itr S' h n := by
  induction n with
  | zero => rfl
  | succ n ih =>
    show S n (itr S h n) = S' n (itr S' h n)
    rw [ih (fun k a hk => e k a (by omega)), e n _ (by omega)]
theorem itr_add {S : Nat → Int64 → Int64} {h : Int64} (a : Nat) : ∀ b, itr S h (a + b) = itr (fun k => S (a + k)) (itr S h a) b
  | 0 => rfl
  | b + 1 => by
    show S (a + b) (itr S h (a + b)) = S (a + b) (itr (fun k => S (a + k)) (itr S h a) b)
    rw [itr_add a b]
theorem itr_flat {g : Nat → Nat → Int32} {M : Nat} {h : Int64} (hM : 0 < M) : ∀ N, itr (mx (fun i => g (i / M) (i % M))) h (N * M) = itr (fun k a => itr (mx (g k)) a M) h N
  | 0 => by rw [Nat.zero_mul]; rfl
  | N + 1 => by
    rw [Nat.succ_mul, itr_add, itr_flat hM N]
    show itr (fun k => mx (fun i => g (i / M) (i % M)) (N * M + k)) _ M = itr (mx (g N)) _ M
    refine itr_eq M (fun k a hk => ?_)
    unfold mx
    dsimp only
    have e1 : (N * M + k) / M = N := by rw [Nat.mul_comm, Nat.mul_add_div hM, Nat.div_eq_of_lt hk]; rfl
    have e2 : (N * M + k) % M = k := by rw [Nat.mul_comm, Nat.mul_add_mod, Nat.mod_eq_of_lt hk]
    rw [e1, e2]
theorem foldC {f : Int64 × Int32 → Bool × (Int64 × Int32)} {K : Int64 × Int32 → Prop} {S : Nat → Int64 → Int64} {N : Nat} {h : Int64} (hN : N < 400) (hs : ∀ k a, k < N → K (a, Int32.ofNat k) ∧ f (a, Int32.ofNat k) = (true, (S k a, Int32.ofNat (k + 1)))) (he : ∀ a, K (a, Int32.ofNat N) ∧ f (a, Int32.ofNat N) = (false, (a, Int32.ofNat N))) : rOk f K 400 (h, (0 : Int32)) ∧ (run f 400 (h, (0 : Int32))).1 = itr S h N := by
  refine run_count (N := N) (fun k z => z = (itr S h k, Int32.ofNat k)) (fun z => z.1 = itr S h N) hN rfl (fun k z hk hz => ?_) (fun z hz => ?_)
  · subst hz
    obtain ⟨a, b⟩ := hs k (itr S h k) hk
    rw [b]; exact ⟨a, rfl, rfl⟩
  · subst hz
    obtain ⟨a, b⟩ := he (itr S h N)
    rw [b]; exact ⟨a, rfl, rfl⟩
theorem foldR {f : Int32 × gN → Bool × (Int32 × gN)} {K : Int32 × gN → Prop} {S : Nat → Int64 → Int64} {N : Nat} {nr : gN} (hN : N < 400) (hs : ∀ k n, k < N → K (Int32.ofNat k, n) ∧ (f (Int32.ofNat k, n)).1 = true ∧ (f (Int32.ofNat k, n)).2.1 = Int32.ofNat (k + 1) ∧ (f (Int32.ofNat k, n)).2.2 0 11 = S k (n 0 11)) (he : ∀ n, K (Int32.ofNat N, n) ∧ f (Int32.ofNat N, n) = (false, (Int32.ofNat N, n))) : rOk f K 400 ((0 : Int32), nr) ∧ (run f 400 ((0 : Int32), nr)).2 0 11 = itr S (nr 0 11) N := by
  refine run_count (N := N) (fun k (z : Int32 × gN) => z.1 = Int32.ofNat k ∧ z.2 0 11 = itr S (nr 0 11) k) (fun (z : Int32 × gN) => z.2 0 11 = itr S (nr 0 11) N) hN ⟨rfl, rfl⟩ (fun k z hk hz => ?_) (fun z hz => ?_)
  · obtain ⟨z1, z2⟩ := z
    obtain ⟨hz1, hz2⟩ := hz
    dsimp only at hz1 hz2
    subst hz1
    obtain ⟨a, b, c, d⟩ := hs k z2 hk
    refine ⟨a, b, c, ?_⟩
    rw [d, hz2]; rfl
  · obtain ⟨z1, z2⟩ := z
    obtain ⟨hz1, hz2⟩ := hz
    dsimp only at hz1 hz2
    subst hz1
    obtain ⟨a, b⟩ := he z2
    rw [b]
    exact ⟨a, rfl, hz2⟩
theorem mix_o (m : gM) (n : gN) (a : Int64) : o_r_mixes m n a := by unfold o_r_mixes; rw [g_let_def]; trivial
theorem mix_v (m : gM) (n : gN) (a : Int64) : (f_r_mixes m n a) 0 11 = 31 * n 0 11 + a := by unfold f_r_mixes; rw [g_let_def]; rfl
theorem dm6 : ∀ k, k < 240 → Int32.ofNat k / (6 : Int32) = Int32.ofNat (k / 6) ∧ Int32.ofNat k - Int32.ofNat (k / 6) * (6 : Int32) = Int32.ofNat (k % 6) := by decide +kernel
theorem dm5 : ∀ k, k < 25 → Int32.ofNat k / (5 : Int32) = Int32.ofNat (k / 5) ∧ Int32.ofNat k - Int32.ofNat (k / 5) * (5 : Int32) = Int32.ofNat (k % 5) := by decide +kernel
theorem dm3 : ∀ k, k < 12 → Int32.ofNat k / (3 : Int32) = Int32.ofNat (k / 3) ∧ Int32.ofNat k - Int32.ofNat (k / 3) * (3 : Int32) = Int32.ofNat (k % 3) := by decide +kernel
theorem hpg1 {h : Int64} {e t : Nat} {mh M A : gM} (hM : vA (M 1) = A) (hR : jR (g_sel [4, 5, 6, 7, 8, 9, 10, 11, 12, 13, 14, 15, 16, 17, 18, 19] mh) A) (hA : jV e t 99 99 A) {p : Nat} (hp : p < 40) (x1 : Int64) :
    rOk (L_h_withPages_15 mh x1 (Int32.ofNat p)) (K_h_withPages_15 mh x1 (Int32.ofNat p)) 400 (h, (0 : Int32)) ∧ (run (L_h_withPages_15 mh x1 (Int32.ofNat p)) 400 (h, (0 : Int32))).1 = itr (mx (fun w => f_r_ofPage M (Int32.ofNat p) (Int32.ofNat w))) h 6 := by
  refine foldC (by omega) (fun k a hk => ?_) (fun a => ?_)
  · have n1 : ¬ ((6 : Int32) ≤ Int32.ofNat k) := fun w => by have := (leI (a := 6) (by omega) (by omega)).mp w; omega
    obtain ⟨v1, v2, v3⟩ := page_RS (w := k) hM hR hA hp hk
    unfold L_h_withPages_15 K_h_withPages_15
    simp only [g_let_def, if_neg n1, e1r, v1]
    exact ⟨⟨v2, trivial, trivial⟩, by first | rfl | trivial⟩
  · have n1 : (6 : Int32) ≤ Int32.ofNat 6 := by decide
    unfold L_h_withPages_15 K_h_withPages_15
    simp only [if_pos n1]
    first
      | exact ⟨trivial, rfl⟩
      | exact ⟨trivial, trivial⟩
theorem hpg {h : Int64} {e t : Nat} {mh M A : gM} (hM : vA (M 1) = A) (hR : jR (g_sel [4, 5, 6, 7, 8, 9, 10, 11, 12, 13, 14, 15, 16, 17, 18, 19] mh) A) (hA : jV e t 99 99 A) (x1 : Int64) :
    rOk (L_h_withPages_5 mh x1) (K_h_withPages_5 mh x1) 400 (h, (0 : Int32)) ∧ (run (L_h_withPages_5 mh x1) 400 (h, (0 : Int32))).1 = itr (fun p a => itr (mx (fun w => f_r_ofPage M (Int32.ofNat p) (Int32.ofNat w))) a 6) h 40 := by
  refine foldC (by omega) (fun k a hk => ?_) (fun a => ?_)
  · have n1 : ¬ ((40 : Int32) ≤ Int32.ofNat k) := fun w => by have := (leI (a := 40) (by omega) (by omega)).mp w; omega
    obtain ⟨v1, v2⟩ := hpg1 (h := a) hM hR hA hk x1
    unfold L_h_withPages_5 K_h_withPages_5
    simp only [g_let_def, if_neg n1, e1r, v2]
    exact ⟨⟨v1, trivial⟩, by first | rfl | trivial⟩
  · have n1 : (40 : Int32) ≤ Int32.ofNat 40 := by decide
    unfold L_h_withPages_5 K_h_withPages_5
    simp only [if_pos n1]
    first
      | exact ⟨trivial, rfl⟩
      | exact ⟨trivial, trivial⟩
theorem hbk1 {h : Int64} {e t : Nat} {mh M A : gM} (hM : vA (M 1) = A) (hR : jR (g_sel [4, 5, 6, 7, 8, 9, 10, 11, 12, 13, 14, 15, 16, 17, 18, 19] mh) A) (hA : jV e t 99 99 A) {p : Nat} (hp : p < 12) (x1 : Int64) :
    rOk (L_h_withBlocks_15 mh x1 (Int32.ofNat p)) (K_h_withBlocks_15 mh x1 (Int32.ofNat p)) 400 (h, (0 : Int32)) ∧ (run (L_h_withBlocks_15 mh x1 (Int32.ofNat p)) 400 (h, (0 : Int32))).1 = itr (mx (fun w => f_r_ofBlock M (Int32.ofNat p) (Int32.ofNat w))) h 8 := by
  refine foldC (by omega) (fun k a hk => ?_) (fun a => ?_)
  · have n1 : ¬ ((8 : Int32) ≤ Int32.ofNat k) := fun w => by have := (leI (a := 8) (by omega) (by omega)).mp w; omega
    obtain ⟨v1, v2, v3⟩ := block_RS (w := k) hM hR hA hp hk
    unfold L_h_withBlocks_15 K_h_withBlocks_15
    simp only [g_let_def, if_neg n1, e1r, v1]
    exact ⟨⟨v2, trivial, trivial⟩, by first | rfl | trivial⟩
  · have n1 : (8 : Int32) ≤ Int32.ofNat 8 := by decide
    unfold L_h_withBlocks_15 K_h_withBlocks_15
    simp only [if_pos n1]
    first
      | exact ⟨trivial, rfl⟩
      | exact ⟨trivial, trivial⟩
theorem hbk2 {h : Int64} {e t : Nat} {mh M A : gM} (hM : vA (M 1) = A) (hR : jR (g_sel [4, 5, 6, 7, 8, 9, 10, 11, 12, 13, 14, 15, 16, 17, 18, 19] mh) A) (hA : jV e t 99 99 A) {p : Nat} (hp : p < 12) (x1 : Int64) :
    rOk (L_h_withBlocks_48 mh x1 (Int32.ofNat p)) (K_h_withBlocks_48 mh x1 (Int32.ofNat p)) 400 (h, (0 : Int32)) ∧ (run (L_h_withBlocks_48 mh x1 (Int32.ofNat p)) 400 (h, (0 : Int32))).1 = itr (mx (fun w => A 0 (8 * p + w))) h 8 := by
  refine foldC (by omega) (fun k a hk => ?_) (fun a => ?_)
  · have n1 : ¬ ((8 : Int32) ≤ Int32.ofNat k) := fun w => by have := (leI (a := 8) (by omega) (by omega)).mp w; omega
    have hk8 : 8 * p + k < 96 := by omega
    have q2 : Int32.ofNat p * (8 : Int32) + Int32.ofNat k = Int32.ofNat (8 * p + k) := by rw [e8r, nI_plus2]
    have y2 : mh 10 (Int32.ofNat (8 * p + k)).toNatClampNeg = A 0 (8 * p + k) := by rw [nI_ix (by omega)]; exact hR.2.1 _ hk8
    unfold L_h_withBlocks_48 K_h_withBlocks_48
    simp only [g_let_def, if_neg n1, e1r, q2, y2]
    exact ⟨⟨vp_in_nI hk8 (by omega), trivial, trivial⟩, by first | rfl | trivial⟩
  · have n1 : (8 : Int32) ≤ Int32.ofNat 8 := by decide
    unfold L_h_withBlocks_48 K_h_withBlocks_48
    simp only [if_pos n1]
    first
      | exact ⟨trivial, rfl⟩
      | exact ⟨trivial, trivial⟩
theorem hbk {h : Int64} {e t : Nat} {mh M A : gM} (hM : vA (M 1) = A) (hR : jR (g_sel [4, 5, 6, 7, 8, 9, 10, 11, 12, 13, 14, 15, 16, 17, 18, 19] mh) A) (hA : jV e t 99 99 A) (x1 : Int64) :
    rOk (L_h_withBlocks_5 mh x1) (K_h_withBlocks_5 mh x1) 400 (h, (0 : Int32)) ∧ (run (L_h_withBlocks_5 mh x1) 400 (h, (0 : Int32))).1 = itr (fun p a => itr (mx (fun w => A 0 (8 * p + w))) (itr (mx (fun w => f_r_ofBlock M (Int32.ofNat p) (Int32.ofNat w))) a 8) 8) h 12 := by
  refine foldC (by omega) (fun k a hk => ?_) (fun a => ?_)
  · have n1 : ¬ ((12 : Int32) ≤ Int32.ofNat k) := fun w => by have := (leI (a := 12) (by omega) (by omega)).mp w; omega
    obtain ⟨v1, v2⟩ := hbk1 (h := a) hM hR hA hk x1
    obtain ⟨v3, v4⟩ := hbk2 (h := itr (mx (fun w => f_r_ofBlock M (Int32.ofNat k) (Int32.ofNat w))) a 8) hM hR hA hk x1
    unfold L_h_withBlocks_5 K_h_withBlocks_5
    simp only [g_let_def, if_neg n1, e1r, v2, v4]
    exact ⟨⟨v1, v3, trivial⟩, by first | rfl | trivial⟩
  · have n1 : (12 : Int32) ≤ Int32.ofNat 12 := by decide
    unfold L_h_withBlocks_5 K_h_withBlocks_5
    simp only [if_pos n1]
    first
      | exact ⟨trivial, rfl⟩
      | exact ⟨trivial, trivial⟩
theorem hst1 {h : Int64} {e t : Nat} {mh M A : gM} (hM : vA (M 1) = A) (hR : jR (g_sel [4, 5, 6, 7, 8, 9, 10, 11, 12, 13, 14, 15, 16, 17, 18, 19] mh) A) (hA : jV e t 99 99 A) {p : Nat} (hp : p < 5) (x1 : Int64) :
    rOk (L_h_withStreams_14 mh x1 (Int32.ofNat p)) (K_h_withStreams_14 mh x1 (Int32.ofNat p)) 400 (h, (0 : Int32)) ∧ (run (L_h_withStreams_14 mh x1 (Int32.ofNat p)) 400 (h, (0 : Int32))).1 = itr (mx (fun w => f_r_ofStream M (Int32.ofNat p) (Int32.ofNat w))) h 5 := by
  refine foldC (by omega) (fun k a hk => ?_) (fun a => ?_)
  · have n1 : ¬ ((5 : Int32) ≤ Int32.ofNat k) := fun w => by have := (leI (a := 5) (by omega) (by omega)).mp w; omega
    obtain ⟨v1, v2, v3⟩ := stream_RS (w := k) hM hR hA hp hk
    unfold L_h_withStreams_14 K_h_withStreams_14
    simp only [g_let_def, if_neg n1, e1r, v1]
    exact ⟨⟨v2, trivial, trivial⟩, by first | rfl | trivial⟩
  · have n1 : (5 : Int32) ≤ Int32.ofNat 5 := by decide
    unfold L_h_withStreams_14 K_h_withStreams_14
    simp only [if_pos n1]
    first
      | exact ⟨trivial, rfl⟩
      | exact ⟨trivial, trivial⟩
theorem hst {h : Int64} {e t : Nat} {mh M A : gM} (hM : vA (M 1) = A) (hR : jR (g_sel [4, 5, 6, 7, 8, 9, 10, 11, 12, 13, 14, 15, 16, 17, 18, 19] mh) A) (hA : jV e t 99 99 A) (x1 : Int64) :
    rOk (L_h_withStreams_5 mh x1) (K_h_withStreams_5 mh x1) 400 (h, (0 : Int32)) ∧ (run (L_h_withStreams_5 mh x1) 400 (h, (0 : Int32))).1 = itr (fun p a => itr (mx (fun w => f_r_ofStream M (Int32.ofNat p) (Int32.ofNat w))) a 5) h 5 := by
  refine foldC (by omega) (fun k a hk => ?_) (fun a => ?_)
  · have n1 : ¬ ((5 : Int32) ≤ Int32.ofNat k) := fun w => by have := (leI (a := 5) (by omega) (by omega)).mp w; omega
    obtain ⟨v1, v2⟩ := hst1 (h := a) hM hR hA hk x1
    unfold L_h_withStreams_5 K_h_withStreams_5
    simp only [g_let_def, if_neg n1, e1r, v2]
    exact ⟨⟨v1, trivial⟩, by first | rfl | trivial⟩
  · have n1 : (5 : Int32) ≤ Int32.ofNat 5 := by decide
    unfold L_h_withStreams_5 K_h_withStreams_5
    simp only [if_pos n1]
    first
      | exact ⟨trivial, rfl⟩
      | exact ⟨trivial, trivial⟩
theorem hct {h : Int64} {n : Nat} {mh M : gM} (hn : n < 512) (hl : Rl n mh M) :
    rOk (L_h_digest_6 mh) (K_h_digest_6 mh) 400 (h, (0 : Int32)) ∧ (run (L_h_digest_6 mh) 400 (h, (0 : Int32))).1 = itr (mx (fun w => f_r_counted M (Int32.ofNat w))) h 12 := by
  refine foldC (by omega) (fun k a hk => ?_) (fun a => ?_)
  · have n1 : ¬ ((12 : Int32) ≤ Int32.ofNat k) := fun w => by have := (leI (a := 12) (by omega) (by omega)).mp w; omega
    obtain ⟨v1, v2, v3⟩ := counted_RS hn hl hk
    unfold L_h_digest_6 K_h_digest_6
    simp only [g_let_def, if_neg n1, e1r, v1]
    exact ⟨⟨v2, trivial, trivial⟩, by first | rfl | trivial⟩
  · have n1 : (12 : Int32) ≤ Int32.ofNat 12 := by decide
    unfold L_h_digest_6 K_h_digest_6
    simp only [if_pos n1]
    first
      | exact ⟨trivial, rfl⟩
      | exact ⟨trivial, trivial⟩
theorem rct {n0 : gN} {n : Nat} {mh M : gM} (hn : n < 512) (hl : Rl n mh M) :
    rOk (L_r_digest_14 M) (K_r_digest_14 M) 400 ((0 : Int32), n0) ∧ (run (L_r_digest_14 M) 400 ((0 : Int32), n0)).2 0 11 = itr (mx (fun w => f_r_counted M (Int32.ofNat w))) (n0 0 11) 12 := by
  refine foldR (by omega) (fun k n hk => ?_) (fun n => ?_)
  · have n1 : ¬ ((12 : Int32) ≤ Int32.ofNat k) := fun w => by have := (leI (a := 12) (by omega) (by omega)).mp w; omega
    obtain ⟨v1, v2, v3⟩ := counted_RS hn hl hk
    unfold L_r_digest_14 K_r_digest_14
    simp only [g_let_def, if_neg n1, e1r]
    exact ⟨⟨v3, mix_o _ _ _, trivial⟩, trivial, trivial, mix_v _ _ _⟩
  · have n1 : (12 : Int32) ≤ Int32.ofNat 12 := by decide
    unfold L_r_digest_14 K_r_digest_14
    simp only [if_pos n1]
    first
      | exact ⟨trivial, rfl⟩
      | exact ⟨trivial, trivial⟩
theorem rpg {n0 : gN} {e t : Nat} {mh M A : gM} (hM : vA (M 1) = A) (hR : jR (g_sel [4, 5, 6, 7, 8, 9, 10, 11, 12, 13, 14, 15, 16, 17, 18, 19] mh) A) (hA : jV e t 99 99 A) :
    rOk (L_r_digest_64 M) (K_r_digest_64 M) 400 ((0 : Int32), n0) ∧ (run (L_r_digest_64 M) 400 ((0 : Int32), n0)).2 0 11 = itr (mx (fun i => f_r_ofPage M (Int32.ofNat (i / 6)) (Int32.ofNat (i % 6)))) (n0 0 11) 240 := by
  refine foldR (by omega) (fun k n hk => ?_) (fun n => ?_)
  · have n1 : ¬ ((240 : Int32) ≤ Int32.ofNat k) := fun w => by have := (leI (a := 240) (by omega) (by omega)).mp w; omega
    obtain ⟨d1, d2⟩ := dm6 k hk
    obtain ⟨v1, v2, v3⟩ := page_RS (p := k / 6) (w := k % 6) hM hR hA (by omega) (by omega)
    unfold L_r_digest_64 K_r_digest_64
    simp only [g_let_def, if_neg n1, e1r, d1, d2]
    exact ⟨⟨v3, mix_o _ _ _, trivial⟩, trivial, trivial, mix_v _ _ _⟩
  · have n1 : (240 : Int32) ≤ Int32.ofNat 240 := by decide
    unfold L_r_digest_64 K_r_digest_64
    simp only [if_pos n1]
    first
      | exact ⟨trivial, rfl⟩
      | exact ⟨trivial, trivial⟩
theorem rst {n0 : gN} {e t : Nat} {mh M A : gM} (hM : vA (M 1) = A) (hR : jR (g_sel [4, 5, 6, 7, 8, 9, 10, 11, 12, 13, 14, 15, 16, 17, 18, 19] mh) A) (hA : jV e t 99 99 A) :
    rOk (L_r_digest_115 M) (K_r_digest_115 M) 400 ((0 : Int32), n0) ∧ (run (L_r_digest_115 M) 400 ((0 : Int32), n0)).2 0 11 = itr (mx (fun i => f_r_ofStream M (Int32.ofNat (i / 5)) (Int32.ofNat (i % 5)))) (n0 0 11) 25 := by
  refine foldR (by omega) (fun k n hk => ?_) (fun n => ?_)
  · have n1 : ¬ ((25 : Int32) ≤ Int32.ofNat k) := fun w => by have := (leI (a := 25) (by omega) (by omega)).mp w; omega
    obtain ⟨d1, d2⟩ := dm5 k hk
    obtain ⟨v1, v2, v3⟩ := stream_RS (s := k / 5) (w := k % 5) hM hR hA (by omega) (by omega)
    unfold L_r_digest_115 K_r_digest_115
    simp only [g_let_def, if_neg n1, e1r, d1, d2]
    exact ⟨⟨v3, mix_o _ _ _, trivial⟩, trivial, trivial, mix_v _ _ _⟩
  · have n1 : (25 : Int32) ≤ Int32.ofNat 25 := by decide
    unfold L_r_digest_115 K_r_digest_115
    simp only [if_pos n1]
    first
      | exact ⟨trivial, rfl⟩
      | exact ⟨trivial, trivial⟩
theorem rbk1 {n0 : gN} {e t : Nat} {mh M A : gM} (hM : vA (M 1) = A) (hR : jR (g_sel [4, 5, 6, 7, 8, 9, 10, 11, 12, 13, 14, 15, 16, 17, 18, 19] mh) A) (hA : jV e t 99 99 A) {p : Nat} (hp : p < 12) :
    rOk (L_r_mixesBlock_2 M (Int32.ofNat p)) (K_r_mixesBlock_2 M (Int32.ofNat p)) 400 ((0 : Int32), n0) ∧ (run (L_r_mixesBlock_2 M (Int32.ofNat p)) 400 ((0 : Int32), n0)).2 0 11 = itr (mx (fun w => f_r_ofBlock M (Int32.ofNat p) (Int32.ofNat w))) (n0 0 11) 8 := by
  refine foldR (by omega) (fun k n hk => ?_) (fun n => ?_)
  · have n1 : ¬ ((8 : Int32) ≤ Int32.ofNat k) := fun w => by have := (leI (a := 8) (by omega) (by omega)).mp w; omega
    obtain ⟨v1, v2, v3⟩ := block_RS (w := k) hM hR hA hp hk
    unfold L_r_mixesBlock_2 K_r_mixesBlock_2
    simp only [g_let_def, if_neg n1, e1r]
    exact ⟨⟨v3, mix_o _ _ _, trivial⟩, trivial, trivial, mix_v _ _ _⟩
  · have n1 : (8 : Int32) ≤ Int32.ofNat 8 := by decide
    unfold L_r_mixesBlock_2 K_r_mixesBlock_2
    simp only [if_pos n1]
    first
      | exact ⟨trivial, rfl⟩
      | exact ⟨trivial, trivial⟩
theorem rbk2 {n0 : gN} {e t : Nat} {mh M A : gM} (hM : vA (M 1) = A) (hR : jR (g_sel [4, 5, 6, 7, 8, 9, 10, 11, 12, 13, 14, 15, 16, 17, 18, 19] mh) A) (hA : jV e t 99 99 A) {p : Nat} (hp : p < 12) :
    rOk (L_r_mixesBlock_27 M (Int32.ofNat p)) (K_r_mixesBlock_27 M (Int32.ofNat p)) 400 ((0 : Int32), n0) ∧ (run (L_r_mixesBlock_27 M (Int32.ofNat p)) 400 ((0 : Int32), n0)).2 0 11 = itr (mx (fun w => A 0 (8 * p + w))) (n0 0 11) 8 := by
  refine foldR (by omega) (fun k n hk => ?_) (fun n => ?_)
  · have n1 : ¬ ((8 : Int32) ≤ Int32.ofNat k) := fun w => by have := (leI (a := 8) (by omega) (by omega)).mp w; omega
    have hk8 : 8 * p + k < 96 := by omega
    have q1 : (8 : Int32) * Int32.ofNat p + Int32.ofNat k = Int32.ofNat (8 * p + k) := by rw [e8l, nI_plus2]
    have y1 : M 1 (Int32.ofNat (8 * p + k)).toNatClampNeg = A 0 (8 * p + k) := by rw [← hM]; exact rh0 hk8
    unfold L_r_mixesBlock_27 K_r_mixesBlock_27
    simp only [g_let_def, if_neg n1, e1r, q1, y1]
    exact ⟨⟨ro0 hk8, mix_o _ _ _, trivial⟩, trivial, trivial, mix_v _ _ _⟩
  · have n1 : (8 : Int32) ≤ Int32.ofNat 8 := by decide
    unfold L_r_mixesBlock_27 K_r_mixesBlock_27
    simp only [if_pos n1]
    first
      | exact ⟨trivial, rfl⟩
      | exact ⟨trivial, trivial⟩
theorem rmb {e t : Nat} {mh M A : gM} (hM : vA (M 1) = A) (hR : jR (g_sel [4, 5, 6, 7, 8, 9, 10, 11, 12, 13, 14, 15, 16, 17, 18, 19] mh) A) (hA : jV e t 99 99 A) {p : Nat} (hp : p < 12) (n0 : gN) : o_r_mixesBlock M n0 (Int32.ofNat p) ∧ (f_r_mixesBlock M n0 (Int32.ofNat p)) 0 11 = itr (mx (fun w => A 0 (8 * p + w))) (itr (mx (fun w => f_r_ofBlock M (Int32.ofNat p) (Int32.ofNat w))) (n0 0 11) 8) 8 := by
  obtain ⟨v1, v2⟩ := rbk1 (n0 := n0) hM hR hA hp
  obtain ⟨v3, v4⟩ := rbk2 (n0 := (run (L_r_mixesBlock_2 M (Int32.ofNat p)) 400 ((0 : Int32), n0)).2) hM hR hA hp
  unfold o_r_mixesBlock f_r_mixesBlock
  simp only [g_let_def]
  refine ⟨⟨v1, v3, trivial⟩, ?_⟩
  rw [v4, v2]
theorem rbk {n0 : gN} {e t : Nat} {mh M A : gM} (hM : vA (M 1) = A) (hR : jR (g_sel [4, 5, 6, 7, 8, 9, 10, 11, 12, 13, 14, 15, 16, 17, 18, 19] mh) A) (hA : jV e t 99 99 A) :
    rOk (L_r_digest_96 M) (K_r_digest_96 M) 400 ((0 : Int32), n0) ∧ (run (L_r_digest_96 M) 400 ((0 : Int32), n0)).2 0 11 = itr (fun p a => itr (mx (fun w => A 0 (8 * p + w))) (itr (mx (fun w => f_r_ofBlock M (Int32.ofNat p) (Int32.ofNat w))) a 8) 8) (n0 0 11) 12 := by
  refine foldR (by omega) (fun k n hk => ?_) (fun n => ?_)
  · have n1 : ¬ ((12 : Int32) ≤ Int32.ofNat k) := fun w => by have := (leI (a := 12) (by omega) (by omega)).mp w; omega
    obtain ⟨v1, v2⟩ := rmb hM hR hA hk n
    unfold L_r_digest_96 K_r_digest_96
    simp only [g_let_def, if_neg n1, e1r]
    exact ⟨⟨v1, trivial⟩, trivial, trivial, v2⟩
  · have n1 : (12 : Int32) ≤ Int32.ofNat 12 := by decide
    unfold L_r_digest_96 K_r_digest_96
    simp only [if_pos n1]
    first
      | exact ⟨trivial, rfl⟩
      | exact ⟨trivial, trivial⟩
