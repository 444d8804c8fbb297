/-! rows as numbers -/
theorem pkN_lt (f : Nat → Int32) : ∀ n, pk f n < 2 ^ (32 * n) := by
  intro n
  induction n with
  | zero => show 0 < 1; omega
  | succ n ih =>
    have hb : (f n).toUInt32.toNat < 2 ^ 32 := UInt32.toNat_lt _
    show pk f n + (f n).toUInt32.toNat <<< (32 * n) < 2 ^ (32 * (n + 1))
    rw [Nat.shiftLeft_eq, show 32 * (n + 1) = 32 + 32 * n by omega, Nat.pow_add]
    have h1 : ((f n).toUInt32.toNat + 1) * 2 ^ (32 * n) ≤ 2 ^ 32 * 2 ^ (32 * n) := Nat.mul_le_mul_right _ hb
    rw [Nat.add_mul, Nat.one_mul] at h1
    omega
theorem pkN_at (f : Nat → Int32) : ∀ n j, j < n → (pk f n >>> (32 * j)) % 4294967296 = (f j).toUInt32.toNat := by
  intro n
  induction n with
  | zero => intro j hj; omega
  | succ n ih =>
    intro j hj
    have hb : (f n).toUInt32.toNat < 2 ^ 32 := UInt32.toNat_lt _
    show ((pk f n + (f n).toUInt32.toNat <<< (32 * n)) >>> (32 * j)) % 4294967296 = _
    rw [Nat.shiftLeft_eq, Nat.shiftRight_eq_div_pow]
    by_cases h : j < n
    · have e : 2 ^ (32 * n) = 2 ^ (32 * (n - j - 1)) * 4294967296 * 2 ^ (32 * j) := by
        rw [show (4294967296 : Nat) = 2 ^ 32 from rfl, ← Nat.pow_add, ← Nat.pow_add]
        congr 1; omega
      rw [e, ← Nat.mul_assoc, Nat.add_mul_div_right _ _ (Nat.two_pow_pos _), ← Nat.mul_assoc, Nat.add_mul_mod_self_right, ← Nat.shiftRight_eq_div_pow]
      exact ih j h
    · have hjn : j = n := by omega
      subst hjn
      rw [Nat.add_mul_div_right _ _ (Nat.two_pow_pos _), Nat.div_eq_of_lt (pkN_lt f _), Nat.zero_add]
      exact Nat.mod_eq_of_lt hb
set_option maxRecDepth 4000 in
theorem st_of {f : Nat → Int32} {T : Nat} (h : pk f 364 = T) : cl f = rwN T := by
  funext j
  unfold cl rwN
  by_cases hj : j < 364
  · rw [if_pos hj, if_pos hj, ← h, pkN_at f 364 j hj]
    show f j = Int32.ofUInt32 (UInt32.ofNat (f j).toUInt32.toNat)
    rw [UInt32.ofNat_toNat]
  · rw [if_neg hj, if_neg hj]
/-! pages in a row, and all pages again, from number to number -/
noncomputable def wrN (h T p : Nat) : Nat → Nat
  | 0 => T
  | k + 1 => pk ((ef_r_writes (m0 (rwN (wrN h T p k))) (Int32.ofNat (p + k)) (Int32.ofNat h)).2 0) 364
theorem wrN_s (h T p k : Nat) : wrN h T p (k + 1) = pk ((ef_r_writes (m0 (rwN (wrN h T p k))) (Int32.ofNat (p + k)) (Int32.ofNat h)).2 0) 364 := by rw [wrN]
theorem wrow_N (h T p : Nat) : ∀ k, wrow h (rwN T) p k = rwN (wrN h T p k) := by
  intro k
  induction k with
  | zero => rfl
  | succ k ih =>
    show cl ((f_r_writes (m0 (wrow h (rwN T) p k)) (Int32.ofNat (p + k)) (Int32.ofNat h)).2 0) = _
    rw [ih, ee_f_r_writes, wrN_s]
    generalize (ef_r_writes (m0 (rwN (wrN h T p k))) (Int32.ofNat (p + k)) (Int32.ofNat h)).2 0 = f
    exact st_of rfl
noncomputable def zN (T : Nat) : Nat → Nat
  | 0 => T
  | j + 1 => pk ((ef_r_writes (m0 (rwN (zN T j))) (Int32.ofNat (j % 40)) (hv (rwN (zN T j)) (j % 40))).2 0) 364
theorem zN_s (T j : Nat) : zN T (j + 1) = pk ((ef_r_writes (m0 (rwN (zN T j))) (Int32.ofNat (j % 40)) (hv (rwN (zN T j)) (j % 40))).2 0) 364 := by rw [zN]
theorem rwr_N (T : Nat) : ∀ j, rwr (rwN T) j = rwN (zN T j) := by
  intro j
  induction j with
  | zero => rfl
  | succ j ih =>
    show cl ((f_r_writes (m0 (rwr (rwN T) j)) (Int32.ofNat (j % 40)) (hv (rwr (rwN T) j) (j % 40))).2 0) = _
    rw [ih, ee_f_r_writes, zN_s]
    generalize (ef_r_writes (m0 (rwN (zN T j))) (Int32.ofNat (j % 40)) (hv (rwN (zN T j)) (j % 40))).2 0 = f
    exact st_of rfl
