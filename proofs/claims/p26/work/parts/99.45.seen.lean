/-! what the law's seen tells of a row -/
noncomputable def sn1 (r : Nat → Int32) : Int64 := itr (mx (fun w => f_r_counted (m0 r) (Int32.ofNat w))) 7 11
noncomputable def sn2 (r : Nat → Int32) : Int64 := itr (mx (fun i => f_r_ofPage (m0 r) (Int32.ofNat (i / 6)) (Int32.ofNat (i % 6)))) (sn1 r) 240
noncomputable def sn3 (r : Nat → Int32) : Int64 := itr (fun i a => 31 * (31 * a + (f_r_ofBlock (m0 r) (Int32.ofNat (i / 8)) (Int32.ofNat (i % 8))).toInt64) + (r (8 * (i / 8) + i % 8)).toInt64) (sn2 r) 96
noncomputable def sn4 (r : Nat → Int32) : Int64 := itr (mx (fun i => f_r_ofStream (m0 r) (Int32.ofNat (i / 5)) (Int32.ofNat (i % 5)))) (sn3 r) 25
noncomputable def sn5 (r : Nat → Int32) : Int64 := 31 * (31 * sn4 r + (r 358).toInt64) + (r 359).toInt64
theorem dm8 : ∀ k, k < 96 → Int32.ofNat k / (8 : Int32) = Int32.ofNat (k / 8) ∧ Int32.ofNat k - Int32.ofNat (k / 8) * (8 : Int32) = Int32.ofNat (k % 8) := by decide +kernel
theorem seen6 {c : Nat} {mh : gM} {r : Nat → Int32} {rs : List (Nat → Int32)} (hR : Rq c mh r rs) (hc : c < 100000000) : rOk (L_l_seen_6 mh) (K_l_seen_6 mh) 400 ((7 : Int64), (0 : Int32)) ∧ (run (L_l_seen_6 mh) 400 ((7 : Int64), (0 : Int32))).1 = sn1 r := by
  refine foldC (by omega) (fun k a hk => ?_) (fun a => ?_)
  · have n1 : ¬ ((11 : Int32) ≤ Int32.ofNat k) := fun w => by have := (leI (a := 11) (by omega) (by omega)).mp w; omega
    obtain ⟨v2, v1⟩ := countQ hR hc hk
    unfold L_l_seen_6 K_l_seen_6
    simp only [g_let_def, if_neg n1, e1r, v1]
    exact ⟨⟨v2, trivial⟩, by first | rfl | trivial⟩
  · have n1 : (11 : Int32) ≤ Int32.ofNat 11 := by decide
    unfold L_l_seen_6 K_l_seen_6
    simp only [if_pos n1]
    first
      | exact ⟨trivial, rfl⟩
      | exact ⟨trivial, trivial⟩
theorem seen33 {c : Nat} {mh : gM} {r : Nat → Int32} {rs : List (Nat → Int32)} (hR : Rq c mh r rs) : rOk (L_l_seen_33 mh) (K_l_seen_33 mh) 400 (sn1 r, (0 : Int32)) ∧ (run (L_l_seen_33 mh) 400 (sn1 r, (0 : Int32))).1 = sn2 r := by
  refine foldC (by omega) (fun k a hk => ?_) (fun a => ?_)
  · have n1 : ¬ ((240 : Int32) ≤ Int32.ofNat k) := fun w => by have := (leI (a := 240) (by omega) (by omega)).mp w; omega
    obtain ⟨d1, d2⟩ := dm6 k hk
    obtain ⟨v2, v1⟩ := pageQ (p := k / 6) (w := k % 6) hR (by omega) (by omega)
    unfold L_l_seen_33 K_l_seen_33
    simp only [g_let_def, if_neg n1, e1r, d1, d2, v1]
    exact ⟨⟨v2, trivial⟩, by first | rfl | trivial⟩
  · have n1 : (240 : Int32) ≤ Int32.ofNat 240 := by decide
    unfold L_l_seen_33 K_l_seen_33
    simp only [if_pos n1]
    first
      | exact ⟨trivial, rfl⟩
      | exact ⟨trivial, trivial⟩
theorem seen68 {c : Nat} {mh : gM} {r : Nat → Int32} {rs : List (Nat → Int32)} (hR : Rq c mh r rs) : rOk (L_l_seen_68 mh) (K_l_seen_68 mh) 400 (sn2 r, (0 : Int32)) ∧ (run (L_l_seen_68 mh) 400 (sn2 r, (0 : Int32))).1 = sn3 r := by
  refine foldC (by omega) (fun k a hk => ?_) (fun a => ?_)
  · have n1 : ¬ ((96 : Int32) ≤ Int32.ofNat k) := fun w => by have := (leI (a := 96) (by omega) (by omega)).mp w; omega
    obtain ⟨d1, d2⟩ := dm8 k hk
    obtain ⟨v2, v1⟩ := blockQ (p := k / 8) (w := k % 8) hR (by omega) (by omega)
    obtain ⟨v4, v3⟩ := slotQ0 (p := k / 8) (w := k % 8) hR (by omega) (by omega)
    unfold L_l_seen_68 K_l_seen_68
    simp only [g_let_def, if_neg n1, e1r, d1, d2, v1, v3]
    exact ⟨⟨v2, v4, trivial⟩, by first | rfl | trivial⟩
  · have n1 : (96 : Int32) ≤ Int32.ofNat 96 := by decide
    unfold L_l_seen_68 K_l_seen_68
    simp only [if_pos n1]
    first
      | exact ⟨trivial, rfl⟩
      | exact ⟨trivial, trivial⟩
theorem seen121 {c : Nat} {mh : gM} {r : Nat → Int32} {rs : List (Nat → Int32)} (hR : Rq c mh r rs) : rOk (L_l_seen_121 mh) (K_l_seen_121 mh) 400 (sn3 r, (0 : Int32)) ∧ (run (L_l_seen_121 mh) 400 (sn3 r, (0 : Int32))).1 = sn4 r := by
  refine foldC (by omega) (fun k a hk => ?_) (fun a => ?_)
  · have n1 : ¬ ((25 : Int32) ≤ Int32.ofNat k) := fun w => by have := (leI (a := 25) (by omega) (by omega)).mp w; omega
    obtain ⟨d1, d2⟩ := dm5 k hk
    obtain ⟨v2, v1⟩ := streamQ (p := k / 5) (w := k % 5) hR (by omega) (by omega)
    unfold L_l_seen_121 K_l_seen_121
    simp only [g_let_def, if_neg n1, e1r, d1, d2, v1]
    exact ⟨⟨v2, trivial⟩, by first | rfl | trivial⟩
  · have n1 : (25 : Int32) ≤ Int32.ofNat 25 := by decide
    unfold L_l_seen_121 K_l_seen_121
    simp only [if_pos n1]
    first
      | exact ⟨trivial, rfl⟩
      | exact ⟨trivial, trivial⟩
theorem seenQ {c : Nat} {mh : gM} {r : Nat → Int32} {rs : List (Nat → Int32)} (hR : Rq c mh r rs) (hc : c < 100000000) : o_l_seen mh ∧ f_l_seen mh = sn5 r := by
  obtain ⟨a1, a2⟩ := seen6 hR hc
  obtain ⟨b1, b2⟩ := seen33 hR
  obtain ⟨c1, c2⟩ := seen68 hR
  obtain ⟨d1, d2⟩ := seen121 hR
  obtain ⟨g1, g2⟩ := settingQ (i := 0) hR (by omega)
  obtain ⟨h1, h2⟩ := settingQ (i := 1) hR (by omega)
  have e0 : Int32.ofNat 0 = (0 : Int32) := rfl
  have e1 : Int32.ofNat 1 = (1 : Int32) := rfl
  rw [e0] at g1 g2
  rw [e1] at h1 h2
  unfold o_l_seen f_l_seen
  simp only [g_let_def, a2, b2, c2, d2, g2, h2]
  exact ⟨⟨a1, b1, c1, d1, g1, h1, trivial⟩, rfl⟩
