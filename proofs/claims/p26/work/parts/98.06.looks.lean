/-! looks: a Store and the reference answer alike -/
theorem rh1 {m : gM} {p : Nat} (h9 : p < 40) : m 1 ((((144 : Int32) + ((5 : Int32) * Int32.ofNat p)) + (0 : Int32))).toNatClampNeg = vA (m 1) 1 p := rg1 (m := g_sel [1] m) h9
theorem rh6 {m : gM} {b : Nat} (h9 : b < 12) : m 1 (((96 : Int32) + Int32.ofNat b)).toNatClampNeg = vA (m 1) 6 b := rg6 (m := g_sel [1] m) h9
theorem rh7 {m : gM} {b : Nat} (h9 : b < 12) : m 1 (((108 : Int32) + Int32.ofNat b)).toNatClampNeg = vA (m 1) 7 b := rg7 (m := g_sel [1] m) h9
theorem rh8 {m : gM} {b : Nat} (h9 : b < 12) : m 1 (((120 : Int32) + Int32.ofNat b)).toNatClampNeg = vA (m 1) 8 b := rg8 (m := g_sel [1] m) h9
theorem rh9 {m : gM} {b : Nat} (h9 : b < 12) : m 1 (((132 : Int32) + Int32.ofNat b)).toNatClampNeg = vA (m 1) 9 b := rg9 (m := g_sel [1] m) h9
theorem rh10 {m : gM} {s : Nat} (h9 : s < 5) : m 1 (((344 : Int32) + ((2 : Int32) * Int32.ofNat s))).toNatClampNeg = vA (m 1) 10 s := rg10 (m := g_sel [1] m) h9
theorem rh11 {m : gM} {s : Nat} (h9 : s < 5) : m 1 ((((344 : Int32) + ((2 : Int32) * Int32.ofNat s)) + (1 : Int32))).toNatClampNeg = vA (m 1) 11 s := rg11 (m := g_sel [1] m) h9
theorem rh12 {m : gM} {h : Nat} (h9 : h < 4) : m 1 (((354 : Int32) + Int32.ofNat h)).toNatClampNeg = vA (m 1) 12 h := rg12 (m := g_sel [1] m) h9
theorem rh0 {m : gM} {k : Nat} (h9 : k < 96) : m 1 ((Int32.ofNat k)).toNatClampNeg = vA (m 1) 0 k := rg0 (m := g_sel [1] m) h9
theorem rh13_0 {m : gM} : m 1 (358 : Int32).toNatClampNeg = vA (m 1) 13 0 := rfl
theorem rh13_1 {m : gM} : m 1 (359 : Int32).toNatClampNeg = vA (m 1) 13 1 := rfl
theorem rh13_2 {m : gM} : m 1 (360 : Int32).toNatClampNeg = vA (m 1) 13 2 := rfl
theorem rh13_3 {m : gM} : m 1 (361 : Int32).toNatClampNeg = vA (m 1) 13 3 := rfl
theorem rh13_4 {m : gM} : m 1 (362 : Int32).toNatClampNeg = vA (m 1) 13 4 := rfl
theorem rh13_5 {m : gM} : m 1 (363 : Int32).toNatClampNeg = vA (m 1) 13 5 := rfl
theorem aR_sel1 (m : gM) : aR (g_sel [1] m) = vA (m 1) := rfl
theorem aR_sel2 (m : gM) : aR (g_sel [2] m) = vA (m 2) := rfl
theorem subNN (a b : Nat) : Int32.ofNat (a + b) - Int32.ofNat b = Int32.ofNat a := by rw [← nI_plus2]; exact Int32.add_sub_cancel _ _
theorem lq12 {n : Nat} (h : n < 12) : ¬ ((12 : Int32) ≤ Int32.ofNat n) := by intro w; have := (leI (a := 12) (by omega) (by omega)).mp w; omega
theorem lq8 {n : Nat} (h : n < 8) : ¬ ((8 : Int32) ≤ Int32.ofNat n) := by intro w; have := (leI (a := 8) (by omega) (by omega)).mp w; omega
theorem lq40 {n : Nat} (h : n < 40) : ¬ ((40 : Int32) ≤ Int32.ofNat n) := by intro w; have := (leI (a := 40) (by omega) (by omega)).mp w; omega
theorem lq5 {n : Nat} (h : n < 5) : ¬ ((5 : Int32) ≤ Int32.ofNat n) := by intro w; have := (leI (a := 5) (by omega) (by omega)).mp w; omega
theorem sI_step {f : Nat → Int32} {n : Nat} {x : Int32} (h : f n = x) : sI n f + x = sI (n + 1) f := by show _ = sI n f + f n; rw [h]
/-! pages -/
theorem isWritten_S {m A : gM} {p : Nat} (hR : jR m A) (hp : p < 40) : f_s_isWritten m (Int32.ofNat p) = (if A 1 p = -1 then 0 else 1) ∧ o_s_isWritten m (Int32.ofNat p) := by
  unfold f_s_isWritten o_s_isWritten
  rw [nI_ix (by omega), (hR.1 p hp).1]
  refine ⟨rfl, vp_in_nI hp (by omega), ?_⟩
  split <;> trivial
theorem blockOf_S {m A : gM} {p : Nat} (hR : jR m A) (hp : p < 40) : f_s_blockOf m (Int32.ofNat p) = (if A 1 p = -1 then -1 else A 1 p / 8) ∧ o_s_blockOf m (Int32.ofNat p) := by
  obtain ⟨w1, w2⟩ := isWritten_S hR hp
  unfold f_s_blockOf o_s_blockOf
  rw [w1, nI_ix (by omega), (hR.1 p hp).1]
  by_cases q : A 1 p = -1
  · simp only [if_pos q, if_true]; exact ⟨trivial, w2, trivial⟩
  · have n1 : ¬ ((1 : Int32) = 0) := by decide
    simp only [if_neg q, if_neg n1]; exact ⟨trivial, w2, vp_in_nI hp (by omega), trivial⟩
theorem page_RS {M m A : gM} {e t p w : Nat} (hM : vA (M 1) = A) (hR : jR m A) (hA : jV e t 99 99 A) (hp : p < 40) (hw : w < 6) : f_s_pageProperty m (Int32.ofNat p) (Int32.ofNat w) = f_r_ofPage M (Int32.ofNat p) (Int32.ofNat w) ∧ o_s_pageProperty m (Int32.ofNat p) (Int32.ofNat w) ∧ o_r_ofPage M (Int32.ofNat p) (Int32.ofNat w) := by
  obtain ⟨ia, ib, ih, -⟩ := hA
  obtain ⟨w1, w2⟩ := isWritten_S hR hp
  obtain ⟨u1, u2⟩ := blockOf_S hR hp
  obtain ⟨a1, a2, a3, a4, a5⟩ := hR.1 p hp
  have o0 := of_A (m := g_sel [1] M) hp
  have o1 := of_A2 (m := g_sel [1] M) hp
  have o2 := of_A3 (m := g_sel [1] M) hp
  have o3 := of_A4 (m := g_sel [1] M) hp
  have o4 := of_A5 (m := g_sel [1] M) hp
  rw [aR_sel1, hM] at o0 o1 o2 o3 o4
  have vp := vp_in_nI hp (show 40 < 2 ^ 31 by omega)
  have ip := nI_ix (show p < 2147483648 by omega)
  have n1 : ¬ ((1 : Int32) = 0) := by decide
  unfold f_r_ofPage o_r_ofPage
  rw [g_let_def, g_let_def, o0.1]
  match w, hw with
  | 0, _ =>
    have e1 : f_s_pageProperty m (Int32.ofNat p) (Int32.ofNat 0) = f_s_blockOf m (Int32.ofNat p) := rfl
    refine ⟨?_, ⟨u2, trivial⟩, o0.2, ?_⟩
    · rw [e1, u1]; rfl
    · show (if A 1 p = -1 then True else True); split <;> trivial
  | 1, _ =>
    have e1 : f_s_pageProperty m (Int32.ofNat p) (Int32.ofNat 1) = (if f_s_isWritten m (Int32.ofNat p) = 0 then -1 else (m 1 (Int32.ofNat p).toNatClampNeg) - (m 1 (Int32.ofNat p).toNatClampNeg) / (8 : Int32) * (8 : Int32)) := rfl
    refine ⟨?_, ⟨w2, ?_⟩, o0.2, ?_⟩
    · rw [e1, w1, ip, a1]
      by_cases q : A 1 p = -1
      · rw [if_pos q]
        show _ = (if A 1 p = -1 then (-1 : Int32) else _)
        rw [if_pos q]; rfl
      · rw [if_neg q, if_neg n1]
        show _ = (if A 1 p = -1 then (-1 : Int32) else _)
        rw [if_neg q]
    · show (if f_s_isWritten m (Int32.ofNat p) = 0 then True else _); split
      · trivial
      · exact ⟨vp, trivial⟩
    · show (if A 1 p = -1 then True else True); split <;> trivial
  | 2, _ =>
    have e1 : f_s_pageProperty m (Int32.ofNat p) (Int32.ofNat 2) = (if f_s_isWritten m (Int32.ofNat p) = 0 then -1 else (m 2 (Int32.ofNat p).toNatClampNeg)) := rfl
    refine ⟨?_, ⟨w2, ?_⟩, o0.2, o1.2, trivial⟩
    · rw [e1, w1, ip]
      show _ = f_r_of (g_sel [1] M) (Int32.ofNat p) (1 : Int32)
      rw [o1.1]
      by_cases q : A 1 p = -1
      · rw [if_pos q, if_pos rfl]; exact ((ih p hp).2 (by omega) q).symm
      · rw [if_neg q, if_neg n1]
        obtain ⟨h, hh, hq⟩ := (ih p hp).1 q
        exact a2 (by rw [hq]; exact nI_ne1 (by omega))
    · show (if f_s_isWritten m (Int32.ofNat p) = 0 then True else _); split
      · trivial
      · exact ⟨vp, trivial⟩
  | 3, _ =>
    have e1 : f_s_pageProperty m (Int32.ofNat p) (Int32.ofNat 3) = m 3 (Int32.ofNat p).toNatClampNeg := rfl
    have e2 : Int32.ofNat 3 - (1 : Int32) = 2 := by decide
    refine ⟨?_, ⟨vp, trivial⟩, o0.2, ?_⟩
    · rw [e1, ip, a3, e2]; exact o2.1.symm
    · rw [e2]; exact ⟨o2.2, trivial⟩
  | 4, _ =>
    have e1 : f_s_pageProperty m (Int32.ofNat p) (Int32.ofNat 4) = m 4 (Int32.ofNat p).toNatClampNeg := rfl
    have e2 : Int32.ofNat 4 - (1 : Int32) = 3 := by decide
    refine ⟨?_, ⟨vp, trivial⟩, o0.2, ?_⟩
    · rw [e1, ip, a4, e2]; exact o3.1.symm
    · rw [e2]; exact ⟨o3.2, trivial⟩
  | 5, _ =>
    have e1 : f_s_pageProperty m (Int32.ofNat p) (Int32.ofNat 5) = m 5 (Int32.ofNat p).toNatClampNeg := rfl
    have e2 : Int32.ofNat 5 - (1 : Int32) = 4 := by decide
    refine ⟨?_, ⟨vp, trivial⟩, o0.2, ?_⟩
    · rw [e1, ip, a5, e2]; exact o4.1.symm
    · rw [e2]; exact ⟨o4.2, trivial⟩
  | n + 6, h => omega
/-! blocks -/
theorem stateOf_S {m A : gM} {e t b : Nat} (hR : jR m A) (hA : jV e t 99 99 A) (hb : b < 12) : f_s_stateOf m (Int32.ofNat b) = A 6 b ∧ o_s_stateOf m (Int32.ofNat b) := by
  obtain ⟨ia, ib, ih, ic, -⟩ := hA
  obtain ⟨a1, a2, -⟩ := hR.2.2.1 b hb
  have vb := vp_in_nI hb (show 12 < 2 ^ 31 by omega)
  have c8 := cN_le A b
  unfold f_s_stateOf o_s_stateOf
  rw [nI_ix (by omega), a1, a2]
  have hl : ((8 : Int32) ≤ Int32.ofNat (cN A b)) ↔ 8 ≤ cN A b := leI (a := 8) (by omega) (by omega)
  refine ⟨?_, vb, ?_⟩
  · rcases (ic b hb).2 with ⟨q1, q2, q3⟩ | ⟨q1, q2, s, hs, q3, -⟩ | ⟨q1, q2, s, hs, q3⟩
    · rw [q3, q2, if_pos rfl]
    · rw [q3, q2, if_neg (nI_ne1 (by omega)), if_neg (fun w => by have := hl.mp w; omega)]
    · rw [q3, q2, if_neg (nI_ne1 (by omega)), if_pos (hl.mpr (by omega))]
  · split
    · trivial
    · refine ⟨vb, ?_⟩
      split <;> trivial
def cA (A : gM) (b n : Nat) : Nat := if A 6 n = 2 ∧ ¬ A 9 b ≤ A 9 n then 1 else 0
theorem closedAhead_R {M A : gM} {b : Nat} (hM : vA (M 1) = A) (hb : b < 12) : f_r_closedAhead M (Int32.ofNat b) = (if A 6 b = 2 then Int32.ofNat (sS 12 (cA A b)) else -1) ∧ o_r_closedAhead M (Int32.ofNat b) := by
  have hL := run_count (f := L_r_closedAhead_19 M (Int32.ofNat b)) (K := K_r_closedAhead_19 M (Int32.ofNat b)) (N := 12) (fuel := 400) (z := ((0 : Int32), (0 : Int32))) (fun n z => z = (Int32.ofNat (sS n (cA A b)), Int32.ofNat n)) (fun z => z.1 = Int32.ofNat (sS 12 (cA A b))) (by decide) rfl (fun n z hn hz => ?_) (fun z hz => ?_)
  · unfold f_r_closedAhead o_r_closedAhead
    simp only [g_let_def, rh6 hb, hM]
    refine ⟨by rw [hL.2], ro6 hb, ?_⟩
    split
    · exact ⟨hL.1, trivial⟩
    · trivial
  · subst hz
    unfold L_r_closedAhead_19 K_r_closedAhead_19
    by_cases q : A 6 n = 2
    · by_cases q2 : A 9 b ≤ A 9 n
      · simp only [g_let_def, if_neg (lq12 hn), rh6 hn, rh9 hn, rh9 hb, hM, if_pos q, if_pos q2]
        refine ⟨⟨ro6 hn, ro9 hn, ro9 hb, trivial⟩, trivial, Prod.ext (sS_acc (x := 0) ?_) (e1r _)⟩
        unfold cA; rw [if_neg (fun w => w.2 q2)]
      · simp only [g_let_def, if_neg (lq12 hn), rh6 hn, rh9 hn, rh9 hb, hM, if_pos q, if_neg q2]
        refine ⟨⟨ro6 hn, ro9 hn, ro9 hb, trivial⟩, trivial, Prod.ext (sS_acc (x := 1) ?_) (e1r _)⟩
        unfold cA; rw [if_pos ⟨q, q2⟩]
    · simp only [g_let_def, if_neg (lq12 hn), rh6 hn, hM, if_neg q]
      refine ⟨⟨ro6 hn, trivial⟩, trivial, Prod.ext (sS_acc (x := 0) ?_) (e1r _)⟩
      unfold cA; rw [if_neg (fun w => q w.1)]
  · subst hz
    have hle : (12 : Int32) ≤ Int32.ofNat 12 := by decide
    unfold L_r_closedAhead_19 K_r_closedAhead_19
    simp only [if_pos hle]
    refine ⟨trivial, trivial, ?_⟩
    first | trivial | rfl
theorem closedAhead_S {m A : gM} {e t b : Nat} (hR : jR m A) (hA : jV e t 99 99 A) (hb : b < 12) : f_s_closedAheadOf m (Int32.ofNat b) = (if A 6 b = 2 then Int32.ofNat (sS 12 (cA A b)) else -1) ∧ o_s_closedAheadOf m (Int32.ofNat b) := by
  have vi : ∀ {i : Nat}, i < 12 → vp_in (Int32.ofNat i) 12 := fun h => vp_in_nI h (by omega)
  have ib := nI_ix (show b < 2147483648 by omega)
  have R11 : ∀ i, i < 12 → m 11 i = A 9 i := fun i hi => (hR.2.2.1 i hi).2.2.2.2
  have hL := run_count (f := L_s_closedAheadOf_15 m (Int32.ofNat b)) (K := K_s_closedAheadOf_15 m (Int32.ofNat b)) (N := 12) (fuel := 400) (z := ((0 : Int32), (0 : Int32))) (fun n z => z = (Int32.ofNat (sS n (cA A b)), Int32.ofNat n)) (fun z => z.1 = Int32.ofNat (sS 12 (cA A b))) (by decide) rfl (fun n z hn hz => ?_) (fun z hz => ?_)
  · obtain ⟨s1, s2⟩ := stateOf_S hR hA hb
    unfold f_s_closedAheadOf o_s_closedAheadOf
    simp only [g_let_def, s1]
    refine ⟨by rw [hL.2], s2, ?_⟩
    split
    · exact ⟨hL.1, trivial⟩
    · trivial
  · subst hz
    obtain ⟨s1, s2⟩ := stateOf_S hR hA hn
    have in' := nI_ix (show n < 2147483648 by omega)
    have z0 : Int32.ofNat (sS n (cA A b)) = Int32.ofNat (sS n (cA A b)) + Int32.ofNat 0 := (Int32.add_zero _).symm
    unfold L_s_closedAheadOf_15 K_s_closedAheadOf_15
    by_cases q : A 6 n = 2
    · by_cases q2 : A 9 b ≤ A 9 n
      · simp only [g_let_def, if_neg (lq12 hn), s1, in', ib, R11 n hn, R11 b hb, if_pos q, if_pos q2]
        refine ⟨⟨s2, vi hn, vi hb, trivial⟩, trivial, Prod.ext (z0.trans (sS_acc (x := 0) ?_)) (e1r _)⟩
        unfold cA; rw [if_neg (fun w => w.2 q2)]
      · simp only [g_let_def, if_neg (lq12 hn), s1, in', ib, R11 n hn, R11 b hb, if_pos q, if_neg q2]
        refine ⟨⟨s2, vi hn, vi hb, trivial⟩, trivial, Prod.ext (sS_acc (x := 1) ?_) (e1r _)⟩
        unfold cA; rw [if_pos ⟨q, q2⟩]
    · simp only [g_let_def, if_neg (lq12 hn), s1, if_neg q]
      refine ⟨⟨s2, trivial⟩, trivial, Prod.ext (z0.trans (sS_acc (x := 0) ?_)) (e1r _)⟩
      unfold cA; rw [if_neg (fun w => q w.1)]
  · subst hz
    have hle : (12 : Int32) ≤ Int32.ofNat 12 := by decide
    unfold L_s_closedAheadOf_15 K_s_closedAheadOf_15
    simp only [if_pos hle]
    refine ⟨trivial, trivial, ?_⟩
    first | trivial | rfl
/-! hints as a set of bits -/
def uF (A : gM) (b : Nat) : Nat → Int32
  | 0 => 0
  | n + 1 => if vd A (8 * b + n) = 1 then uF A b n ||| ((1 : Int32) <<< (A 2 (A 0 (8 * b + n)).toNatClampNeg &&& 31)) else uF A b n
theorem or4 : ∀ s, s < 16 → ∀ h, h < 4 → ∃ s', s' < 16 ∧ Int32.ofNat s ||| ((1 : Int32) <<< (Int32.ofNat h &&& 31)) = Int32.ofNat s' := by decide +kernel
theorem vd_page {A : gM} {k : Nat} (ia : jA A) (hk : k < 96) (h : vd A k = 1) : ∃ p, p < 40 ∧ A 0 k = Int32.ofNat p ∧ A 1 p = Int32.ofNat k := by
  unfold vd at h
  rcases ia k hk with q | ⟨p, hp, q⟩
  · rw [if_pos q] at h; omega
  · rw [q, if_neg (nI_ne1 (by omega)), nI_ix (by omega)] at h
    by_cases w : A 1 p = Int32.ofNat k
    · exact ⟨p, hp, q, w⟩
    · rw [if_neg w] at h; omega
theorem uF_lt {A : gM} {e t b : Nat} (hA : jV e t 99 99 A) (hb : b < 12) : ∀ n, n ≤ 8 → ∃ s, s < 16 ∧ uF A b n = Int32.ofNat s := by
  obtain ⟨ia, ib, ih, -⟩ := hA
  intro n
  induction n with
  | zero => intro _; exact ⟨0, by omega, rfl⟩
  | succ n IH =>
    intro hn
    obtain ⟨s, hs, q⟩ := IH (by omega)
    unfold uF
    by_cases w : vd A (8 * b + n) = 1
    · rw [if_pos w]
      obtain ⟨p, hp, q0, q1⟩ := vd_page ia (by omega) w
      obtain ⟨h, hh, q2⟩ := (ih p hp).1 (by rw [q1]; exact nI_ne1 (by omega))
      rw [q0, nI_ix (by omega), q2, q]
      exact or4 s hs h hh
    · rw [if_neg w]; exact ⟨s, hs, q⟩
theorem bits4 : ∀ s, s < 16 → ((((Int32.ofNat s &&& (1 : Int32)) + ((Int32.ofNat s >>> ((1 : Int32) &&& 31)) &&& (1 : Int32))) + ((Int32.ofNat s >>> ((2 : Int32) &&& 31)) &&& (1 : Int32))) + ((Int32.ofNat s >>> ((3 : Int32) &&& 31)) &&& (1 : Int32))) = (let z1 := (Int32.ofNat s - ((((Int32.ofNat s).toUInt32 >>> (((1 : Int32)).toUInt32 &&& Int32.toUInt32 31)).toInt32) &&& (1431655765 : Int32))); let z2 := ((z1 &&& (858993459 : Int32)) + ((((z1).toUInt32 >>> (((2 : Int32)).toUInt32 &&& Int32.toUInt32 31)).toInt32) &&& (858993459 : Int32))); let z3 := ((z2 + (((z2).toUInt32 >>> (((4 : Int32)).toUInt32 &&& Int32.toUInt32 31)).toInt32)) &&& (252645135 : Int32)); let z4 := (z3 + (((z3).toUInt32 >>> (((8 : Int32)).toUInt32 &&& Int32.toUInt32 31)).toInt32)); let z5 := (z4 + (((z4).toUInt32 >>> (((16 : Int32)).toUInt32 &&& Int32.toUInt32 31)).toInt32)); (z5 &&& (63 : Int32))) := by decide +kernel
theorem bitCount_of {s : Nat} (hs : s < 16) : f_j_bitCount (Int32.ofNat s) = ((((Int32.ofNat s &&& (1 : Int32)) + ((Int32.ofNat s >>> ((1 : Int32) &&& 31)) &&& (1 : Int32))) + ((Int32.ofNat s >>> ((2 : Int32) &&& 31)) &&& (1 : Int32))) + ((Int32.ofNat s >>> ((3 : Int32) &&& 31)) &&& (1 : Int32))) := by
  rw [bits4 s hs]
  unfold f_j_bitCount
  simp only [g_let_def]
theorem bitCount_o {x : Int32} : o_j_bitCount x := by unfold o_j_bitCount; simp only [g_let_def]
theorem unlike_RS {M m A : gM} {e t b : Nat} (hM : vA (M 1) = A) (hR : jR m A) (hA : jV e t 99 99 A) (hb : b < 12) : f_s_unlikeHintsOf m (Int32.ofNat b) = f_r_unlikeHints M (Int32.ofNat b) ∧ o_s_unlikeHintsOf m (Int32.ofNat b) ∧ o_r_unlikeHints M (Int32.ofNat b) := by
  have hA0 := hA
  obtain ⟨ia, ib, ih, -⟩ := hA
  have n10 : ¬ ((1 : Int32) = 0) := by decide
  have hL := run_count (f := L_r_unlikeHints_7 M (Int32.ofNat b)) (K := K_r_unlikeHints_7 M (Int32.ofNat b)) (N := 8) (fuel := 400) (z := ((0 : Int32), Int32.ofNat (8 * b))) (fun n z => z = (uF A b n, Int32.ofNat (8 * b + n))) (fun z => z.1 = uF A b 8) (by decide) rfl (fun n z hn hz => ?_) (fun z hz => ?_)
  · have hS := run_count (f := L_s_unlikeHintsOf_4 m (Int32.ofNat b)) (K := K_s_unlikeHintsOf_4 m (Int32.ofNat b)) (N := 8) (fuel := 400) (z := ((0 : Int32), (0 : Int32))) (fun n z => z = (uF A b n, Int32.ofNat n)) (fun z => z.1 = uF A b 8) (by decide) rfl (fun n z hn hz => ?_) (fun z hz => ?_)
    · obtain ⟨s, hs, q⟩ := uF_lt hA0 hb 8 (by omega)
      unfold f_s_unlikeHintsOf o_s_unlikeHintsOf f_r_unlikeHints o_r_unlikeHints
      simp only [g_let_def, e8l]
      rw [hL.2, hS.2, q, bitCount_of hs]
      exact ⟨rfl, ⟨hS.1, bitCount_o, trivial⟩, hL.1, trivial⟩
    · subst hz
      have hk : 8 * b + n < 96 := by omega
      obtain ⟨u1, u2⟩ := validPageAt_S hR ia hk
      unfold L_s_unlikeHintsOf_4 K_s_unlikeHintsOf_4
      by_cases w : vd A (8 * b + n) = 1
      · obtain ⟨p, hp, q0, q1⟩ := vd_page ia hk w
        obtain ⟨h, hh, q2⟩ := (ih p hp).1 (by rw [q1]; exact nI_ne1 (by omega))
        have u3 : f_s_validPageAt m (Int32.ofNat (8 * b + n)) = Int32.ofNat p := by rw [u1, if_pos w, q0]
        have q3 : m 2 p = A 2 p := (hR.1 p hp).2.1 (by rw [q2]; exact nI_ne1 (by omega))
        have n1 := nI_ne1 (n := p) (by omega)
        have hu : uF A b (n + 1) = uF A b n ||| ((1 : Int32) <<< (A 2 p &&& 31)) := by
          show (if vd A (8 * b + n) = 1 then _ else _) = _
          rw [if_pos w, q0, nI_ix (by omega)]
        rw [hu]
        simp only [g_let_def, if_neg (lq8 hn), e8r, nI_plus2, u3, if_neg n1, nI_ix (show p < 2147483648 by omega), q3, e1r]
        exact ⟨⟨u2, vp_in_nI hp (by omega), trivial⟩, trivial, trivial⟩
      · have u3 : f_s_validPageAt m (Int32.ofNat (8 * b + n)) = -1 := by rw [u1, if_neg w]
        have hu : uF A b (n + 1) = uF A b n := by
          show (if vd A (8 * b + n) = 1 then _ else _) = _
          rw [if_neg w]
        rw [hu]
        simp only [g_let_def, if_neg (lq8 hn), e8r, nI_plus2, u3, if_true, e1r]
        exact ⟨⟨u2, trivial⟩, trivial, trivial⟩
    · subst hz
      have hle : (8 : Int32) ≤ Int32.ofNat 8 := by decide
      unfold L_s_unlikeHintsOf_4 K_s_unlikeHintsOf_4
      simp only [if_pos hle]
      refine ⟨trivial, trivial, ?_⟩
      first | trivial | rfl
  · subst hz
    have hk : 8 * b + n < 96 := by omega
    obtain ⟨v1, v2⟩ := isValid_A (m := g_sel [1] M) (by rw [aR_sel1, hM]; exact ia) hk
    rw [aR_sel1, hM] at v1
    have hlt : ¬ (Int32.ofNat (8 * b + 8) ≤ Int32.ofNat (8 * b + n)) := by rw [leI (by omega) (by omega)]; omega
    unfold L_r_unlikeHints_7 K_r_unlikeHints_7
    by_cases w : vd A (8 * b + n) = 1
    · obtain ⟨p, hp, q0, q1⟩ := vd_page ia hk w
      have o1 := of_A2 (m := g_sel [1] M) hp
      rw [aR_sel1, hM] at o1
      have v3 : ¬ (f_r_isValid (g_sel [1] M) (Int32.ofNat (8 * b + n)) = 0) := by rw [v1, w]; decide
      have v4 : M 1 (Int32.ofNat (8 * b + n)).toNatClampNeg = Int32.ofNat p := by rw [rh0 (m := M) hk, hM, q0]
      have hu : uF A b (n + 1) = uF A b n ||| ((1 : Int32) <<< (A 2 p &&& 31)) := by
        show (if vd A (8 * b + n) = 1 then _ else _) = _
        rw [if_pos w, q0, nI_ix (by omega)]
      rw [hu]
      simp only [g_let_def, e8l, e8p, if_neg hlt, if_neg v3, v4, o1.1, e1r]
      exact ⟨⟨v2, ro0 hk, o1.2, trivial⟩, trivial, rfl⟩
    · have w0 : vd A (8 * b + n) = 0 := by
        have := vd_le A (8 * b + n); have := bN_le A (8 * b + n); omega
      have v3 : f_r_isValid (g_sel [1] M) (Int32.ofNat (8 * b + n)) = 0 := by rw [v1, w0]; rfl
      have hu : uF A b (n + 1) = uF A b n := by
        show (if vd A (8 * b + n) = 1 then _ else _) = _
        rw [if_neg w]
      rw [hu]
      simp only [g_let_def, e8l, e8p, if_neg hlt, if_pos v3, e1r, Int32.or_zero]
      exact ⟨⟨v2, trivial⟩, trivial, rfl⟩
  · subst hz
    have hle : (Int32.ofNat (8 * b + 8) ≤ Int32.ofNat (8 * b + 8)) := by rw [leI (by omega) (by omega)]; omega
    unfold L_r_unlikeHints_7 K_r_unlikeHints_7
    simp only [e8l, e8p, if_pos hle]
    refine ⟨trivial, trivial, ?_⟩
    first | trivial | rfl
theorem block_RS {M m A : gM} {e t b w : Nat} (hM : vA (M 1) = A) (hR : jR m A) (hA : jV e t 99 99 A) (hb : b < 12) (hw : w < 8) : f_s_blockProperty m (Int32.ofNat b) (Int32.ofNat w) = f_r_ofBlock M (Int32.ofNat b) (Int32.ofNat w) ∧ o_s_blockProperty m (Int32.ofNat b) (Int32.ofNat w) ∧ o_r_ofBlock M (Int32.ofNat b) (Int32.ofNat w) := by
  have hA0 := hA
  obtain ⟨ia, ib, ih, -⟩ := hA
  obtain ⟨a1, a2, a3, a4, a5⟩ := hR.2.2.1 b hb
  have ix := nI_ix (show b < 2147483648 by omega)
  have vb := vp_in_nI hb (show 12 < 2 ^ 31 by omega)
  have sl : ∀ x, x < 3 → f_r_slots (g_sel [1] M) (Int32.ofNat b) (Int32.ofNat x) = Int32.ofNat (kN A x b) ∧ o_r_slots (g_sel [1] M) (Int32.ofNat b) (Int32.ofNat x) := fun x hx => by
    have := slots_A (m := g_sel [1] M) (by rw [aR_sel1, hM]; exact ia) hb hx
    rw [aR_sel1, hM] at this; exact this
  have r6 : M 1 (((96 : Int32) + Int32.ofNat b)).toNatClampNeg = A 6 b := by rw [rh6 (m := M) hb, hM]
  have r7 : M 1 (((108 : Int32) + Int32.ofNat b)).toNatClampNeg = A 7 b := by rw [rh7 (m := M) hb, hM]
  have r8 : M 1 (((120 : Int32) + Int32.ofNat b)).toNatClampNeg = A 8 b := by rw [rh8 (m := M) hb, hM]
  match w, hw with
  | 0, _ => exact ⟨((stateOf_S hR hA0 hb).1).trans r6.symm, ⟨(stateOf_S hR hA0 hb).2, trivial⟩, ro6 hb, trivial⟩
  | 1, _ => exact ⟨(show m 7 (Int32.ofNat b).toNatClampNeg = _ by rw [ix, a1]; exact r7.symm), ⟨vb, trivial⟩, ro7 hb, trivial⟩
  | 2, _ =>
    have e2 : Int32.ofNat 2 - (2 : Int32) = Int32.ofNat 0 := by decide
    have f2 : f_r_ofBlock M (Int32.ofNat b) (Int32.ofNat 2) = f_r_slots (g_sel [1] M) (Int32.ofNat b) (Int32.ofNat 2 - (2 : Int32)) := rfl
    have g2 : o_r_ofBlock M (Int32.ofNat b) (Int32.ofNat 2) = (o_r_slots (g_sel [1] M) (Int32.ofNat b) (Int32.ofNat 2 - (2 : Int32)) ∧ True) := rfl
    rw [f2, g2, e2, (sl 0 (by omega)).1, kN_0]
    exact ⟨(show m 9 (Int32.ofNat b).toNatClampNeg = _ by rw [ix, a3]), ⟨vb, trivial⟩, (sl 0 (by omega)).2, trivial⟩
  | 3, _ =>
    have e2 : Int32.ofNat 3 - (2 : Int32) = Int32.ofNat 1 := by decide
    have f2 : f_r_ofBlock M (Int32.ofNat b) (Int32.ofNat 3) = f_r_slots (g_sel [1] M) (Int32.ofNat b) (Int32.ofNat 3 - (2 : Int32)) := rfl
    have g2 : o_r_ofBlock M (Int32.ofNat b) (Int32.ofNat 3) = (o_r_slots (g_sel [1] M) (Int32.ofNat b) (Int32.ofNat 3 - (2 : Int32)) ∧ True) := rfl
    rw [f2, g2, e2, (sl 1 (by omega)).1]
    exact ⟨(show m 8 (Int32.ofNat b).toNatClampNeg - m 9 (Int32.ofNat b).toNatClampNeg = _ by rw [ix, a2, a3, ← kN_1 A b]; exact subNN _ _), ⟨vb, vb, trivial⟩, (sl 1 (by omega)).2, trivial⟩
  | 4, _ =>
    have e2 : Int32.ofNat 4 - (2 : Int32) = Int32.ofNat 2 := by decide
    have f2 : f_r_ofBlock M (Int32.ofNat b) (Int32.ofNat 4) = f_r_slots (g_sel [1] M) (Int32.ofNat b) (Int32.ofNat 4 - (2 : Int32)) := rfl
    have g2 : o_r_ofBlock M (Int32.ofNat b) (Int32.ofNat 4) = (o_r_slots (g_sel [1] M) (Int32.ofNat b) (Int32.ofNat 4 - (2 : Int32)) ∧ True) := rfl
    rw [f2, g2, e2, (sl 2 (by omega)).1]
    refine ⟨(show (8 : Int32) - m 8 (Int32.ofNat b).toNatClampNeg = _ from ?_), ⟨vb, trivial⟩, (sl 2 (by omega)).2, trivial⟩
    rw [ix, a2, show (8 : Int32) = Int32.ofNat (kN A 2 b + cN A b) from by rw [kN_2]; rfl]; exact subNN _ _
  | 5, _ => exact ⟨(show m 10 (Int32.ofNat b).toNatClampNeg = _ by rw [ix, a4]; exact r8.symm), ⟨vb, trivial⟩, ro8 hb, trivial⟩
  | 6, _ => exact ⟨((closedAhead_S hR hA0 hb).1).trans (closedAhead_R hM hb).1.symm, ⟨(closedAhead_S hR hA0 hb).2, trivial⟩, (closedAhead_R hM hb).2, trivial⟩
  | 7, _ => exact ⟨(unlike_RS hM hR hA0 hb).1, ⟨(unlike_RS hM hR hA0 hb).2.1, trivial⟩, (unlike_RS hM hR hA0 hb).2.2, trivial⟩
  | n + 8, h => omega
