/-! an object's picture: the row that is now, the rows that are saved, the oldest first -/
def Rq (c : Nat) (mh : gM) (r : Nat → Int32) (rs : List (Nat → Int32)) : Prop := hQ c 4 mh r ∧ mh 0 3 = Int32.ofNat rs.length ∧ rs.length ≤ 6 ∧ ∀ i f, rs[i]? = some f → hQ c (36 + 16 * i) mh f
def pus (rs : List (Nat → Int32)) (r : Nat → Int32) : List (Nat → Int32) := (if rs.length = 6 then rs.tail else rs) ++ [r]
/-- besides the saved states: what saving leaves -/
def kpH (mh mh' : gM) : Prop := (∀ x, 1 ≤ x → x < 36 → mh' x = mh x) ∧ ∀ f, f ≠ 3 → mh' 0 f = mh 0 f
theorem Rq_up {c c' : Nat} {mh : gM} {r : Nat → Int32} {rs : List (Nat → Int32)} (h : Rq c mh r rs) (hc : c ≤ c') : Rq c' mh r rs := ⟨hQ_up h.1 hc, h.2.1, h.2.2.1, fun i f hf => hQ_up (h.2.2.2 i f hf) hc⟩
theorem svdQ {c k : Nat} {m S : gM} {r : Nat → Int32} {rs : List (Nat → Int32)} (hR : Rq c m r rs) (hk : rs.length = k) (hk6 : k < 6) (h : svd k m S) : Rq c S r (rs ++ [r]) ∧ kpH m S := by
  obtain ⟨h1, h2, h3, h4⟩ := hR
  obtain ⟨s1, s2, s3, s4, s5⟩ := h
  have hk4 : hQ c 4 S r := hQ_cell (b := 4) (m := m) (r := r) (fun j j1 j2 => s1 _ (by omega) (by omega)) (by rw [s1 4 (by omega) (by omega)]) (by rw [s1 4 (by omega) (by omega)]) (fun _ _ => rfl) h1
  refine ⟨⟨hk4, ?_, ?_, fun i f hf => ?_⟩, fun x x1 x2 => s1 x (by omega) (by omega), fun f hf => by rw [s5, upd_at, if_neg hf]⟩
  · rw [s5, upd_at, if_pos rfl, h2, e1r, List.length_append]; rfl
  · rw [List.length_append]; show rs.length + 1 ≤ 6; omega
  · by_cases hi : i < k
    · rw [List.getElem?_append_left (by omega)] at hf
      have hlen : i < rs.length := by omega
      exact hQ_cell (b := 36 + 16 * i) (m := m) (r := f) (fun j j1 j2 => s1 _ (by omega) (by omega)) (by rw [s1 _ (by omega) (by omega)]) (by rw [s1 _ (by omega) (by omega)]) (fun _ _ => rfl) (h4 i f hf)
    · rw [List.getElem?_append_right (by omega)] at hf
      have hi2 : i = k := by
        have := (List.getElem?_eq_some_iff.mp hf).1
        have e : [r].length = 1 := rfl
        omega
      subst hi2
      have hfr : f = r := by
        rw [show i - rs.length = 0 by omega] at hf
        exact (Option.some.inj hf).symm
      subst hfr
      exact hQ_cell (b := 4) (m := m) (r := f) (fun j j1 j2 => s2 j j1 j2) s3 s4 (fun _ _ => rfl) h1
theorem dropQ {c : Nat} {m : gM} {r : Nat → Int32} {rs : List (Nat → Int32)} (hR : Rq c m r rs) (hk : rs.length = 6) : Rq c (f_h_dropOldest m) r rs.tail ∧ kpH m (f_h_dropOldest m) := by
  obtain ⟨h1, h2, h3, h4⟩ := hR
  obtain ⟨d1, d2, d3, d4⟩ := drop_f (m := m)
  have hlt : rs.tail.length = 5 := by rw [List.length_tail]; omega
  refine ⟨⟨?_, ?_, by omega, fun i f hf => ?_⟩, fun x x1 x2 => d1 x (by omega) x2, fun f hf => by rw [d3, upd_at, if_neg hf]⟩
  · exact hQ_cell (b := 4) (m := m) (r := r) (fun j j1 j2 => d1 _ (by omega) (by omega)) (by rw [d1 4 (by omega) (by omega)]) (by rw [d1 4 (by omega) (by omega)]) (fun _ _ => rfl) h1
  · rw [d3, upd_at, if_pos rfl, h2, hlt, hk]; decide
  · have hi : i < 5 := by have := (List.getElem?_eq_some_iff.mp hf).1; omega
    have hf2 : rs[i + 1]? = some f := by rw [List.getElem?_tail] at hf; exact hf
    refine hQ_cell (b := 36 + 16 * (i + 1)) (m := m) (r := f) (fun j j1 j2 => ?_) ?_ ?_ (fun _ _ => rfl) (h4 (i + 1) f hf2)
    · rw [d2 _ (by omega) (by omega)]; congr 1; omega
    · rw [d2 _ (by omega) (by omega), show 36 + 16 * i + 16 = 36 + 16 * (i + 1) by omega]
    · rw [d2 _ (by omega) (by omega), show 36 + 16 * i + 16 = 36 + 16 * (i + 1) by omega]
theorem kpH_t {a b d : gM} (h1 : kpH a b) (h2 : kpH b d) : kpH a d := ⟨fun x x1 x2 => (h2.1 x x1 x2).trans (h1.1 x x1 x2), fun f hf => (h2.2 f hf).trans (h1.2 f hf)⟩
theorem saveQ {c : Nat} {mh : gM} {r : Nat → Int32} {rs : List (Nat → Int32)} (hR : Rq c mh r rs) : o_h_saveState mh ∧ Rq c (f_h_saveState mh) r (pus rs r) ∧ kpH mh (f_h_saveState mh) := by
  have h2 := hR.2.1
  have h3 := hR.2.2.1
  by_cases h6 : rs.length = 6
  · obtain ⟨p1, p2⟩ := saveState_6 (m := mh) (by rw [h2, h6])
    obtain ⟨q1, q2⟩ := dropQ hR h6
    have hlt : rs.tail.length = 5 := by rw [List.length_tail]; omega
    obtain ⟨q3, q4⟩ := svdQ q1 hlt (by omega) p1
    refine ⟨p2, ?_, kpH_t q2 q4⟩
    unfold pus; rw [if_pos h6]; exact q3
  · have hlt : rs.length < 6 := by omega
    have p : svd rs.length mh (f_h_saveState mh) ∧ o_h_saveState mh := by
      generalize hk : rs.length = k at *
      match k, hlt, h2 with
      | 0, _, a => exact saveState_0 a
      | 1, _, a => exact saveState_1 a
      | 2, _, a => exact saveState_2 a
      | 3, _, a => exact saveState_3 a
      | 4, _, a => exact saveState_4 a
      | 5, _, a => exact saveState_5 a
      | n + 6, h, _ => omega
    obtain ⟨q3, q4⟩ := svdQ hR rfl hlt p.1
    refine ⟨p.2, ?_, q4⟩
    unfold pus; rw [if_neg h6]; exact q3
/-- the store changes, all else stays -/
theorem doneQ {c c' : Nat} {S F : gM} {r r' : Nat → Int32} {rs : List (Nat → Int32)} (hR : Rq c S r rs) (hc : c ≤ c') (hq : hQ c' 4 F r') (hS : ∀ x, ¬ (4 ≤ x ∧ x < 20) → F x = S x) : Rq c' F r' rs := by
  obtain ⟨-, h2, h3, h4⟩ := hR
  refine ⟨hq, by rw [hS 0 (by omega)]; exact h2, h3, fun i f hf => ?_⟩
  have hi := (List.getElem?_eq_some_iff.mp hf).1
  exact hQ_cell (b := 36 + 16 * i) (m := S) (r := f) (fun j j1 j2 => hS _ (by omega)) (by rw [hS _ (by omega)]) (by rw [hS _ (by omega)]) (fun _ _ => rfl) (hQ_up (h4 i f hf) hc)
theorem Rq_row {c : Nat} {mh : gM} {r r' : Nat → Int32} {rs : List (Nat → Int32)} (h : Rq c mh r rs) (hr : ∀ k, k < 364 → r' k = r k) : Rq c mh r' rs :=
  ⟨hQ_cell (b := 4) (m := mh) (r := r) (fun _ _ _ => rfl) rfl rfl hr h.1, h.2⟩
/-- the same but for the trial and the reader -/
theorem Rq_same {c : Nat} {mh mh' : gM} {r : Nat → Int32} {rs : List (Nat → Int32)} (h : Rq c mh r rs) (h1 : ∀ x, 4 ≤ x → x < 20 → mh' x = mh x) (h2 : ∀ x, 36 ≤ x → x < 132 → mh' x = mh x) (h3 : mh' 0 3 = mh 0 3) : Rq c mh' r rs := by
  obtain ⟨a1, a2, a3, a4⟩ := h
  refine ⟨hQ_cell (b := 4) (m := mh) (r := r) (fun j j1 j2 => h1 _ (by omega) (by omega)) (by rw [h1 4 (by omega) (by omega)]) (by rw [h1 4 (by omega) (by omega)]) (fun _ _ => rfl) a1, h3.trans a2, a3, fun i f hf => ?_⟩
  have hi := (List.getElem?_eq_some_iff.mp hf).1
  exact hQ_cell (b := 36 + 16 * i) (m := mh) (r := f) (fun j j1 j2 => h2 _ (by omega) (by omega)) (by rw [h2 _ (by omega) (by omega)]) (by rw [h2 _ (by omega) (by omega)]) (fun _ _ => rfl) (a4 i f hf)
/-- the latest saved state comes back -/
theorem undoQ {c : Nat} {mh : gM} {r f : Nat → Int32} {rs : List (Nat → Int32)} (hR : Rq c mh r (rs ++ [f])) : o_h_undo mh ∧ (f_h_undo mh).1 = Int32.ofNat rs.length ∧ Rq c (f_h_undo mh).2 f rs ∧ (∀ x, 1 ≤ x → x < 4 → (f_h_undo mh).2 x = mh x) ∧ ∀ x, x ≠ 3 → (f_h_undo mh).2 0 x = mh 0 x := by
  obtain ⟨h1, h2, h3, h4⟩ := hR
  have hl : (rs ++ [f]).length = rs.length + 1 := by rw [List.length_append]; rfl
  have hk : rs.length < 6 := by omega
  obtain ⟨p1, ⟨p2, p3, p4⟩, p5⟩ := undo_h (m := mh) hk (by rw [h2, hl])
  have hlast : hQ c (36 + 16 * rs.length) mh f := h4 rs.length f (by rw [List.getElem?_append_right (by omega), Nat.sub_self]; rfl)
  refine ⟨p5, p1, ⟨?_, ?_, by omega, fun i g hg => ?_⟩, fun x x1 x2 => p3 x (by omega) (by omega) (by omega) (by omega), fun x hx => by rw [p4, upd_at, if_neg hx]⟩
  · refine hQ_cell (b := 36 + 16 * rs.length) (m := mh) (r := f) (fun j j1 j2 => p2 j j2) ?_ ?_ (fun _ _ => rfl) hlast
    · have := p2 0 (by omega); rw [show 4 = 4 + 0 from rfl, this]; rfl
    · have := p2 0 (by omega); rw [show 4 = 4 + 0 from rfl, this]; rfl
  · rw [p4, upd_at, if_pos rfl, h2, hl]; exact nI_pred _
  · have hi := (List.getElem?_eq_some_iff.mp hg).1
    have hg2 : (rs ++ [f])[i]? = some g := by rw [List.getElem?_append_left hi]; exact hg
    exact hQ_cell (b := 36 + 16 * i) (m := mh) (r := g) (fun j j1 j2 => p3 _ (by omega) (by omega) (by omega) (by omega)) (by rw [p3 _ (by omega) (by omega) (by omega) (by omega)]) (by rw [p3 _ (by omega) (by omega) (by omega) (by omega)]) (fun _ _ => rfl) (h4 i g hg2)
theorem pus_len {rs : List (Nat → Int32)} {r : Nat → Int32} (h : rs.length ≤ 6) : (pus rs r).length = if rs.length = 6 then 6 else rs.length + 1 := by
  unfold pus
  by_cases h6 : rs.length = 6
  · rw [if_pos h6, if_pos h6, List.length_append, List.length_tail, h6]; rfl
  · rw [if_neg h6, if_neg h6, List.length_append]; rfl
