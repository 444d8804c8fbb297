/-! the law's runs: what the saved states are, and the digest -/
noncomputable def mrq (r : Nat → Int32) (rs : List (Nat → Int32)) : gM := fun c => if c = 0 then (fun f => if f = 3 then Int32.ofNat rs.length else 0) else if c = 1 then r else if c = 3 then (fun j => (rs[j / 364]?.getD r) (j % 364)) else fun _ => 0
noncomputable def dgv (r : Nat → Int32) (rs : List (Nat → Int32)) : Int64 := dg9 (mrq r rs) (r 358).toNatClampNeg 0 (fun _ => 0)
theorem digQ {c : Nat} {m : gM} {r : Nat → Int32} {rs : List (Nat → Int32)} (hR : Rq c m r rs) (h5 : m 0 5 = 0) (hc : c ≤ 116400 * 500) : o_h_digest m ∧ (f_h_digest m).1 = dgv r rs ∧ ∀ x, ¬ (20 ≤ x ∧ x < 36) → (f_h_digest m).2 x = m x := by
  have hl : Rl 500 m (mrq r rs) := by
    refine ⟨hQ_up hR.1 hc, ⟨rs.length, hR.2.2.1, hR.2.1, rfl, fun i hi => ?_⟩, 0, by omega, h5, rfl, fun i hi => by omega⟩
    obtain ⟨f, hf⟩ : ∃ f, rs[i]? = some f := ⟨rs[i], List.getElem?_eq_getElem hi⟩
    refine hQ_cell (b := 36 + 16 * i) (m := m) (r := f) (fun _ _ _ => rfl) rfl rfl (fun k hk => ?_) (hQ_up (hR.2.2.2 i f hf) hc)
    show (rs[(364 * i + k) / 364]?.getD r) ((364 * i + k) % 364) = f k
    rw [show (364 * i + k) / 364 = i by omega, show (364 * i + k) % 364 = k by omega, hf]; rfl
  obtain ⟨hS, hT⟩ := selQ hR.1
  obtain ⟨u, hu, eu⟩ : ∃ u, u < 3 ∧ vA r 13 0 = Int32.ofNat u := by
    obtain ⟨-, -, -, -, -, -, -, -, -, z | z | z, -⟩ := hT.1
    · exact ⟨0, by omega, z⟩
    · exact ⟨1, by omega, z⟩
    · exact ⟨2, by omega, z⟩
  have eh : m 19 (0 : Int32).toNatClampNeg = Int32.ofNat u := by rw [← eu]; exact hS.2.2.2.2.2.1
  have e8 : r 358 = Int32.ofNat u := by rw [← eu, vA_13 r (by omega)]
  have er : mrq r rs 1 (358 : Int32).toNatClampNeg = Int32.ofNat u := e8
  obtain ⟨a1, a2, a3⟩ := dig_h (u := u) (L := 0) (tx := fun _ => 0) (by omega) hl hu eh er (by omega) h5 (fun i hi => by omega)
  refine ⟨a1, a2.trans ?_, a3⟩
  unfold dgv
  rw [e8, nI_ix (by omega)]
/-- what the law keeps of its run: the row now, the rows saved, and what was seen of each -/
def LI (c acts : Nat) (m : gM) (W : Nat → Int64) (r : Nat → Int32) (rs : List (Nat → Int32)) : Prop := Rq c m r rs ∧ m 0 5 = 0 ∧ rs.length ≤ acts ∧ ∀ i f, rs[i]? = some f → W (acts - rs.length + i) = sn5 f
theorem LI_W {c acts : Nat} {m : gM} {W W' : Nat → Int64} {r : Nat → Int32} {rs : List (Nat → Int32)} (h : LI c acts m W r rs) (hj : ∀ j, j < acts → W' j = W j) : LI c acts m W' r rs := by
  obtain ⟨a1, a2, a3, a4⟩ := h
  refine ⟨a1, a2, a3, fun i f hf => ?_⟩
  have hi := (List.getElem?_eq_some_iff.mp hf).1
  rw [hj _ (by omega)]; exact a4 i f hf
theorem LI_m {c c' acts : Nat} {m m' : gM} {W : Nat → Int64} {r : Nat → Int32} {rs : List (Nat → Int32)} (h : LI c acts m W r rs) (hR : Rq c' m' r rs) (h5 : m' 0 5 = 0) : LI c' acts m' W r rs := ⟨hR, h5, h.2.2⟩
theorem LI_push {c c' acts : Nat} {m m' : gM} {W W' : Nat → Int64} {r r' : Nat → Int32} {rs : List (Nat → Int32)} (h : LI c acts m W r rs) (hR : Rq c' m' r' (pus rs r)) (h5 : m' 0 5 = 0) (hW : W' acts = sn5 r) (hj : ∀ j, j < acts → W' j = W j) : LI c' (acts + 1) m' W' r' (pus rs r) := by
  obtain ⟨a1, a2, a3, a4⟩ := h
  have h6 := a1.2.2.1
  by_cases q : rs.length = 6
  · have e : pus rs r = rs.tail ++ [r] := by unfold pus; rw [if_pos q]
    have ht : rs.tail.length = 5 := by rw [List.length_tail]; omega
    have hl : (rs.tail ++ [r]).length = 6 := by rw [List.length_append, ht]; rfl
    rw [e] at hR ⊢
    refine ⟨hR, h5, by omega, fun i f hf => ?_⟩
    rw [hl]
    by_cases hi : i < 5
    · rw [List.getElem?_append_left (by omega), List.getElem?_tail] at hf
      rw [show acts + 1 - 6 + i = acts - rs.length + (i + 1) by omega, hj _ (by omega)]
      exact a4 (i + 1) f hf
    · have hi2 := (List.getElem?_eq_some_iff.mp hf).1
      have hi3 : i = 5 := by omega
      subst hi3
      rw [List.getElem?_append_right (by omega), ht] at hf
      have hfr : f = r := (Option.some.inj hf).symm
      rw [show acts + 1 - 6 + 5 = acts by omega, hW, hfr]
  · have e : pus rs r = rs ++ [r] := by unfold pus; rw [if_neg q]
    have hl : (rs ++ [r]).length = rs.length + 1 := by rw [List.length_append]; rfl
    rw [e] at hR ⊢
    refine ⟨hR, h5, by omega, fun i f hf => ?_⟩
    rw [hl]
    by_cases hi : i < rs.length
    · rw [List.getElem?_append_left hi] at hf
      rw [show acts + 1 - (rs.length + 1) + i = acts - rs.length + i by omega, hj _ (by omega)]
      exact a4 i f hf
    · have hi2 := (List.getElem?_eq_some_iff.mp hf).1
      have hi3 : i = rs.length := by omega
      subst hi3
      rw [List.getElem?_append_right (by omega), Nat.sub_self] at hf
      have hfr : f = r := (Option.some.inj hf).symm
      rw [show acts + 1 - (rs.length + 1) + rs.length = acts by omega, hW, hfr]
theorem LI_pop {c acts : Nat} {m : gM} {W : Nat → Int64} {r f : Nat → Int32} {rs : List (Nat → Int32)} (h : LI c acts m W r (rs ++ [f])) : o_h_undo m ∧ (f_h_undo m).1 = Int32.ofNat rs.length ∧ 1 ≤ acts ∧ W (acts - 1) = sn5 f ∧ LI c (acts - 1) (f_h_undo m).2 W f rs := by
  obtain ⟨a1, a2, a3, a4⟩ := h
  have hl : (rs ++ [f]).length = rs.length + 1 := by rw [List.length_append]; rfl
  rw [hl] at a3 a4
  obtain ⟨u1, u2, u3, -, u5⟩ := undoQ a1
  refine ⟨u1, u2, by omega, ?_, u3, by rw [u5 5 (by omega)]; exact a2, by omega, fun i g hg => ?_⟩
  · have := a4 rs.length f (by rw [List.getElem?_append_right (by omega), Nat.sub_self]; rfl)
    rw [show acts - (rs.length + 1) + rs.length = acts - 1 by omega] at this
    exact this
  · have hi := (List.getElem?_eq_some_iff.mp hg).1
    have := a4 i g (by rw [List.getElem?_append_left hi]; exact hg)
    rw [show acts - (rs.length + 1) + i = acts - 1 - rs.length + i by omega] at this
    exact this
/-- two calls that save, and what their undoing leaves -/
theorem pus_pus {rs : List (Nat → Int32)} {r r1 : Nat → Int32} (h : rs.length ≤ 6) : pus (pus rs r) r1 = (rs.drop (rs.length - 4) ++ [r]) ++ [r1] := by
  match rs, h with
  | [], _ => rfl
  | [_], _ => rfl
  | [_, _], _ => rfl
  | [_, _, _], _ => rfl
  | [_, _, _, _], _ => rfl
  | [_, _, _, _, _], _ => rfl
  | [_, _, _, _, _, _], _ => rfl
  | a :: b :: c :: d :: e :: f :: g :: t, h => simp only [List.length_cons] at h; omega
theorem drop_LI {acts : Nat} {W : Nat → Int64} {rs : List (Nat → Int32)} (d : Nat) (hd : d ≤ rs.length) (ha : rs.length ≤ acts) (h : ∀ i f, rs[i]? = some f → W (acts - rs.length + i) = sn5 f) : (rs.drop d).length ≤ acts ∧ ∀ i f, (rs.drop d)[i]? = some f → W (acts - (rs.drop d).length + i) = sn5 f := by
  have hl : (rs.drop d).length = rs.length - d := List.length_drop
  refine ⟨by omega, fun i f hf => ?_⟩
  rw [List.getElem?_drop] at hf
  rw [hl, show acts - (rs.length - d) + i = acts - rs.length + (d + i) by omega]
  exact h (d + i) f hf
/-- a list that isn't empty has a last part -/
theorem has_last {α : Type} (X : List α) (h : 0 < X.length) : ∃ Y f, X = Y ++ [f] := ⟨X.dropLast, X.getLast (List.length_pos_iff.mp h), (List.dropLast_concat_getLast (List.length_pos_iff.mp h)).symm⟩
/-- the kinds of calls, by the row now -/
theorem set_kind {i j : Nat} (hi : i < 2) (hj : j < 5) : ((i = 0 ∧ (Int32.ofNat j = 0 ∨ Int32.ofNat j = 1 ∨ Int32.ofNat j = 2)) ∨ (i = 1 ∧ (Int32.ofNat j = 2 ∨ Int32.ofNat j = 3 ∨ Int32.ofNat j = 4))) ∨ ((i = 0 ∧ 3 ≤ j ∧ j ≤ 4) ∨ (i = 1 ∧ j ≤ 1)) := by
  rcases (show i = 0 ∨ i = 1 by omega) with rfl | rfl <;> rcases (show j = 0 ∨ j = 1 ∨ j = 2 ∨ j = 3 ∨ j = 4 by omega) with rfl | rfl | rfl | rfl | rfl
  · exact Or.inl (Or.inl ⟨rfl, Or.inl rfl⟩)
  · exact Or.inl (Or.inl ⟨rfl, Or.inr (Or.inl rfl)⟩)
  · exact Or.inl (Or.inl ⟨rfl, Or.inr (Or.inr rfl)⟩)
  · exact Or.inr (Or.inl ⟨rfl, by omega, by omega⟩)
  · exact Or.inr (Or.inl ⟨rfl, by omega, by omega⟩)
  · exact Or.inr (Or.inr ⟨rfl, by omega⟩)
  · exact Or.inr (Or.inr ⟨rfl, by omega⟩)
  · exact Or.inl (Or.inr ⟨rfl, Or.inl rfl⟩)
  · exact Or.inl (Or.inr ⟨rfl, Or.inr (Or.inl rfl)⟩)
  · exact Or.inl (Or.inr ⟨rfl, Or.inr (Or.inr rfl)⟩)
