/-! doubles -/
def nW (c E : Nat) : Nat := E * 4503599627370496 + (c - 4503599627370496)
theorem nW_lt {c E : Nat} (h1 : 4503599627370496 ≤ c) (h2 : c < 9007199254740992) (h4 : E ≤ 2046) : nW c E < 9218868437227405312 := by
  unfold nW; omega
theorem nW_dec {c E : Nat} (h1 : 4503599627370496 ≤ c) (h2 : c < 9007199254740992) (h3 : 1 ≤ E) (h4 : E ≤ 2046) : FP.Core.decode FP.Core.b64 (nW c E) = .fin false c ((E : Int) - 1075) := by
  have t : FP.Core.b64.tails = 4503599627370496 := by decide +kernel
  have x : FP.Core.b64.exps = 2048 := by decide +kernel
  have q : FP.Core.b64.qmin = -1074 := by decide +kernel
  have eT : FP.Core.fieldT FP.Core.b64 (nW c E) = c - 4503599627370496 := by unfold FP.Core.fieldT nW; rw [t]; omega
  have e0 : nW c E / 4503599627370496 = E := by unfold nW; omega
  have eE : FP.Core.fieldE FP.Core.b64 (nW c E) = E := by unfold FP.Core.fieldE; rw [t, x, e0]; omega
  have eS : FP.Core.fieldS FP.Core.b64 (nW c E) = false := by
    unfold FP.Core.fieldS; rw [t, x, e0, Nat.div_eq_of_lt (by omega)]; rfl
  unfold FP.Core.decode
  rw [eE, eT, eS, t, x, q, if_neg (show ¬ (E = 2048 - 1) by omega), if_neg (show ¬ (E = 0) by omega), show 4503599627370496 + (c - 4503599627370496) = c by omega, show (-1074 : Int) + ((E : Int) - 1) = (E : Int) - 1075 by omega]
theorem nW_enc {c : Nat} {q : Int} (h1 : 4503599627370496 ≤ c) (hq : -1074 ≤ q) : FP.Core.encode FP.Core.b64 (.fin false c q) = nW c (q + 1075).toNat := by
  have t : FP.Core.b64.tails = 4503599627370496 := by decide +kernel
  have x : FP.Core.b64.exps = 2048 := by decide +kernel
  have qm : FP.Core.b64.qmin = -1074 := by decide +kernel
  unfold FP.Core.encode
  dsimp only
  rw [t, if_neg (by omega)]
  unfold FP.Core.assemble nW
  rw [t, x, qm]
  have : (q - -1074).toNat + 1 = (q + 1075).toNat := by omega
  rw [this]
  simp only [Bool.toNat_false, Nat.zero_mul, Nat.zero_add]
/-- a number that needs no rounding: num units of den -/
theorem rr_at {num den : Nat} {e l : Int} (hn : num ≠ 0) (hl : FP.Core.leading num den = l) (h1 : -1074 ≤ l + e - 52) :
    FP.Core.roundRatio FP.Core.b64 false num den e = FP.Core.settle FP.Core.b64 false (FP.Core.nearest (num * 2 ^ (52 - l).toNat) (den * 2 ^ (l - 52).toNat)) (l + e - 52) := by
  have qm : FP.Core.b64.qmin = -1074 := by decide +kernel
  have p : (FP.Core.b64.p : Int) - 1 = 52 := by decide +kernel
  unfold FP.Core.roundRatio FP.Core.roundAt FP.Core.quantum FP.Core.unitsNum FP.Core.unitsDen
  rw [if_neg hn, hl, qm, p, Int.max_eq_right h1, show e - (l + e - 52) = 52 - l by omega, show l + e - 52 - e = l - 52 by omega]
theorem st_fin {c : Nat} {q : Int} (h2 : c < 9007199254740992) (hq : q ≤ 971) : FP.Core.settle FP.Core.b64 false c q = .fin false c q := by
  have p : 2 ^ FP.Core.b64.p = 9007199254740992 := by decide +kernel
  have qx : FP.Core.b64.qmax = 971 := by decide +kernel
  unfold FP.Core.settle FP.Core.bound
  rw [p, if_pos h2, qx, if_pos hq]
theorem st_up {q : Int} (hq : q + 1 ≤ 971) : FP.Core.settle FP.Core.b64 false 9007199254740992 q = .fin false 4503599627370496 (q + 1) := by
  have p : 2 ^ FP.Core.b64.p = 9007199254740992 := by decide +kernel
  have t : FP.Core.b64.tails = 4503599627370496 := by decide +kernel
  have qx : FP.Core.b64.qmax = 971 := by decide +kernel
  unfold FP.Core.settle FP.Core.bound
  rw [p, if_neg (by omega), qx, if_pos hq, t]
theorem nr_ex {c d : Nat} (hd : 0 < d) : FP.Core.nearest (c * d) d = c := by
  unfold FP.Core.nearest
  rw [Nat.mul_mod_left, if_pos (by omega), Nat.mul_div_cancel _ hd]
theorem nr_bd {n d a b : Nat} (hd : 0 < d) (h1 : a * d ≤ n) (h2 : n < (b + 1) * d) : a ≤ FP.Core.nearest n d ∧ FP.Core.nearest n d ≤ b + 1 := by
  have k1 : a ≤ n / d := (Nat.le_div_iff_mul_le hd).mpr h1
  have k2 : n / d < b + 1 := (Nat.div_lt_iff_lt_mul hd).mpr h2
  unfold FP.Core.nearest
  split
  · omega
  · split
    · omega
    · have := Nat.mod_lt (n / d) (show 0 < 2 by omega)
      omega
/-- the leading digit of a whole number -/
theorem ld_1 {n : Nat} (hn : n ≠ 0) : FP.Core.leading n 1 = (n.log2 : Int) := by
  have h := Nat.log2_self_le hn
  unfold FP.Core.leading
  have e : (Nat.log2 1 : Int) = 0 := by decide +kernel
  simp only [e, Int.sub_zero]
  rw [if_pos]
  rw [Int.toNat_natCast, show (-(n.log2 : Int)).toNat = 0 by omega, Nat.one_mul, Nat.pow_zero, Nat.mul_one]
  exact h
theorem lg_lt {n k : Nat} (hn : n ≠ 0) (h : n < 2 ^ k) : n.log2 < k := (Nat.log2_lt hn).mpr h
/-- normal digits of a whole number under 2^53 -/
theorem nm {n : Nat} (hn : n ≠ 0) (h : n < 2 ^ 53) : 4503599627370496 ≤ n * 2 ^ (52 - n.log2) ∧ n * 2 ^ (52 - n.log2) < 9007199254740992 := by
  have l := lg_lt hn h
  have h1 := Nat.log2_self_le hn
  have h2 := Nat.lt_log2_self (n := n)
  have e1 : 2 ^ n.log2 * 2 ^ (52 - n.log2) = 4503599627370496 := by rw [← Nat.pow_add, show n.log2 + (52 - n.log2) = 52 by omega]
  have e2 : 2 ^ (n.log2 + 1) * 2 ^ (52 - n.log2) = 9007199254740992 := by rw [← Nat.pow_add, show n.log2 + 1 + (52 - n.log2) = 53 by omega]
  constructor
  · rw [← e1]; exact Nat.mul_le_mul_right _ h1
  · rw [← e2]; exact Nat.mul_lt_mul_of_pos_right h2 (Nat.pow_pos (by omega))
theorem rr_whole {n : Nat} {e : Int} (hn : n ≠ 0) (h : n < 2 ^ 53) (h1 : -1022 ≤ e) (h2 : e ≤ 900) :
    FP.Core.roundRatio FP.Core.b64 false n 1 e = .fin false (n * 2 ^ (52 - n.log2)) ((n.log2 : Int) + e - 52) := by
  have l := lg_lt hn h
  obtain ⟨m1, m2⟩ := nm hn h
  rw [rr_at hn (ld_1 hn) (by omega), show (52 - (n.log2 : Int)).toNat = 52 - n.log2 by omega, show ((n.log2 : Int) - 52).toNat = 0 by omega, Nat.one_mul, Nat.pow_zero]
  have := nr_ex (c := n * 2 ^ (52 - n.log2)) (d := 1) (by omega)
  rw [Nat.mul_one] at this
  rw [this]
  exact st_fin m2 (by omega)

/-! the instructions on such numbers -/
theorem ofN {n : Nat} (h : n < 18446744073709551616) : (UInt64.ofNat n).toNat = n := by
  rw [UInt64.toNat_ofNat']; exact Nat.mod_eq_of_lt h
theorem oW {c E : Nat} (h1 : 4503599627370496 ≤ c) (h2 : c < 9007199254740992) (h4 : E ≤ 2046) : (UInt64.ofNat (nW c E)).toNat = nW c E := by
  have := nW_lt h1 h2 h4
  exact ofN (by omega)
theorem two_W : (4611686018427387904 : UInt64) = UInt64.ofNat (nW 4503599627370496 1024) := by decide +kernel
theorem one_W : FP.dconst1 = UInt64.ofNat (nW 4503599627370496 1023) := by decide +kernel
theorem big_W : (4841369599423283200 : UInt64) = UInt64.ofNat (nW 4503599627370496 1075) := by decide +kernel
theorem nat_W {c E : Nat} (h1 : 4503599627370496 ≤ c) (h2 : c < 9007199254740992) (h4 : E ≤ 2046) : vf_n64 (UInt64.ofNat (nW c E)) := by
  have h := nW_lt h1 h2 h4
  unfold vf_n64
  rw [UInt64.le_iff_toNat_le, UInt64.toNat_and, oW h1 h2 h4]
  have : nW c E &&& (0x7fffffffffffffff : UInt64).toNat ≤ nW c E := Nat.and_le_left
  have e : (0x7ff0000000000000 : UInt64).toNat = 9218868437227405312 := by decide +kernel
  omega
theorem i2d_W {n : Nat} (hn : n ≠ 0) (h : n < 2147483648) : FP.i2d (Int32.ofNat n) = UInt64.ofNat (nW (n * 2 ^ (52 - n.log2)) (n.log2 + 1023)) := by
  have l := lg_lt hn (show n < 2 ^ 31 by omega)
  obtain ⟨m1, m2⟩ := nm hn (by omega)
  show UInt64.ofNat (FP.Core.fromInt FP.Core.b64 (Int32.ofNat n).toInt) = _
  have e : (Int32.ofNat n).toInt = (n : Int) := Int32.toInt_ofNat_of_lt h
  unfold FP.Core.fromInt FP.Core.ofInt FP.Core.round
  rw [e, show decide ((n : Int) < 0) = false by simp, Int.natAbs_natCast]
  dsimp only
  rw [rr_whole hn (by omega) (by omega) (by omega), nW_enc m1 (by omega), show ((n.log2 : Int) + 0 - 52 + 1075).toNat = n.log2 + 1023 by omega]
theorem lg_c {c : Nat} (h1 : 4503599627370496 ≤ c) (h2 : c < 9007199254740992) : c.log2 = 52 := by
  have a : c.log2 < 53 := lg_lt (by omega) (by omega)
  have b := (Nat.le_log2 (n := c) (k := 52) (by omega)).mpr (by omega)
  omega
theorem ld_c {c d : Nat} (h1 : 4503599627370496 ≤ c) (h2 : c < 9007199254740992) (g1 : 4503599627370496 ≤ d) (g2 : d < 9007199254740992) : FP.Core.leading c d = if d ≤ c then 0 else -1 := by
  unfold FP.Core.leading
  rw [lg_c h1 h2, lg_c g1 g2]
  simp only [Int.sub_self, Int.neg_zero, Int.toNat_zero, Nat.pow_zero, Nat.mul_one]
  rfl
theorem div_W {c E d F : Nat} (h1 : 4503599627370496 ≤ c) (h2 : c < 9007199254740992) (g1 : 4503599627370496 ≤ d) (g2 : d < 9007199254740992) (e1 : 1023 ≤ E) (e2 : E ≤ 1100) (f1 : 1023 ≤ F) (f2 : F ≤ E) (hF : F = E → d ≤ c) :
    ∃ C G : Nat, FP.ddiv (UInt64.ofNat (nW c E)) (UInt64.ofNat (nW d F)) = UInt64.ofNat (nW C G) ∧ 4503599627370496 ≤ C ∧ C < 9007199254740992 ∧ 1023 ≤ G ∧ G ≤ 1124 ∧ (d = 4503599627370496 → C = c ∧ G = E - F + 1023) := by
  have key : ∃ C G : Nat, FP.Core.quotient FP.Core.b64 (.fin false c ((E : Int) - 1075)) (.fin false d ((F : Int) - 1075)) = .fin false C ((G : Int) - 1075) ∧ 4503599627370496 ≤ C ∧ C < 9007199254740992 ∧ 1023 ≤ G ∧ G ≤ 1124 ∧ (d = 4503599627370496 → C = c ∧ G = E - F + 1023) := by
    unfold FP.Core.quotient
    dsimp only
    rw [if_neg (show ¬ d = 0 by omega), show ((E : Int) - 1075 - ((F : Int) - 1075)) = ((E - F : Nat) : Int) by omega]
    by_cases hdc : d ≤ c
    · rw [show (false != false) = false from rfl, rr_at (l := 0) (by omega) (by rw [ld_c h1 h2 g1 g2, if_pos hdc]) (by omega)]
      have p52 : (2 : Nat) ^ 52 = 4503599627370496 := by decide +kernel
      rw [show (52 - (0 : Int)).toNat = 52 by decide, show ((0 : Int) - 52).toNat = 0 by decide, p52, Nat.pow_zero, Nat.mul_one]
      obtain ⟨b1, b2⟩ := nr_bd (n := c * 4503599627370496) (d := d) (a := 4503599627370496) (b := 9007199254740991) (by omega) (by omega) (by omega)
      generalize hC : FP.Core.nearest (c * 4503599627370496) d = C at *
      by_cases hC2 : C < 9007199254740992
      · refine ⟨C, E - F + 1023, ?_, b1, hC2, by omega, by omega, fun hd => ⟨?_, rfl⟩⟩
        · rw [st_fin hC2 (by omega)]
          rw [show (0 : Int) + ((E - F : Nat) : Int) - 52 = ((E - F + 1023 : Nat) : Int) - 1075 by omega]
        · rw [← hC, hd]; exact nr_ex (by omega)
      · have : C = 9007199254740992 := by omega
        refine ⟨4503599627370496, E - F + 1024, ?_, by omega, by omega, by omega, by omega, fun hd => ?_⟩
        · rw [this, st_up (by omega)]
          rw [show (0 : Int) + ((E - F : Nat) : Int) - 52 + 1 = ((E - F + 1024 : Nat) : Int) - 1075 by omega]
        · exfalso
          rw [hd, nr_ex (by omega)] at hC
          omega
    · have hEF : F < E := by
        rcases Nat.lt_or_ge F E with q | q
        · exact q
        · exact absurd (hF (by omega)) hdc
      rw [show (false != false) = false from rfl, rr_at (l := -1) (by omega) (by rw [ld_c h1 h2 g1 g2, if_neg hdc]) (by omega)]
      have p53 : (2 : Nat) ^ 53 = 9007199254740992 := by decide +kernel
      rw [show (52 - (-1 : Int)).toNat = 53 by decide, show ((-1 : Int) - 52).toNat = 0 by decide, p53, Nat.pow_zero, Nat.mul_one]
      obtain ⟨b1, b2⟩ := nr_bd (n := c * 9007199254740992) (d := d) (a := 4503599627370496) (b := 9007199254740991) (by omega) (by omega) (by omega)
      generalize hC : FP.Core.nearest (c * 9007199254740992) d = C at *
      by_cases hC2 : C < 9007199254740992
      · refine ⟨C, E - F + 1022, ?_, b1, hC2, by omega, by omega, fun hd => by omega⟩
        rw [st_fin hC2 (by omega)]
        rw [show (-1 : Int) + ((E - F : Nat) : Int) - 52 = ((E - F + 1022 : Nat) : Int) - 1075 by omega]
      · have : C = 9007199254740992 := by omega
        refine ⟨4503599627370496, E - F + 1023, ?_, by omega, by omega, by omega, by omega, fun hd => by omega⟩
        rw [this, st_up (by omega)]
        rw [show (-1 : Int) + ((E - F : Nat) : Int) - 52 + 1 = ((E - F + 1023 : Nat) : Int) - 1075 by omega]
  obtain ⟨C, G, k1, k2, k3, k4, k5, k6⟩ := key
  refine ⟨C, G, ?_, k2, k3, k4, k5, k6⟩
  show UInt64.ofNat (FP.Core.div FP.Core.b64 (UInt64.ofNat (nW c E)).toNat (UInt64.ofNat (nW d F)).toNat) = _
  unfold FP.Core.div
  rw [oW h1 h2 (by omega), oW g1 g2 (by omega), nW_dec h1 h2 (by omega) (by omega), nW_dec g1 g2 (by omega) (by omega), k1, nW_enc k2 (by omega), show ((G : Int) - 1075 + 1075).toNat = G by omega]
theorem cmp_W {c E d F : Nat} (h1 : 4503599627370496 ≤ c) (h2 : c < 9007199254740992) (g1 : 4503599627370496 ≤ d) (g2 : d < 9007199254740992) (e1 : 1 ≤ E) (e2 : E ≤ 2046) (f1 : 1 ≤ F) (f2 : F ≤ 2046) :
    FP.dcmp (UInt64.ofNat (nW c E)) (UInt64.ofNat (nW d F)) = some (compare ((c * 2 ^ (E - F) : Nat) : Int) ((d * 2 ^ (F - E) : Nat) : Int)) := by
  show FP.Core.cmp FP.Core.b64 (UInt64.ofNat (nW c E)).toNat (UInt64.ofNat (nW d F)).toNat = _
  unfold FP.Core.cmp
  rw [oW h1 h2 (by omega), oW g1 g2 (by omega), nW_dec h1 h2 (by omega) (by omega), nW_dec g1 g2 (by omega) (by omega)]
  unfold FP.Core.order FP.Core.inUnits FP.Core.signed
  dsimp only
  have a : ((E : Int) - 1075 - min ((E : Int) - 1075) ((F : Int) - 1075)).toNat = E - F := by omega
  have b : ((F : Int) - 1075 - min ((E : Int) - 1075) ((F : Int) - 1075)).toNat = F - E := by omega
  rw [a, b]
  rfl
theorem cmp_self {c E : Nat} (h1 : 4503599627370496 ≤ c) (h2 : c < 9007199254740992) (e1 : 1 ≤ E) (e2 : E ≤ 2046) : FP.dcmp (UInt64.ofNat (nW c E)) (UInt64.ofNat (nW c E)) = some .eq := by
  rw [cmp_W h1 h2 h1 h2 e1 e2 e1 e2, Int.compare_eq_eq.mpr rfl]
theorem two_ge {c E : Nat} (h1 : 4503599627370496 ≤ c) (h2 : c < 9007199254740992) (e1 : 1024 ≤ E) (e2 : E ≤ 2046) : FP.dcmp (UInt64.ofNat (nW c E)) (4611686018427387904 : UInt64) = some .gt ∨ FP.dcmp (UInt64.ofNat (nW c E)) (4611686018427387904 : UInt64) = some .eq := by
  rw [two_W, cmp_W h1 h2 (by omega) (by omega) (by omega) e2 (by omega) (by omega), show 1024 - E = 0 by omega, Nat.pow_zero, Nat.mul_one]
  have : 4503599627370496 ≤ c * 2 ^ (E - 1024) := Nat.le_trans h1 (Nat.le_mul_of_pos_right _ (Nat.pow_pos (by omega)))
  rcases Nat.lt_or_ge 4503599627370496 (c * 2 ^ (E - 1024)) with q | q
  · left; exact congrArg some (Int.compare_eq_gt.mpr (by omega))
  · right; exact congrArg some (Int.compare_eq_eq.mpr (by omega))
theorem two_lt {c : Nat} (h1 : 4503599627370496 ≤ c) (h2 : c < 9007199254740992) : FP.dcmp (UInt64.ofNat (nW c 1023)) (4611686018427387904 : UInt64) = some .lt := by
  rw [two_W, cmp_W h1 h2 (by omega) (by omega) (by omega) (by omega) (by omega) (by omega)]
  exact congrArg some (Int.compare_eq_lt.mpr (by omega))
theorem half_W {c E : Nat} (h1 : 4503599627370496 ≤ c) (h2 : c < 9007199254740992) (e1 : 1024 ≤ E) (e2 : E ≤ 1124) : FP.ddiv (UInt64.ofNat (nW c E)) (4611686018427387904 : UInt64) = UInt64.ofNat (nW c (E - 1)) := by
  rw [two_W]
  show UInt64.ofNat (FP.Core.div FP.Core.b64 (UInt64.ofNat (nW c E)).toNat (UInt64.ofNat (nW 4503599627370496 1024)).toNat) = _
  unfold FP.Core.div
  rw [oW h1 h2 (by omega), oW (by omega) (by omega) (by omega), nW_dec h1 h2 (by omega) (by omega), nW_dec (by omega) (by omega) (by omega) (by omega)]
  unfold FP.Core.quotient
  dsimp only
  have p52 : (2 : Nat) ^ 52 = 4503599627370496 := by decide +kernel
  rw [if_neg (by omega), show (false != false) = false from rfl, rr_at (l := 0) (by omega) (by rw [ld_c h1 h2 (by omega) (by omega), if_pos h1]) (by omega)]
  rw [show (52 - (0 : Int)).toNat = 52 by decide, show ((0 : Int) - 52).toNat = 0 by decide, p52, Nat.pow_zero, Nat.mul_one, nr_ex (by omega), st_fin h2 (by omega), nW_enc h1 (by omega)]
  exact congrArg (fun k => UInt64.ofNat (nW c k)) (by omega)
/-- what stands behind the point -/
theorem frac_W {c : Nat} (h1 : 4503599627370496 ≤ c) (h2 : c < 9007199254740992) : vf_n64 (FP.dsub (UInt64.ofNat (nW c 1023)) FP.dconst1) ∧ vf_n64 (FP.dmul (FP.dsub (UInt64.ofNat (nW c 1023)) FP.dconst1) (4841369599423283200 : UInt64)) ∧ FP.d2l (FP.dmul (FP.dsub (UInt64.ofNat (nW c 1023)) FP.dconst1) (4841369599423283200 : UInt64)) = Int64.ofNat (c - 4503599627370496) := by
  by_cases hc : c = 4503599627370496
  · subst hc
    unfold vf_n64
    decide +kernel
  · have hv : c - 4503599627370496 ≠ 0 := by omega
    have hv2 : c - 4503599627370496 < 2 ^ 53 := by omega
    obtain ⟨v, hvv⟩ : ∃ v, v = c - 4503599627370496 := ⟨_, rfl⟩
    have hlt : v < 4503599627370496 := by omega
    rw [← hvv] at hv hv2
    have l : v.log2 < 52 := lg_lt hv (by omega)
    obtain ⟨m1, m2⟩ := nm hv hv2
    have p52 : (2 : Nat) ^ 52 = 4503599627370496 := by decide +kernel
    have es : FP.dsub (UInt64.ofNat (nW c 1023)) FP.dconst1 = UInt64.ofNat (nW (v * 2 ^ (52 - v.log2)) (v.log2 + 971)) := by
      rw [one_W]
      show UInt64.ofNat (FP.Core.sub FP.Core.b64 (UInt64.ofNat (nW c 1023)).toNat (UInt64.ofNat (nW 4503599627370496 1023)).toNat) = _
      unfold FP.Core.sub
      rw [oW h1 h2 (by omega), oW (by omega) (by omega) (by omega), nW_dec h1 h2 (by omega) (by omega), nW_dec (by omega) (by omega) (by omega) (by omega)]
      unfold FP.Core.negate FP.Core.exactSum FP.Core.round
      dsimp only
      have eu : FP.Core.sumUnits false c (((1023 : Nat) : Int) - 1075) (!false) 4503599627370496 (((1023 : Nat) : Int) - 1075) (min (((1023 : Nat) : Int) - 1075) (((1023 : Nat) : Int) - 1075)) = (v : Int) := by
        unfold FP.Core.sumUnits FP.Core.signed FP.Core.inUnits
        have e0 : ((((1023 : Nat) : Int) - 1075) - min (((1023 : Nat) : Int) - 1075) (((1023 : Nat) : Int) - 1075)).toNat = 0 := by decide
        rw [e0, Nat.pow_zero, Nat.mul_one, Nat.mul_one]
        show (c : Int) + -((4503599627370496 : Nat) : Int) = (v : Int)
        omega
      have em : min (((1023 : Nat) : Int) - 1075) (((1023 : Nat) : Int) - 1075) = -52 := by decide
      rw [eu, em, Int.natAbs_natCast]
      have esg : FP.Core.sumSign false (!false) (v : Int) = false := by
        unfold FP.Core.sumSign
        rw [if_neg (by omega)]
        simp
      rw [esg, rr_whole hv hv2 (by omega) (by omega), nW_enc m1 (by omega)]
      exact congrArg (fun k => UInt64.ofNat (nW (v * 2 ^ (52 - v.log2)) k)) (by omega)
    have em : FP.dmul (UInt64.ofNat (nW (v * 2 ^ (52 - v.log2)) (v.log2 + 971))) (4841369599423283200 : UInt64) = UInt64.ofNat (nW (v * 2 ^ (52 - v.log2)) (v.log2 + 1023)) := by
      rw [big_W]
      show UInt64.ofNat (FP.Core.mul FP.Core.b64 (UInt64.ofNat (nW (v * 2 ^ (52 - v.log2)) (v.log2 + 971))).toNat (UInt64.ofNat (nW 4503599627370496 1075)).toNat) = _
      unfold FP.Core.mul
      rw [oW m1 m2 (by omega), oW (by omega) (by omega) (by omega), nW_dec m1 m2 (by omega) (by omega), nW_dec (by omega) (by omega) (by omega) (by omega)]
      unfold FP.Core.exactProduct FP.Core.round
      dsimp only
      generalize v * 2 ^ (52 - v.log2) = C at *
      have hl : (C * 4503599627370496).log2 = 104 := by
        have a : (C * 4503599627370496).log2 < 105 := lg_lt (by omega) (by omega)
        have b := (Nat.le_log2 (n := C * 4503599627370496) (k := 104) (by omega)).mpr (by omega)
        omega
      have ld := ld_1 (n := C * 4503599627370496) (by omega)
      rw [hl] at ld
      rw [show (false != false) = false from rfl, rr_at (l := 104) (by omega) ld (by omega)]
      rw [show (52 - (104 : Int)).toNat = 0 by decide, show ((104 : Int) - 52).toNat = 52 by decide, p52, Nat.pow_zero, Nat.mul_one, Nat.one_mul, nr_ex (by omega), st_fin m2 (by omega), nW_enc m1 (by omega)]
      exact congrArg (fun k => UInt64.ofNat (nW C k)) (by omega)
    have hC := m1
    rw [es, em]
    refine ⟨nat_W m1 m2 (by omega), nat_W m1 m2 (by omega), ?_⟩
    show FP.Core.toL (FP.Core.decode FP.Core.b64 (UInt64.ofNat (nW (v * 2 ^ (52 - v.log2)) (v.log2 + 1023))).toNat) = _
    rw [oW m1 m2 (by omega), nW_dec m1 m2 (by omega) (by omega)]
    unfold FP.Core.toL FP.Core.toInt FP.Core.truncate FP.Core.signed
    dsimp only
    have a1 : (((v.log2 + 1023 : Nat) : Int) - 1075).toNat = 0 := by omega
    have a2 : (-(((v.log2 + 1023 : Nat) : Int) - 1075)).toNat = 52 - v.log2 := by omega
    rw [a1, a2, Nat.pow_zero, Nat.mul_one, Nat.mul_div_cancel _ (Nat.pow_pos (by omega))]
    rw [← hvv]
    have hmin : max (-2 ^ 63 : Int) (min (2 ^ 63 - 1) (if false = true then -(v : Int) else (v : Int))) = (v : Int) := by
      rw [if_neg (by decide)]
      omega
    rw [hmin]
    rfl
/-! the class's way to a double's bits -/
theorem d2l_W {c E : Nat} (h1 : 4503599627370496 ≤ c) (h2 : c < 9007199254740992) (e1 : 1 ≤ E) (e2 : E ≤ 2046) : f_j_d2l (UInt64.ofNat (nW c E)) = Int64.ofNat (nW c E) ∧ o_j_d2l (UInt64.ofNat (nW c E)) := by
  have hn : f_j_isNaN (UInt64.ofNat (nW c E)) = 0 := by
    unfold f_j_isNaN
    rw [cmp_self h1 h2 e1 e2, if_pos (by rfl)]
  unfold f_j_d2l o_j_d2l o_j_isNaN
  rw [if_pos hn, if_pos hn]
  refine ⟨rfl, ?_, trivial⟩
  split <;> trivial
theorem sh_W {c E : Nat} (h1 : 4503599627370496 ≤ c) (h2 : c < 9007199254740992) (e2 : E ≤ 2046) : (Int64.ofNat E <<< (((52 : Int32)).toInt64 &&& 63)) + Int64.ofNat (c - 4503599627370496) = Int64.ofNat (nW c E) := by
  have e : (((52 : Int32)).toInt64 &&& 63) = (52 : Int64) := by decide +kernel
  rw [e]
  have hs : Int64.ofNat E <<< (52 : Int64) = Int64.ofNat (E * 4503599627370496) := by
    apply Int64.toBitVec_inj.mp
    rw [Int64.toBitVec_shiftLeft]
    have e1 : BitVec.smod (52 : Int64).toBitVec 64 = 52#64 := by decide +kernel
    have e2 : (Int64.ofNat E).toBitVec = BitVec.ofNat 64 E := rfl
    have e3 : (Int64.ofNat (E * 4503599627370496)).toBitVec = BitVec.ofNat 64 (E * 4503599627370496) := rfl
    have e4 : (2 : Nat) ^ 52 = 4503599627370496 := by decide +kernel
    rw [e1, e2, e3, BitVec.shiftLeft_eq']
    apply BitVec.eq_of_toNat_eq
    rw [show (52#64).toNat = 52 from rfl, BitVec.toNat_shiftLeft, BitVec.toNat_ofNat, Nat.shiftLeft_eq, BitVec.toNat_ofNat, e4]
    omega
  have e5 : nW c E = E * 4503599627370496 + (c - 4503599627370496) := rfl
  rw [hs, e5, Int64.ofNat_add]
theorem bits_W {c E : Nat} (h1 : 4503599627370496 ≤ c) (h2 : c < 9007199254740992) (e1 : 1023 ≤ E) (e2 : E ≤ 1124) : o_h_bitsOf (UInt64.ofNat (nW c E)) ∧ f_h_bitsOf (UInt64.ofNat (nW c E)) = Int64.ofNat (nW c E) := by
  have hL := run_count (f := L_h_bitsOf_10 (UInt64.ofNat (nW c E))) (K := K_h_bitsOf_10 (UInt64.ofNat (nW c E))) (N := E - 1023) (fuel := 400) (z := (UInt64.ofNat (nW c E), (1023 : Int64), (0 : Int32))) (fun k z => z = (UInt64.ofNat (nW c (E - k)), Int64.ofNat (1023 + k), Int32.ofNat k)) (fun z => z.1 = UInt64.ofNat (nW c 1023) ∧ z.2.1 = Int64.ofNat E) (by omega) rfl (fun k z hk hz => ?_) (fun z hz => ?_)
  · obtain ⟨f1, f2, f3⟩ := frac_W h1 h2
    obtain ⟨k1, k2, k3⟩ := hL
    unfold o_h_bitsOf f_h_bitsOf
    simp only [g_let_def, k2, k3]
    refine ⟨⟨k1, f1, f2, trivial⟩, ?_⟩
    rw [f3]
    exact sh_W h1 h2 (by omega)
  · subst hz
    have n1 : ¬ ((1023 : Int32) ≤ Int32.ofNat k) := fun w => by have := (leI (a := 1023) (by omega) (by omega)).mp w; omega
    have n2 : ¬ (Op.cmpValue (FP.dcmp (UInt64.ofNat (nW c (E - k))) (4611686018427387904 : UInt64)) .l < 0) := by
      rcases two_ge h1 h2 (show 1024 ≤ E - k by omega) (by omega) with q | q
      · rw [q]; decide
      · rw [q]; decide
    unfold L_h_bitsOf_10 K_h_bitsOf_10
    simp only [g_let_def, if_neg n1, if_neg n2, half_W h1 h2 (show 1024 ≤ E - k by omega) (by omega), e1r]
    refine ⟨⟨nat_W h1 h2 (by omega), trivial⟩, trivial, ?_⟩
    rw [show E - (k + 1) = E - k - 1 by omega, show 1023 + (k + 1) = 1023 + k + 1 by omega, Int64.ofNat_add (1023 + k) 1]
    rfl
  · subst hz
    have n2 : Op.cmpValue (FP.dcmp (UInt64.ofNat (nW c (E - (E - 1023)))) (4611686018427387904 : UInt64)) .l < 0 := by
      rw [show E - (E - 1023) = 1023 by omega, two_lt h1 h2]; decide
    unfold L_h_bitsOf_10 K_h_bitsOf_10
    simp only [if_pos n2]
    by_cases n1 : (1023 : Int32) ≤ Int32.ofNat (E - 1023)
    · simp only [if_pos n1]
      exact ⟨trivial, trivial, by rw [show E - (E - 1023) = 1023 by omega], by rw [show 1023 + (E - 1023) = E by omega]⟩
    · simp only [if_neg n1]
      exact ⟨trivial, trivial, by rw [show E - (E - 1023) = 1023 by omega], by rw [show 1023 + (E - 1023) = E by omega]⟩
/-- a quotient of two counts -/
theorem quo_W {a b : Nat} (ha : a < 2147483648) (hb : b ≠ 0) (hab : b ≤ a) : ∃ c E : Nat, FP.ddiv (FP.i2d (Int32.ofNat a)) (FP.i2d (Int32.ofNat b)) = UInt64.ofNat (nW c E) ∧ 4503599627370496 ≤ c ∧ c < 9007199254740992 ∧ 1023 ≤ E ∧ E ≤ 1124 := by
  have ha0 : a ≠ 0 := by omega
  obtain ⟨m1, m2⟩ := nm ha0 (by omega)
  obtain ⟨g1, g2⟩ := nm hb (by omega)
  have l1 := lg_lt ha0 (show a < 2 ^ 31 by omega)
  have hl : b.log2 ≤ a.log2 := (Nat.le_log2 ha0).mpr (Nat.le_trans (Nat.log2_self_le hb) hab)
  rw [i2d_W ha0 ha, i2d_W hb (by omega)]
  obtain ⟨C, G, k1, k2, k3, k4, k5, -⟩ := div_W m1 m2 g1 g2 (E := a.log2 + 1023) (F := b.log2 + 1023) (by omega) (by omega) (by omega) (by omega) (fun h => by rw [show b.log2 = a.log2 by omega]; exact Nat.mul_le_mul_right _ hab)
  exact ⟨C, G, k1, k2, k3, k4, k5⟩
/-- the amplification, both ways -/
theorem ampl_R {c n : Nat} {mh M : gM} (hq : hQ c 4 mh (M 1)) (hc : c ≤ 116400 * n) (hn : n ≤ 512) : o_h_amplification mh ∧ o_r_amplified M ∧ f_h_amplification mh = f_r_amplified M ∧ ∃ d E : Nat, f_r_amplified M = UInt64.ofNat (nW d E) ∧ 4503599627370496 ≤ d ∧ d < 9007199254740992 ∧ 1023 ≤ E ∧ E ≤ 1124 := by
  have h := selQ hq
  obtain ⟨hR, -, ⟨⟨a, ha, ea⟩, ⟨b, hb, eb⟩, w3, w4, w5⟩, -⟩ := h
  obtain ⟨R1, -⟩ := hR
  have s3 : f_s_writes (g_sel [4, 5, 6, 7, 8, 9, 10, 11, 12, 13, 14, 15, 16, 17, 18, 19] mh) = vA (M 1) 13 2 := by
    show f_s_sum40 (g_sel [3] (g_sel [4, 5, 6, 7, 8, 9, 10, 11, 12, 13, 14, 15, 16, 17, 18, 19] mh)) = _
    rw [w5]
    exact sum40_f.1.trans (sI_c 40 (fun p hp => (R1 p hp).2.2.1))
  have s4 : f_s_copies (g_sel [4, 5, 6, 7, 8, 9, 10, 11, 12, 13, 14, 15, 16, 17, 18, 19] mh) = vA (M 1) 13 3 := copies_of (selQ hq)
  have o1 : o_s_writes (g_sel [4, 5, 6, 7, 8, 9, 10, 11, 12, 13, 14, 15, 16, 17, 18, 19] mh) := ⟨sum40_f.2, trivial⟩
  have o2 : o_s_copies (g_sel [4, 5, 6, 7, 8, 9, 10, 11, 12, 13, 14, 15, 16, 17, 18, 19] mh) := trivial
  have r2 : M 1 (360 : Int32).toNatClampNeg = vA (M 1) 13 2 := rh13_2 (m := M)
  have r3 : M 1 (361 : Int32).toNatClampNeg = vA (M 1) 13 3 := rh13_3 (m := M)
  unfold o_h_amplification o_r_amplified f_h_amplification f_r_amplified
  simp only [g_let_def, s3, s4, r2, r3, ea, eb, nI_plus2]
  by_cases h0 : a = 0
  · subst h0
    have z : Int32.ofNat 0 = 0 := rfl
    simp only [if_pos z]
    exact ⟨⟨o1, trivial⟩, trivial, trivial, _, _, one_W, by omega, by omega, by omega, by omega⟩
  · have z : ¬ (Int32.ofNat a = 0) := fun w => h0 (by have := congrArg Int32.toNatClampNeg w; rw [nI_ix (by omega)] at this; exact this)
    obtain ⟨d, E, k1, k2, k3, k4, k5⟩ := quo_W (a := a + b) (b := a) (by omega) h0 (by omega)
    simp only [if_neg z, k1]
    exact ⟨⟨o1, o2, nat_W k2 k3 (by omega), trivial⟩, ⟨nat_W k2 k3 (by omega), trivial⟩, trivial, d, E, rfl, k2, k3, k4, k5⟩
theorem op_amplification_ok {n : Nat} {mh mr : gM} (hn : n < 512) (h : Rl n mh mr) : op_amplification (Rl (n + 1)) mh mr := by
  have h' : Rl n mh (g_set mr 0 (upd (mr 0) 6 (0 : Int32))) := Rl_r (mr := mr) rfl rfl rfl rfl rfl h
  obtain ⟨a1, a2, a3, d, E, k1, k2, k3, k4, k5⟩ := ampl_R h'.1 (Nat.le_refl _) (by omega)
  unfold op_amplification o_r_amplification f_r_amplification
  simp only [g_let_def]
  refine ⟨a1, ⟨a2, trivial⟩, ?_, z_Rl h⟩
  rw [a3, k1, cmp_self k2 k3 (by omega) (by omega)]
  rfl
