/-! ===== rounding as a function; it is monotone ===== -/
def zr (X P : Nat) : Nat := FP.Core.zmag FP.Core.b64 (FP.Core.roundRatio FP.Core.b64 false X P FP.Core.b64.qmin)
theorem rd_zr (X : Nat) {P : Nat} (hP : 0 < P) : Rd X P (zr X P) := by
  have h := rd_ratio (s := false) (A := X) (B := P) (e := FP.Core.b64.qmin) (e0 := FP.Core.b64.qmin) hP (Int.le_refl _) (Int.le_refl _)
  have e1 : FP.Core.inUnits X FP.Core.b64.qmin FP.Core.b64.qmin = X := by unfold FP.Core.inUnits; rw [Int.sub_self]; exact Nat.mul_one X
  rw [e1, Int.sub_self, show (2 : Nat) ^ (0 : Int).toNat * P = P from Nat.one_mul P] at h
  exact h
theorem zmag_negate (f : FP.Core.Fmt) (d : FP.Core.Datum) : FP.Core.zmag f (FP.Core.negate d) = FP.Core.zmag f d := by cases d <;> rfl
theorem zmag_sign (s : Bool) (A B : Nat) (e : Int) : FP.Core.zmag FP.Core.b64 (FP.Core.roundRatio FP.Core.b64 s A B e) = FP.Core.zmag FP.Core.b64 (FP.Core.roundRatio FP.Core.b64 false A B e) := by
  cases s with
  | false => rfl
  | true => rw [show (true : Bool) = !false from rfl, ← FP.Core.negate_roundRatio, zmag_negate]
theorem zr_mul {a b : UInt64} (ha : FP.Core.DFin a) (hb : FP.Core.DFin b) : Zm (FP.dmul a b) = zr (Zm a * Zm b) E64 := by
  obtain ⟨s, c, q, ea, fa, za⟩ := fin_form ha
  obtain ⟨t, d, r, eb, fb, zb⟩ := fin_form hb
  have h1 := FP.Core.val64_dmul a b
  rw [ea, eb, (FP.Core.product_units fa fb).1] at h1
  have h2 : FP.Core.val64 (FP.Core.dmul a b) = FP.Core.roundRatio FP.Core.b64 (s != t) (c * d) 1 (q + r) := h1
  show FP.Core.zmag _ (FP.Core.val64 (FP.Core.dmul a b)) = _
  rw [h2, zmag_sign]
  unfold zr
  have hq := FP.Core.qmin_b64
  have fq := fa.2.1
  have fr := fb.2.1
  rw [FP.Core.roundRatio_congr (A' := Zm a * Zm b) (B' := E64) (e' := FP.Core.b64.qmin) (by decide) E64_pos ?_]
  rw [za, zb]
  unfold E64
  rw [Nat.mul_one, show c * 2 ^ (q - FP.Core.b64.qmin).toNat * (d * 2 ^ (r - FP.Core.b64.qmin).toNat) * 2 ^ (FP.Core.b64.qmin - (q + r)).toNat = c * d * (2 ^ (q - FP.Core.b64.qmin).toNat * 2 ^ (r - FP.Core.b64.qmin).toNat * 2 ^ (FP.Core.b64.qmin - (q + r)).toNat) by ac_rfl, Nat.mul_assoc, ← Nat.pow_add, ← Nat.pow_add, ← Nat.pow_add]
  congr 2
  omega
theorem ac_5 (c d x y z : Nat) : c * x * y * d * z = c * d * (x * y * z) := by ac_rfl
theorem zr_div {a b : UInt64} (ha : FP.Core.DFin a) (hb : FP.Core.DFin b) (hz : 0 < Zm b) : Zm (FP.ddiv a b) = zr (Zm a * E64) (Zm b) := by
  obtain ⟨s, c, q, ea, fa, za⟩ := fin_form ha
  obtain ⟨t, d, r, eb, fb, zb⟩ := fin_form hb
  have hd : 0 < d := by
    rcases Nat.eq_zero_or_pos d with h | h
    · rw [zb, h, Nat.zero_mul] at hz; exact absurd hz (by decide)
    · exact h
  have h1 := FP.Core.val64_ddiv a b
  rw [ea, eb] at h1
  have h2 : FP.Core.val64 (FP.Core.ddiv a b) = FP.Core.roundRatio FP.Core.b64 (s != t) c d (q - r) := by
    rw [h1]
    show (if d = 0 then _ else _) = _
    rw [if_neg (by omega)]
  show FP.Core.zmag _ (FP.Core.val64 (FP.Core.ddiv a b)) = _
  rw [h2, zmag_sign]
  unfold zr
  have hq := FP.Core.qmin_b64
  have fq := fa.2.1
  have fr := fb.2.1
  rw [FP.Core.roundRatio_congr (A' := Zm a * E64) (B' := Zm b) (e' := FP.Core.b64.qmin) hd hz ?_]
  rw [za, zb]
  unfold E64
  rw [show c * (d * 2 ^ (r - FP.Core.b64.qmin).toNat) * 2 ^ (q - r - FP.Core.b64.qmin).toNat = c * d * (2 ^ (r - FP.Core.b64.qmin).toNat * 2 ^ (q - r - FP.Core.b64.qmin).toNat) by ac_rfl, ac_5 c d (2 ^ (q - FP.Core.b64.qmin).toNat) (2 ^ 1074) (2 ^ (FP.Core.b64.qmin - (q - r)).toNat), ← Nat.pow_add, ← Nat.pow_add, ← Nat.pow_add]
  congr 2
  omega
/-- the sum's form -/
theorem add_form {a b : UInt64} (ha : FP.Core.DFin a) (hb : FP.Core.DFin b) : ∃ (sg : Bool) (n : Nat) (e : Int), FP.Core.val64 (FP.dadd a b) = FP.Core.roundRatio FP.Core.b64 sg n 1 e ∧ FP.Core.b64.qmin ≤ e ∧ FP.Core.signed sg (n * 2 ^ (e - FP.Core.b64.qmin).toNat) = Zv a + Zv b ∧ (n = 0 → sg = (FP.Core.sgn (FP.Core.val64 a) && FP.Core.sgn (FP.Core.val64 b))) := by
  obtain ⟨s, c, q, ea, fa, za⟩ := fin_form ha
  obtain ⟨t, d, r, eb, fb, zb⟩ := fin_form hb
  have h1 := FP.Core.val64_dadd a b
  rw [ea, eb] at h1
  obtain ⟨sg, n, e, g1, g2, g3⟩ := FP.Core.sum_units fa fb
  refine ⟨sg, n, e, ?_, g2, ?_, ?_⟩
  · show FP.Core.val64 (FP.Core.dadd a b) = _
    rw [h1, g1]; rfl
  · unfold Zv; rw [ea, eb]; exact g3
  · intro hn
    have g4 : FP.Core.exactSum (.fin s c q) (.fin t d r) = .fin (FP.Core.sumSign s t (FP.Core.sumUnits s c q t d r (min q r))) (FP.Core.sumUnits s c q t d r (min q r)).natAbs (min q r) := rfl
    rw [g4] at g1
    injection g1 with k1 k2 k3
    rw [← k1]
    have hv : FP.Core.sumUnits s c q t d r (min q r) = 0 := by
      have : (FP.Core.sumUnits s c q t d r (min q r)).natAbs = 0 := by rw [k2]; exact hn
      omega
    rw [hv, ea, eb]
    show (if (0 : Int) = 0 then s && t else _) = _
    rw [if_pos rfl]; rfl
theorem Nn.add {x y : UInt64} (hx : Nn x) (hy : FP.Core.DFin y) (h : 0 ≤ Zv x + Zv y) (hf : FP.Core.DFin (FP.dadd x y)) : Nn (FP.dadd x y) := by
  obtain ⟨sg, n, e, h1, h2, h3, h4⟩ := add_form hx.1 hy
  refine ⟨hf, ?_⟩
  rw [h1, FP.Core.sgn_roundRatio]
  cases hs : sg with
  | false => rfl
  | true =>
    rw [hs] at h3
    have h5 : n = 0 := by
      have h6 : FP.Core.signed true (n * 2 ^ (e - FP.Core.b64.qmin).toNat) = -((n * 2 ^ (e - FP.Core.b64.qmin).toNat : Nat) : Int) := rfl
      rw [h6] at h3
      have h7 : n * 2 ^ (e - FP.Core.b64.qmin).toNat = 0 := by omega
      rcases Nat.mul_eq_zero.mp h7 with h | h
      · exact h
      · exact absurd h (Nat.ne_of_gt (Nat.two_pow_pos _))
    have h8 := h4 h5
    rw [hs, hx.2] at h8
    exact h8
theorem zr_add {a b : UInt64} (ha : Nn a) (hb : Nn b) : Zm (FP.dadd a b) = zr (Zm a + Zm b) 1 := by
  obtain ⟨sg, n, e, h1, h2, h3, -⟩ := add_form ha.1 hb.1
  show FP.Core.zmag _ (FP.Core.val64 (FP.dadd a b)) = _
  rw [h1, zmag_sign]
  unfold zr
  rw [ha.zv, hb.zv] at h3
  have h4 : n * 2 ^ (e - FP.Core.b64.qmin).toNat = Zm a + Zm b := by
    cases sg with
    | false =>
      have h6 : FP.Core.signed false (n * 2 ^ (e - FP.Core.b64.qmin).toNat) = ((n * 2 ^ (e - FP.Core.b64.qmin).toNat : Nat) : Int) := rfl
      rw [h6] at h3; omega
    | true =>
      have h6 : FP.Core.signed true (n * 2 ^ (e - FP.Core.b64.qmin).toNat) = -((n * 2 ^ (e - FP.Core.b64.qmin).toNat : Nat) : Int) := rfl
      rw [h6] at h3; omega
  rw [FP.Core.roundRatio_congr (A' := Zm a + Zm b) (B' := 1) (e' := FP.Core.b64.qmin) (by decide) (by decide) ?_]
  rw [Nat.mul_one, Nat.mul_one, h4, show (FP.Core.b64.qmin - e).toNat = 0 by omega, Nat.pow_zero, Nat.mul_one]
theorem rep_zr {X P : Nat} (hP : 0 < P) (h : zr X P < Top64) : Rep (zr X P) := by
  unfold zr at h ⊢
  have hfit := FP.Core.roundRatio_fits FP.Core.good_b64 false X hP FP.Core.b64.qmin
  rcases FP.Core.roundRatio_cases FP.Core.b64 false X P FP.Core.b64.qmin with ⟨c, q, hR⟩ | hR
  · rw [hR] at hfit ⊢
    exact ⟨c, q, hfit, rfl⟩
  · rw [hR] at h
    exact absurd h (Nat.lt_irrefl _)
theorem zr_mono {X Y P : Nat} (hP : 0 < P) (h : X ≤ Y) (hX : zr X P < Top64) (hY : zr Y P < Top64) : zr X P ≤ zr Y P := by
  rcases Nat.eq_or_lt_of_le h with h | h
  · rw [h]; exact Nat.le_refl _
  · refine Nat.le_of_not_lt fun hlt => ?_
    have rx := rd_zr X hP
    have ry := rd_zr Y hP
    have px := rep_zr hP hX
    have py := rep_zr hP hY
    have n1 := rx.2.2.1 hX _ py
    have n2 := ry.2.2.1 hY _ px
    have a1 : ¬ X ≤ zr Y P * P := fun q => absurd (rx.1 _ py q) (by omega)
    have a2 : ¬ zr X P * P ≤ Y := fun q => absurd (ry.2.1 _ px q) (by omega)
    generalize zr X P * P = u at *
    generalize zr Y P * P = v at *
    omega
