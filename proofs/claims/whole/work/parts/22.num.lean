theorem fin_le {a : UInt64} {z : Nat} (hn : FP.Core.val64 a ≠ .nan) (h : Zm a ≤ z) (hz : z < Top64) : FP.Core.DFin a := by
  cases hv : FP.Core.val64 a with
  | nan => exact absurd hv hn
  | inf s =>
    exfalso
    unfold Zm at h
    rw [hv] at h
    have h1 : FP.Core.zmag FP.Core.b64 (.inf s) = Top64 := rfl
    omega
  | fin s c q => exact ⟨s, c, q, hv⟩
theorem rd_mul {a b : UInt64} (ha : FP.Core.DFin a) (hb : FP.Core.DFin b) : Rd (Zm a * Zm b) E64 (Zm (FP.dmul a b)) ∧ FP.Core.val64 (FP.dmul a b) ≠ .nan ∧ FP.Core.sgn (FP.Core.val64 (FP.dmul a b)) = (FP.Core.sgn (FP.Core.val64 a) != FP.Core.sgn (FP.Core.val64 b)) := by
  obtain ⟨s, c, q, ea, fa, -⟩ := fin_form ha
  obtain ⟨t, d, r, eb, fb, -⟩ := fin_form hb
  have h1 := FP.Core.val64_dmul a b
  obtain ⟨g1, g2, g3⟩ := FP.Core.product_units fa fb
  rw [ea, eb, g1] at h1
  have h2 : FP.Core.val64 (FP.Core.dmul a b) = FP.Core.roundRatio FP.Core.b64 (s != t) (c * d) 1 (q + r) := h1
  have h3 := rd_ratio (s := s != t) (A := c * d) (B := 1) (e := q + r) (e0 := 2 * FP.Core.b64.qmin) (by decide) (by rw [FP.Core.qmin_b64]; decide) g2
  have e1 : (FP.Core.b64.qmin - 2 * FP.Core.b64.qmin).toNat = 1074 := by have := FP.Core.qmin_b64; omega
  rw [g3, e1, Nat.mul_one] at h3
  refine ⟨?_, ?_, ?_⟩
  · unfold Zm
    rw [h2, ea, eb]
    exact h3
  · rw [h2]
    exact FP.Core.roundRatio_ne_nan _ _ _ _ _
  · rw [h2, ea, eb]
    exact FP.Core.sgn_roundRatio _ _ _ _ _
theorem rd_div {a b : UInt64} (ha : FP.Core.DFin a) (hb : FP.Core.DFin b) (hz : 0 < Zm b) : Rd (Zm a * E64) (Zm b) (Zm (FP.ddiv a b)) ∧ FP.Core.val64 (FP.ddiv a b) ≠ .nan ∧ FP.Core.sgn (FP.Core.val64 (FP.ddiv a b)) = (FP.Core.sgn (FP.Core.val64 a) != FP.Core.sgn (FP.Core.val64 b)) := by
  obtain ⟨s, c, q, ea, fa, za⟩ := fin_form ha
  obtain ⟨t, d, r, eb, fb, zb⟩ := fin_form hb
  have hd : 0 < d := by
    rcases Nat.eq_zero_or_pos d with h | h
    · rw [zb, h, Nat.zero_mul] at hz; exact absurd hz (by decide)
    · exact h
  have h1 := FP.Core.val64_ddiv a b
  rw [ea, eb] at h1
  have h2 : FP.Core.val64 (FP.Core.ddiv a b) = FP.Core.roundRatio FP.Core.b64 (s != t) c d (q - r) := by
    rw [h1]
    show (if d = 0 then _ else _) = _
    rw [if_neg (by omega)]
  have fq := fa.2.1
  have fr := fb.2.1
  have hq := FP.Core.qmin_b64
  have h3 := rd_ratio (s := s != t) (A := c) (B := d) (e := q - r) (e0 := 2 * FP.Core.b64.qmin - r) hd (by omega) (by omega)
  have e1 : FP.Core.inUnits c (q - r) (2 * FP.Core.b64.qmin - r) = Zm a * E64 := by
    rw [za]
    unfold FP.Core.inUnits E64
    rw [show (q - r - (2 * FP.Core.b64.qmin - r)).toNat = (q - FP.Core.b64.qmin).toNat + 1074 by omega, Nat.pow_add, Nat.mul_assoc]
  have e2 : 2 ^ (FP.Core.b64.qmin - (2 * FP.Core.b64.qmin - r)).toNat * d = Zm b := by
    rw [zb, show (FP.Core.b64.qmin - (2 * FP.Core.b64.qmin - r)).toNat = (r - FP.Core.b64.qmin).toNat by omega, Nat.mul_comm]
  rw [e1, e2] at h3
  refine ⟨?_, ?_, ?_⟩
  · show Rd _ _ (FP.Core.zmag _ (FP.Core.val64 (FP.Core.ddiv a b)))
    rw [h2]
    exact h3
  · rw [h2]
    exact FP.Core.roundRatio_ne_nan _ _ _ _ _
  · rw [h2, ea, eb]
    exact FP.Core.sgn_roundRatio _ _ _ _ _
theorem pow_e2 (u c : Nat) : u * (c * 2 ^ 55) = 2 * (c * (2 ^ 54 * u)) := by
  have h : (2 : Nat) ^ 55 = 2 * 2 ^ 54 := by decide
  rw [h]
  generalize (2 : Nat) ^ 54 = v
  ac_rfl
theorem pow_e3 (u D : Nat) : u * ((2 ^ 53 + 1) * D) = 2 * (2 ^ 52 * u * D) + u * D := by
  have h : (2 : Nat) ^ 53 = 2 * 2 ^ 52 := by decide
  rw [h]
  generalize (2 : Nat) ^ 52 = v
  rw [Nat.add_mul, Nat.mul_add, Nat.one_mul]
  congr 1
  ac_rfl
theorem pow_e5 (m k : Nat) : 4 * (m * 2 ^ k) = m * 2 ^ (k + 2) := by
  have h : (2 : Nat) ^ (k + 2) = 2 ^ k * 4 := Nat.pow_add 2 k 2
  rw [h]
  generalize (2 : Nat) ^ k = v
  ac_rfl
theorem pow_e6 (x : Nat) : 2 ^ 53 * x = 2 ^ 52 * (x * 2) := by
  have h : (2 : Nat) ^ 53 = 2 ^ 52 * 2 := by decide
  rw [h]
  generalize (2 : Nat) ^ 52 = v
  ac_rfl
theorem pow_e7 {k : Nat} (h : 0 < k) : (2 : Nat) ^ k = 2 ^ (k - 1) * 2 := by
  cases k with
  | zero => exact absurd h (by decide)
  | succ k => exact Nat.pow_succ 2 k
/-- a quarter, by the rounded quotient, is a quarter -/
theorem quarter_nat {c D F : Nat} (hc : ∃ m k : Nat, c = m * 2 ^ k ∧ m < 2 ^ 53) (hD : ∃ m k : Nat, D = m * 2 ^ k ∧ m < 2 ^ 53 ∧ (k = 0 ∨ 2 ^ 52 ≤ m)) (hF : Rd (c * E64) D F) (h : F ≤ 2 ^ 1072) : 4 * c ≤ D := by
  refine Nat.le_of_not_lt fun hlt => ?_
  have hV1 : Rep (2 ^ 1072 + 2 ^ 1020) := by
    have h9 := rep_mul (m := 2 ^ 52 + 1) 1020 (by decide) (by decide)
    rwa [show (2 ^ 52 + 1) * 2 ^ 1020 = 2 ^ 1072 + 2 ^ 1020 by decide +kernel] at h9
  have hT : F < Top64 := Nat.lt_of_le_of_lt (Nat.le_trans h (Nat.le_add_right _ _)) hV1.lt
  have hn := hF.2.2.1 hT _ hV1
  have hge := hF.2.1 _ hV1
  -- the quotient lies at most half a place above a quarter
  have hE : E64 = 2 ^ 54 * 2 ^ 1020 := by unfold E64; decide +kernel
  have h72 : (2 : Nat) ^ 1072 = 2 ^ 52 * 2 ^ 1020 := by decide +kernel
  have hpos : 0 < (2 : Nat) ^ 1020 := Nat.two_pow_pos _
  have key : c * 2 ^ 55 ≤ (2 ^ 53 + 1) * D := by
    refine Nat.le_of_not_lt fun hk => ?_
    have hFD : F * D ≤ 2 ^ 1072 * D := Nat.mul_le_mul_right D h
    have e1 : (2 ^ 1072 + 2 ^ 1020) * D = 2 ^ 1072 * D + 2 ^ 1020 * D := Nat.add_mul _ _ _
    have e2 : 2 ^ 1020 * (c * 2 ^ 55) = 2 * (c * E64) := by
      rw [hE]
      exact pow_e2 _ _
    have e3 : 2 ^ 1020 * ((2 ^ 53 + 1) * D) = 2 * (2 ^ 1072 * D) + 2 ^ 1020 * D := by
      rw [h72]
      exact pow_e3 _ _
    have hk2 := Nat.mul_lt_mul_of_pos_left hk hpos
    rw [e2, e3] at hk2
    rw [e1] at hn hge
    generalize 2 ^ 1072 * D = V0 at *
    generalize 2 ^ 1020 * D = u at *
    generalize F * D = FD at *
    generalize c * E64 = X at *
    have h1072 : (2 : Nat) ^ 1072 < 2 ^ 1072 + 2 ^ 1020 := Nat.lt_add_of_pos_right hpos
    by_cases hx : V0 + u ≤ X
    · have := hge hx
      omega
    · omega
  -- but a double above D lies a place above it
  obtain ⟨mc, kc, rfl, hmc⟩ := hc
  obtain ⟨md, kd, rfl, hmd, hor⟩ := hD
  have hpk : 0 < (2 : Nat) ^ kd := Nat.two_pow_pos _
  have hstep : (md + 1) * 2 ^ kd ≤ 4 * (mc * 2 ^ kc) := by
    by_cases hk : kd ≤ kc + 2
    · have e4 : 4 * (mc * 2 ^ kc) = mc * 2 ^ (kc + 2 - kd) * 2 ^ kd := by
        rw [Nat.mul_assoc, ← Nat.pow_add, show kc + 2 - kd + kd = kc + 2 by omega]
        exact pow_e5 _ _
      rw [e4] at hlt ⊢
      have := Nat.lt_of_mul_lt_mul_right hlt
      exact Nat.mul_le_mul_right _ this
    · exfalso
      rcases hor with h0 | h52
      · omega
      · have e5 : 4 * (mc * 2 ^ kc) = mc * 2 ^ (kc + 2) := pow_e5 _ _
        rw [e5] at hlt
        have a1 : mc * 2 ^ (kc + 2) ≤ 2 ^ 53 * 2 ^ (kd - 1) := Nat.mul_le_mul (by omega) (Nat.pow_le_pow_right (by decide) (by omega))
        have a2 : 2 ^ 53 * 2 ^ (kd - 1) = 2 ^ 52 * 2 ^ kd := by
          have e6 : (2 : Nat) ^ kd = 2 ^ (kd - 1) * 2 := pow_e7 (by omega)
          rw [e6]
          exact pow_e6 _
        have a3 : 2 ^ 52 * 2 ^ kd ≤ md * 2 ^ kd := Nat.mul_le_mul_right _ h52
        omega
  have b1 : md * 2 ^ kd < 2 ^ 53 * 2 ^ kd := Nat.mul_lt_mul_of_pos_right hmd hpk
  have b2 : (md + 1) * 2 ^ kd = md * 2 ^ kd + 2 ^ kd := by rw [Nat.add_mul, Nat.one_mul]
  generalize md * 2 ^ kd = D at *
  generalize mc * 2 ^ kc = cc at *
  generalize 2 ^ kd = u at *
  omega
/-- half at most: a flow is at most half of the slope -/
theorem half_nat {c d D P F : Nat} (h4 : 4 * c ≤ D) (hd : ∃ m k : Nat, d = m * 2 ^ k ∧ m < 2 ^ 53 ∧ k ≤ 2045) (hP : Rd (c * d) E64 P) (hF : Rd (P * E64) D F) (hPt : P < Top64) (hPr : ∃ m k : Nat, P = m * 2 ^ k ∧ m < 2 ^ 53 ∧ k ≤ 2045) (hFt : F < Top64) : 2 * F ≤ d := by
  have hE := E64_pos
  by_cases hs : 2 * (c * d) ≤ E64
  · have h0 := hP.2.2.2 hs
    subst h0
    have := hF.1 0 rep_0 (by rw [Nat.zero_mul]; exact Nat.zero_le _)
    omega
  · -- strictly less than twice
    have h2 : P * E64 < 2 * (c * d) := by
      have hn := hP.2.2.1 hPt _ (rep_half hPr)
      refine Nat.lt_of_not_le fun hle => ?_
      by_cases h1 : P ≤ 1
      · have : P * E64 ≤ 1 * E64 := Nat.mul_le_mul_right _ h1
        omega
      · have a1 : (P / 2) * E64 + (P / 2) * E64 ≤ P * E64 := by
          rw [← Nat.add_mul]
          exact Nat.mul_le_mul_right _ (by omega)
        have a2 : E64 ≤ (P / 2) * E64 := Nat.le_mul_of_pos_left _ (by omega)
        generalize (P / 2) * E64 = v at *
        generalize P * E64 = w at *
        generalize c * d = x at *
        omega
    have h3 : 4 * (c * d) ≤ D * d := by
      rw [← Nat.mul_assoc]
      exact Nat.mul_le_mul_right d h4
    have hn := hF.2.2.1 hFt _ (rep_half hd)
    have hle := hF.1 _ (rep_half hd)
    have a3 : (d / 2) * D + (d / 2) * D + (d % 2) * D = D * d := by
      rw [← Nat.add_mul, ← Nat.add_mul, Nat.mul_comm D d]
      congr 1
      omega
    have a4 : (d % 2) * D ≤ D := by
      rcases Nat.mod_two_eq_zero_or_one d with h | h <;> rw [h]
      · rw [Nat.zero_mul]; exact Nat.zero_le _
      · rw [Nat.one_mul]; exact Nat.le_refl _
    refine Nat.le_trans (Nat.mul_le_mul_left 2 (?_ : F ≤ d / 2)) (by omega)
    by_cases hx : P * E64 ≤ (d / 2) * D
    · exact hle hx
    · refine Nat.le_of_not_lt fun hlt => ?_
      have a5 : (d / 2 + 1) * D ≤ F * D := Nat.mul_le_mul_right _ hlt
      rw [Nat.add_mul, Nat.one_mul] at a5
      generalize (d / 2) * D = v at *
      generalize (d % 2) * D = r at *
      generalize F * D = w at *
      generalize P * E64 = x at *
      generalize D * d = y at *
      generalize c * d = z at *
      omega
