/-! ===== doubles: magnitudes in units of the least number; what rounding gives ===== -/
abbrev Zm (a : UInt64) : Nat := FP.Core.zmag FP.Core.b64 (FP.Core.val64 a)
abbrev Zv (a : UInt64) : Int := FP.Core.zval FP.Core.b64 (FP.Core.val64 a)
/-- how many units one is -/
def E64 : Nat := 2 ^ 1074
def Top64 : Nat := FP.Core.b64.tails * 2 ^ (FP.Core.b64.exps - 2)
theorem E64_pos : 0 < E64 := Nat.two_pow_pos _
/-- a number of units that a double holds -/
def Rep (z : Nat) : Prop := ∃ (c : Nat) (q : Int), FP.Core.fits FP.Core.b64 (.fin false c q) ∧ FP.Core.zmag FP.Core.b64 (.fin false c q) = z
theorem Rep.lt {z : Nat} (h : Rep z) : z < Top64 := by
  obtain ⟨c, q, h1, h2⟩ := h
  rw [← h2]
  exact FP.Core.zmag_lt_top FP.Core.good_b64 h1
theorem rep_mul {m : Nat} (k : Nat) (hm : m < 2 ^ 53) (hk : k ≤ 2045) : Rep (m * 2 ^ k) := by
  obtain ⟨c', q', h1, h2⟩ := FP.Core.round_exact FP.Core.good_b64 false (c := m) (q := FP.Core.b64.qmin + k) (show m < 2 ^ 53 from hm) (by omega) (by
    have h := FP.Core.qmax_qmin FP.Core.b64
    have h3 : FP.Core.b64.emax = 1023 := by decide
    rw [h3] at h
    omega)
  have hf := FP.Core.round_fits FP.Core.good_b64 (.fin false m (FP.Core.b64.qmin + k))
  rw [h1] at hf
  refine ⟨c', q', hf, ?_⟩
  show FP.Core.inUnits c' q' FP.Core.b64.qmin = _
  rw [h2]
  unfold FP.Core.inUnits
  rw [show (FP.Core.b64.qmin + (k : Int) - FP.Core.b64.qmin).toNat = k by omega]
theorem rep_small {m : Nat} (hm : m < 2 ^ 53) : Rep m := by
  have h := rep_mul 0 hm (by omega)
  rwa [Nat.pow_zero, Nat.mul_one] at h
theorem rep_0 : Rep 0 := rep_small (by decide)
theorem fin_form {a : UInt64} (h : FP.Core.DFin a) : ∃ (s : Bool) (c : Nat) (q : Int), FP.Core.val64 a = .fin s c q ∧ FP.Core.fits FP.Core.b64 (.fin s c q) ∧ Zm a = c * 2 ^ (q - FP.Core.b64.qmin).toNat := by
  obtain ⟨s, c, q, h⟩ := h
  have hf := FP.Core.val64_fits a
  rw [h] at hf
  exact ⟨s, c, q, h, hf, by unfold Zm; rw [h]; rfl⟩
/-- the form of a number of units: fewer than 2^53 of some power of two, at least 2^52 of them but for the least power -/
theorem zm_form {a : UInt64} (h : FP.Core.DFin a) : ∃ (c k : Nat), Zm a = c * 2 ^ k ∧ c < 2 ^ 53 ∧ k ≤ 2045 ∧ (k = 0 ∨ 2 ^ 52 ≤ c) := by
  obtain ⟨s, c, q, h1, ⟨f1, f2, f3, f4⟩, h3⟩ := fin_form h
  have h := FP.Core.qmax_qmin FP.Core.b64
  have h5 : FP.Core.b64.emax = 1023 := by decide
  rw [h5] at h
  refine ⟨c, _, h3, f1, by omega, ?_⟩
  rcases f4 with f4 | f4
  · left; omega
  · right; exact f4
theorem rep_zm {a : UInt64} (h : FP.Core.DFin a) : Rep (Zm a) := by
  obtain ⟨c, k, h1, h2, h3, -⟩ := zm_form h
  rw [h1]
  exact rep_mul k h2 h3
theorem rep_half {z : Nat} (h : ∃ c k : Nat, z = c * 2 ^ k ∧ c < 2 ^ 53 ∧ k ≤ 2045) : Rep (z / 2) := by
  obtain ⟨c, k, rfl, h2, h3⟩ := h
  cases k with
  | zero => exact rep_small (by rw [Nat.pow_zero, Nat.mul_one]; omega)
  | succ k =>
    rw [Nat.pow_succ, ← Nat.mul_assoc, Nat.mul_div_cancel _ (by decide)]
    exact rep_mul k h2 (by omega)
/-- z is X / P, rounded -/
def Rd (X P z : Nat) : Prop :=
  (∀ v, Rep v → X ≤ v * P → z ≤ v) ∧ (∀ v, Rep v → v * P ≤ X → v ≤ z) ∧ (z < Top64 → ∀ v, Rep v → ((X : Int) - (z * P : Nat)).natAbs ≤ ((X : Int) - (v * P : Nat)).natAbs) ∧ (2 * X ≤ P → z = 0)
theorem rd_ratio {s : Bool} {A B : Nat} {e e0 : Int} (hB : 0 < B) (h0 : e0 ≤ FP.Core.b64.qmin) (h0e : e0 ≤ e) : Rd (FP.Core.inUnits A e e0) (2 ^ (FP.Core.b64.qmin - e0).toNat * B) (FP.Core.zmag FP.Core.b64 (FP.Core.roundRatio FP.Core.b64 s A B e)) := by
  refine ⟨fun v hv h => ?_, fun v hv h => ?_, fun hz v hv => ?_, fun h => ?_⟩
  · obtain ⟨c, q, h1, rfl⟩ := hv
    exact FP.Core.zmag_roundRatio_le FP.Core.good_b64 hB h1 (fun h => by cases h) h0 h0e (by rw [Nat.mul_assoc]; exact h)
  · obtain ⟨c, q, h1, rfl⟩ := hv
    exact FP.Core.zmag_roundRatio_ge FP.Core.good_b64 hB h1 h0 h0e (by rw [Nat.mul_assoc]; exact h)
  · obtain ⟨c, q, h1, rfl⟩ := hv
    rcases FP.Core.roundRatio_cases FP.Core.b64 s A B e with ⟨c2, q2, hR⟩ | hR
    · have hd := FP.Core.roundRatio_nearest FP.Core.good_b64 hB hR h1.1 h1.2.1 h0 h0e
      have hfit := FP.Core.roundRatio_fits FP.Core.good_b64 s A hB e
      rw [hR] at hfit ⊢
      unfold FP.Core.distance at hd
      rw [FP.Core.units_fin hfit h0, FP.Core.units_fin h1 h0] at hd
      simp only [← Nat.mul_assoc]
      simp only [Int.natCast_mul] at hd ⊢
      exact hd
    · rw [hR] at hz
      exact absurd hz (Nat.lt_irrefl _)
  · rw [FP.Core.roundRatio_small FP.Core.good_b64 hB h0 h0e h]
    exact Nat.zero_mul _
