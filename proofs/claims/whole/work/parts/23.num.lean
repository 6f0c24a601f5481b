/-! ===== bounds: Ab b x: finite, at most b units away from 0; Nn x: not below 0 and no sign ===== -/
def Ab (b : Nat) (x : UInt64) : Prop := FP.Core.DFin x ∧ Zm x ≤ b
theorem n64_of_fin {x : UInt64} (h : FP.Core.DFin x) : vf_n64 x := by
  have h1 := (FP.Core.fin_bits x).mp h
  unfold vf_n64
  rw [UInt64.le_iff_toNat_le, FP.Core.mask_toNat]
  exact Nat.le_of_lt h1
theorem Ab.n {b : Nat} {x : UInt64} (h : Ab b x) : vf_n64 x := n64_of_fin h.1
theorem Ab.mono {b d : Nat} {x : UInt64} (h : Ab b x) (hd : b ≤ d) : Ab d x := ⟨h.1, Nat.le_trans h.2 hd⟩
theorem zv_abs (x : UInt64) : (Zv x).natAbs = Zm x := by
  unfold Zv FP.Core.zval
  exact FP.Core.natAbs_signed _ _
theorem fin_ne {x : UInt64} (h : FP.Core.DFin x) : FP.Core.val64 x ≠ .nan := h.ne_nan
/-- a number of units, with its sign -/
theorem repI_form {v : Int} (h : Rep v.natAbs) : ∃ V : FP.Core.Datum, FP.Core.fits FP.Core.b64 V ∧ V ≠ .nan ∧ FP.Core.zval FP.Core.b64 V = v := by
  obtain ⟨c, q, h1, h2⟩ := h
  refine ⟨.fin (decide (v < 0)) c q, h1, (fun h => by cases h), ?_⟩
  show FP.Core.signed (decide (v < 0)) (FP.Core.zmag FP.Core.b64 (.fin false c q)) = v
  rw [h2]
  unfold FP.Core.signed
  by_cases hv : v < 0
  · rw [decide_eq_true hv, if_pos rfl]; omega
  · rw [decide_eq_false hv, if_neg (by decide)]; omega
theorem add_ne_nan {x y : UInt64} (hx : FP.Core.DFin x) (hy : FP.Core.DFin y) : FP.Core.val64 (FP.dadd x y) ≠ .nan := by
  intro h
  have h1 := (FP.Core.dIsNaN_iff _).mpr h
  rw [FP.Core.dadd_out hx.notNaN hy] at h1
  cases h1
theorem add_le {x y : UInt64} (hx : FP.Core.DFin x) (hy : FP.Core.DFin y) {v : Int} (hv : Rep v.natAbs) (h : Zv x + Zv y ≤ v) : Zv (FP.dadd x y) ≤ v := by
  obtain ⟨V, h1, h2, h3⟩ := repI_form hv
  have := FP.Core.sum_le FP.Core.good_b64 hx hy (FP.Core.val64_fits x) (FP.Core.val64_fits y) h1 h2 (by rw [h3]; exact h)
  rw [← FP.Core.val64_dadd, h3] at this
  exact this
theorem add_ge {x y : UInt64} (hx : FP.Core.DFin x) (hy : FP.Core.DFin y) {v : Int} (hv : Rep v.natAbs) (h : v ≤ Zv x + Zv y) : v ≤ Zv (FP.dadd x y) := by
  obtain ⟨V, h1, h2, h3⟩ := repI_form hv
  have := FP.Core.sum_ge FP.Core.good_b64 hx hy (FP.Core.val64_fits x) (FP.Core.val64_fits y) h1 h2 (by rw [h3]; exact h)
  rw [← FP.Core.val64_dadd, h3] at this
  exact this
theorem zv_neg (x : UInt64) : Zv (FP.dneg x) = - Zv x := by
  unfold Zv
  rw [FP.val64_dneg, FP.Core.zval_negate]
theorem fin_neg {x : UInt64} (h : FP.Core.DFin x) : FP.Core.DFin (FP.dneg x) := by
  obtain ⟨s, c, q, h⟩ := h
  exact ⟨!s, c, q, by rw [FP.val64_dneg, h]; rfl⟩
theorem sub_add_neg {x y : UInt64} (hy : FP.Core.DFin y) : FP.dsub x y = FP.dadd x (FP.dneg y) := by
  rw [FP.dneg_core hy.notNaN]
  exact FP.Core.dsub_eq x y
theorem sub_le {x y : UInt64} (hx : FP.Core.DFin x) (hy : FP.Core.DFin y) {v : Int} (hv : Rep v.natAbs) (h : Zv x - Zv y ≤ v) : Zv (FP.dsub x y) ≤ v := by
  rw [sub_add_neg hy]
  exact add_le hx (fin_neg hy) hv (by rw [zv_neg]; omega)
theorem sub_ge {x y : UInt64} (hx : FP.Core.DFin x) (hy : FP.Core.DFin y) {v : Int} (hv : Rep v.natAbs) (h : v ≤ Zv x - Zv y) : v ≤ Zv (FP.dsub x y) := by
  rw [sub_add_neg hy]
  exact add_ge hx (fin_neg hy) hv (by rw [zv_neg]; omega)
theorem Ab.add {b d z : Nat} {x y : UInt64} (hx : Ab b x) (hy : Ab d y) (hz : Rep z) (h : b + d ≤ z) : Ab z (FP.dadd x y) := by
  have a1 := zv_abs x
  have a2 := zv_abs y
  have a3 := zv_abs (FP.dadd x y)
  have b1 := hx.2
  have b2 := hy.2
  have h1 := add_le hx.1 hy.1 (v := (z : Int)) (by rw [Int.natAbs_natCast]; exact hz) (by omega)
  have h2 := add_ge hx.1 hy.1 (v := -(z : Int)) (by rw [Int.natAbs_neg, Int.natAbs_natCast]; exact hz) (by omega)
  have h3 : Zm (FP.dadd x y) ≤ z := by omega
  exact ⟨fin_le (add_ne_nan hx.1 hy.1) h3 hz.lt, h3⟩
theorem Ab.neg {b : Nat} {x : UInt64} (hx : Ab b x) : Ab b (FP.dneg x) := by
  have a1 := zv_abs x
  have a2 := zv_abs (FP.dneg x)
  rw [zv_neg] at a2
  have := hx.2
  exact ⟨fin_neg hx.1, by omega⟩
theorem Ab.sub {b d z : Nat} {x y : UInt64} (hx : Ab b x) (hy : Ab d y) (hz : Rep z) (h : b + d ≤ z) : Ab z (FP.dsub x y) := by
  rw [sub_add_neg hy.1]
  exact hx.add hy.neg hz h
theorem Ab.mul {b d z : Nat} {x y : UInt64} (hx : Ab b x) (hy : Ab d y) (hz : Rep z) (h : b * d ≤ z * E64) : Ab z (FP.dmul x y) := by
  obtain ⟨h1, h2, -⟩ := rd_mul hx.1 hy.1
  have h3 := h1.1 z hz (Nat.le_trans (Nat.mul_le_mul hx.2 hy.2) h)
  exact ⟨fin_le h2 h3 hz.lt, h3⟩
theorem Ab.div {b m z : Nat} {x y : UInt64} (hx : Ab b x) (hy : FP.Core.DFin y) (hm : m ≤ Zm y) (hm0 : 0 < m) (hz : Rep z) (h : b * E64 ≤ z * m) : Ab z (FP.ddiv x y) := by
  obtain ⟨h1, h2, -⟩ := rd_div hx.1 hy (Nat.lt_of_lt_of_le hm0 hm)
  have h3 := h1.1 z hz (Nat.le_trans (Nat.mul_le_mul_right _ hx.2) (Nat.le_trans h (Nat.mul_le_mul_left z hm)))
  exact ⟨fin_le h2 h3 hz.lt, h3⟩
/-- not below 0, and without a sign (so not -0) -/
def Nn (x : UInt64) : Prop := FP.Core.DFin x ∧ FP.Core.sgn (FP.Core.val64 x) = false
theorem Nn.zv {x : UInt64} (h : Nn x) : Zv x = (Zm x : Int) := by
  show FP.Core.signed (FP.Core.sgn (FP.Core.val64 x)) _ = _
  rw [h.2]; rfl
theorem Nn.mul {x y : UInt64} (hx : Nn x) (hy : Nn y) (h : FP.Core.DFin (FP.dmul x y)) : Nn (FP.dmul x y) := by
  obtain ⟨-, -, h3⟩ := rd_mul hx.1 hy.1
  exact ⟨h, by rw [h3, hx.2, hy.2]; rfl⟩
theorem Nn.div {x y : UInt64} (hx : Nn x) (hy : Nn y) (h0 : 0 < Zm y) (h : FP.Core.DFin (FP.ddiv x y)) : Nn (FP.ddiv x y) := by
  obtain ⟨-, -, h3⟩ := rd_div hx.1 hy.1 h0
  exact ⟨h, by rw [h3, hx.2, hy.2]; rfl⟩
