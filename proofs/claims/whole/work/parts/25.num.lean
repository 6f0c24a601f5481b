/-! ===== flows and layers ===== -/
/-- finite, not below 0, at most b units -/
def Np (b : Nat) (x : UInt64) : Prop := FP.Core.DFin x ∧ 0 ≤ Zv x ∧ Zm x ≤ b
theorem Np.zv {b : Nat} {x : UInt64} (h : Np b x) : Zv x = (Zm x : Int) := by
  have := zv_abs x
  have := h.2.1
  omega
theorem Np.ab {b : Nat} {x : UInt64} (h : Np b x) : Ab b x := ⟨h.1, h.2.2⟩
theorem Np.mono {b d : Nat} {x : UInt64} (h : Np b x) (hd : b ≤ d) : Np d x := ⟨h.1, h.2.1, Nat.le_trans h.2.2 hd⟩
theorem Nn.np {x : UInt64} {b : Nat} (h : Nn x) (hb : Zm x ≤ b) : Np b x := ⟨h.1, by rw [h.zv]; omega, hb⟩
theorem zv_sgn {x : UInt64} (h : FP.Core.sgn (FP.Core.val64 x) = false) : Zv x = (Zm x : Int) := by
  show FP.Core.signed (FP.Core.sgn (FP.Core.val64 x)) _ = _
  rw [h]; rfl
theorem zv_sgn' {x : UInt64} (h : FP.Core.sgn (FP.Core.val64 x) = true) : Zv x = -(Zm x : Int) := by
  show FP.Core.signed (FP.Core.sgn (FP.Core.val64 x)) _ = _
  rw [h]; rfl
theorem sgn_of_pos {x : UInt64} (h : 0 ≤ Zv x) (h0 : 0 < Zm x) : FP.Core.sgn (FP.Core.val64 x) = false := by
  cases hs : FP.Core.sgn (FP.Core.val64 x) with
  | false => rfl
  | true => have := zv_sgn' hs; omega
theorem rd0 {P z : Nat} (h : Rd 0 P z) : z = 0 := h.2.2.2 (by omega)
theorem Np.mul {b d z : Nat} {x y : UInt64} (hx : Np b x) (hy : Np d y) (hz : Rep z) (h : b * d ≤ z * E64) : Np z (FP.dmul x y) := by
  have h1 := hx.ab.mul hy.ab hz h
  refine ⟨h1.1, ?_, h1.2⟩
  obtain ⟨r1, -, r3⟩ := rd_mul hx.1 hy.1
  by_cases hp : 0 < Zm x ∧ 0 < Zm y
  · rw [sgn_of_pos hx.2.1 hp.1, sgn_of_pos hy.2.1 hp.2] at r3
    rw [zv_sgn r3]; omega
  · have h0 : Zm x * Zm y = 0 := by
      rcases Nat.eq_zero_or_pos (Zm x) with q | q
      · rw [q, Nat.zero_mul]
      · rw [show Zm y = 0 by omega, Nat.mul_zero]
    rw [h0] at r1
    have h2 := rd0 r1
    have h3 := zv_abs (FP.dmul x y)
    omega
theorem Np.add {b d z : Nat} {x y : UInt64} (hx : Np b x) (hy : Np d y) (hz : Rep z) (h : b + d ≤ z) : Np z (FP.dadd x y) := by
  have h1 := hx.ab.add hy.ab hz h
  exact ⟨h1.1, add_ge hx.1 hy.1 (v := 0) rep_0 (by have := hx.2.1; have := hy.2.1; omega), h1.2⟩
theorem Np.div {b m z : Nat} {x y : UInt64} (hx : Np b x) (hy : FP.Core.DFin y) (hy0 : 0 ≤ Zv y) (hm : m ≤ Zm y) (hm0 : 0 < m) (hz : Rep z) (h : b * E64 ≤ z * m) : Np z (FP.ddiv x y) := by
  have h1 := hx.ab.div hy hm hm0 hz h
  refine ⟨h1.1, ?_, h1.2⟩
  obtain ⟨r1, -, r3⟩ := rd_div hx.1 hy (by omega)
  rcases Nat.eq_zero_or_pos (Zm x) with q | q
  · rw [q, Nat.zero_mul] at r1
    have h2 := rd0 r1
    have h3 := zv_abs (FP.ddiv x y)
    omega
  · rw [sgn_of_pos hx.2.1 q, sgn_of_pos hy0 (by omega)] at r3
    rw [zv_sgn r3]; omega
theorem zr_addp {b d : Nat} {x y : UInt64} (hx : Np b x) (hy : Np d y) : Zm (FP.dadd x y) = zr (Zm x + Zm y) 1 := by
  obtain ⟨sg, n, e, h1, h2, h3, -⟩ := add_form hx.1 hy.1
  show FP.Core.zmag _ (FP.Core.val64 (FP.dadd x y)) = _
  rw [h1, zmag_sign]
  unfold zr
  rw [hx.zv, hy.zv] at h3
  have h4 : n * 2 ^ (e - FP.Core.b64.qmin).toNat = Zm x + Zm y := by
    cases sg with
    | false =>
      have h6 : FP.Core.signed false (n * 2 ^ (e - FP.Core.b64.qmin).toNat) = ((n * 2 ^ (e - FP.Core.b64.qmin).toNat : Nat) : Int) := rfl
      rw [h6] at h3; omega
    | true =>
      have h6 : FP.Core.signed true (n * 2 ^ (e - FP.Core.b64.qmin).toNat) = -((n * 2 ^ (e - FP.Core.b64.qmin).toNat : Nat) : Int) := rfl
      rw [h6] at h3; omega
  rw [FP.Core.roundRatio_congr (A' := Zm x + Zm y) (B' := 1) (e' := FP.Core.b64.qmin) (by decide) (by decide) ?_]
  rw [Nat.mul_one, Nat.mul_one, h4, show (FP.Core.b64.qmin - e).toNat = 0 by omega, Nat.pow_zero, Nat.mul_one]
/-- a flow: at most half of the slope, and of its sign -/
theorem flow_half {c d D : UInt64} (hc : FP.Core.DFin c) (hc0 : 0 ≤ Zv c) (hd : FP.Core.DFin d) (hD : FP.Core.DFin D) (hD0 : 0 ≤ Zv D) (h4 : 4 * Zm c ≤ Zm D) (hDp : 0 < Zm D) (hP : FP.Core.DFin (FP.dmul c d)) (hF : FP.Core.DFin (FP.ddiv (FP.dmul c d) D)) :
    2 * Zm (FP.ddiv (FP.dmul c d) D) ≤ Zm d ∧ (0 ≤ Zv d → 0 ≤ Zv (FP.ddiv (FP.dmul c d) D)) ∧ (Zv d ≤ 0 → Zv (FP.ddiv (FP.dmul c d) D) ≤ 0) := by
  obtain ⟨r1, -, r3⟩ := rd_mul hc hd
  obtain ⟨q1, -, q3⟩ := rd_div hP hD hDp
  obtain ⟨m1, k1, z1, z2, z3, -⟩ := zm_form hd
  obtain ⟨m2, k2, y1, y2, y3, -⟩ := zm_form hP
  have hh := half_nat h4 ⟨m1, k1, z1, z2, z3⟩ r1 q1 (rep_zm hP).lt ⟨m2, k2, y1, y2, y3⟩ (rep_zm hF).lt
  have hz := zv_abs (FP.ddiv (FP.dmul c d) D)
  have hdz := zv_abs d
  rcases Nat.eq_zero_or_pos (Zm c) with q | q
  · rw [q, Nat.zero_mul] at r1
    have a1 := rd0 r1
    rw [a1, Nat.zero_mul] at q1
    have a2 := rd0 q1
    exact ⟨hh, fun _ => by omega, fun _ => by omega⟩
  · rw [sgn_of_pos hc0 q] at r3
    rw [r3, sgn_of_pos hD0 hDp] at q3
    refine ⟨hh, fun h => ?_, fun h => ?_⟩
    · cases hs : FP.Core.sgn (FP.Core.val64 d) with
      | false => rw [hs] at q3; rw [zv_sgn q3]; omega
      | true => have := zv_sgn' hs; omega
    · cases hs : FP.Core.sgn (FP.Core.val64 d) with
      | true => rw [hs] at q3; rw [zv_sgn' q3]; omega
      | false => have := zv_sgn hs; omega
/-- the grid: units of 2^-49 -/
def gG : Nat := 2 ^ 1025
theorem gG_pos : 0 < gG := Nat.two_pow_pos _
theorem rep_grid {K : Nat} (h : K < 2 ^ 53) : Rep (K * gG) := rep_mul 1025 h (by decide)
theorem grid_up {z K : Nat} (h : z ≤ K * gG) (hK : K + 1 < 2 ^ 53) : ∃ V, Rep V ∧ z ≤ V ∧ V ≤ z + gG := by
  refine ⟨(z + (gG - 1)) / gG * gG, rep_grid ?_, ?_, ?_⟩
  · have h1 : (z + (gG - 1)) / gG ≤ (K * gG + (gG - 1)) / gG := Nat.div_le_div_right (by omega)
    have h2 : (K * gG + (gG - 1)) / gG < K + 1 := by
      rw [Nat.div_lt_iff_lt_mul gG_pos, Nat.add_mul, Nat.one_mul]
      have := gG_pos
      omega
    omega
  · have h1 := Nat.div_add_mod (z + (gG - 1)) gG
    have h2 := Nat.mod_lt (z + (gG - 1)) gG_pos
    rw [Nat.mul_comm] at h1
    generalize (z + (gG - 1)) / gG * gG = v at *
    have := gG_pos
    omega
  · have h1 := Nat.div_mul_le_self (z + (gG - 1)) gG
    have := gG_pos
    omega
/-- a flow between x and y: what it can take from either, and give to either -/
theorem flow4 {x y F d : UInt64} {K : Nat} (hd : d = FP.dsub x y) (hx : Np (K * gG) x) (hy : Np (K * gG) y) (hK : K + 1 < 2 ^ 53) (h2 : 2 * Zm F ≤ Zm d) (hp : 0 ≤ Zv d → 0 ≤ Zv F) (hn : Zv d ≤ 0 → Zv F ≤ 0) :
    2 * Zv F ≤ Zm x ∧ -(2 * Zv F) ≤ (K * gG : Nat) - Zm x + gG ∧ -(2 * Zv F) ≤ Zm y ∧ 2 * Zv F ≤ (K * gG : Nat) - Zm y + gG := by
  subst hd
  have zx := hx.zv
  have zy := hy.zv
  have bx := hx.2.2
  have by_ := hy.2.2
  have aF := zv_abs F
  have aD := zv_abs (FP.dsub x y)
  rcases Int.le_total (Zv y) (Zv x) with h | h
  · have d0 := sub_ge hx.1 hy.1 (v := 0) rep_0 (by omega)
    have d1 := sub_le hx.1 hy.1 (v := Zv x) (by rw [zv_abs]; exact rep_zm hx.1) (by omega)
    obtain ⟨V, v1, v2, v3⟩ := grid_up (z := K * gG - Zm y) (K := K) (Nat.sub_le _ _) hK
    have d2 := sub_le hx.1 hy.1 (v := (V : Int)) (by rw [Int.natAbs_natCast]; exact v1) (by omega)
    have f0 := hp d0
    refine ⟨by omega, by omega, by omega, by omega⟩
  · have d0 := sub_le hx.1 hy.1 (v := 0) rep_0 (by omega)
    have d1 := sub_ge hx.1 hy.1 (v := -Zv y) (by rw [Int.natAbs_neg, zv_abs]; exact rep_zm hy.1) (by omega)
    obtain ⟨V, v1, v2, v3⟩ := grid_up (z := K * gG - Zm x) (K := K) (Nat.sub_le _ _) hK
    have d2 := sub_ge hx.1 hy.1 (v := -(V : Int)) (by rw [Int.natAbs_neg, Int.natAbs_natCast]; exact v1) (by omega)
    have f0 := hn d0
    refine ⟨by omega, by omega, by omega, by omega⟩
/-- a layer's new wetness -/
theorem layer_step {W gn lo : UInt64} {o1 o2 : Int} {K : Nat} (hW : Nn W) (hWM : Zm W ≤ K * gG) (hK : K + 4 < 2 ^ 53) (hgn : FP.Core.DFin gn) (hlo : FP.Core.DFin lo) (e1 : Zv gn = -o1) (e2 : Zv lo = o2)
    (h1 : 2 * o1 ≤ Zm W) (h1' : -(2 * o1) ≤ (K * gG : Nat) - Zm W + gG) (h2 : 2 * o2 ≤ Zm W) (h2' : -(2 * o2) ≤ (K * gG : Nat) - Zm W + gG) :
    FP.Core.DFin (FP.dadd W gn) ∧ Nn (FP.dsub (FP.dadd W gn) lo) ∧ Zm (FP.dsub (FP.dadd W gn) lo) ≤ (K + 2) * gG := by
  have zw := hW.zv
  have g0 := gG_pos
  have eK2 : (K + 2) * gG = K * gG + 2 * gG := Nat.add_mul _ _ _
  have eK3 : (K + 3) * gG = K * gG + 3 * gG := Nat.add_mul _ _ _
  have hs0 : 0 ≤ Zv W + Zv gn := by omega
  -- the first sum
  obtain ⟨V, v1, v2, v3⟩ := grid_up (z := (Zv W + Zv gn).toNat) (K := K + 3) (by omega) (by omega)
  have a1 := add_le hW.1 hgn (v := (V : Int)) (by rw [Int.natAbs_natCast]; exact v1) (by omega)
  have a0 := add_ge hW.1 hgn (v := 0) rep_0 hs0
  have aa := zv_abs (FP.dadd W gn)
  have fa : FP.Core.DFin (FP.dadd W gn) := fin_le (add_ne_nan hW.1 hgn) (z := V) (by omega) v1.lt
  have na := hW.add hgn hs0 fa
  -- the loss
  have a2 := add_ge hW.1 hgn (v := Zv lo) (by rw [zv_abs]; exact rep_zm hlo) (by omega)
  have b0 := sub_ge fa hlo (v := 0) rep_0 (by omega)
  have b1 := sub_le fa hlo (v := (((K + 2) * gG : Nat) : Int)) (by rw [Int.natAbs_natCast]; exact rep_grid (by omega)) (by omega)
  have bb := zv_abs (FP.dsub (FP.dadd W gn) lo)
  have hle : Zm (FP.dsub (FP.dadd W gn) lo) ≤ (K + 2) * gG := by omega
  have hnn : FP.Core.val64 (FP.dsub (FP.dadd W gn) lo) ≠ .nan := by rw [sub_add_neg hlo]; exact add_ne_nan fa (fin_neg hlo)
  have fb := fin_le hnn hle (rep_grid (K := K + 2) (by omega)).lt
  refine ⟨fa, ?_, hle⟩
  rw [sub_add_neg hlo] at fb ⊢
  exact na.add (fin_neg hlo) (by rw [zv_neg]; omega) fb
