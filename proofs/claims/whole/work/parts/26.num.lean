/-! ===== each reckoning: no NaN, and where its answer lies (units: one is 2^1074) ===== -/
theorem rep_pow (k : Nat) (h : k ≤ 2045) : Rep (2 ^ k) := by
  have h1 := rep_mul (m := 1) k (by decide) h
  rwa [Nat.one_mul] at h1
theorem fin_c {x : UInt64} (h : x.toNat % 2 ^ 63 < 9218868437227405312) : FP.Core.DFin x := (FP.Core.fin_bits x).mpr h
theorem k_0 : Nn FP.dconst0 ∧ Zm FP.dconst0 = 0 := ⟨⟨fin_c (by decide), by decide +kernel⟩, by decide +kernel⟩
theorem k_1 : Nn FP.dconst1 ∧ Zm FP.dconst1 = 2 ^ 1074 := ⟨⟨fin_c (by decide), by decide +kernel⟩, by decide +kernel⟩
theorem k_q : Nn 4598175219545276416 ∧ Zm 4598175219545276416 = 2 ^ 1072 := ⟨⟨fin_c (by decide), by decide +kernel⟩, by decide +kernel⟩
theorem k_375 : Nn 4600427019358961664 ∧ Zm 4600427019358961664 = 3 * 2 ^ 1071 := ⟨⟨fin_c (by decide), by decide +kernel⟩, by decide +kernel⟩
theorem k_273 : Nn 4643510282981736448 ∧ Zm 4643510282981736448 = 273 * 2 ^ 1074 := ⟨⟨fin_c (by decide), by decide +kernel⟩, by decide +kernel⟩
theorem k_256 : Nn 4643211215818981376 ∧ Zm 4643211215818981376 = 2 ^ 1082 := ⟨⟨fin_c (by decide), by decide +kernel⟩, by decide +kernel⟩
theorem k_3125 : Nn 4599301119452119040 ∧ Zm 4599301119452119040 = 5 * 2 ^ 1070 := ⟨⟨fin_c (by decide), by decide +kernel⟩, by decide +kernel⟩
theorem k_65536 : Nn 4679240012837945344 ∧ Zm 4679240012837945344 = 2 ^ 1090 := ⟨⟨fin_c (by decide), by decide +kernel⟩, by decide +kernel⟩
theorem k_8 : Nn 4620693217682128896 ∧ Zm 4620693217682128896 = 2 ^ 1077 := ⟨⟨fin_c (by decide), by decide +kernel⟩, by decide +kernel⟩
theorem k_64 : Nn 4634204016564240384 ∧ Zm 4634204016564240384 = 2 ^ 1080 := ⟨⟨fin_c (by decide), by decide +kernel⟩, by decide +kernel⟩
theorem k_2 : Nn 4611686018427387904 ∧ Zm 4611686018427387904 = 2 ^ 1075 := ⟨⟨fin_c (by decide), by decide +kernel⟩, by decide +kernel⟩
theorem k_100 : Nn 4636737291354636288 ∧ Zm 4636737291354636288 = 100 * 2 ^ 1074 := ⟨⟨fin_c (by decide), by decide +kernel⟩, by decide +kernel⟩
theorem kp {x : UInt64} {b : Nat} (h : Nn x ∧ Zm x = b) : Np b x := h.1.np (Nat.le_of_eq h.2)
def GA (kel damp spd vent : UInt64) : Prop := (Np (400 * 2 ^ 1074) kel ∧ 250 * 2 ^ 1074 ≤ Zm kel) ∧ Np (2 ^ 1074) damp ∧ Np (2 ^ 1078) spd ∧ Np (2 ^ 1074) vent
def GD (dep : UInt64) : Prop := Np (400 * 2 ^ 1074) dep ∧ 2 ^ 1070 ≤ Zm dep
/-- balance -/
theorem b_bal {kel damp spd vent : UInt64} (h : GA kel damp spd vent) : vf_n64 (FP.dmul 4600427019358961664 damp) ∧ vf_n64 (FP.dsub kel 4643510282981736448) ∧ vf_n64 (FP.ddiv (FP.dsub kel 4643510282981736448) 4643211215818981376) ∧ vf_n64 (FP.dsub FP.dconst1 (FP.ddiv (FP.dsub kel 4643510282981736448) 4643211215818981376)) ∧ vf_n64 (sp_bal kel damp) ∧ Np (2 ^ 1074) (sp_bal kel damp) := by
  obtain ⟨⟨hk, hk2⟩, hd, -, -⟩ := h
  have a1 : Np (2 ^ 1074) (FP.dmul 4600427019358961664 damp) := (kp k_375).mul hd (rep_pow 1074 (by decide)) (by unfold E64; exact Nat.mul_le_mul_right _ (by decide +kernel))
  have z273 : Zv 4643510282981736448 = ((273 * 2 ^ 1074 : Nat) : Int) := by rw [k_273.1.zv, k_273.2]
  have zk := hk.zv
  have bk := hk.2.2
  have c1 := sub_le hk.1 k_273.1.1 (v := ((2 ^ 1081 : Nat) : Int)) (by rw [Int.natAbs_natCast]; exact rep_pow 1081 (by decide)) (by
    rw [z273, zk]
    have : 400 * 2 ^ 1074 ≤ 273 * 2 ^ 1074 + 2 ^ 1081 := by decide +kernel
    omega)
  have c2 := sub_ge hk.1 k_273.1.1 (v := -((2 ^ 1081 : Nat) : Int)) (by rw [Int.natAbs_neg, Int.natAbs_natCast]; exact rep_pow 1081 (by decide)) (by
    rw [z273, zk]
    have : 273 * 2 ^ 1074 ≤ 250 * 2 ^ 1074 + 2 ^ 1081 := by decide +kernel
    omega)
  have f2 : FP.Core.val64 (FP.dsub kel 4643510282981736448) ≠ .nan := by rw [sub_add_neg k_273.1.1]; exact add_ne_nan hk.1 (fin_neg k_273.1.1)
  have m2 : Zm (FP.dsub kel 4643510282981736448) ≤ 2 ^ 1081 := by
    have := zv_abs (FP.dsub kel 4643510282981736448)
    omega
  have a2 : Ab (2 ^ 1081) (FP.dsub kel 4643510282981736448) := ⟨fin_le f2 m2 (rep_pow 1081 (by decide)).lt, m2⟩
  have a3 : Ab (2 ^ 1074) (FP.ddiv (FP.dsub kel 4643510282981736448) 4643211215818981376) := a2.div k_256.1.1 (m := 2 ^ 1082) (Nat.le_of_eq k_256.2.symm) (Nat.two_pow_pos _) (rep_pow 1074 (by decide)) (by unfold E64; decide +kernel)
  have a4 : Ab (2 ^ 1075) (FP.dsub FP.dconst1 (FP.ddiv (FP.dsub kel 4643510282981736448) 4643211215818981376)) := (kp k_1).ab.sub a3 (rep_pow 1075 (by decide)) (by decide +kernel)
  have a5 : Np (2 ^ 1075) (FP.dsub FP.dconst1 (FP.ddiv (FP.dsub kel 4643510282981736448) 4643211215818981376)) := ⟨a4.1, sub_ge k_1.1.1 a3.1 (v := 0) rep_0 (by
    have e1 : Zv FP.dconst1 = ((2 ^ 1074 : Nat) : Int) := by rw [k_1.1.zv, k_1.2]
    have e2 := zv_abs (FP.ddiv (FP.dsub kel 4643510282981736448) 4643211215818981376)
    have e3 := a3.2
    omega), a4.2⟩
  have a1' : Np (3 * 2 ^ 1071) (FP.dmul 4600427019358961664 damp) := (kp k_375).mul hd (rep_mul 1071 (by decide) (by decide)) (by unfold E64; exact Nat.le_refl _)
  have a6 : Np (2 ^ 1074) (sp_bal kel damp) := a1'.mul a5 (rep_pow 1074 (by decide)) (by unfold E64; decide +kernel)
  exact ⟨a1.ab.n, a2.n, a3.n, a4.n, a6.ab.n, a6⟩
/-- DAMP takes up WATER -/
theorem b_take {damp vent water : UInt64} (hd : Np (2 ^ 1074) damp) (hv : Np (2 ^ 1074) vent) (hw : Ab (2 ^ 1092) water) : vf_n64 (FP.ddiv water 4679240012837945344) ∧ vf_n64 (FP.dsub FP.dconst1 vent) ∧ vf_n64 (FP.dmul (FP.ddiv water 4679240012837945344) (FP.dsub FP.dconst1 vent)) ∧ vf_n64 (sp_damp1 damp vent water) ∧ Np (2 ^ 1074) (sp_damp damp vent water) := by
  have a1 : Ab (2 ^ 1076) (FP.ddiv water 4679240012837945344) := hw.div k_65536.1.1 (m := 2 ^ 1090) (Nat.le_of_eq k_65536.2.symm) (Nat.two_pow_pos _) (rep_pow 1076 (by decide)) (by unfold E64; decide +kernel)
  have a2 : Ab (2 ^ 1075) (FP.dsub FP.dconst1 vent) := (kp k_1).ab.sub hv.ab (rep_pow 1075 (by decide)) (by decide +kernel)
  have a3 : Ab (2 ^ 1077) (FP.dmul (FP.ddiv water 4679240012837945344) (FP.dsub FP.dconst1 vent)) := a1.mul a2 (rep_pow 1077 (by decide)) (by unfold E64; decide +kernel)
  have a4 : Ab (2 ^ 1078) (sp_damp1 damp vent water) := hd.ab.add a3 (rep_pow 1078 (by decide)) (by decide +kernel)
  have z0 : Zv FP.dconst0 = 0 := by rw [k_0.1.zv, k_0.2]; rfl
  have z1 : Zv FP.dconst1 = ((2 ^ 1074 : Nat) : Int) := by rw [k_1.1.zv, k_1.2]
  have a5 : FP.Core.DFin (sp_lo (sp_damp1 damp vent water)) ∧ 0 ≤ Zv (sp_lo (sp_damp1 damp vent water)) := by
    unfold sp_lo
    split
    · exact ⟨k_0.1.1, by rw [z0]; exact Int.le_refl 0⟩
    · rename_i h
      refine ⟨a4.1, Int.not_lt.mp fun q => h ?_⟩
      exact FP.Core.dcmp_lt.mpr ⟨fin_ne a4.1, fin_ne k_0.1.1, by show Zv _ < Zv FP.dconst0; rw [z0]; exact q⟩
  refine ⟨a1.n, a2.n, a3.n, a4.n, ?_⟩
  show Np _ (sp_hi (sp_lo (sp_damp1 damp vent water)))
  unfold sp_hi
  split
  · exact kp k_1
  · rename_i h
    refine ⟨a5.1, a5.2, Nat.le_of_not_lt fun q => h ?_⟩
    refine FP.Core.dcmp_gt.mpr ⟨fin_ne a5.1, fin_ne k_1.1.1, ?_⟩
    show Zv FP.dconst1 < Zv _
    have := zv_abs (sp_lo (sp_damp1 damp vent water))
    have := a5.2
    rw [z1]; omega
theorem ab_sub {x y : UInt64} {z : Nat} (hx : FP.Core.DFin x) (hy : FP.Core.DFin y) (hz : Rep z) (h : (Zv x - Zv y).natAbs ≤ z) : Ab z (FP.dsub x y) := by
  have c1 := sub_le hx hy (v := (z : Int)) (by rw [Int.natAbs_natCast]; exact hz) (by omega)
  have c2 := sub_ge hx hy (v := -(z : Int)) (by rw [Int.natAbs_neg, Int.natAbs_natCast]; exact hz) (by omega)
  have f2 : FP.Core.val64 (FP.dsub x y) ≠ .nan := by rw [sub_add_neg hy]; exact add_ne_nan hx (fin_neg hy)
  have m2 : Zm (FP.dsub x y) ≤ z := by
    have := zv_abs (FP.dsub x y)
    omega
  exact ⟨fin_le f2 m2 hz.lt, m2⟩
theorem d2l_small {x : UInt64} (hx : FP.Core.DFin x) (hq : Zm x / FP.Core.one64 ≤ 524288) : (FP.Core.d2l x).toInt = FP.Core.signed (FP.Core.sgn (FP.Core.val64 x)) (Zm x / FP.Core.one64) := by
  rw [FP.Core.d2l_val (fin_ne hx)]
  have hq2 : FP.Core.zmag FP.Core.b64 (FP.Core.val64 x) / FP.Core.one64 ≤ 524288 := hq
  show max _ (min _ (FP.Core.signed (FP.Core.sgn (FP.Core.val64 x)) (FP.Core.zmag FP.Core.b64 (FP.Core.val64 x) / FP.Core.one64))) = FP.Core.signed (FP.Core.sgn (FP.Core.val64 x)) (FP.Core.zmag FP.Core.b64 (FP.Core.val64 x) / FP.Core.one64)
  generalize FP.Core.zmag FP.Core.b64 (FP.Core.val64 x) / FP.Core.one64 = k at hq2
  generalize FP.Core.sgn (FP.Core.val64 x) = sg
  cases sg <;> simp only [FP.Core.signed, if_true, Bool.false_eq_true, if_false] <;> omega
theorem rest_key {x : UInt64} (hx : FP.Core.DFin x) (hq : Zm x / FP.Core.one64 ≤ 524288) : (Zv x - Zv (FP.Core.l2d (FP.Core.d2l x))).natAbs ≤ FP.Core.one64 := by
  have hs := d2l_small hx hq
  have hsm : (FP.Core.d2l x).toInt.natAbs ≤ 2 ^ 53 := by
    rw [hs, FP.Core.natAbs_signed]
    exact Nat.le_trans hq (by decide)
  have hz : Zv (FP.Core.l2d (FP.Core.d2l x)) = _ := FP.Core.DInt_zval (FP.Core.l2d_int hsm)
  rw [hz, hs, ← FP.Core.signed_mul]
  have hdm := Nat.div_add_mod (Zm x) FP.Core.one64
  have hml := Nat.mod_lt (Zm x) FP.Core.one64_pos
  rw [Nat.mul_comm] at hdm
  generalize Zm x / FP.Core.one64 * FP.Core.one64 = k at *
  cases hsg : FP.Core.sgn (FP.Core.val64 x) with
  | false =>
    rw [zv_sgn hsg]
    simp only [FP.Core.signed, Bool.false_eq_true, if_false]
    omega
  | true =>
    rw [zv_sgn' hsg]
    simp only [FP.Core.signed, if_true]
    omega
theorem one_le {x : UInt64} (h : Zm x ≤ 2 ^ 1093) : Zm x / FP.Core.one64 ≤ 524288 := by
  refine Nat.le_trans (Nat.div_le_div_right h) ?_
  unfold FP.Core.one64
  decide +kernel
/-- REST and GONE -/
theorem b_led {rest water : UInt64} (hr : Ab (2 ^ 1074) rest) (hw : Ab (2 ^ 1092) water) : vf_n64 (FP.dadd rest water) ∧ vf_n64 (FP.dsub (FP.dadd rest water) (FP.l2d (FP.d2l (FP.dadd rest water)))) ∧ Ab (2 ^ 1074) (FP.dsub (FP.dadd rest water) (FP.l2d (FP.d2l (FP.dadd rest water)))) := by
  have a1 : Ab (2 ^ 1093) (FP.dadd rest water) := hr.add hw (rep_pow 1093 (by decide)) (by decide +kernel)
  have a2 := ab_sub a1.1 (FP.Core.l2d_fin (FP.Core.d2l (FP.dadd rest water))) (rep_pow 1074 (by decide)) (rest_key a1.1 (one_le a1.2))
  exact ⟨a1.n, a2.n, a2⟩
