/-! ===== a board's reckonings ===== -/
theorem i2d_n {n : Nat} (h : n < 2 ^ 31) : Zv (FP.i2d (nI n)) = ((n * 2 ^ 1074 : Nat) : Int) ∧ FP.Core.DFin (FP.i2d (nI n)) ∧ Zm (FP.i2d (nI n)) = n * 2 ^ 1074 := by
  have h1 := FP.Core.DInt_zval (FP.Core.i2d_int (nI n))
  rw [nI_toInt h] at h1
  have h2 : Zv (FP.i2d (nI n)) = ((n * 2 ^ 1074 : Nat) : Int) := by
    show FP.Core.zval FP.Core.b64 (FP.Core.val64 (FP.Core.i2d (nI n))) = _
    rw [h1, Int.natCast_mul]; rfl
  have h3 := zv_abs (FP.i2d (nI n))
  rw [h2, Int.natAbs_natCast] at h3
  exact ⟨h2, FP.Core.i2d_fin _, h3.symm⟩
theorem b_sum {g : Nat → UInt64} {n : Nat} (hg : ∀ i, i < n → Ab (2 ^ 1076) (g i)) (hn : n ≤ 16) : ∀ i, i ≤ n → Ab (i * 2 ^ 1076) (sumD g i)
  | 0, _ => by rw [Nat.zero_mul]; exact (kp k_0).ab
  | i + 1, hi => (b_sum hg hn i (by omega)).add (hg i hi) (rep_mul 1076 (by omega) (by decide)) (by rw [Nat.add_mul, Nat.one_mul]; exact Nat.le_refl _)
theorem b_mean {g : Nat → UInt64} {n : Nat} (hg : ∀ i, i < n → Ab (2 ^ 1076) (g i)) (hn : n ≤ 16) (h1 : 1 ≤ n) : (∀ i, i < n → vf_n64 (FP.dadd (sumD g i) (g i))) ∧ vf_n64 (FP.ddiv (sumD g n) (FP.i2d (nI n))) ∧ Ab (2 ^ 1080) (sp_mean g n) := by
  obtain ⟨-, f2, f3⟩ := i2d_n (n := n) (by omega)
  have h2 : Ab (2 ^ 1080) (sumD g n) := (b_sum hg hn n (Nat.le_refl n)).mono (Nat.le_trans (Nat.mul_le_mul_right _ hn) (by decide +kernel))
  have h3 : Ab (2 ^ 1080) (sp_mean g n) := h2.div f2 (m := 2 ^ 1074) (by rw [f3]; exact Nat.le_mul_of_pos_left _ h1) (Nat.two_pow_pos _) (rep_pow 1080 (by decide)) (by unfold E64; exact Nat.le_refl _)
  exact ⟨fun i hi => (b_sum hg hn (i + 1) hi).n, h3.n, h3⟩
/-- the cut wetness, and what a layer shrinks -/
theorem b_cut {x : UInt64} (h : Np (2 ^ 1076) x) : Np (5 * 2 ^ 1070) (sp_cut x) ∧ Zv (sp_cut x) ≤ ((5 * 2 ^ 1070 : Nat) : Int) := by
  have z := k_3125.1.zv
  rw [k_3125.2] at z
  unfold sp_cut
  split
  · rename_i q
    have q1 : Zv x < Zv 4599301119452119040 := (FP.Core.dcmp_lt.mp q).2.2
    have q2 := zv_abs x
    have q3 := h.2.1
    exact ⟨⟨h.1, h.2.1, by omega⟩, by omega⟩
  · exact ⟨kp k_3125, by rw [z]; exact Int.le_refl _⟩
theorem b_shr {x : UInt64} (h : Np (2 ^ 1076) x) : vf_n64 (FP.dsub 4599301119452119040 (sp_cut x)) ∧ vf_n64 (FP.dmul 4598175219545276416 (FP.dsub 4599301119452119040 (sp_cut x))) ∧ Np (2 ^ 1074) (sp_shr x) ∧ Nn (sp_shr x) := by
  obtain ⟨c1, c2⟩ := b_cut h
  have z := k_3125.1.zv
  rw [k_3125.2] at z
  have a1 : Ab (2 ^ 1074) (FP.dsub 4599301119452119040 (sp_cut x)) := (kp k_3125).ab.sub c1.ab (rep_pow 1074 (by decide)) (by decide +kernel)
  have a2 : Nn (FP.dsub 4599301119452119040 (sp_cut x)) := by
    have f := a1.1
    rw [sub_add_neg c1.1] at f ⊢
    exact k_3125.1.add (fin_neg c1.1) (by rw [zv_neg, z]; omega) f
  have a3 : Np (2 ^ 1074) (FP.dmul 4598175219545276416 (FP.dsub 4599301119452119040 (sp_cut x))) := (kp k_q).mul (a2.np a1.2) (rep_pow 1074 (by decide)) (by unfold E64; decide +kernel)
  exact ⟨a1.n, a3.ab.n, a3, k_q.1.mul a2 a3.1⟩
theorem b_load {g : Nat → UInt64} {n : Nat} (hg : ∀ i, i < n → Np (2 ^ 1076) (g i)) (hn : n ≤ 16) (h1 : 1 ≤ n) : (∀ i, i < n → vf_n64 (FP.dsub 4599301119452119040 (sp_cut (g i)))) ∧ (∀ i, i < n → vf_n64 (FP.dmul 4598175219545276416 (FP.dsub 4599301119452119040 (sp_cut (g i))))) ∧ (∀ i, i < n → vf_n64 (FP.dadd (sumD (fun j => sp_shr (g j)) i) (sp_shr (g i)))) ∧ vf_n64 (FP.ddiv (sumD (fun j => sp_shr (g j)) n) (FP.i2d (nI n))) ∧ (∀ i, i < n → vf_n64 (FP.dsub (sp_shr (g i)) (sp_mshr g n))) := by
  have hs : ∀ i, i < n → Ab (2 ^ 1076) ((fun j => sp_shr (g j)) i) := fun i hi => ((b_shr (hg i hi)).2.2.1.ab.mono (by decide +kernel))
  obtain ⟨m1, m2, m3⟩ := b_mean hs hn h1
  refine ⟨fun i hi => (b_shr (hg i hi)).1, fun i hi => (b_shr (hg i hi)).2.1, m1, m2, fun i hi => ?_⟩
  exact ((hs i hi).sub m3 (rep_pow 1081 (by decide)) (by decide +kernel)).n
/-- the greatest wetness -/
theorem b_max {g : Nat → UInt64} {b : Nat} : ∀ (n : Nat), (∀ i, i < n → Nn (g i) ∧ Zm (g i) ≤ b) → Nn (maxD g n) ∧ Zm (maxD g n) ≤ b ∧ ∀ i, i < n → Zm (g i) ≤ Zm (maxD g n)
  | 0, _ => ⟨k_0.1, by rw [show maxD g 0 = FP.dconst0 from rfl, k_0.2]; exact Nat.zero_le _, fun i h => absurd h (Nat.not_lt_zero i)⟩
  | n + 1, h => by
    obtain ⟨h1, h2, h3⟩ := b_max n (fun i hi => h i (by omega))
    obtain ⟨h4, h5⟩ := h n (Nat.lt_succ_self n)
    show Nn (if FP.dcmp (g n) (maxD g n) = some .gt then g n else maxD g n) ∧ Zm (if FP.dcmp (g n) (maxD g n) = some .gt then g n else maxD g n) ≤ b ∧ ∀ i, i < n + 1 → Zm (g i) ≤ Zm (if FP.dcmp (g n) (maxD g n) = some .gt then g n else maxD g n)
    by_cases q : FP.dcmp (g n) (maxD g n) = some .gt
    · rw [if_pos q]
      have q1 : Zv (maxD g n) < Zv (g n) := (FP.Core.dcmp_gt.mp q).2.2
      rw [h1.zv, h4.zv] at q1
      refine ⟨h4, h5, fun i hi => ?_⟩
      rcases Nat.lt_succ_iff_lt_or_eq.mp hi with hi | rfl
      · exact Nat.le_trans (h3 i hi) (by omega)
      · exact Nat.le_refl _
    · rw [if_neg q]
      refine ⟨h1, h2, fun i hi => ?_⟩
      rcases Nat.lt_succ_iff_lt_or_eq.mp hi with hi | rfl
      · exact h3 i hi
      · refine Nat.le_of_not_lt fun hlt => q ?_
        refine FP.Core.dcmp_gt.mpr ⟨fin_ne h4.1, fin_ne h1.1, ?_⟩
        show Zv (maxD g i) < Zv (g i)
        rw [h1.zv, h4.zv]; omega
/-- A + B * w -/
theorem b_speed {a b w : UInt64} (ha : Np (2 ^ 1077) a) (hb : Np (2 ^ 1077) b) (hw : Np (2 ^ 1076) w) : vf_n64 (FP.dmul b w) ∧ vf_n64 (sp_speed a b w) ∧ Np (2 ^ 1079) (FP.dmul b w) ∧ Np (2 ^ 1080) (sp_speed a b w) := by
  have a1 : Np (2 ^ 1079) (FP.dmul b w) := hb.mul hw (rep_pow 1079 (by decide)) (by unfold E64; decide +kernel)
  have a2 : Np (2 ^ 1080) (sp_speed a b w) := ha.add a1 (rep_pow 1080 (by decide)) (by decide +kernel)
  exact ⟨a1.ab.n, a2.ab.n, a1, a2⟩
theorem speed_mono {a b v w : UInt64} (ha : Np (2 ^ 1077) a) (hb : Np (2 ^ 1077) b) (hv : Np (2 ^ 1076) v) (hw : Np (2 ^ 1076) w) (h : Zm v ≤ Zm w) : Zm (sp_speed a b v) ≤ Zm (sp_speed a b w) := by
  obtain ⟨-, -, v1, v2⟩ := b_speed ha hb hv
  obtain ⟨-, -, w1, w2⟩ := b_speed ha hb hw
  have m1 : Zm (FP.dmul b v) ≤ Zm (FP.dmul b w) := by
    have t1 := (rep_zm v1.1).lt
    have t2 := (rep_zm w1.1).lt
    rw [zr_mul hb.1 hv.1] at t1 ⊢
    rw [zr_mul hb.1 hw.1] at t2 ⊢
    exact zr_mono E64_pos (Nat.mul_le_mul_left _ h) t1 t2
  have t1 := (rep_zm v2.1).lt
  have t2 := (rep_zm w2.1).lt
  unfold sp_speed at t1 t2 ⊢
  rw [zr_addp ha v1] at t1 ⊢
  rw [zr_addp ha w1] at t2 ⊢
  exact zr_mono (by decide) (Nat.add_le_add_left m1 _) t1 t2
/-- the two divisors -/
theorem b_dep {dep : UInt64} (h : GD dep) : (vf_n64 (FP.dmul 4620693217682128896 dep) ∧ Np (2 ^ 1086) (FP.dmul 4620693217682128896 dep) ∧ 2 ^ 1073 ≤ Zm (FP.dmul 4620693217682128896 dep)) ∧ vf_n64 (FP.dmul dep dep) ∧ Np (2 ^ 1092) (FP.dmul dep dep) ∧ 2 ^ 1066 ≤ Zm (FP.dmul dep dep) := by
  obtain ⟨h1, h2⟩ := h
  have a1 : Np (2 ^ 1086) (FP.dmul 4620693217682128896 dep) := (kp k_8).mul h1 (rep_pow 1086 (by decide)) (by unfold E64; decide +kernel)
  have a2 : Np (2 ^ 1092) (FP.dmul dep dep) := h1.mul h1 (rep_pow 1092 (by decide)) (by unfold E64; decide +kernel)
  have r1 := (rd_mul k_8.1.1 h1.1).1.2.1 (2 ^ 1073) (rep_pow 1073 (by decide)) (by
    rw [k_8.2]
    exact Nat.le_trans (by unfold E64; decide +kernel) (Nat.mul_le_mul_left (2 ^ 1077) h2))
  have r2 := (rd_mul h1.1 h1.1).1.2.1 (2 ^ 1066) (rep_pow 1066 (by decide)) (Nat.le_trans (by unfold E64; decide +kernel) (Nat.mul_le_mul h2 h2))
  exact ⟨⟨a1.ab.n, a1, r1⟩, a2.ab.n, a2, r2⟩
/-- what 'refuses' asks -/
theorem b_ref {spd dep a b w : UInt64} (hs : Np (2 ^ 1078) spd) (hd : GD dep) (ha : Np (2 ^ 1077) a) (hb : Np (2 ^ 1077) b) (hw : Np (2 ^ 1076) w) : vf_n64 (FP.ddiv spd (FP.dmul 4620693217682128896 dep)) ∧ vf_n64 (FP.ddiv (sp_speed a b w) (FP.dmul dep dep)) ∧ Np (2 ^ 1090) (FP.ddiv spd (FP.dmul 4620693217682128896 dep)) ∧ Np (2 ^ 1090) (FP.ddiv (sp_speed a b w) (FP.dmul dep dep)) := by
  obtain ⟨⟨-, d1, d2⟩, -, d3, d4⟩ := b_dep hd
  have a1 : Np (2 ^ 1090) (FP.ddiv spd (FP.dmul 4620693217682128896 dep)) := hs.div d1.1 d1.2.1 d2 (Nat.two_pow_pos _) (rep_pow 1090 (by decide)) (by unfold E64; decide +kernel)
  have a2 : Np (2 ^ 1090) (FP.ddiv (sp_speed a b w) (FP.dmul dep dep)) := (b_speed ha hb hw).2.2.2.div d3.1 d3.2.1 d4 (Nat.two_pow_pos _) (rep_pow 1090 (by decide)) (by unfold E64; decide +kernel)
  exact ⟨a1.ab.n, a2.ab.n, a1, a2⟩
theorem not_gt_q {x : UInt64} {b : Nat} (hx : Np b x) (h : ¬ FP.dcmp x 4598175219545276416 = some .gt) : Zm x ≤ 2 ^ 1072 := by
  refine Nat.le_of_not_lt fun q => h ?_
  refine FP.Core.dcmp_gt.mpr ⟨fin_ne hx.1, fin_ne k_q.1.1, ?_⟩
  show Zv 4598175219545276416 < Zv x
  rw [k_q.1.zv, k_q.2, hx.zv]; omega
theorem quarter {c D : UInt64} {b : Nat} (hc : FP.Core.DFin c) (hD : FP.Core.DFin D) (hD0 : 0 < Zm D) (hx : Np b (FP.ddiv c D)) (h : ¬ FP.dcmp (FP.ddiv c D) 4598175219545276416 = some .gt) : 4 * Zm c ≤ Zm D := by
  obtain ⟨m1, k1, z1, z2, -, -⟩ := zm_form hc
  obtain ⟨m2, k2, y1, y2, -, y4⟩ := zm_form hD
  exact quarter_nat ⟨m1, k1, z1, z2⟩ ⟨m2, k2, y1, y2, y4⟩ (rd_div hc hD hD0).1 (not_gt_q hx h)
