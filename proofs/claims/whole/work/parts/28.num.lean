/-! ===== an hour of one board ===== -/
theorem rep_dbl {a : UInt64} (h : FP.Core.DFin a) (hb : Zm a ≤ 2 ^ 1076) : Rep (2 * Zm a) := by
  obtain ⟨m, k, h1, h2, h3, h4⟩ := zm_form h
  have hk : k + 1 ≤ 2045 := by
    rcases h4 with h4 | h4
    · omega
    · have h5 : 2 ^ 52 * 2 ^ k ≤ 2 ^ 1076 := by
        refine Nat.le_trans (Nat.mul_le_mul_right _ h4) ?_
        rw [← h1]; exact hb
      rw [← Nat.pow_add] at h5
      have := (Nat.pow_le_pow_iff_right (by decide : 1 < 2)).mp h5
      omega
  have h6 := rep_mul (m := m) (k + 1) h2 hk
  rw [Nat.pow_succ, ← Nat.mul_assoc, ← h1, Nat.mul_comm] at h6
  exact h6
def GW (K : Nat) (g : Nat → UInt64) (n : Nat) : Prop := ∀ i, i < n → Nn (g i) ∧ Zm (g i) ≤ K * gG
def KOk (K : Nat) : Prop := 2 ^ 49 ≤ K ∧ K ≤ 2 ^ 51
theorem KOk.le {K : Nat} (h : KOk K) : K * gG ≤ 2 ^ 1076 := Nat.le_trans (Nat.mul_le_mul_right _ h.2) (by unfold gG; decide +kernel)
theorem KOk.ge {K : Nat} (h : KOk K) : 2 ^ 1074 ≤ K * gG := Nat.le_trans (by unfold gG; decide +kernel) (Nat.mul_le_mul_right gG h.1)
/-- a face's flow -/
theorem b_face {dep x spd bal : UInt64} {K : Nat} (hK : KOk K) (hd : GD dep) (hx : Np (K * gG) x) (hs : Np (2 ^ 1078) spd) (hb : Np (2 ^ 1074) bal) (hr : ¬ FP.dcmp (FP.ddiv spd (FP.dmul 4620693217682128896 dep)) 4598175219545276416 = some .gt) :
    vf_n64 (FP.dsub x bal) ∧ vf_n64 (FP.dmul spd (FP.dsub x bal)) ∧ vf_n64 (sp_face dep x spd bal) ∧ Ab (2 ^ 1076) (sp_face dep x spd bal) ∧ 2 * Zv (sp_face dep x spd bal) ≤ Zm x ∧ -(2 * Zv (sp_face dep x spd bal)) ≤ (K * gG : Nat) - Zm x + gG := by
  obtain ⟨⟨-, d1, d2⟩, -⟩ := b_dep hd
  have hx' := hx.mono hK.le
  have a1 : Ab (2 ^ 1077) (FP.dsub x bal) := hx'.ab.sub hb.ab (rep_pow 1077 (by decide)) (by decide +kernel)
  have a2 : Ab (2 ^ 1081) (FP.dmul spd (FP.dsub x bal)) := hs.ab.mul a1 (rep_pow 1081 (by decide)) (by unfold E64; decide +kernel)
  have a3 : Ab (2 ^ 1082) (sp_face dep x spd bal) := a2.div d1.1 d2 (Nat.two_pow_pos _) (rep_pow 1082 (by decide)) (by unfold E64; decide +kernel)
  have h0 : 0 < Zm (FP.dmul 4620693217682128896 dep) := Nat.lt_of_lt_of_le (Nat.two_pow_pos _) d2
  have hq := quarter hs.1 d1.1 h0 (hs.div d1.1 d1.2.1 d2 (Nat.two_pow_pos _) (rep_pow 1090 (by decide)) (by unfold E64; decide +kernel)) hr
  obtain ⟨f1, f2, f3⟩ := flow_half hs.1 hs.2.1 a1.1 d1.1 d1.2.1 hq h0 a2.1 a3.1
  obtain ⟨g1, g2, -, -⟩ := flow4 (F := sp_face dep x spd bal) rfl hx (hb.mono hK.ge) (by have := hK.2; omega) f1 f2 f3
  have a4 : Zm (sp_face dep x spd bal) ≤ 2 ^ 1076 := by
    have h5 := Nat.le_trans f1 a1.2
    have h6 : (2 : Nat) ^ 1077 = 2 * 2 ^ 1076 := by decide +kernel
    rw [h6] at h5
    exact Nat.le_of_mul_le_mul_left h5 (by decide)
  exact ⟨a1.n, a2.n, a3.n, ⟨a3.1, a4⟩, g1, g2⟩
/-- a slope's flow -/
theorem b_slope {dep x y ka kb wm : UInt64} {K : Nat} (hK : KOk K) (hd : GD dep) (hx : Np (K * gG) x) (hy : Np (K * gG) y) (ha : Np (2 ^ 1077) ka) (hb : Np (2 ^ 1077) kb) (hw : Np (2 ^ 1076) wm) (hxw : Zm x ≤ Zm wm) (hyw : Zm y ≤ Zm wm) (hr : ¬ FP.dcmp (FP.ddiv (sp_speed ka kb wm) (FP.dmul dep dep)) 4598175219545276416 = some .gt) :
    vf_n64 (FP.dadd x y) ∧ vf_n64 (FP.ddiv (FP.dadd x y) 4611686018427387904) ∧ vf_n64 (FP.dmul kb (FP.ddiv (FP.dadd x y) 4611686018427387904)) ∧ vf_n64 (FP.dadd ka (FP.dmul kb (FP.ddiv (FP.dadd x y) 4611686018427387904))) ∧ vf_n64 (FP.dsub x y) ∧ vf_n64 (FP.dmul (sp_speed ka kb (FP.ddiv (FP.dadd x y) 4611686018427387904)) (FP.dsub x y)) ∧ vf_n64 (sp_slope ka kb dep x y) ∧
    FP.Core.DFin (sp_slope ka kb dep x y) ∧ 2 * Zv (sp_slope ka kb dep x y) ≤ Zm x ∧ -(2 * Zv (sp_slope ka kb dep x y)) ≤ (K * gG : Nat) - Zm x + gG ∧ -(2 * Zv (sp_slope ka kb dep x y)) ≤ Zm y ∧ 2 * Zv (sp_slope ka kb dep x y) ≤ (K * gG : Nat) - Zm y + gG := by
  obtain ⟨-, -, d3, d4⟩ := b_dep hd
  have hx' := hx.mono hK.le
  have hy' := hy.mono hK.le
  have a1 : Np (2 ^ 1077) (FP.dadd x y) := hx'.add hy' (rep_pow 1077 (by decide)) (by decide +kernel)
  have a2 : Np (2 ^ 1076) (FP.ddiv (FP.dadd x y) 4611686018427387904) := a1.div k_2.1.1 (by rw [k_2.1.zv]; omega) (m := 2 ^ 1075) (Nat.le_of_eq k_2.2.symm) (Nat.two_pow_pos _) (rep_pow 1076 (by decide)) (by unfold E64; decide +kernel)
  obtain ⟨s1, s2, -, s4⟩ := b_speed ha hb a2
  have a5 : Ab (2 ^ 1077) (FP.dsub x y) := hx'.ab.sub hy'.ab (rep_pow 1077 (by decide)) (by decide +kernel)
  have a6 : Ab (2 ^ 1083) (FP.dmul (sp_speed ka kb (FP.ddiv (FP.dadd x y) 4611686018427387904)) (FP.dsub x y)) := s4.ab.mul a5 (rep_pow 1083 (by decide)) (by unfold E64; decide +kernel)
  have a7 : Ab (2 ^ 1091) (sp_slope ka kb dep x y) := a6.div d3.1 d4 (Nat.two_pow_pos _) (rep_pow 1091 (by decide)) (by unfold E64; decide +kernel)
  have h0 : 0 < Zm (FP.dmul dep dep) := Nat.lt_of_lt_of_le (Nat.two_pow_pos _) d4
  -- the mean of two is at most the greatest
  have m1 : Zm (FP.dadd x y) ≤ 2 * Zm wm := by
    have q1 := add_le hx.1 hy.1 (v := ((2 * Zm wm : Nat) : Int)) (by rw [Int.natAbs_natCast]; exact rep_dbl hw.1 hw.2.2) (by rw [hx.zv, hy.zv]; omega)
    have q2 := zv_abs (FP.dadd x y)
    have q3 := a1.2.1
    omega
  have m2 : Zm (FP.ddiv (FP.dadd x y) 4611686018427387904) ≤ Zm wm := by
    have h0' : 0 < Zm 4611686018427387904 := by rw [k_2.2]; exact Nat.two_pow_pos _
    refine (rd_div a1.1 k_2.1.1 h0').1.1 (Zm wm) (rep_zm hw.1) ?_
    rw [k_2.2]
    refine Nat.le_trans (Nat.mul_le_mul_right _ m1) ?_
    have e1 : (2 : Nat) ^ 1075 = 2 * E64 := by unfold E64; decide +kernel
    rw [e1, Nat.mul_comm 2 (Zm wm), Nat.mul_assoc]
    exact Nat.le_refl _
  have cm := speed_mono ha hb a2 hw m2
  have hq := quarter (b_speed ha hb hw).2.2.2.1 d3.1 h0 ((b_speed ha hb hw).2.2.2.div d3.1 d3.2.1 d4 (Nat.two_pow_pos _) (rep_pow 1090 (by decide)) (by unfold E64; decide +kernel)) hr
  obtain ⟨f1, f2, f3⟩ := flow_half s4.1 s4.2.1 a5.1 d3.1 d3.2.1 (by omega) h0 a6.1 a7.1
  obtain ⟨g1, g2, g3, g4⟩ := flow4 (F := sp_slope ka kb dep x y) rfl hx hy (by have := hK.2; omega) f1 f2 f3
  exact ⟨a1.ab.n, a2.ab.n, s1, s2, a5.n, a6.n, a7.n, a7.1, g1, g2, g3, g4⟩
/-- the layers' new wetnesses -/
theorem b_new {dep spd bal ka kb : UInt64} {K nl : Nat} {g : Nat → UInt64} (hK : KOk K) (hd : GD dep) (hs : Np (2 ^ 1078) spd) (hb : Np (2 ^ 1074) bal) (ha : Np (2 ^ 1077) ka) (hkb : Np (2 ^ 1077) kb) (hg : GW K g (nl + 1))
    (hr1 : ¬ FP.dcmp (FP.ddiv spd (FP.dmul 4620693217682128896 dep)) 4598175219545276416 = some .gt) (hr2 : ¬ FP.dcmp (FP.ddiv (sp_speed ka kb (maxD g (nl + 1))) (FP.dmul dep dep)) 4598175219545276416 = some .gt) (i : Nat) (hi : i < nl + 1) :
    FP.Core.DFin (FP.dadd (g i) (sp_gain ka kb dep (sp_face dep (g 0) spd bal) (sp_face dep (g nl) spd bal) g nl i)) ∧ Nn (sp_new ka kb dep (sp_face dep (g 0) spd bal) (sp_face dep (g nl) spd bal) g nl i) ∧ Zm (sp_new ka kb dep (sp_face dep (g 0) spd bal) (sp_face dep (g nl) spd bal) g nl i) ≤ (K + 2) * gG := by
  have hn : ∀ j, j < nl + 1 → Np (K * gG) (g j) := fun j hj => (hg j hj).1.np (hg j hj).2
  obtain ⟨m1, m2, m3⟩ := b_max (b := K * gG) (nl + 1) hg
  have hm : Np (2 ^ 1076) (maxD g (nl + 1)) := m1.np (Nat.le_trans m2 hK.le)
  have face := fun j (hj : j < nl + 1) => b_face hK hd (hn j hj) hs hb hr1
  have slope := fun j (hj : j < nl) => b_slope hK hd (hn j (by omega)) (hn (j + 1) (by omega)) ha hkb hm (m3 j (by omega)) (m3 (j + 1) (by omega)) hr2
  have hK4 : K + 4 < 2 ^ 53 := by have := hK.2; omega
  -- what goes behind the layer
  have hlo : ∃ o2 : Int, FP.Core.DFin (sp_fl ka kb dep (sp_face dep (g nl) spd bal) g nl i) ∧ Zv (sp_fl ka kb dep (sp_face dep (g nl) spd bal) g nl i) = o2 ∧ 2 * o2 ≤ Zm (g i) ∧ -(2 * o2) ≤ (K * gG : Nat) - Zm (g i) + gG := by
    unfold sp_fl
    by_cases q : i < nl
    · rw [if_pos q]
      have h := slope i q
      exact ⟨_, h.2.2.2.2.2.2.2.1, rfl, h.2.2.2.2.2.2.2.2.1, h.2.2.2.2.2.2.2.2.2.1⟩
    · rw [if_neg q]
      have e : i = nl := by omega
      subst e
      have h := face i (by omega)
      exact ⟨_, h.2.2.2.1.1, rfl, h.2.2.2.2.1, h.2.2.2.2.2⟩
  have hga : ∃ o1 : Int, FP.Core.DFin (sp_gain ka kb dep (sp_face dep (g 0) spd bal) (sp_face dep (g nl) spd bal) g nl i) ∧ Zv (sp_gain ka kb dep (sp_face dep (g 0) spd bal) (sp_face dep (g nl) spd bal) g nl i) = -o1 ∧ 2 * o1 ≤ Zm (g i) ∧ -(2 * o1) ≤ (K * gG : Nat) - Zm (g i) + gG := by
    cases i with
    | zero =>
      have h := face 0 (by omega)
      exact ⟨_, fin_neg h.2.2.2.1.1, zv_neg _, h.2.2.2.2.1, h.2.2.2.2.2⟩
    | succ j =>
      have q : j < nl := by omega
      have h := slope j q
      show ∃ o1 : Int, FP.Core.DFin (sp_fl ka kb dep (sp_face dep (g nl) spd bal) g nl j) ∧ Zv (sp_fl ka kb dep (sp_face dep (g nl) spd bal) g nl j) = -o1 ∧ 2 * o1 ≤ Zm (g (j + 1)) ∧ -(2 * o1) ≤ (K * gG : Nat) - Zm (g (j + 1)) + gG
      unfold sp_fl
      rw [if_pos q]
      refine ⟨-Zv (sp_slope ka kb dep (g j) (g (j + 1))), h.2.2.2.2.2.2.2.1, (Int.neg_neg _).symm, ?_, ?_⟩
      · have := h.2.2.2.2.2.2.2.2.2.2.1
        omega
      · have := h.2.2.2.2.2.2.2.2.2.2.2
        omega
  obtain ⟨o2, l1, l2, l3, l4⟩ := hlo
  obtain ⟨o1, k1, k2, k3, k4⟩ := hga
  exact layer_step (hg i hi).1 (hg i hi).2 hK4 k1 l1 k2 l2 k3 k4 l3 l4
/-- WATER -/
theorem b_water {G H dep : UInt64} (hG : Ab (2 ^ 1076) G) (hH : Ab (2 ^ 1076) H) (hd : GD dep) : vf_n64 (FP.dadd G H) ∧ vf_n64 (FP.dmul (FP.dadd G H) dep) ∧ vf_n64 (FP.dmul (FP.dmul (FP.dadd G H) dep) 4634204016564240384) ∧ Ab (2 ^ 1092) (FP.dmul (FP.dmul (FP.dadd G H) dep) 4634204016564240384) := by
  have a1 : Ab (2 ^ 1077) (FP.dadd G H) := hG.add hH (rep_pow 1077 (by decide)) (by decide +kernel)
  have a2 : Ab (2 ^ 1086) (FP.dmul (FP.dadd G H) dep) := a1.mul (hd.1.ab.mono (show 400 * 2 ^ 1074 ≤ 2 ^ 1083 by decide +kernel)) (rep_pow 1086 (by decide)) (by unfold E64; decide +kernel)
  have a3 : Ab (2 ^ 1092) (FP.dmul (FP.dmul (FP.dadd G H) dep) 4634204016564240384) := a2.mul (kp k_64).ab (rep_pow 1092 (by decide)) (by unfold E64; decide +kernel)
  exact ⟨a1.n, a2.n, a3.n, a3⟩
