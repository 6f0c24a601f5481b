/-! ===== contracts under good numbers ===== -/
section HOK
variable (l : Launch) (G : va_G) (dA : Nat → ClassId) (L : List Nat) (f : Nat → va_E)
theorem d_bal (a : Nat) (ai : sA) (hLa : a ∈ L) (hfa : f a = .inr (1, [.double ai.1, .double ai.2.1, .double ai.2.2.1, .double ai.2.2.2])) (hG : GAs ai) : mD l yX0_balanceNow wsX0_balanceNow ({ frames := 0, cells := 0, slots := 0, locals := 0 }) G dA [.ref a] L f (fun r f2 => r = sp_bal ai.1 ai.2.1 ∧ f2 = f) := by
  obtain ⟨h1, h2, h3, h4, h5, -⟩ := b_bal hG
  exact c_X0_balanceNow l G dA L f a ai.1 ai.2.1 ai.2.2.1 ai.2.2.2 hLa hfa h1 h2 h3 h4 h5
theorem d_takeUp (a : Nat) (ai : sA) (wa : UInt64) (hLa : a ∈ L) (hfa : f a = .inr (1, [.double ai.1, .double ai.2.1, .double ai.2.2.1, .double ai.2.2.2])) (hG : GAs ai) (hw : Ab (2 ^ 1092) wa) : mV l yX0_takeUp wsX0_takeUp ({ frames := 0, cells := 0, slots := 0, locals := 0 }) G dA [.ref a, .double wa] L f (fun f2 => f2 = va_up f a (.inr (1, [.double (hAir ai wa).1, .double (hAir ai wa).2.1, .double (hAir ai wa).2.2.1, .double (hAir ai wa).2.2.2]))) := by
  obtain ⟨h1, h2, h3, h4, -⟩ := b_take hG.2.1 hG.2.2.2 hw
  exact c_X0_takeUp l G dA L f a ai.1 ai.2.1 ai.2.2.1 ai.2.2.2 wa hLa hfa h1 h2 h3 h4
theorem d_take (a : Nat) (le : sL) (wa : UInt64) (hLa : a ∈ L) (hfa : f a = .inr (4, [.double le.1, .long le.2])) (hr : Ab (2 ^ 1074) le.1) (hw : Ab (2 ^ 1092) wa) : mV l yX3_take wsX3_take ({ frames := 0, cells := 0, slots := 0, locals := 0 }) G dA [.ref a, .double wa] L f (fun f2 => f2 = va_up f a (.inr (4, [.double (hLed le wa).1, .long (hLed le wa).2]))) := by
  obtain ⟨h1, h2, -⟩ := b_led hr hw
  exact c_X3_take l G dA L f a le.1 wa le.2 hLa hfa h1 h2
variable (b w k : Nat) (th lim kept : Int32) (dep load : UInt64)
theorem d_mean (n : Nat) (g : Nat → UInt64) (hLb : b ∈ L) (hfb : f b = .inr (2, [.ref w, .ref k, .int th, .double dep, .int lim, .double load, .int kept])) (hLw : w ∈ L) (hfw : f w = aD (dA 1) n g) (h1 : 1 ≤ n) (hn : n ≤ 16) (hg : ∀ i, i < n → Np (2 ^ 1076) (g i)) : mD l yX1_meanWetness wsX1_meanWetness ({ frames := 0, cells := 0, slots := 0, locals := 0 }) G dA [.ref b] L f (fun r f2 => r = sp_mean g n ∧ f2 = f) := by
  obtain ⟨m1, m2, -⟩ := b_mean (fun i hi => (hg i hi).ab) hn h1
  exact c_X1_meanWetness l G dA L f b w k th lim kept dep load n g hLb hfb hLw hfw (by omega) m1 m2
theorem d_mshr (n : Nat) (g : Nat → UInt64) (hLb : b ∈ L) (hfb : f b = .inr (2, [.ref w, .ref k, .int th, .double dep, .int lim, .double load, .int kept])) (hLw : w ∈ L) (hfw : f w = aD (dA 1) n g) (h1 : 1 ≤ n) (hn : n ≤ 16) (hg : ∀ i, i < n → Np (2 ^ 1076) (g i)) : mD l yX1_meanShrinkage wsX1_meanShrinkage ({ frames := 1, cells := 0, slots := 0, locals := 21 }) G dA [.ref b] L f (fun r f2 => r = sp_mshr g n ∧ f2 = f) := by
  obtain ⟨m1, m2, m3, m4, -⟩ := b_load hg hn h1
  exact c_X1_meanShrinkage l G dA L f b w k th lim kept dep load n g hLb hfb hLw hfw (by omega) m1 m2 m3 m4
theorem d_watch (n : Nat) (g : Nat → UInt64) (hour : Int32) (hLb : b ∈ L) (hfb : f b = .inr (2, [.ref w, .ref k, .int th, .double dep, .int lim, .double load, .int kept])) (hLw : w ∈ L) (hfw : f w = aD (dA 1) n g) (h1 : 1 ≤ n) (hn : n ≤ 16) (hg : ∀ i, i < n → Np (2 ^ 1076) (g i)) : mV l yX1_watchLoad wsX1_watchLoad ({ frames := 3, cells := 0, slots := 0, locals := 73 }) G dA [.ref b, .int hour] L f (fun f2 => f2 = va_up f b (.inr (2, [.ref w, .ref k, .int th, .double dep, .int lim, .double load, .int (sp_keep lim kept (sp_load g n) load hour)]))) := by
  obtain ⟨m1, m2, m3, m4, m5⟩ := b_load hg hn h1
  exact c_X1_watchLoad l G dA L f b w k th lim kept dep load n g hour hLb hfb hLw hfw (by omega) m1 m2 m3 m4 m5
theorem d_refuses (n K : Nat) (g : Nat → UInt64) (spd ka kb : UInt64) (hLb : b ∈ L) (hfb : f b = .inr (2, [.ref w, .ref k, .int th, .double dep, .int lim, .double load, .int kept])) (hLw : w ∈ L) (hfw : f w = aD (dA 1) n g) (hLk : k ∈ L) (hfk : f k = .inr (3, [.double ka, .double kb])) (hn : n ≤ 16) (hK : KOk K) (hs : Np (2 ^ 1078) spd) (ha : Np (2 ^ 1077) ka) (hb : Np (2 ^ 1077) kb) (hd : GD dep) (hg : GW K g n) : mI l yX1_refuses wsX1_refuses ({ frames := 1, cells := 0, slots := 0, locals := 23 }) G dA [.ref b, .double spd] L f (fun r f2 => r = b2i (sp_ref spd dep ka kb (maxD g n)) ∧ f2 = f) := by
  obtain ⟨m1, m2, -⟩ := b_max (b := K * gG) n hg
  have hm : Np (2 ^ 1076) (maxD g n) := m1.np (Nat.le_trans m2 hK.le)
  obtain ⟨⟨e1, -, -⟩, e2, -⟩ := b_dep hd
  obtain ⟨r1, r2, -, -⟩ := b_ref hs hd ha hb hm
  obtain ⟨s1, s2, -, -⟩ := b_speed ha hb hm
  exact c_X1_refuses l G dA L f b w k th lim kept dep load n g spd ka kb hLb hfb hLw hfw hLk hfk (by omega) e1 r1 e2 r2 s1 s2
theorem d_dry (nl K : Nat) (g : Nat → UInt64) (spd bal ka kb : UInt64) (hLb : b ∈ L) (hfb : f b = .inr (2, [.ref w, .ref k, .int th, .double dep, .int lim, .double load, .int kept])) (hLw : w ∈ L) (hfw : f w = aD (dA 1) (nl + 1) g) (hLk : k ∈ L) (hfk : f k = .inr (3, [.double ka, .double kb])) (hn : nl + 1 ≤ 16) (hwb : w ≠ b) (hbw : b ≠ w) (hkw : k ≠ w) (hK : KOk K) (hs : Np (2 ^ 1078) spd) (hbl : Np (2 ^ 1074) bal) (ha : Np (2 ^ 1077) ka) (hb : Np (2 ^ 1077) kb) (hd : GD dep) (hg : GW K g (nl + 1)) (hr : sp_ref spd dep ka kb (maxD g (nl + 1)) = false) : mD l yX1_dry wsX1_dry ({ frames := 2, cells := 0, slots := 0, locals := 46 }) G dA [.ref b, .double spd, .double bal] L f (fun r f2 => r = FP.dmul (FP.dmul (FP.dadd (sp_face dep (g 0) spd bal) (sp_face dep (g nl) spd bal)) dep) 4634204016564240384 ∧ f2 = va_up f w (aD (dA 1) (nl + 1) (newTo ka kb dep (sp_face dep (g 0) spd bal) (sp_face dep (g nl) spd bal) g nl (nl + 1)))) := by
  unfold sp_ref at hr
  rw [Bool.or_eq_false_iff, decide_eq_false_iff_not, decide_eq_false_iff_not] at hr
  obtain ⟨hr1, hr2⟩ := hr
  have hn2 : ∀ j, j < nl + 1 → Np (K * gG) (g j) := fun j hj => (hg j hj).1.np (hg j hj).2
  obtain ⟨m1, m2, m3⟩ := b_max (b := K * gG) (nl + 1) hg
  have hm : Np (2 ^ 1076) (maxD g (nl + 1)) := m1.np (Nat.le_trans m2 hK.le)
  obtain ⟨⟨e1, -, -⟩, e2, -⟩ := b_dep hd
  obtain ⟨f1, f2, f3, f4, -, -⟩ := b_face hK hd (hn2 0 (by omega)) hs hbl hr1
  obtain ⟨g1, g2, g3, g4, -, -⟩ := b_face hK hd (hn2 nl (by omega)) hs hbl hr1
  have slope := fun j (hj : j < nl) => b_slope hK hd (hn2 j (by omega)) (hn2 (j + 1) (by omega)) ha hb hm (m3 j (by omega)) (m3 (j + 1) (by omega)) hr2
  have new := fun i (hi : i < nl + 1) => b_new hK hd hs hbl ha hb hg hr1 hr2 i hi
  obtain ⟨w1, w2, w3, -⟩ := b_water f4 g4 hd
  exact c_X1_dry l G dA L f b w k th lim kept dep load nl g spd bal ka kb hLb hfb hLw hfw hLk hfk (by omega) hwb hbw hkw e1 e2 f1 f2 f3 g1 g2 g3 (fun i hi => (slope i hi).1) (fun i hi => (slope i hi).2.1) (fun i hi => (slope i hi).2.2.1) (fun i hi => (slope i hi).2.2.2.1) (fun i hi => (slope i hi).2.2.2.2.1) (fun i hi => (slope i hi).2.2.2.2.2.1) (fun i hi => (slope i hi).2.2.2.2.2.2.1) (fun i hi => n64_of_fin (new i hi).1) (fun i hi => n64_of_fin (new i hi).2.1.1) w1 w2 w3
end HOK
/-- an hour of one board keeps the numbers good -/
theorem g_hour {nl K : Nat} {ai : sA} {b : sB} {kk : UInt64 × UInt64} {g : Nat → UInt64} (hK : KOk K) (hA : GAs ai) (ha : Np (2 ^ 1077) kk.1) (hb : Np (2 ^ 1077) kk.2) (hd : GD b.2.1) (hg : GW K g (nl + 1)) (hr : sp_ref ai.2.2.1 b.2.1 kk.1 kk.2 (maxD g (nl + 1)) = false) :
    Ab (2 ^ 1092) (hWa ai b g nl) ∧ GW (K + 2) (hNew ai b kk g nl) (nl + 1) ∧ GAs (hAir ai (hWa ai b g nl)) := by
  unfold sp_ref at hr
  rw [Bool.or_eq_false_iff, decide_eq_false_iff_not, decide_eq_false_iff_not] at hr
  obtain ⟨hr1, hr2⟩ := hr
  have hbl := (b_bal hA).2.2.2.2.2
  have hn2 : ∀ j, j < nl + 1 → Np (K * gG) (g j) := fun j hj => (hg j hj).1.np (hg j hj).2
  obtain ⟨f1, f2, f3, f4, -, -⟩ := b_face hK hd (hn2 0 (by omega)) hA.2.2.1 hbl hr1
  obtain ⟨g1, g2, g3, g4, -, -⟩ := b_face hK hd (hn2 nl (by omega)) hA.2.2.1 hbl hr1
  have hw := (b_water f4 g4 hd).2.2.2
  refine ⟨hw, fun i hi => ?_, hA.1, (b_take hA.2.1 hA.2.2.2 hw).2.2.2.2, hA.2.2⟩
  have h9 := b_new hK hd hA.2.2.1 hbl ha hb hg hr1 hr2 i hi
  unfold hNew newTo
  rw [if_pos hi]
  exact ⟨h9.2.1, h9.2.2⟩
/-- what holds behind the boards before i in an hour -/
def HI (nl nb K : Nat) (bd : Nat → sB) (wt : Nat → Nat → UInt64) (ai : sA) (i : Nat) (x : sH) : Prop :=
  GAs x.1 ∧ Ab (2 ^ 1074) x.2.1.1 ∧ (x.1.1 = ai.1 ∧ x.1.2.2 = ai.2.2) ∧ (∀ j, i ≤ j → x.2.2 j = wt j) ∧ ∀ j, j < i → (bd j).1 ≠ 0 → GW (K + 2) (x.2.2 j) (nl + 1)
theorem HI.step {nl nb K : Nat} {bd : Nat → sB} {wt : Nat → Nat → UInt64} {kk : Nat → UInt64 × UInt64} {ai : sA} (hK : KOk K) (hB : GB (nl + 1) nb K bd wt) (hk : GK kk) (hr : ∀ j, j < nb → rfP bd wt kk ai.2.2.1 (nl + 1) j = false) {i : Nat} (hi : i < nb) {x : sH} (h : HI nl nb K bd wt ai i x) : HI nl nb K bd wt ai (i + 1) (hSt nl bd kk i x) ∧ ((bd i).1 ≠ 0 → GD (bd i).2.1 ∧ GW K (x.2.2 i) (nl + 1) ∧ sp_ref x.1.2.2.1 (bd i).2.1 (kk (bd i).2.2.2.2.2).1 (kk (bd i).2.2.2.2.2).2 (maxD (x.2.2 i) (nl + 1)) = false ∧ Ab (2 ^ 1092) (hWa x.1 (bd i) (x.2.2 i) nl)) := by
  obtain ⟨h1, h2, h3, h4, h5⟩ := h
  have e := h4 i (Nat.le_refl i)
  by_cases q : (bd i).1 = 0
  · refine ⟨?_, fun z => absurd q z⟩
    unfold hSt
    rw [if_pos q]
    refine ⟨h1, h2, h3, fun j hj => h4 j (by omega), fun j hj hz => ?_⟩
    by_cases ej : j = i
    · subst ej; exact absurd q hz
    · exact h5 j (by omega) hz
  · obtain ⟨g1, g2⟩ := (hB i hi).2 q
    have gk := hk _ (hB i hi).1
    have hri : sp_ref x.1.2.2.1 (bd i).2.1 (kk (bd i).2.2.2.2.2).1 (kk (bd i).2.2.2.2.2).2 (maxD (x.2.2 i) (nl + 1)) = false := by
      have := hr i hi
      unfold rfP at this
      rw [decide_eq_false q] at this
      rw [e, h3.2]
      simpa using this
    have hgi : GW K (x.2.2 i) (nl + 1) := by rw [e]; exact g2
    obtain ⟨a1, a2, a3⟩ := g_hour (kk := kk (bd i).2.2.2.2.2) hK h1 gk.1 gk.2 g1 hgi hri
    refine ⟨?_, fun _ => ⟨g1, hgi, hri, a1⟩⟩
    unfold hSt
    rw [if_neg q]
    refine ⟨a3, (b_led h2 a1).2.2, ⟨h3.1, ?_⟩, fun j hj => ?_, fun j hj hz => ?_⟩
    · show (x.1.2.2.1, x.1.2.2.2) = ai.2.2
      rw [h3.2]
    · show va_up x.2.2 i _ j = wt j
      rw [va_up_ne _ _ (by omega)]; exact h4 j (by omega)
    · show GW (K + 2) (va_up x.2.2 i _ j) (nl + 1)
      by_cases ej : j = i
      · subst ej; rw [va_up_self]; exact a2
      · rw [va_up_ne _ _ ej]; exact h5 j (by omega) hz
theorem HI.to {nl nb K : Nat} {bd : Nat → sB} {wt : Nat → Nat → UInt64} {kk : Nat → UInt64 × UInt64} {ai : sA} {le : sL} (hK : KOk K) (hB : GB (nl + 1) nb K bd wt) (hk : GK kk) (hA : GAs ai) (hL : Ab (2 ^ 1074) le.1) (hr : ∀ j, j < nb → rfP bd wt kk ai.2.2.1 (nl + 1) j = false) : ∀ i, i ≤ nb → HI nl nb K bd wt ai i (hTo nl bd kk (ai, le, wt) i)
  | 0, _ => ⟨hA, hL, ⟨rfl, rfl⟩, fun _ _ => rfl, fun j hj => absurd hj (Nat.not_lt_zero j)⟩
  | i + 1, hi => ((HI.to hK hB hk hA hL hr i (by omega)).step hK hB hk hr (by omega)).1
/-- the plan's numbers -/
theorem g_div100 {x : Nat} (h : x ≤ 999) : vf_n64 (FP.ddiv (FP.i2d (nI x)) 4636737291354636288) ∧ FP.Core.DFin (FP.ddiv (FP.i2d (nI x)) 4636737291354636288) := by
  obtain ⟨h1, h2, h3⟩ := i2d_n (n := x) (by omega)
  have ha : Ab (1000 * 2 ^ 1074) (FP.i2d (nI x)) := ⟨h2, by rw [h3]; exact Nat.mul_le_mul_right _ (by omega)⟩
  have hd := Ab.div (z := 2 ^ 1090) ha k_100.1.1 (Nat.le_of_eq k_100.2.symm) (by decide +kernel) (rep_pow 1090 (by decide)) (by decide +kernel)
  exact ⟨hd.n, hd.1⟩
theorem g_fl {n nb hr : Nat} {ai : sA} {bd : Nat → sB} {wt : Nat → Nat → UInt64} {pn : sP} (hA : GAs ai) (hP : GP pn) : GAs (flS n nb ai bd wt pn hr).1 ∧ GP (flS n nb ai bd wt pn hr).2 ∧ (flS n nb ai bd wt pn hr).1.2.2 = ai.2.2 := by
  unfold flS
  by_cases q : pn.2.1 < pn.1 ∧ dueS n nb bd wt pn hr = true
  · rw [if_pos q]
    obtain ⟨⟨k, k1, k2, k3⟩, ⟨d, d1, d2⟩, -⟩ := hP.2.2 _ q.1
    obtain ⟨a1, a2, a3⟩ := i2d_n (n := k) (by omega)
    obtain ⟨b1, b2, b3⟩ := i2d_n (n := d) (by omega)
    refine ⟨⟨⟨⟨?_, ?_, ?_⟩, ?_⟩, ?_, hA.2.2⟩, ⟨q.1, hP.2⟩, rfl⟩
    · rw [k3]; exact a2
    · show 0 ≤ Zv (FP.i2d (pn.2.2.2.2.1 pn.2.1)); rw [k3, a1]; exact Int.natCast_nonneg _
    · show Zm (FP.i2d (pn.2.2.2.2.1 pn.2.1)) ≤ _; rw [k3, a3]; exact Nat.mul_le_mul_right _ k2
    · show _ ≤ Zm (FP.i2d (pn.2.2.2.2.1 pn.2.1)); rw [k3, a3]; exact Nat.mul_le_mul_right _ k1
    · show Np (2 ^ 1074) (FP.ddiv (FP.i2d (pn.2.2.2.2.2 pn.2.1)) 4636737291354636288)
      rw [d2]
      have hb : Np (100 * 2 ^ 1074) (FP.i2d (nI d)) := ⟨b2, by rw [b1]; exact Int.natCast_nonneg _, by rw [b3]; exact Nat.mul_le_mul_right _ d1⟩
      exact Np.div (z := 2 ^ 1074) hb k_100.1.1 (kp k_100).2.1 (Nat.le_of_eq k_100.2.symm) (by decide +kernel) (rep_pow 1074 (by decide)) (by decide +kernel)
  · rw [if_neg q]; exact ⟨hA, hP, rfl⟩
