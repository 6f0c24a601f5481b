set_option maxHeartbeats 4000000 in
set_option maxRecDepth 100000 in
theorem c_X1_shrinkage (l : Launch) (G : va_G) (dA : Nat → ClassId) (L : List Nat) (f : Nat → va_E) (x : UInt64)  (h1 : vf_n64 (FP.dsub 4599301119452119040 (sp_cut x))) (h2 : vf_n64 (FP.dmul 4598175219545276416 (FP.dsub 4599301119452119040 (sp_cut x))))  : mD l yX1_shrinkage wsX1_shrinkage ({ frames := 0, cells := 0, slots := 0, locals := 0 }) G dA [.double x] L f (fun r f2 => r = sp_shr x ∧ f2 = f) := by
  refine mD_of (cc := cX1_shrinkage) (maxL := 2) (by decide) rfl (Nat.le_of_ble_eq_true rfl) ?_
  intro p e s m below meth c A ls Q hx hb hml hown hts hlocks hA hin0 hw hl hret
  have hown : s.vm.findClass RX1 = some m.cls := hown
  have hl : lv_has ls 2 [(0, .double x)] := hl
  refine lv_ldc2d (v := 4598175219545276416) hx hb hown (hts (.constantDouble RX1 39 (4598175219545276416)) (by decide +kernel)) dX1_shrinkage_0 ?_
  refine lv_ldc2d (v := 4599301119452119040) hx hb hown (hts (.constantDouble RX1 63 (4599301119452119040)) (by decide +kernel)) dX1_shrinkage_3 ?_
  refine lv_dload_n hx hb dX1_shrinkage_6 rfl (lv_at hl 0 rfl) ?_
  refine lv_ldc2d (v := 4599301119452119040) hx hb hown (hts (.constantDouble RX1 63 (4599301119452119040)) (by decide +kernel)) dX1_shrinkage_7 ?_
  refine lv_dcmp hx hb dX1_shrinkage_10 ?_
  refine lv_if_ge (tgt := 18) hx hb dX1_shrinkage_11 (by decide) (fun c11 => ?_) (fun c11 => ?_)
  · have e11 : sp_cut x = 4599301119452119040 := by simp [sp_cut, cmp_ge c11]
    rw [e11] at h1 h2
    refine lv_ldc2d (v := 4599301119452119040) hx hb hown (hts (.constantDouble RX1 63 (4599301119452119040)) (by decide +kernel)) dX1_shrinkage_18 ?_
    refine lv_dsub hx hb dX1_shrinkage_21 h1 ?_
    refine lv_dmul hx hb dX1_shrinkage_22 h2 ?_
    exact hret _ _ _ _ _ _ hw ⟨by rw [sp_shr, e11], rfl⟩ dX1_shrinkage_23
  · have e11 : sp_cut x = x := by simp [sp_cut, cmp_nge c11]
    rw [e11] at h1 h2
    refine lv_dload_n hx hb dX1_shrinkage_14 rfl (lv_at hl 0 rfl) ?_
    refine lv_goto (tgt := 21) hx hb dX1_shrinkage_15 (by decide) ?_
    refine lv_dsub hx hb dX1_shrinkage_21 h1 ?_
    refine lv_dmul hx hb dX1_shrinkage_22 h2 ?_
    exact hret _ _ _ _ _ _ hw ⟨by rw [sp_shr, e11], rfl⟩ dX1_shrinkage_23

set_option maxHeartbeats 4000000 in
set_option maxRecDepth 100000 in
theorem c_X1_meanWetness (l : Launch) (G : va_G) (dA : Nat → ClassId) (L : List Nat) (f : Nat → va_E) (b w k : Nat) (th lim kept : Int32) (dep load : UInt64) (n : Nat) (g : Nat → UInt64) (hLb : b ∈ L) (hfb : f b = .inr (2, [.ref w, .ref k, .int th, .double dep, .int lim, .double load, .int kept])) (hLw : w ∈ L) (hfw : f w = aD (dA 1) n g) (hn31 : n < 2 ^ 31) (hs : ∀ i, i < n → vf_n64 (FP.dadd (sumD g i) (g i))) (hq : vf_n64 (FP.ddiv (sumD g n) (FP.i2d (nI n))))  : mD l yX1_meanWetness wsX1_meanWetness ({ frames := 0, cells := 0, slots := 0, locals := 0 }) G dA [.ref b] L f (fun r f2 => r = sp_mean g n ∧ f2 = f) := by
  refine mD_of (cc := cX1_meanWetness) (maxL := 4) (by decide) rfl (Nat.le_of_ble_eq_true rfl) ?_
  intro p e s m below meth c A ls Q hx hb hml hown hts hlocks hA hin0 hw hl hret
  have hown : s.vm.findClass RX1 = some m.cls := hown
  have hl : lv_has ls 4 [(0, .ref b)] := hl
  have hi1 : ∀ w ∈ u_ws RX1 TX1 7, w ∈ wsX1_meanWetness := by decide +kernel
  refine lv_dconst0 hx hb dX1_meanWetness_0 ?_
  refine lv_dstore_n (lv' := [(1, .double FP.dconst0), (0, .ref b)]) hx hb dX1_meanWetness_1 rfl hl (by decide) rfl (fun ls hl => ?_)
  refine lv_iconst (v := 0) hx hb dX1_meanWetness_2 (by decide) ?_
  refine lv_istore_n (lv' := [(3, .int 0), (1, .double FP.dconst0), (0, .ref b)]) hx hb dX1_meanWetness_3 rfl hl (by decide) rfl (fun ls hl => ?_)
  have loop : ∀ (kf i : Nat), i + kf = n → ∀ (ls : Array Slot), lv_has ls 4 [(0, .ref b), (1, .double (sumD g i)), (3, .int (nI i))] → W p l e ({ frames := 0, cells := 0, slots := 0, locals := 0 } : Room) s m ([.ref b] : List Value).toArray below meth c s.heap [] 0 0 Q (F0 m 4 ls []) := by
    intro kf
    induction kf with
    | zero =>
      intro i hik ls hl
      rw [show i = n by omega] at hl
      refine lv_iload_n hx hb dX1_meanWetness_4 rfl (lv_at hl 2 rfl) ?_
      refine lv_aload_n hx hb dX1_meanWetness_5 rfl (lv_at hl 0 rfl) ?_
      refine wg (C := RX1) (T := TX1) (N := 7) hx hb hts hi1 hown hw hLb hfb rfl 0 (by decide) (hts (.fieldLink RX1 9 "LayerMoisture$Board" "wetness" "[D") (by decide +kernel)) (fun _ h9 => h9) (v := .ref w) rfl dX1_meanWetness_6 ?_
      refine wlen hx hb 1 hw hLw hfw rfl dX1_meanWetness_9 ?_
      refine lv_icmp_ge (tgt := 28) hx hb dX1_meanWetness_10 (by decide) (fun _ => ?_) (fun c9 => absurd (nI_le (Nat.le_refl _) hn31) c9)
      refine lv_dload_n hx hb dX1_meanWetness_28 rfl (lv_at hl 1 rfl) ?_
      refine lv_aload_n hx hb dX1_meanWetness_29 rfl (lv_at hl 0 rfl) ?_
      refine wg (C := RX1) (T := TX1) (N := 7) hx hb hts hi1 hown hw hLb hfb rfl 0 (by decide) (hts (.fieldLink RX1 9 "LayerMoisture$Board" "wetness" "[D") (by decide +kernel)) (fun _ h9 => h9) (v := .ref w) rfl dX1_meanWetness_30 ?_
      refine wlen hx hb 1 hw hLw hfw rfl dX1_meanWetness_33 ?_
      refine lv_i2d hx hb dX1_meanWetness_34 ?_
      refine lv_ddiv hx hb dX1_meanWetness_35 hq ?_
      exact hret _ _ _ _ _ _ hw ⟨rfl, rfl⟩ dX1_meanWetness_36
    | succ kf ih =>
      intro i hik ls hl
      have hlt : i < n := by omega
      refine lv_iload_n hx hb dX1_meanWetness_4 rfl (lv_at hl 2 rfl) ?_
      refine lv_aload_n hx hb dX1_meanWetness_5 rfl (lv_at hl 0 rfl) ?_
      refine wg (C := RX1) (T := TX1) (N := 7) hx hb hts hi1 hown hw hLb hfb rfl 0 (by decide) (hts (.fieldLink RX1 9 "LayerMoisture$Board" "wetness" "[D") (by decide +kernel)) (fun _ h9 => h9) (v := .ref w) rfl dX1_meanWetness_6 ?_
      refine wlen hx hb 1 hw hLw hfw rfl dX1_meanWetness_9 ?_
      refine lv_icmp_ge (tgt := 28) hx hb dX1_meanWetness_10 (by decide) (fun c9 => absurd c9 (nI_ge hlt hn31)) (fun _ => ?_)
      refine lv_dload_n hx hb dX1_meanWetness_13 rfl (lv_at hl 1 rfl) ?_
      refine lv_aload_n hx hb dX1_meanWetness_14 rfl (lv_at hl 0 rfl) ?_
      refine wg (C := RX1) (T := TX1) (N := 7) hx hb hts hi1 hown hw hLb hfb rfl 0 (by decide) (hts (.fieldLink RX1 9 "LayerMoisture$Board" "wetness" "[D") (by decide +kernel)) (fun _ h9 => h9) (v := .ref w) rfl dX1_meanWetness_15 ?_
      refine lv_iload_n hx hb dX1_meanWetness_18 rfl (lv_at hl 2 rfl) ?_
      refine wld_d hx hb hw hLw hfw i hlt hn31 rfl dX1_meanWetness_19 ?_
      refine lv_dadd hx hb dX1_meanWetness_20 (hs i hlt) ?_
      refine lv_dstore_n (lv' := [(1, .double (FP.dadd (sumD g i) (g i))), (0, .ref b), (3, .int (nI i))]) hx hb dX1_meanWetness_21 rfl hl (by decide) rfl (fun ls hl => ?_)
      refine lv_iinc (v := nI (i + 1)) (lv' := [(3, .int (nI (i + 1))), (1, .double (FP.dadd (sumD g i) (g i))), (0, .ref b)]) hx hb dX1_meanWetness_22 hl (k := 2) rfl (nI_1 i) (by decide) rfl (fun ls hl => ?_)
      refine lv_goto (tgt := 4) hx hb dX1_meanWetness_25 (by decide) ?_
      exact ih (i + 1) (by omega) ls (lv_sub hl [2, 1, 0] rfl)
  exact loop n 0 (by omega) ls (lv_sub hl [2, 1, 0] rfl)

set_option maxHeartbeats 4000000 in
set_option maxRecDepth 100000 in
theorem c_X1_greatestWetness (l : Launch) (G : va_G) (dA : Nat → ClassId) (L : List Nat) (f : Nat → va_E) (b w k : Nat) (th lim kept : Int32) (dep load : UInt64) (n : Nat) (g : Nat → UInt64) (hLb : b ∈ L) (hfb : f b = .inr (2, [.ref w, .ref k, .int th, .double dep, .int lim, .double load, .int kept])) (hLw : w ∈ L) (hfw : f w = aD (dA 1) n g) (hn31 : n < 2 ^ 31)  : mD l yX1_greatestWetness wsX1_greatestWetness ({ frames := 0, cells := 0, slots := 0, locals := 0 }) G dA [.ref b] L f (fun r f2 => r = maxD g n ∧ f2 = f) := by
  refine mD_of (cc := cX1_greatestWetness) (maxL := 4) (by decide) rfl (Nat.le_of_ble_eq_true rfl) ?_
  intro p e s m below meth c A ls Q hx hb hml hown hts hlocks hA hin0 hw hl hret
  have hown : s.vm.findClass RX1 = some m.cls := hown
  have hl : lv_has ls 4 [(0, .ref b)] := hl
  have hi1 : ∀ w ∈ u_ws RX1 TX1 7, w ∈ wsX1_greatestWetness := by decide +kernel
  refine lv_dconst0 hx hb dX1_greatestWetness_0 ?_
  refine lv_dstore_n (lv' := [(1, .double FP.dconst0), (0, .ref b)]) hx hb dX1_greatestWetness_1 rfl hl (by decide) rfl (fun ls hl => ?_)
  refine lv_iconst (v := 0) hx hb dX1_greatestWetness_2 (by decide) ?_
  refine lv_istore_n (lv' := [(3, .int 0), (1, .double FP.dconst0), (0, .ref b)]) hx hb dX1_greatestWetness_3 rfl hl (by decide) rfl (fun ls hl => ?_)
  have loop : ∀ (kf i : Nat), i + kf = n → ∀ (ls : Array Slot), lv_has ls 4 [(0, .ref b), (1, .double (maxD g i)), (3, .int (nI i))] → W p l e ({ frames := 0, cells := 0, slots := 0, locals := 0 } : Room) s m ([.ref b] : List Value).toArray below meth c s.heap [] 0 0 Q (F0 m 4 ls []) := by
    intro kf
    induction kf with
    | zero =>
      intro i hik ls hl
      rw [show i = n by omega] at hl
      refine lv_iload_n hx hb dX1_greatestWetness_4 rfl (lv_at hl 2 rfl) ?_
      refine lv_aload_n hx hb dX1_greatestWetness_5 rfl (lv_at hl 0 rfl) ?_
      refine wg (C := RX1) (T := TX1) (N := 7) hx hb hts hi1 hown hw hLb hfb rfl 0 (by decide) (hts (.fieldLink RX1 9 "LayerMoisture$Board" "wetness" "[D") (by decide +kernel)) (fun _ h9 => h9) (v := .ref w) rfl dX1_greatestWetness_6 ?_
      refine wlen hx hb 1 hw hLw hfw rfl dX1_greatestWetness_9 ?_
      refine lv_icmp_ge (tgt := 37) hx hb dX1_greatestWetness_10 (by decide) (fun _ => ?_) (fun c9 => absurd (nI_le (Nat.le_refl _) hn31) c9)
      refine lv_dload_n hx hb dX1_greatestWetness_37 rfl (lv_at hl 1 rfl) ?_
      exact hret _ _ _ _ _ _ hw ⟨rfl, rfl⟩ dX1_greatestWetness_38
    | succ kf ih =>
      intro i hik ls hl
      have hlt : i < n := by omega
      refine lv_iload_n hx hb dX1_greatestWetness_4 rfl (lv_at hl 2 rfl) ?_
      refine lv_aload_n hx hb dX1_greatestWetness_5 rfl (lv_at hl 0 rfl) ?_
      refine wg (C := RX1) (T := TX1) (N := 7) hx hb hts hi1 hown hw hLb hfb rfl 0 (by decide) (hts (.fieldLink RX1 9 "LayerMoisture$Board" "wetness" "[D") (by decide +kernel)) (fun _ h9 => h9) (v := .ref w) rfl dX1_greatestWetness_6 ?_
      refine wlen hx hb 1 hw hLw hfw rfl dX1_greatestWetness_9 ?_
      refine lv_icmp_ge (tgt := 37) hx hb dX1_greatestWetness_10 (by decide) (fun c9 => absurd c9 (nI_ge hlt hn31)) (fun _ => ?_)
      refine lv_aload_n hx hb dX1_greatestWetness_13 rfl (lv_at hl 0 rfl) ?_
      refine wg (C := RX1) (T := TX1) (N := 7) hx hb hts hi1 hown hw hLb hfb rfl 0 (by decide) (hts (.fieldLink RX1 9 "LayerMoisture$Board" "wetness" "[D") (by decide +kernel)) (fun _ h9 => h9) (v := .ref w) rfl dX1_greatestWetness_14 ?_
      refine lv_iload_n hx hb dX1_greatestWetness_17 rfl (lv_at hl 2 rfl) ?_
      refine wld_d hx hb hw hLw hfw i hlt hn31 rfl dX1_greatestWetness_18 ?_
      refine lv_dload_n hx hb dX1_greatestWetness_19 rfl (lv_at hl 1 rfl) ?_
      refine lv_dcmp hx hb dX1_greatestWetness_20 ?_
      refine lv_if_le (tgt := 31) hx hb dX1_greatestWetness_21 (by decide) (fun c21 => ?_) (fun c21 => ?_)
      · have e9 : maxD g (i + 1) = maxD g i := by simp [maxD, cmp_le c21]
        refine lv_iinc (v := nI (i + 1)) (lv' := [(3, .int (nI (i + 1))), (0, .ref b), (1, .double (maxD g i))]) hx hb dX1_greatestWetness_31 hl (k := 2) rfl (nI_1 i) (by decide) rfl (fun ls hl => ?_)
        refine lv_goto (tgt := 4) hx hb dX1_greatestWetness_34 (by decide) ?_
        exact ih (i + 1) (by omega) ls (by rw [e9]; exact lv_sub hl [1, 2, 0] rfl)
      · have e9 : maxD g (i + 1) = g i := by simp [maxD, cmp_nle c21]
        refine lv_aload_n hx hb dX1_greatestWetness_24 rfl (lv_at hl 0 rfl) ?_
        refine wg (C := RX1) (T := TX1) (N := 7) hx hb hts hi1 hown hw hLb hfb rfl 0 (by decide) (hts (.fieldLink RX1 9 "LayerMoisture$Board" "wetness" "[D") (by decide +kernel)) (fun _ h9 => h9) (v := .ref w) rfl dX1_greatestWetness_25 ?_
        refine lv_iload_n hx hb dX1_greatestWetness_28 rfl (lv_at hl 2 rfl) ?_
        refine wld_d hx hb hw hLw hfw i hlt hn31 rfl dX1_greatestWetness_29 ?_
        refine lv_dstore_n (lv' := [(1, .double (g i)), (0, .ref b), (3, .int (nI i))]) hx hb dX1_greatestWetness_30 rfl hl (by decide) rfl (fun ls hl => ?_)
        refine lv_iinc (v := nI (i + 1)) (lv' := [(3, .int (nI (i + 1))), (1, .double (g i)), (0, .ref b)]) hx hb dX1_greatestWetness_31 hl (k := 2) rfl (nI_1 i) (by decide) rfl (fun ls hl => ?_)
        refine lv_goto (tgt := 4) hx hb dX1_greatestWetness_34 (by decide) ?_
        exact ih (i + 1) (by omega) ls (by rw [e9]; exact lv_sub hl [2, 1, 0] rfl)
  exact loop n 0 (by omega) ls (lv_sub hl [2, 1, 0] rfl)

set_option maxHeartbeats 4000000 in
set_option maxRecDepth 100000 in
theorem c_X1_faceFlow (l : Launch) (G : va_G) (dA : Nat → ClassId) (L : List Nat) (f : Nat → va_E) (b w k : Nat) (th lim kept : Int32) (dep load x spd bal : UInt64) (hLb : b ∈ L) (hfb : f b = .inr (2, [.ref w, .ref k, .int th, .double dep, .int lim, .double load, .int kept]))  (n4 : vf_n64 (FP.dsub x bal)) (n5 : vf_n64 (FP.dmul spd (FP.dsub x bal))) (n13 : vf_n64 (FP.dmul 4620693217682128896 dep)) (n14 : vf_n64 (FP.ddiv (FP.dmul spd (FP.dsub x bal)) (FP.dmul 4620693217682128896 dep))) : mD l yX1_faceFlow wsX1_faceFlow ({ frames := 0, cells := 0, slots := 0, locals := 0 }) G dA [.ref b, .double x, .double spd, .double bal] L f (fun r f2 => r = sp_face dep x spd bal ∧ f2 = f) := by
  refine mD_of (cc := cX1_faceFlow) (maxL := 7) (by decide) rfl (Nat.le_of_ble_eq_true rfl) ?_
  intro p e s m below meth c A ls Q hx hb hml hown hts hlocks hA hin0 hw hl hret
  have hown : s.vm.findClass RX1 = some m.cls := hown
  have hl : lv_has ls 7 [(0, .ref b), (1, .double x), (3, .double spd), (5, .double bal)] := hl
  have hi1 : ∀ w ∈ u_ws RX1 TX1 7, w ∈ wsX1_faceFlow := by decide +kernel
  refine lv_dload_n hx hb dX1_faceFlow_0 rfl (lv_at hl 2 rfl) ?_
  refine lv_dload_n hx hb dX1_faceFlow_1 rfl (lv_at hl 1 rfl) ?_
  refine lv_dload hx hb dX1_faceFlow_2 (lv_at hl 3 rfl) ?_
  refine lv_dsub hx hb dX1_faceFlow_4 n4 ?_
  refine lv_dmul hx hb dX1_faceFlow_5 n5 ?_
  refine lv_ldc2d (v := 4620693217682128896) hx hb hown (hts (.constantDouble RX1 37 (4620693217682128896)) (by decide +kernel)) dX1_faceFlow_6 ?_
  refine lv_aload_n hx hb dX1_faceFlow_9 rfl (lv_at hl 0 rfl) ?_
  refine wg (C := RX1) (T := TX1) (N := 7) hx hb hts hi1 hown hw hLb hfb rfl 3 (by decide) (hts (.fieldLink RX1 23 "LayerMoisture$Board" "depth" "D") (by decide +kernel)) (fun _ h9 => h9) (v := .double dep) rfl dX1_faceFlow_10 ?_
  refine lv_dmul hx hb dX1_faceFlow_13 n13 ?_
  refine lv_ddiv hx hb dX1_faceFlow_14 n14 ?_
  exact hret _ _ _ _ _ _ hw ⟨rfl, rfl⟩ dX1_faceFlow_15

set_option maxHeartbeats 4000000 in
set_option maxRecDepth 100000 in
theorem c_X1_slopeFlow (l : Launch) (G : va_G) (dA : Nat → ClassId) (L : List Nat) (f : Nat → va_E) (b w k : Nat) (th lim kept : Int32) (dep load ka kb x y : UInt64) (hLb : b ∈ L) (hfb : f b = .inr (2, [.ref w, .ref k, .int th, .double dep, .int lim, .double load, .int kept])) (hLk : k ∈ L) (hfk : f k = .inr (3, [.double ka, .double kb]))  (n6 : vf_n64 (FP.dadd x y)) (n10 : vf_n64 (FP.ddiv (FP.dadd x y) 4611686018427387904)) (n901 : vf_n64 (FP.dmul kb (FP.ddiv (FP.dadd x y) 4611686018427387904))) (n902 : vf_n64 (FP.dadd ka (FP.dmul kb (FP.ddiv (FP.dadd x y) 4611686018427387904)))) (n16 : vf_n64 (FP.dsub x y)) (n17 : vf_n64 (FP.dmul (sp_speed ka kb (FP.ddiv (FP.dadd x y) 4611686018427387904)) (FP.dsub x y))) (n26 : vf_n64 (FP.dmul dep dep)) (n27 : vf_n64 (FP.ddiv (FP.dmul (sp_speed ka kb (FP.ddiv (FP.dadd x y) 4611686018427387904)) (FP.dsub x y)) (FP.dmul dep dep))) : mD l yX1_slopeFlow wsX1_slopeFlow ({ frames := 1, cells := 0, slots := 0, locals := 22 }) G dA [.ref b, .double x, .double y] L f (fun r f2 => r = sp_slope ka kb dep x y ∧ f2 = f) := by
  refine mD_of (cc := cX1_slopeFlow) (maxL := 5) (by decide) rfl (Nat.le_of_ble_eq_true rfl) ?_
  intro p e s m below meth c A ls Q hx hb hml hown hts hlocks hA hin0 hw hl hret
  have hown : s.vm.findClass RX1 = some m.cls := hown
  have hl : lv_has ls 5 [(0, .ref b), (1, .double x), (3, .double y)] := hl
  have hi1 : ∀ w ∈ u_ws RX1 TX1 7, w ∈ wsX1_slopeFlow := by decide +kernel
  refine lv_aload_n hx hb dX1_slopeFlow_0 rfl (lv_at hl 0 rfl) ?_
  refine wg (C := RX1) (T := TX1) (N := 7) hx hb hts hi1 hown hw hLb hfb rfl 1 (by decide) (hts (.fieldLink RX1 15 "LayerMoisture$Board" "kind" "LLayerMoisture$Kind;") (by decide +kernel)) (fun _ h9 => h9) (v := .ref k) rfl dX1_slopeFlow_1 ?_
  refine lv_dload_n hx hb dX1_slopeFlow_4 rfl (lv_at hl 1 rfl) ?_
  refine lv_dload_n hx hb dX1_slopeFlow_5 rfl (lv_at hl 2 rfl) ?_
  refine lv_dadd hx hb dX1_slopeFlow_6 n6 ?_
  refine lv_ldc2d (v := 4611686018427387904) hx hb hown (hts (.constantDouble RX1 61 (4611686018427387904)) (by decide +kernel)) dX1_slopeFlow_7 ?_
  refine lv_ddiv hx hb dX1_slopeFlow_10 n10 ?_
  refine kV_D (C := RX2) (T := TX2) (N := 2) (As := [.double (FP.ddiv (FP.dadd x y) 4611686018427387904)]) (rest := []) ⟨hx, hb, hml, hown, hts⟩ (c_X2_speedAt l G dA L f k ka kb (FP.ddiv (FP.dadd x y) 4611686018427387904) hLk hfk n901 n902) (cwV 1 hts gX1_slopeFlow_X2_speedAt rfl rfl rfl (by decide +kernel) ⟨Nat.le_of_ble_eq_true rfl, Nat.le_of_ble_eq_true rfl⟩) hw hA hLk hfk rfl rfl hl.1 rfl (Nat.le_of_ble_eq_true rfl) dX1_slopeFlow_11 ⟨Nat.zero_le _, Nat.zero_le _⟩ (fun r1 f2 H locs hp hw => ?_)
  obtain ⟨e1, e2⟩ := hp
  rw [e2] at hw
  rw [e1]
  refine lv_dload_n hx hb dX1_slopeFlow_14 rfl (lv_at hl 1 rfl) ?_
  refine lv_dload_n hx hb dX1_slopeFlow_15 rfl (lv_at hl 2 rfl) ?_
  refine lv_dsub hx hb dX1_slopeFlow_16 n16 ?_
  refine lv_dmul hx hb dX1_slopeFlow_17 n17 ?_
  refine lv_aload_n hx hb dX1_slopeFlow_18 rfl (lv_at hl 0 rfl) ?_
  refine wg (C := RX1) (T := TX1) (N := 7) hx hb hts hi1 hown hw hLb hfb rfl 3 (by decide) (hts (.fieldLink RX1 23 "LayerMoisture$Board" "depth" "D") (by decide +kernel)) (fun _ h9 => h9) (v := .double dep) rfl dX1_slopeFlow_19 ?_
  refine lv_aload_n hx hb dX1_slopeFlow_22 rfl (lv_at hl 0 rfl) ?_
  refine wg (C := RX1) (T := TX1) (N := 7) hx hb hts hi1 hown hw hLb hfb rfl 3 (by decide) (hts (.fieldLink RX1 23 "LayerMoisture$Board" "depth" "D") (by decide +kernel)) (fun _ h9 => h9) (v := .double dep) rfl dX1_slopeFlow_23 ?_
  refine lv_dmul hx hb dX1_slopeFlow_26 n26 ?_
  refine lv_ddiv hx hb dX1_slopeFlow_27 n27 ?_
  exact hret _ _ _ _ _ _ hw ⟨rfl, rfl⟩ dX1_slopeFlow_28
