set_option maxHeartbeats 4000000 in
set_option maxRecDepth 100000 in
theorem c_X2_speedAt (l : Launch) (G : va_G) (dA : Nat → ClassId) (L : List Nat) (f : Nat → va_E) (a : Nat) (ka kb w : UInt64) (hLa : a ∈ L) (hfa : f a = .inr (3, [.double ka, .double kb]))  (n9 : vf_n64 (FP.dmul kb w)) (n10 : vf_n64 (FP.dadd ka (FP.dmul kb w))) : mD l yX2_speedAt wsX2_speedAt ({ frames := 0, cells := 0, slots := 0, locals := 0 }) G dA [.ref a, .double w] L f (fun r f2 => r = sp_speed ka kb w ∧ f2 = f) := by
  refine mD_of (cc := cX2_speedAt) (maxL := 3) (by decide) rfl (Nat.le_of_ble_eq_true rfl) ?_
  intro p e s m below meth c A ls Q hx hb hml hown hts hlocks hA hin0 hw hl hret
  have hown : s.vm.findClass RX2 = some m.cls := hown
  have hl : lv_has ls 3 [(0, .ref a), (1, .double w)] := hl
  have hi2 : ∀ w ∈ u_ws RX2 TX2 2, w ∈ wsX2_speedAt := by decide +kernel
  refine lv_aload_n hx hb dX2_speedAt_0 rfl (lv_at hl 0 rfl) ?_
  refine wg (C := RX2) (T := TX2) (N := 2) hx hb hts hi2 hown hw hLa hfa rfl 0 (by decide) (hts (.fieldLink RX2 7 "LayerMoisture$Kind" "a" "D") (by decide +kernel)) (fun _ h9 => h9) (v := .double ka) rfl dX2_speedAt_1 ?_
  refine lv_aload_n hx hb dX2_speedAt_4 rfl (lv_at hl 0 rfl) ?_
  refine wg (C := RX2) (T := TX2) (N := 2) hx hb hts hi2 hown hw hLa hfa rfl 1 (by decide) (hts (.fieldLink RX2 13 "LayerMoisture$Kind" "b" "D") (by decide +kernel)) (fun _ h9 => h9) (v := .double kb) rfl dX2_speedAt_5 ?_
  refine lv_dload_n hx hb dX2_speedAt_8 rfl (lv_at hl 1 rfl) ?_
  refine lv_dmul hx hb dX2_speedAt_9 n9 ?_
  refine lv_dadd hx hb dX2_speedAt_10 n10 ?_
  exact hret _ _ _ _ _ _ hw ⟨rfl, rfl⟩ dX2_speedAt_11

set_option maxHeartbeats 4000000 in
set_option maxRecDepth 100000 in
theorem c_X0_balanceNow (l : Launch) (G : va_G) (dA : Nat → ClassId) (L : List Nat) (f : Nat → va_E) (a : Nat) (kel damp spd vent : UInt64) (hLa : a ∈ L) (hfa : f a = .inr (1, [.double kel, .double damp, .double spd, .double vent]))  (n7 : vf_n64 (FP.dmul 4600427019358961664 damp)) (n16 : vf_n64 (FP.dsub kel 4643510282981736448)) (n20 : vf_n64 (FP.ddiv (FP.dsub kel 4643510282981736448) 4643211215818981376)) (n21 : vf_n64 (FP.dsub FP.dconst1 (FP.ddiv (FP.dsub kel 4643510282981736448) 4643211215818981376))) (n22 : vf_n64 (FP.dmul (FP.dmul 4600427019358961664 damp) (FP.dsub FP.dconst1 (FP.ddiv (FP.dsub kel 4643510282981736448) 4643211215818981376)))) : mD l yX0_balanceNow wsX0_balanceNow ({ frames := 0, cells := 0, slots := 0, locals := 0 }) G dA [.ref a] L f (fun r f2 => r = sp_bal kel damp ∧ f2 = f) := by
  refine mD_of (cc := cX0_balanceNow) (maxL := 1) (by decide) rfl (Nat.le_of_ble_eq_true rfl) ?_
  intro p e s m below meth c A ls Q hx hb hml hown hts hlocks hA hin0 hw hl hret
  have hown : s.vm.findClass RX0 = some m.cls := hown
  have hl : lv_has ls 1 [(0, .ref a)] := hl
  have hi0 : ∀ w ∈ u_ws RX0 TX0 4, w ∈ wsX0_balanceNow := by decide +kernel
  refine lv_ldc2d (v := 4600427019358961664) hx hb hown (hts (.constantDouble RX0 26 (4600427019358961664)) (by decide +kernel)) dX0_balanceNow_0 ?_
  refine lv_aload_n hx hb dX0_balanceNow_3 rfl (lv_at hl 0 rfl) ?_
  refine wg (C := RX0) (T := TX0) (N := 4) hx hb hts hi0 hown hw hLa hfa rfl 1 (by decide) (hts (.fieldLink RX0 17 "LayerMoisture$Air" "damp" "D") (by decide +kernel)) (fun _ h9 => h9) (v := .double damp) rfl dX0_balanceNow_4 ?_
  refine lv_dmul hx hb dX0_balanceNow_7 n7 ?_
  refine lv_dconst1 hx hb dX0_balanceNow_8 ?_
  refine lv_aload_n hx hb dX0_balanceNow_9 rfl (lv_at hl 0 rfl) ?_
  refine wg (C := RX0) (T := TX0) (N := 4) hx hb hts hi0 hown hw hLa hfa rfl 0 (by decide) (hts (.fieldLink RX0 9 "LayerMoisture$Air" "kelvin" "D") (by decide +kernel)) (fun _ h9 => h9) (v := .double kel) rfl dX0_balanceNow_10 ?_
  refine lv_ldc2d (v := 4643510282981736448) hx hb hown (hts (.constantDouble RX0 28 (4643510282981736448)) (by decide +kernel)) dX0_balanceNow_13 ?_
  refine lv_dsub hx hb dX0_balanceNow_16 n16 ?_
  refine lv_ldc2d (v := 4643211215818981376) hx hb hown (hts (.constantDouble RX0 30 (4643211215818981376)) (by decide +kernel)) dX0_balanceNow_17 ?_
  refine lv_ddiv hx hb dX0_balanceNow_20 n20 ?_
  refine lv_dsub hx hb dX0_balanceNow_21 n21 ?_
  refine lv_dmul hx hb dX0_balanceNow_22 n22 ?_
  exact hret _ _ _ _ _ _ hw ⟨rfl, rfl⟩ dX0_balanceNow_23

set_option maxHeartbeats 4000000 in
set_option maxRecDepth 100000 in
theorem c_X0_takeUp (l : Launch) (G : va_G) (dA : Nat → ClassId) (L : List Nat) (f : Nat → va_E) (a : Nat) (kel damp spd vent water : UInt64) (hLa : a ∈ L) (hfa : f a = .inr (1, [.double kel, .double damp, .double spd, .double vent]))  (n8 : vf_n64 (FP.ddiv water 4679240012837945344)) (n14 : vf_n64 (FP.dsub FP.dconst1 vent)) (n15 : vf_n64 (FP.dmul (FP.ddiv water 4679240012837945344) (FP.dsub FP.dconst1 vent))) (n16 : vf_n64 (FP.dadd damp (FP.dmul (FP.ddiv water 4679240012837945344) (FP.dsub FP.dconst1 vent)))) : mV l yX0_takeUp wsX0_takeUp ({ frames := 0, cells := 0, slots := 0, locals := 0 }) G dA [.ref a, .double water] L f (fun f2 => f2 = va_up f a (.inr (1, [.double kel, .double (sp_damp damp vent water), .double spd, .double vent]))) := by
  refine mV_of (cc := cX0_takeUp) (maxL := 5) (by decide) rfl (Nat.le_of_ble_eq_true rfl) ?_
  intro p e s m below meth c A ls Q hx hb hml hown hts hlocks hA hin0 hw hl hret
  have hown : s.vm.findClass RX0 = some m.cls := hown
  have hl : lv_has ls 5 [(0, .ref a), (1, .double water)] := hl
  have hi0 : ∀ w ∈ u_ws RX0 TX0 4, w ∈ wsX0_takeUp := by decide +kernel
  refine lv_aload_n hx hb dX0_takeUp_0 rfl (lv_at hl 0 rfl) ?_
  refine wg (C := RX0) (T := TX0) (N := 4) hx hb hts hi0 hown hw hLa hfa rfl 1 (by decide) (hts (.fieldLink RX0 17 "LayerMoisture$Air" "damp" "D") (by decide +kernel)) (fun _ h9 => h9) (v := .double damp) rfl dX0_takeUp_1 ?_
  refine lv_dload_n hx hb dX0_takeUp_4 rfl (lv_at hl 1 rfl) ?_
  refine lv_ldc2d (v := 4679240012837945344) hx hb hown (hts (.constantDouble RX0 32 (4679240012837945344)) (by decide +kernel)) dX0_takeUp_5 ?_
  refine lv_ddiv hx hb dX0_takeUp_8 n8 ?_
  refine lv_dconst1 hx hb dX0_takeUp_9 ?_
  refine lv_aload_n hx hb dX0_takeUp_10 rfl (lv_at hl 0 rfl) ?_
  refine wg (C := RX0) (T := TX0) (N := 4) hx hb hts hi0 hown hw hLa hfa rfl 3 (by decide) (hts (.fieldLink RX0 23 "LayerMoisture$Air" "ventShare" "D") (by decide +kernel)) (fun _ h9 => h9) (v := .double vent) rfl dX0_takeUp_11 ?_
  refine lv_dsub hx hb dX0_takeUp_14 n14 ?_
  refine lv_dmul hx hb dX0_takeUp_15 n15 ?_
  refine lv_dadd hx hb dX0_takeUp_16 n16 ?_
  refine lv_dstore_n (lv' := [(3, .double (FP.dadd damp (FP.dmul (FP.ddiv water 4679240012837945344) (FP.dsub FP.dconst1 vent)))), (0, .ref a), (1, .double water)]) hx hb dX0_takeUp_17 rfl hl (by decide) rfl (fun ls hl => ?_)
  refine lv_dload_n hx hb dX0_takeUp_18 rfl (lv_at hl 0 rfl) ?_
  refine lv_dconst0 hx hb dX0_takeUp_19 ?_
  refine lv_dcmp hx hb dX0_takeUp_20 ?_
  refine lv_if_ge (tgt := 26) hx hb dX0_takeUp_21 (by decide) (fun c21 => ?_) (fun c21 => ?_)
  · have q21 := cmp_ge c21
    refine lv_aload_n hx hb dX0_takeUp_26 rfl (lv_at hl 1 rfl) ?_
    refine lv_dload_n hx hb dX0_takeUp_27 rfl (lv_at hl 0 rfl) ?_
    refine lv_dconst1 hx hb dX0_takeUp_28 ?_
    refine lv_dcmp hx hb dX0_takeUp_29 ?_
    refine lv_if_le (tgt := 37) hx hb dX0_takeUp_30 (by decide) (fun c30 => ?_) (fun c30 => ?_)
    · have q30 := cmp_le c30
      refine lv_dload_n hx hb dX0_takeUp_37 rfl (lv_at hl 0 rfl) ?_
      refine wp_ (C := RX0) (T := TX0) (N := 4) hx hb hts hi0 tyX0 tyX0_ok nmX0 hown hw hLa hfa rfl 1 (by decide) (hts (.fieldLink RX0 17 "LayerMoisture$Air" "damp" "D") (by decide +kernel)) (fun _ h9 => h9) rfl (ty := .double) (v := .double (FP.dadd damp (FP.dmul (FP.ddiv water 4679240012837945344) (FP.dsub FP.dconst1 vent)))) (by decide +kernel) rfl rfl (Nat.le_of_ble_eq_true rfl) dX0_takeUp_38 (fun H locs hw => ?_)
      obtain ⟨f1, ef1⟩ : ∃ z : Nat → va_E, z = va_up f a (.inr (1, [.double kel, .double (FP.dadd damp (FP.dmul (FP.ddiv water 4679240012837945344) (FP.dsub FP.dconst1 vent))), .double spd, .double vent])) := ⟨_, rfl⟩
      have hw : ww G dA A s L f1 H locs := by rw [ef1]; exact hw
      have h2 : f1 a = .inr (1, [.double kel, .double (FP.dadd damp (FP.dmul (FP.ddiv water 4679240012837945344) (FP.dsub FP.dconst1 vent))), .double spd, .double vent]) := by rw [ef1]; exact va_up_self _ _ _
      exact hret _ _ _ _ _ hw (by rw [ef1]; simp only [sp_damp, sp_lo, sp_hi, sp_damp1]; simp [q21, q30]) dX0_takeUp_41
    · have q30 := cmp_nle c30
      refine lv_dconst1 hx hb dX0_takeUp_33 ?_
      refine lv_goto (tgt := 38) hx hb dX0_takeUp_34 (by decide) ?_
      refine wp_ (C := RX0) (T := TX0) (N := 4) hx hb hts hi0 tyX0 tyX0_ok nmX0 hown hw hLa hfa rfl 1 (by decide) (hts (.fieldLink RX0 17 "LayerMoisture$Air" "damp" "D") (by decide +kernel)) (fun _ h9 => h9) rfl (ty := .double) (v := .double FP.dconst1) (by decide +kernel) rfl rfl (Nat.le_of_ble_eq_true rfl) dX0_takeUp_38 (fun H locs hw => ?_)
      obtain ⟨f3, ef3⟩ : ∃ z : Nat → va_E, z = va_up f a (.inr (1, [.double kel, .double FP.dconst1, .double spd, .double vent])) := ⟨_, rfl⟩
      have hw : ww G dA A s L f3 H locs := by rw [ef3]; exact hw
      have h4 : f3 a = .inr (1, [.double kel, .double FP.dconst1, .double spd, .double vent]) := by rw [ef3]; exact va_up_self _ _ _
      exact hret _ _ _ _ _ hw (by rw [ef3]; simp only [sp_damp, sp_lo, sp_hi, sp_damp1]; simp [q21, q30]) dX0_takeUp_41
  · have q21 := cmp_nge c21
    refine lv_dconst0 hx hb dX0_takeUp_24 ?_
    refine lv_dstore_n (lv' := [(3, .double FP.dconst0), (0, .ref a), (1, .double water)]) hx hb dX0_takeUp_25 rfl hl (by decide) rfl (fun ls hl => ?_)
    refine lv_aload_n hx hb dX0_takeUp_26 rfl (lv_at hl 1 rfl) ?_
    refine lv_dload_n hx hb dX0_takeUp_27 rfl (lv_at hl 0 rfl) ?_
    refine lv_dconst1 hx hb dX0_takeUp_28 ?_
    refine lv_dcmp hx hb dX0_takeUp_29 ?_
    refine lv_if_le (tgt := 37) hx hb dX0_takeUp_30 (by decide) (fun c30 => ?_) (fun c30 => ?_)
    · have q30 := cmp_le c30
      refine lv_dload_n hx hb dX0_takeUp_37 rfl (lv_at hl 0 rfl) ?_
      refine wp_ (C := RX0) (T := TX0) (N := 4) hx hb hts hi0 tyX0 tyX0_ok nmX0 hown hw hLa hfa rfl 1 (by decide) (hts (.fieldLink RX0 17 "LayerMoisture$Air" "damp" "D") (by decide +kernel)) (fun _ h9 => h9) rfl (ty := .double) (v := .double FP.dconst0) (by decide +kernel) rfl rfl (Nat.le_of_ble_eq_true rfl) dX0_takeUp_38 (fun H locs hw => ?_)
      obtain ⟨f5, ef5⟩ : ∃ z : Nat → va_E, z = va_up f a (.inr (1, [.double kel, .double FP.dconst0, .double spd, .double vent])) := ⟨_, rfl⟩
      have hw : ww G dA A s L f5 H locs := by rw [ef5]; exact hw
      have h6 : f5 a = .inr (1, [.double kel, .double FP.dconst0, .double spd, .double vent]) := by rw [ef5]; exact va_up_self _ _ _
      exact hret _ _ _ _ _ hw (by rw [ef5]; simp only [sp_damp, sp_lo, sp_hi, sp_damp1]; simp [q21, q30]) dX0_takeUp_41
    · have q30 := cmp_nle c30
      refine lv_dconst1 hx hb dX0_takeUp_33 ?_
      refine lv_goto (tgt := 38) hx hb dX0_takeUp_34 (by decide) ?_
      refine wp_ (C := RX0) (T := TX0) (N := 4) hx hb hts hi0 tyX0 tyX0_ok nmX0 hown hw hLa hfa rfl 1 (by decide) (hts (.fieldLink RX0 17 "LayerMoisture$Air" "damp" "D") (by decide +kernel)) (fun _ h9 => h9) rfl (ty := .double) (v := .double FP.dconst1) (by decide +kernel) rfl rfl (Nat.le_of_ble_eq_true rfl) dX0_takeUp_38 (fun H locs hw => ?_)
      obtain ⟨f7, ef7⟩ : ∃ z : Nat → va_E, z = va_up f a (.inr (1, [.double kel, .double FP.dconst1, .double spd, .double vent])) := ⟨_, rfl⟩
      have hw : ww G dA A s L f7 H locs := by rw [ef7]; exact hw
      have h8 : f7 a = .inr (1, [.double kel, .double FP.dconst1, .double spd, .double vent]) := by rw [ef7]; exact va_up_self _ _ _
      exact hret _ _ _ _ _ hw (by rw [ef7]; simp only [sp_damp, sp_lo, sp_hi, sp_damp1]; simp [q21, q30]) dX0_takeUp_41

set_option maxHeartbeats 4000000 in
set_option maxRecDepth 100000 in
theorem c_X3_take (l : Launch) (G : va_G) (dA : Nat → ClassId) (L : List Nat) (f : Nat → va_E) (a : Nat) (rest water : UInt64) (gone : Int64) (hLa : a ∈ L) (hfa : f a = .inr (4, [.double rest, .long gone]))  (n6 : vf_n64 (FP.dadd rest water)) (n23 : vf_n64 (FP.dsub (FP.dadd rest water) (FP.l2d (FP.d2l (FP.dadd rest water))))) : mV l yX3_take wsX3_take ({ frames := 0, cells := 0, slots := 0, locals := 0 }) G dA [.ref a, .double water] L f (fun f2 => f2 = va_up f a (.inr (4, [.double (FP.dsub (FP.dadd rest water) (FP.l2d (FP.d2l (FP.dadd rest water)))), .long (gone + FP.d2l (FP.dadd rest water))]))) := by
  refine mV_of (cc := cX3_take) (maxL := 5) (by decide) rfl (Nat.le_of_ble_eq_true rfl) ?_
  intro p e s m below meth c A ls Q hx hb hml hown hts hlocks hA hin0 hw hl hret
  have hown : s.vm.findClass RX3 = some m.cls := hown
  have hl : lv_has ls 5 [(0, .ref a), (1, .double water)] := hl
  have hi3 : ∀ w ∈ u_ws RX3 TX3 2, w ∈ wsX3_take := by decide +kernel
  refine lv_aload_n hx hb dX3_take_0 rfl (lv_at hl 0 rfl) ?_
  refine lv_aload_n hx hb dX3_take_1 rfl (lv_at hl 0 rfl) ?_
  refine wg (C := RX3) (T := TX3) (N := 2) hx hb hts hi3 hown hw hLa hfa rfl 0 (by decide) (hts (.fieldLink RX3 7 "LayerMoisture$Ledger" "rest" "D") (by decide +kernel)) (fun _ h9 => h9) (v := .double rest) rfl dX3_take_2 ?_
  refine lv_dload_n hx hb dX3_take_5 rfl (lv_at hl 1 rfl) ?_
  refine lv_dadd hx hb dX3_take_6 n6 ?_
  refine wp_ (C := RX3) (T := TX3) (N := 2) hx hb hts hi3 tyX3 tyX3_ok nmX3 hown hw hLa hfa rfl 0 (by decide) (hts (.fieldLink RX3 7 "LayerMoisture$Ledger" "rest" "D") (by decide +kernel)) (fun _ h9 => h9) rfl (ty := .double) (v := .double (FP.dadd rest water)) (by decide +kernel) rfl rfl (Nat.le_of_ble_eq_true rfl) dX3_take_7 (fun H locs hw => ?_)
  obtain ⟨f1, ef1⟩ : ∃ z : Nat → va_E, z = va_up f a (.inr (4, [.double (FP.dadd rest water), .long gone])) := ⟨_, rfl⟩
  have hw : ww G dA A s L f1 H locs := by rw [ef1]; exact hw
  have h2 : f1 a = .inr (4, [.double (FP.dadd rest water), .long gone]) := by rw [ef1]; exact va_up_self _ _ _
  refine lv_aload_n hx hb dX3_take_10 rfl (lv_at hl 0 rfl) ?_
  refine wg (C := RX3) (T := TX3) (N := 2) hx hb hts hi3 hown hw hLa h2 rfl 0 (by decide) (hts (.fieldLink RX3 7 "LayerMoisture$Ledger" "rest" "D") (by decide +kernel)) (fun _ h9 => h9) (v := .double (FP.dadd rest water)) rfl dX3_take_11 ?_
  refine lv_d2l hx hb dX3_take_14 ?_
  refine lv_lstore_n (lv' := [(3, .long (FP.d2l (FP.dadd rest water))), (0, .ref a), (1, .double water)]) hx hb dX3_take_15 rfl hl (by decide) rfl (fun ls hl => ?_)
  refine lv_aload_n hx hb dX3_take_16 rfl (lv_at hl 1 rfl) ?_
  refine lv_aload_n hx hb dX3_take_17 rfl (lv_at hl 1 rfl) ?_
  refine wg (C := RX3) (T := TX3) (N := 2) hx hb hts hi3 hown hw hLa h2 rfl 0 (by decide) (hts (.fieldLink RX3 7 "LayerMoisture$Ledger" "rest" "D") (by decide +kernel)) (fun _ h9 => h9) (v := .double (FP.dadd rest water)) rfl dX3_take_18 ?_
  refine lv_lload_n hx hb dX3_take_21 rfl (lv_at hl 0 rfl) ?_
  refine lv_l2d hx hb dX3_take_22 ?_
  refine lv_dsub hx hb dX3_take_23 n23 ?_
  refine wp_ (C := RX3) (T := TX3) (N := 2) hx hb hts hi3 tyX3 tyX3_ok nmX3 hown hw hLa h2 rfl 0 (by decide) (hts (.fieldLink RX3 7 "LayerMoisture$Ledger" "rest" "D") (by decide +kernel)) (fun _ h9 => h9) rfl (ty := .double) (v := .double (FP.dsub (FP.dadd rest water) (FP.l2d (FP.d2l (FP.dadd rest water))))) (by decide +kernel) rfl rfl (Nat.le_of_ble_eq_true rfl) dX3_take_24 (fun H locs hw => ?_)
  obtain ⟨f3, ef3⟩ : ∃ z : Nat → va_E, z = va_up f1 a (.inr (4, [.double (FP.dsub (FP.dadd rest water) (FP.l2d (FP.d2l (FP.dadd rest water)))), .long gone])) := ⟨_, rfl⟩
  have hw : ww G dA A s L f3 H locs := by rw [ef3]; exact hw
  have h4 : f3 a = .inr (4, [.double (FP.dsub (FP.dadd rest water) (FP.l2d (FP.d2l (FP.dadd rest water)))), .long gone]) := by rw [ef3]; exact va_up_self _ _ _
  refine lv_aload_n hx hb dX3_take_27 rfl (lv_at hl 1 rfl) ?_
  refine lv_aload_n hx hb dX3_take_28 rfl (lv_at hl 1 rfl) ?_
  refine wg (C := RX3) (T := TX3) (N := 2) hx hb hts hi3 hown hw hLa h4 rfl 1 (by decide) (hts (.fieldLink RX3 13 "LayerMoisture$Ledger" "gone" "J") (by decide +kernel)) (fun _ h9 => h9) (v := .long gone) rfl dX3_take_29 ?_
  refine lv_lload_n hx hb dX3_take_32 rfl (lv_at hl 0 rfl) ?_
  refine lv_ladd hx hb dX3_take_33 ?_
  refine wp_ (C := RX3) (T := TX3) (N := 2) hx hb hts hi3 tyX3 tyX3_ok nmX3 hown hw hLa h4 rfl 1 (by decide) (hts (.fieldLink RX3 13 "LayerMoisture$Ledger" "gone" "J") (by decide +kernel)) (fun _ h9 => h9) rfl (ty := .long) (v := .long (gone + (FP.d2l (FP.dadd rest water)))) (by decide +kernel) rfl rfl (Nat.le_of_ble_eq_true rfl) dX3_take_34 (fun H locs hw => ?_)
  obtain ⟨f5, ef5⟩ : ∃ z : Nat → va_E, z = va_up f3 a (.inr (4, [.double (FP.dsub (FP.dadd rest water) (FP.l2d (FP.d2l (FP.dadd rest water)))), .long (gone + (FP.d2l (FP.dadd rest water)))])) := ⟨_, rfl⟩
  have hw : ww G dA A s L f5 H locs := by rw [ef5]; exact hw
  have h6 : f5 a = .inr (4, [.double (FP.dsub (FP.dadd rest water) (FP.l2d (FP.d2l (FP.dadd rest water)))), .long (gone + (FP.d2l (FP.dadd rest water)))]) := by rw [ef5]; exact va_up_self _ _ _
  exact hret _ _ _ _ _ hw (by rw [ef5, ef3, ef1]; funext z; by_cases hz : z = a <;> simp [va_up, hz]) dX3_take_37
