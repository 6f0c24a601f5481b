set_option maxHeartbeats 4000000 in
set_option maxRecDepth 100000 in
theorem c_X7_fail (l : Launch) (G : va_G) (dA : Nat → ClassId) (L : List Nat) (f : Nat → va_E) (ad : Nat → Nat) (n nb : Nat) (q qk : Nat → Option Nat) (kel : UInt64) (dmp : UInt64) (spd : UInt64) (ven : UInt64) (lef : UInt64) (gon : Int64) (hr : Nat) (tl : Nat) (st : Nat) (dn : Nat) (thr : Int32) (pa : Nat) (bad : Int32) (num : Int32) (RA : Nat → UInt64) (RB : Nat → UInt64) (TH : Nat → Int32) (DE : Nat → UInt64) (KI : Nat → Int32) (WE : Nat → UInt64) (NX : Nat → UInt64) (LI : Nat → Int32) (LM : Nat → UInt64) (KE : Nat → Int32) (TX : Nat → Int32) (BW : Nat → Int32) (TI : Nat → Int32) (KV : Nat → Int32) (DM : Nat → Int32) (f0 : Nat → va_E) (x : Int32)  (hC : Cx ad L n nb q qk) (hX : MX ad dA n nb kel dmp spd ven lef gon hr tl st dn thr pa bad num RA RB TH DE KI WE NX LI LM KE TX BW TI KV DM f0 f)   : mI l yX7_fail wsX7_fail ({ frames := 0, cells := 0, slots := 0, locals := 0 }) G dA [.ref (ad 16), .int x] L f (fun r f2 => r = 0 ∧ MX ad dA n nb kel dmp spd ven lef gon hr tl st dn thr pa x num RA RB TH DE KI WE NX LI LM KE TX BW TI KV DM f0 f2) := by
  refine mI_of (cc := cX7_fail) (maxL := 2) (by decide) rfl (Nat.le_of_ble_eq_true rfl) ?_
  intro p e s m below meth c A ls Q hx hb hml hown hts hlocks hA hin0 hw hl hret
  have hown : s.vm.findClass RX7 = some m.cls := hown
  have hl : lv_has ls 2 [(0, .ref (ad 16)), (1, .int x)] := hl
  have hi7 : ∀ w ∈ u_ws RX7 TX7 31, w ∈ wsX7_fail := by decide +kernel
  refine lv_aload_n hx hb dX7_fail_0 rfl (lv_at hl 0 rfl) ?_
  refine lv_iload_n hx hb dX7_fail_1 rfl (lv_at hl 1 rfl) ?_
  refine wp_ (C := RX7) (T := TX7) (N := 31) hx hb hts hi7 tyX7 tyX7_ok nmX7 hown hw (hC.m (by decide)) hX.o rfl 23 (by decide) (hts (.fieldLink RX7 109 "LayerMoistureModel" "bad" "I") (by decide +kernel)) (fun _ h9 => h9) rfl (ty := .int) (v := .int x) (by decide +kernel) rfl rfl (Nat.le_of_ble_eq_true rfl) dX7_fail_2 (fun H locs hw => ?_)
  obtain ⟨f1, ef1⟩ : ∃ z : Nat → va_E, z = va_up f (ad 16) (.inr (8, [.int thr, .int (nI n), .int (nI nb), .ref (ad 17), .ref (ad 18), .double kel, .double dmp, .double spd, .double ven, .double lef, .long gon, .int (nI hr), .ref (ad 19), .ref (ad 20), .ref (ad 21), .ref (ad 22), .ref (ad 23), .ref (ad 24), .ref (ad 25), .ref (ad 26), .ref (ad 27), .int (nI tl), .int (nI pa), .int x, .int num, .ref (ad 28), .ref (ad 29), .ref (ad 30), .ref (ad 31), .int (nI st), .int (nI dn)])) := ⟨_, rfl⟩
  have hw : ww G dA A s L f1 H locs := by rw [ef1]; exact hw
  have hX2 : MX ad dA n nb kel dmp spd ven lef gon hr tl st dn thr pa x num RA RB TH DE KI WE NX LI LM KE TX BW TI KV DM f0 f1 := by rw [ef1]; exact hX.sO hC kel dmp spd ven lef gon hr tl st dn thr pa x num
  refine lv_iconst (v := 0) hx hb dX7_fail_5 (by decide) ?_
  exact hret _ _ _ _ _ _ hw ⟨rfl, hX2⟩ (by decide) dX7_fail_6

set_option maxHeartbeats 4000000 in
set_option maxRecDepth 100000 in
theorem c_X7_isDigit (l : Launch) (G : va_G) (dA : Nat → ClassId) (L : List Nat) (f : Nat → va_E) (ad : Nat → Nat) (n nb : Nat) (q qk : Nat → Option Nat) (kel : UInt64) (dmp : UInt64) (spd : UInt64) (ven : UInt64) (lef : UInt64) (gon : Int64) (hr : Nat) (tl : Nat) (st : Nat) (dn : Nat) (thr : Int32) (pa : Nat) (bad : Int32) (num : Int32) (RA : Nat → UInt64) (RB : Nat → UInt64) (TH : Nat → Int32) (DE : Nat → UInt64) (KI : Nat → Int32) (WE : Nat → UInt64) (NX : Nat → UInt64) (LI : Nat → Int32) (LM : Nat → UInt64) (KE : Nat → Int32) (TX : Nat → Int32) (BW : Nat → Int32) (TI : Nat → Int32) (KV : Nat → Int32) (DM : Nat → Int32) (f0 : Nat → va_E)   (hC : Cx ad L n nb q qk) (hX : MX ad dA n nb kel dmp spd ven lef gon hr tl st dn thr pa bad num RA RB TH DE KI WE NX LI LM KE TX BW TI KV DM f0 f) (htl : tl ≤ 200) (hpa : pa ≤ 200)  : mI l yX7_isDigit wsX7_isDigit ({ frames := 0, cells := 0, slots := 0, locals := 0 }) G dA [.ref (ad 16)] L f (fun r f2 => r = b2i (isD TX tl pa) ∧ f2 = f) := by
  refine mI_of (cc := cX7_isDigit) (maxL := 1) (by decide) rfl (Nat.le_of_ble_eq_true rfl) ?_
  intro p e s m below meth c A ls Q hx hb hml hown hts hlocks hA hin0 hw hl hret
  have hown : s.vm.findClass RX7 = some m.cls := hown
  have hl : lv_has ls 1 [(0, .ref (ad 16))] := hl
  have hi7 : ∀ w ∈ u_ws RX7 TX7 31, w ∈ wsX7_isDigit := by decide +kernel
  refine lv_aload_n hx hb dX7_isDigit_0 rfl (lv_at hl 0 rfl) ?_
  refine wg (C := RX7) (T := TX7) (N := 31) hx hb hts hi7 hown hw (hC.m (by decide)) hX.o rfl 22 (by decide) (hts (.fieldLink RX7 112 "LayerMoistureModel" "at" "I") (by decide +kernel)) (fun _ h9 => h9) (v := .int (nI pa)) rfl dX7_isDigit_1 ?_
  refine lv_aload_n hx hb dX7_isDigit_4 rfl (lv_at hl 0 rfl) ?_
  refine wg (C := RX7) (T := TX7) (N := 31) hx hb hts hi7 hown hw (hC.m (by decide)) hX.o rfl 21 (by decide) (hts (.fieldLink RX7 106 "LayerMoistureModel" "typed" "I") (by decide +kernel)) (fun _ h9 => h9) (v := .int (nI tl)) rfl dX7_isDigit_5 ?_
  refine lv_icmp_ge (tgt := 43) hx hb dX7_isDigit_8 (by decide) (fun c8 => ?_) (fun c8 => ?_)
  · have hge : tl ≤ pa := (nI_leI (by omega) (by omega)).mp c8
    have hnx : nxt TX tl pa = 0 := if_neg (Nat.not_lt.mpr hge)
    have e9 : isD TX tl pa = false := by unfold isD; rw [hnx]; rfl
    refine lv_iconst (v := 0) hx hb dX7_isDigit_43 (by decide) ?_
    exact hret _ _ _ _ _ _ hw ⟨by rw [e9]; rfl, rfl⟩ (by decide) dX7_isDigit_44
  · have hpt : pa < tl := Nat.lt_of_not_le fun h8 => c8 ((nI_leI (by omega) (by omega)).mpr h8)
    have hnx : nxt TX tl pa = TX pa := if_pos hpt
    refine lv_aload_n hx hb dX7_isDigit_11 rfl (lv_at hl 0 rfl) ?_
    refine wg (C := RX7) (T := TX7) (N := 31) hx hb hts hi7 hown hw (hC.m (by decide)) hX.o rfl 20 (by decide) (hts (.fieldLink RX7 56 "LayerMoistureModel" "text" "[I") (by decide +kernel)) (fun _ h9 => h9) (v := .ref (ad 27)) rfl dX7_isDigit_12 ?_
    refine lv_aload_n hx hb dX7_isDigit_15 rfl (lv_at hl 0 rfl) ?_
    refine wg (C := RX7) (T := TX7) (N := 31) hx hb hts hi7 hown hw (hC.m (by decide)) hX.o rfl 22 (by decide) (hts (.fieldLink RX7 112 "LayerMoistureModel" "at" "I") (by decide +kernel)) (fun _ h9 => h9) (v := .int (nI pa)) rfl dX7_isDigit_16 ?_
    refine wld_i hx hb hw (hC.m (by decide)) hX.aTX pa (by omega) (by decide) rfl dX7_isDigit_19 ?_
    rw [show TX pa = nxt TX tl pa from hnx.symm]
    refine lv_bipush (v := 48) hx hb dX7_isDigit_20 (by decide) ?_
    refine lv_icmp_lt (tgt := 43) hx hb dX7_isDigit_22 (by decide) (fun c22 => ?_) (fun c22 => ?_)
    · have e9 : isD TX tl pa = false := by simp [isD, c22]
      refine lv_iconst (v := 0) hx hb dX7_isDigit_43 (by decide) ?_
      exact hret _ _ _ _ _ _ hw ⟨by rw [e9]; rfl, rfl⟩ (by decide) dX7_isDigit_44
    · refine lv_aload_n hx hb dX7_isDigit_25 rfl (lv_at hl 0 rfl) ?_
      refine wg (C := RX7) (T := TX7) (N := 31) hx hb hts hi7 hown hw (hC.m (by decide)) hX.o rfl 20 (by decide) (hts (.fieldLink RX7 56 "LayerMoistureModel" "text" "[I") (by decide +kernel)) (fun _ h9 => h9) (v := .ref (ad 27)) rfl dX7_isDigit_26 ?_
      refine lv_aload_n hx hb dX7_isDigit_29 rfl (lv_at hl 0 rfl) ?_
      refine wg (C := RX7) (T := TX7) (N := 31) hx hb hts hi7 hown hw (hC.m (by decide)) hX.o rfl 22 (by decide) (hts (.fieldLink RX7 112 "LayerMoistureModel" "at" "I") (by decide +kernel)) (fun _ h9 => h9) (v := .int (nI pa)) rfl dX7_isDigit_30 ?_
      refine wld_i hx hb hw (hC.m (by decide)) hX.aTX pa (by omega) (by decide) rfl dX7_isDigit_33 ?_
      rw [show TX pa = nxt TX tl pa from hnx.symm]
      refine lv_bipush (v := 57) hx hb dX7_isDigit_34 (by decide) ?_
      refine lv_icmp_gt (tgt := 43) hx hb dX7_isDigit_36 (by decide) (fun c36 => ?_) (fun c36 => ?_)
      · have e9 : isD TX tl pa = false := by simp [isD, c36]
        refine lv_iconst (v := 0) hx hb dX7_isDigit_43 (by decide) ?_
        exact hret _ _ _ _ _ _ hw ⟨by rw [e9]; rfl, rfl⟩ (by decide) dX7_isDigit_44
      · have e9 : isD TX tl pa = true := by simp [isD, c22, c36]
        refine lv_iconst (v := 1) hx hb dX7_isDigit_39 (by decide) ?_
        refine lv_goto (tgt := 44) hx hb dX7_isDigit_40 (by decide) ?_
        exact hret _ _ _ _ _ _ hw ⟨by rw [e9]; rfl, rfl⟩ (by decide) dX7_isDigit_44

set_option maxHeartbeats 4000000 in
set_option maxRecDepth 100000 in
theorem c_X7_pass (l : Launch) (G : va_G) (dA : Nat → ClassId) (L : List Nat) (f : Nat → va_E) (ad : Nat → Nat) (n nb : Nat) (q qk : Nat → Option Nat) (kel : UInt64) (dmp : UInt64) (spd : UInt64) (ven : UInt64) (lef : UInt64) (gon : Int64) (hr : Nat) (tl : Nat) (st : Nat) (dn : Nat) (thr : Int32) (pa : Nat) (bad : Int32) (num : Int32) (RA : Nat → UInt64) (RB : Nat → UInt64) (TH : Nat → Int32) (DE : Nat → UInt64) (KI : Nat → Int32) (WE : Nat → UInt64) (NX : Nat → UInt64) (LI : Nat → Int32) (LM : Nat → UInt64) (KE : Nat → Int32) (TX : Nat → Int32) (BW : Nat → Int32) (TI : Nat → Int32) (KV : Nat → Int32) (DM : Nat → Int32) (f0 : Nat → va_E) (x : Int32)  (hC : Cx ad L n nb q qk) (hX : MX ad dA n nb kel dmp spd ven lef gon hr tl st dn thr pa bad num RA RB TH DE KI WE NX LI LM KE TX BW TI KV DM f0 f) (htl : tl ≤ 200) (hpa : pa ≤ 200) (hx0 : ¬ x = 0)  : mI l yX7_pass wsX7_pass ({ frames := 1, cells := 0, slots := 0, locals := 21 }) G dA [.ref (ad 16), .int x] L f (fun r f2 => r = b2i (decide (nxt TX tl pa = x)) ∧ MX ad dA n nb kel dmp spd ven lef gon hr tl st dn thr (if nxt TX tl pa = x then pa + 1 else pa) (if nxt TX tl pa = x then bad else nI pa) num RA RB TH DE KI WE NX LI LM KE TX BW TI KV DM f0 f2) := by
  refine mI_of (cc := cX7_pass) (maxL := 2) (by decide) rfl (Nat.le_of_ble_eq_true rfl) ?_
  intro p e s m below meth c A ls Q hx hb hml hown hts hlocks hA hin0 hw hl hret
  have hown : s.vm.findClass RX7 = some m.cls := hown
  have hl : lv_has ls 2 [(0, .ref (ad 16)), (1, .int x)] := hl
  have hi7 : ∀ w ∈ u_ws RX7 TX7 31, w ∈ wsX7_pass := by decide +kernel
  refine lv_aload_n hx hb dX7_pass_0 rfl (lv_at hl 0 rfl) ?_
  refine wg (C := RX7) (T := TX7) (N := 31) hx hb hts hi7 hown hw (hC.m (by decide)) hX.o rfl 22 (by decide) (hts (.fieldLink RX7 112 "LayerMoistureModel" "at" "I") (by decide +kernel)) (fun _ h9 => h9) (v := .int (nI pa)) rfl dX7_pass_1 ?_
  refine lv_aload_n hx hb dX7_pass_4 rfl (lv_at hl 0 rfl) ?_
  refine wg (C := RX7) (T := TX7) (N := 31) hx hb hts hi7 hown hw (hC.m (by decide)) hX.o rfl 21 (by decide) (hts (.fieldLink RX7 106 "LayerMoistureModel" "typed" "I") (by decide +kernel)) (fun _ h9 => h9) (v := .int (nI tl)) rfl dX7_pass_5 ?_
  refine lv_icmp_ge (tgt := 24) hx hb dX7_pass_8 (by decide) (fun c8 => ?_) (fun c8 => ?_)
  · have hge : tl ≤ pa := (nI_leI (by omega) (by omega)).mp c8
    have hnx : nxt TX tl pa = 0 := if_neg (Nat.not_lt.mpr hge)
    have e9 : ¬ nxt TX tl pa = x := fun h8 => hx0 (by rw [← h8, hnx])
    refine lv_aload_n hx hb dX7_pass_24 rfl (lv_at hl 0 rfl) ?_
    refine lv_aload_n hx hb dX7_pass_25 rfl (lv_at hl 0 rfl) ?_
    refine wg (C := RX7) (T := TX7) (N := 31) hx hb hts hi7 hown hw (hC.m (by decide)) hX.o rfl 22 (by decide) (hts (.fieldLink RX7 112 "LayerMoistureModel" "at" "I") (by decide +kernel)) (fun _ h9 => h9) (v := .int (nI pa)) rfl dX7_pass_26 ?_
    refine kV_I (C := RX7) (T := TX7) (N := 31) (As := [.int (nI pa)]) (rest := []) ⟨hx, hb, hml, hown, hts⟩ (c_X7_fail l G dA L f ad n nb q qk kel dmp spd ven lef gon hr tl st dn thr pa bad num RA RB TH DE KI WE NX LI LM KE TX BW TI KV DM f0 (nI pa) hC hX) (cwV 1 hts gX7_pass_X7_fail rfl rfl rfl (by decide +kernel) ⟨Nat.le_of_ble_eq_true rfl, Nat.le_of_ble_eq_true rfl⟩) hw hA (hC.m (by decide)) hX.o rfl rfl hl.1 rfl (Nat.le_of_ble_eq_true rfl) dX7_pass_29 ⟨Nat.zero_le _, Nat.zero_le _⟩ (fun r2 f1 H locs hp hw => ?_)
    obtain ⟨e1, e2⟩ := hp
    rw [e1]
    have hX3 : MX ad dA n nb kel dmp spd ven lef gon hr tl st dn thr pa (nI pa) num RA RB TH DE KI WE NX LI LM KE TX BW TI KV DM f0 f1 := e2
    exact hret _ _ _ _ _ _ hw ⟨by rw [decide_eq_false e9]; rfl, by rw [if_neg e9, if_neg e9]; exact hX3⟩ (by decide) dX7_pass_32
  · have hpt : pa < tl := Nat.lt_of_not_le fun h8 => c8 ((nI_leI (by omega) (by omega)).mpr h8)
    have hnx : nxt TX tl pa = TX pa := if_pos hpt
    refine lv_aload_n hx hb dX7_pass_11 rfl (lv_at hl 0 rfl) ?_
    refine wg (C := RX7) (T := TX7) (N := 31) hx hb hts hi7 hown hw (hC.m (by decide)) hX.o rfl 20 (by decide) (hts (.fieldLink RX7 56 "LayerMoistureModel" "text" "[I") (by decide +kernel)) (fun _ h9 => h9) (v := .ref (ad 27)) rfl dX7_pass_12 ?_
    refine lv_aload_n hx hb dX7_pass_15 rfl (lv_at hl 0 rfl) ?_
    refine wg (C := RX7) (T := TX7) (N := 31) hx hb hts hi7 hown hw (hC.m (by decide)) hX.o rfl 22 (by decide) (hts (.fieldLink RX7 112 "LayerMoistureModel" "at" "I") (by decide +kernel)) (fun _ h9 => h9) (v := .int (nI pa)) rfl dX7_pass_16 ?_
    refine wld_i hx hb hw (hC.m (by decide)) hX.aTX pa (by omega) (by decide) rfl dX7_pass_19 ?_
    rw [show TX pa = nxt TX tl pa from hnx.symm]
    refine lv_iload_n hx hb dX7_pass_20 rfl (lv_at hl 1 rfl) ?_
    refine lv_icmp_eq (tgt := 33) hx hb dX7_pass_21 (by decide) (fun c21 => ?_) (fun c21 => ?_)
    · have e9 : nxt TX tl pa = x := c21
      refine lv_aload_n hx hb dX7_pass_33 rfl (lv_at hl 0 rfl) ?_
      refine lv_dup hx hb dX7_pass_34 rfl ?_
      refine wg (C := RX7) (T := TX7) (N := 31) hx hb hts hi7 hown hw (hC.m (by decide)) hX.o rfl 22 (by decide) (hts (.fieldLink RX7 112 "LayerMoistureModel" "at" "I") (by decide +kernel)) (fun _ h9 => h9) (v := .int (nI pa)) rfl dX7_pass_35 ?_
      refine lv_iconst (v := 1) hx hb dX7_pass_38 (by decide) ?_
      refine lv_iadd hx hb dX7_pass_39 ?_
      rw [show (nI pa) + 1 = nI (pa + 1) from nI_1 _]
      refine wp_ (C := RX7) (T := TX7) (N := 31) hx hb hts hi7 tyX7 tyX7_ok nmX7 hown hw (hC.m (by decide)) hX.o rfl 22 (by decide) (hts (.fieldLink RX7 112 "LayerMoistureModel" "at" "I") (by decide +kernel)) (fun _ h9 => h9) rfl (ty := .int) (v := .int (nI (pa + 1))) (by decide +kernel) rfl rfl (Nat.le_of_ble_eq_true rfl) dX7_pass_40 (fun H locs hw => ?_)
      obtain ⟨f4, ef4⟩ : ∃ z : Nat → va_E, z = va_up f (ad 16) (.inr (8, [.int thr, .int (nI n), .int (nI nb), .ref (ad 17), .ref (ad 18), .double kel, .double dmp, .double spd, .double ven, .double lef, .long gon, .int (nI hr), .ref (ad 19), .ref (ad 20), .ref (ad 21), .ref (ad 22), .ref (ad 23), .ref (ad 24), .ref (ad 25), .ref (ad 26), .ref (ad 27), .int (nI tl), .int (nI (pa + 1)), .int bad, .int num, .ref (ad 28), .ref (ad 29), .ref (ad 30), .ref (ad 31), .int (nI st), .int (nI dn)])) := ⟨_, rfl⟩
      have hw : ww G dA A s L f4 H locs := by rw [ef4]; exact hw
      have hX5 : MX ad dA n nb kel dmp spd ven lef gon hr tl st dn thr (pa + 1) bad num RA RB TH DE KI WE NX LI LM KE TX BW TI KV DM f0 f4 := by rw [ef4]; exact hX.sO hC kel dmp spd ven lef gon hr tl st dn thr (pa + 1) bad num
      refine lv_iconst (v := 1) hx hb dX7_pass_43 (by decide) ?_
      exact hret _ _ _ _ _ _ hw ⟨by rw [decide_eq_true e9]; rfl, by rw [if_pos e9, if_pos e9]; exact hX5⟩ (by decide) dX7_pass_44
    · have e9 : ¬ nxt TX tl pa = x := c21
      refine lv_aload_n hx hb dX7_pass_24 rfl (lv_at hl 0 rfl) ?_
      refine lv_aload_n hx hb dX7_pass_25 rfl (lv_at hl 0 rfl) ?_
      refine wg (C := RX7) (T := TX7) (N := 31) hx hb hts hi7 hown hw (hC.m (by decide)) hX.o rfl 22 (by decide) (hts (.fieldLink RX7 112 "LayerMoistureModel" "at" "I") (by decide +kernel)) (fun _ h9 => h9) (v := .int (nI pa)) rfl dX7_pass_26 ?_
      refine kV_I (C := RX7) (T := TX7) (N := 31) (As := [.int (nI pa)]) (rest := []) ⟨hx, hb, hml, hown, hts⟩ (c_X7_fail l G dA L f ad n nb q qk kel dmp spd ven lef gon hr tl st dn thr pa bad num RA RB TH DE KI WE NX LI LM KE TX BW TI KV DM f0 (nI pa) hC hX) (cwV 1 hts gX7_pass_X7_fail rfl rfl rfl (by decide +kernel) ⟨Nat.le_of_ble_eq_true rfl, Nat.le_of_ble_eq_true rfl⟩) hw hA (hC.m (by decide)) hX.o rfl rfl hl.1 rfl (Nat.le_of_ble_eq_true rfl) dX7_pass_29 ⟨Nat.zero_le _, Nat.zero_le _⟩ (fun r7 f6 H locs hp hw => ?_)
      obtain ⟨e1, e2⟩ := hp
      rw [e1]
      have hX8 : MX ad dA n nb kel dmp spd ven lef gon hr tl st dn thr pa (nI pa) num RA RB TH DE KI WE NX LI LM KE TX BW TI KV DM f0 f6 := e2
      exact hret _ _ _ _ _ _ hw ⟨by rw [decide_eq_false e9]; rfl, by rw [if_neg e9, if_neg e9]; exact hX8⟩ (by decide) dX7_pass_32

set_option maxHeartbeats 4000000 in
set_option maxRecDepth 100000 in
theorem c_X7_passNumber (l : Launch) (G : va_G) (dA : Nat → ClassId) (L : List Nat) (f : Nat → va_E) (ad : Nat → Nat) (n nb : Nat) (q qk : Nat → Option Nat) (kel : UInt64) (dmp : UInt64) (spd : UInt64) (ven : UInt64) (lef : UInt64) (gon : Int64) (hr : Nat) (tl : Nat) (st : Nat) (dn : Nat) (thr : Int32) (pa : Nat) (bad : Int32) (num : Int32) (RA : Nat → UInt64) (RB : Nat → UInt64) (TH : Nat → Int32) (DE : Nat → UInt64) (KI : Nat → Int32) (WE : Nat → UInt64) (NX : Nat → UInt64) (LI : Nat → Int32) (LM : Nat → UInt64) (KE : Nat → Int32) (TX : Nat → Int32) (BW : Nat → Int32) (TI : Nat → Int32) (KV : Nat → Int32) (DM : Nat → Int32) (f0 : Nat → va_E) (lo hi : Int32)  (hC : Cx ad L n nb q qk) (hX : MX ad dA n nb kel dmp spd ven lef gon hr tl st dn thr pa bad num RA RB TH DE KI WE NX LI LM KE TX BW TI KV DM f0 f) (htl : tl ≤ 200) (hpl : pa ≤ tl)  : mI l yX7_passNumber wsX7_passNumber ({ frames := 1, cells := 0, slots := 0, locals := 21 }) G dA [.ref (ad 16), .int lo, .int hi] L f (fun r f2 => r = b2i (numP TX tl pa lo hi).isSome ∧ MX ad dA n nb kel dmp spd ven lef gon hr tl st dn thr ((scanN TX tl 3 pa 0).1) (if (numP TX tl pa lo hi).isSome = true then bad else nI pa) ((scanN TX tl 3 pa 0).2) RA RB TH DE KI WE NX LI LM KE TX BW TI KV DM f0 f2) := by
  refine mI_of (cc := cX7_passNumber) (maxL := 4) (by decide) rfl (Nat.le_of_ble_eq_true rfl) ?_
  intro p e s m below meth c A ls Q hx hb hml hown hts hlocks hA hin0 hw hl hret
  have hown : s.vm.findClass RX7 = some m.cls := hown
  have hl : lv_has ls 4 [(0, .ref (ad 16)), (1, .int lo), (2, .int hi)] := hl
  have hi7 : ∀ w ∈ u_ws RX7 TX7 31, w ∈ wsX7_passNumber := by decide +kernel
  have fin64 : ∀ (i : Nat) (v : Int32), i ≤ 3 → (scanN TX tl 3 pa 0) = (pa + i, v) → ∀ (fa : Nat → va_E) (H : Heap) (locs : List Loc), MX ad dA n nb kel dmp spd ven lef gon hr tl st dn thr (pa + i) bad v RA RB TH DE KI WE NX LI LM KE TX BW TI KV DM f0 fa → ww G dA A s L fa H locs → ∀ (ls : Array Slot), lv_has ls 4 [(0, .ref (ad 16)), (1, .int lo), (2, .int hi), (3, .int (nI pa))] → W p l e ({ frames := 1, cells := 0, slots := 0, locals := 21 } : Room) s m ([.ref (ad 16), .int lo, .int hi] : List Value).toArray below meth c H locs 0 0 Q (F0 m 64 ls []) := by
    intro i v hi3 hsc fa H locs hXa hw ls hl
    refine lv_aload_n hx hb dX7_passNumber_64 rfl (lv_at hl 0 rfl) ?_
    refine wg (C := RX7) (T := TX7) (N := 31) hx hb hts hi7 hown hw (hC.m (by decide)) hXa.o rfl 22 (by decide) (hts (.fieldLink RX7 112 "LayerMoistureModel" "at" "I") (by decide +kernel)) (fun _ h9 => h9) (v := .int (nI (pa + i))) rfl dX7_passNumber_65 ?_
    refine lv_iload_n hx hb dX7_passNumber_68 rfl (lv_at hl 3 rfl) ?_
    refine lv_icmp_ne (tgt := 81) hx hb dX7_passNumber_69 (by decide) (fun c69 => ?_) (fun c69 => ?_)
    · have hne : ¬ pa + i = pa := fun h8 => c69 (by rw [h8])
      refine lv_aload_n hx hb dX7_passNumber_81 rfl (lv_at hl 0 rfl) ?_
      refine wg (C := RX7) (T := TX7) (N := 31) hx hb hts hi7 hown hw (hC.m (by decide)) hXa.o rfl 24 (by decide) (hts (.fieldLink RX7 118 "LayerMoistureModel" "number" "I") (by decide +kernel)) (fun _ h9 => h9) (v := .int v) rfl dX7_passNumber_82 ?_
      refine lv_iload_n hx hb dX7_passNumber_85 rfl (lv_at hl 1 rfl) ?_
      refine lv_icmp_lt (tgt := 97) hx hb dX7_passNumber_86 (by decide) (fun c86 => ?_) (fun c86 => ?_)
      · have hN : numP TX tl pa lo hi = none := if_pos (Or.inr (Or.inl (by rw [hsc]; exact c86)))
        refine lv_aload_n hx hb dX7_passNumber_97 rfl (lv_at hl 0 rfl) ?_
        refine lv_iload_n hx hb dX7_passNumber_98 rfl (lv_at hl 3 rfl) ?_
        refine kV_I (C := RX7) (T := TX7) (N := 31) (As := [.int (nI pa)]) (rest := []) ⟨hx, hb, hml, hown, hts⟩ (c_X7_fail l G dA L fa ad n nb q qk kel dmp spd ven lef gon hr tl st dn thr (pa + i) bad v RA RB TH DE KI WE NX LI LM KE TX BW TI KV DM f0 (nI pa) hC hXa) (cwV 1 hts gX7_passNumber_X7_fail rfl rfl rfl (by decide +kernel) ⟨Nat.le_of_ble_eq_true rfl, Nat.le_of_ble_eq_true rfl⟩) hw hA (hC.m (by decide)) hXa.o rfl rfl hl.1 rfl (Nat.le_of_ble_eq_true rfl) dX7_passNumber_99 ⟨Nat.zero_le _, Nat.zero_le _⟩ (fun r2 f1 H locs hp hw => ?_)
        obtain ⟨e1, e2⟩ := hp
        rw [e1]
        have hX3 : MX ad dA n nb kel dmp spd ven lef gon hr tl st dn thr (pa + i) (nI pa) v RA RB TH DE KI WE NX LI LM KE TX BW TI KV DM f0 f1 := e2
        refine lv_if_eq (tgt := 109) hx hb dX7_passNumber_102 (by decide) (fun _ => ?_) (fun c9 => absurd rfl c9)
        refine lv_iconst (v := 0) hx hb dX7_passNumber_109 (by decide) ?_
        exact hret _ _ _ _ _ _ hw ⟨by rw [hN]; rfl, by have h9 := hX3; rw [hN, hsc]; exact h9⟩ (by decide) dX7_passNumber_110
      · refine lv_aload_n hx hb dX7_passNumber_89 rfl (lv_at hl 0 rfl) ?_
        refine wg (C := RX7) (T := TX7) (N := 31) hx hb hts hi7 hown hw (hC.m (by decide)) hXa.o rfl 24 (by decide) (hts (.fieldLink RX7 118 "LayerMoistureModel" "number" "I") (by decide +kernel)) (fun _ h9 => h9) (v := .int v) rfl dX7_passNumber_90 ?_
        refine lv_iload_n hx hb dX7_passNumber_93 rfl (lv_at hl 2 rfl) ?_
        refine lv_icmp_le (tgt := 105) hx hb dX7_passNumber_94 (by decide) (fun c94 => ?_) (fun c94 => ?_)
        · have hN : numP TX tl pa lo hi = some (pa + i, v) := by unfold numP; rw [hsc]; exact if_neg (fun h8 => h8.elim hne (fun h9 => h9.elim c86 (Int32.not_lt.mpr c94)))
          refine lv_iconst (v := 1) hx hb dX7_passNumber_105 (by decide) ?_
          refine lv_goto (tgt := 110) hx hb dX7_passNumber_106 (by decide) ?_
          exact hret _ _ _ _ _ _ hw ⟨by rw [hN]; rfl, by rw [hN, hsc]; exact hXa⟩ (by decide) dX7_passNumber_110
        · have hN : numP TX tl pa lo hi = none := if_pos (Or.inr (Or.inr (by rw [hsc]; exact Int32.not_le.mp c94)))
          refine lv_aload_n hx hb dX7_passNumber_97 rfl (lv_at hl 0 rfl) ?_
          refine lv_iload_n hx hb dX7_passNumber_98 rfl (lv_at hl 3 rfl) ?_
          refine kV_I (C := RX7) (T := TX7) (N := 31) (As := [.int (nI pa)]) (rest := []) ⟨hx, hb, hml, hown, hts⟩ (c_X7_fail l G dA L fa ad n nb q qk kel dmp spd ven lef gon hr tl st dn thr (pa + i) bad v RA RB TH DE KI WE NX LI LM KE TX BW TI KV DM f0 (nI pa) hC hXa) (cwV 1 hts gX7_passNumber_X7_fail rfl rfl rfl (by decide +kernel) ⟨Nat.le_of_ble_eq_true rfl, Nat.le_of_ble_eq_true rfl⟩) hw hA (hC.m (by decide)) hXa.o rfl rfl hl.1 rfl (Nat.le_of_ble_eq_true rfl) dX7_passNumber_99 ⟨Nat.zero_le _, Nat.zero_le _⟩ (fun r5 f4 H locs hp hw => ?_)
          obtain ⟨e1, e2⟩ := hp
          rw [e1]
          have hX6 : MX ad dA n nb kel dmp spd ven lef gon hr tl st dn thr (pa + i) (nI pa) v RA RB TH DE KI WE NX LI LM KE TX BW TI KV DM f0 f4 := e2
          refine lv_if_eq (tgt := 109) hx hb dX7_passNumber_102 (by decide) (fun _ => ?_) (fun c9 => absurd rfl c9)
          refine lv_iconst (v := 0) hx hb dX7_passNumber_109 (by decide) ?_
          exact hret _ _ _ _ _ _ hw ⟨by rw [hN]; rfl, by have h9 := hX6; rw [hN, hsc]; exact h9⟩ (by decide) dX7_passNumber_110
    · have hz : pa + i = pa := (nI_eq (by omega) (by omega)).mp c69
      have hN : numP TX tl pa lo hi = none := if_pos (Or.inl (by rw [hsc]; exact hz))
      refine lv_aload_n hx hb dX7_passNumber_72 rfl (lv_at hl 0 rfl) ?_
      refine lv_aload_n hx hb dX7_passNumber_73 rfl (lv_at hl 0 rfl) ?_
      refine wg (C := RX7) (T := TX7) (N := 31) hx hb hts hi7 hown hw (hC.m (by decide)) hXa.o rfl 22 (by decide) (hts (.fieldLink RX7 112 "LayerMoistureModel" "at" "I") (by decide +kernel)) (fun _ h9 => h9) (v := .int (nI (pa + i))) rfl dX7_passNumber_74 ?_
      refine kV_I (C := RX7) (T := TX7) (N := 31) (As := [.int (nI (pa + i))]) (rest := []) ⟨hx, hb, hml, hown, hts⟩ (c_X7_fail l G dA L fa ad n nb q qk kel dmp spd ven lef gon hr tl st dn thr (pa + i) bad v RA RB TH DE KI WE NX LI LM KE TX BW TI KV DM f0 (nI (pa + i)) hC hXa) (cwV 1 hts gX7_passNumber_X7_fail rfl rfl rfl (by decide +kernel) ⟨Nat.le_of_ble_eq_true rfl, Nat.le_of_ble_eq_true rfl⟩) hw hA (hC.m (by decide)) hXa.o rfl rfl hl.1 rfl (Nat.le_of_ble_eq_true rfl) dX7_passNumber_77 ⟨Nat.zero_le _, Nat.zero_le _⟩ (fun r8 f7 H locs hp hw => ?_)
      obtain ⟨e1, e2⟩ := hp
      rw [e1]
      have hX9 : MX ad dA n nb kel dmp spd ven lef gon hr tl st dn thr (pa + i) (nI (pa + i)) v RA RB TH DE KI WE NX LI LM KE TX BW TI KV DM f0 f7 := e2
      exact hret _ _ _ _ _ _ hw ⟨by rw [hN]; rfl, by have h9 := hX9; rw [show nI (pa + i) = nI pa from by rw [hz]] at h9; rw [hN, hsc]; exact h9⟩ (by decide) dX7_passNumber_80
  have loop : ∀ (kf i : Nat) (v : Int32), i + kf = 3 → (scanN TX tl 3 pa 0) = scanN TX tl kf (pa + i) v → pa + i ≤ tl → ∀ (fa : Nat → va_E) (H : Heap) (locs : List Loc), MX ad dA n nb kel dmp spd ven lef gon hr tl st dn thr (pa + i) bad v RA RB TH DE KI WE NX LI LM KE TX BW TI KV DM f0 fa → ww G dA A s L fa H locs → ∀ (ls : Array Slot), lv_has ls 4 [(0, .ref (ad 16)), (1, .int lo), (2, .int hi), (3, .int (nI pa))] → W p l e ({ frames := 1, cells := 0, slots := 0, locals := 21 } : Room) s m ([.ref (ad 16), .int lo, .int hi] : List Value).toArray below meth c H locs 0 0 Q (F0 m 10 ls []) := by
    intro kf
    induction kf with
    | zero =>
      intro i v hik hsc hpi fa H locs hXa hw ls hl
      refine lv_aload_n hx hb dX7_passNumber_10 rfl (lv_at hl 0 rfl) ?_
      refine kV_I (C := RX7) (T := TX7) (N := 31) (As := []) (rest := []) ⟨hx, hb, hml, hown, hts⟩ (c_X7_isDigit l G dA L fa ad n nb q qk kel dmp spd ven lef gon hr tl st dn thr (pa + i) bad v RA RB TH DE KI WE NX LI LM KE TX BW TI KV DM f0 hC hXa htl (by omega)) (cwV 0 hts gX7_passNumber_X7_isDigit rfl rfl rfl (by decide +kernel) ⟨Nat.le_of_ble_eq_true rfl, Nat.le_of_ble_eq_true rfl⟩) hw hA (hC.m (by decide)) hXa.o rfl rfl hl.1 rfl (Nat.le_of_ble_eq_true rfl) dX7_passNumber_11 ⟨Nat.zero_le _, Nat.zero_le _⟩ (fun r11 f10 H locs hp hw => ?_)
      obtain ⟨e1, e2⟩ := hp
      rw [e2] at hw
      rw [e1]
      refine lv_if_eq (tgt := 64) hx hb dX7_passNumber_14 (by decide) (fun c14 => ?_) (fun c14 => ?_)
      · exact fin64 i v (by omega) (hsc) _ _ _ hXa hw ls (lv_sub hl [0, 1, 2, 3] rfl)
      · refine lv_aload_n hx hb dX7_passNumber_17 rfl (lv_at hl 0 rfl) ?_
        refine wg (C := RX7) (T := TX7) (N := 31) hx hb hts hi7 hown hw (hC.m (by decide)) hXa.o rfl 22 (by decide) (hts (.fieldLink RX7 112 "LayerMoistureModel" "at" "I") (by decide +kernel)) (fun _ h9 => h9) (v := .int (nI (pa + i))) rfl dX7_passNumber_18 ?_
        refine lv_iload_n hx hb dX7_passNumber_21 rfl (lv_at hl 3 rfl) ?_
        refine lv_iconst (v := 3) hx hb dX7_passNumber_22 (by decide) ?_
        refine lv_iadd hx hb dX7_passNumber_23 ?_
        rw [show (nI pa) + 3 = nI (pa + 3) from nI_add pa 3]
        refine lv_icmp_ge (tgt := 64) hx hb dX7_passNumber_24 (by decide) (fun _ => ?_) (fun c9 => absurd (nI_le (by omega) (by omega)) c9)
        exact fin64 i v (by omega) (hsc) _ _ _ hXa hw ls (lv_sub hl [0, 1, 2, 3] rfl)
    | succ kf ih =>
      intro i v hik hsc hpi fa H locs hXa hw ls hl
      refine lv_aload_n hx hb dX7_passNumber_10 rfl (lv_at hl 0 rfl) ?_
      refine kV_I (C := RX7) (T := TX7) (N := 31) (As := []) (rest := []) ⟨hx, hb, hml, hown, hts⟩ (c_X7_isDigit l G dA L fa ad n nb q qk kel dmp spd ven lef gon hr tl st dn thr (pa + i) bad v RA RB TH DE KI WE NX LI LM KE TX BW TI KV DM f0 hC hXa htl (by omega)) (cwV 0 hts gX7_passNumber_X7_isDigit rfl rfl rfl (by decide +kernel) ⟨Nat.le_of_ble_eq_true rfl, Nat.le_of_ble_eq_true rfl⟩) hw hA (hC.m (by decide)) hXa.o rfl rfl hl.1 rfl (Nat.le_of_ble_eq_true rfl) dX7_passNumber_11 ⟨Nat.zero_le _, Nat.zero_le _⟩ (fun r13 f12 H locs hp hw => ?_)
      obtain ⟨e1, e2⟩ := hp
      rw [e2] at hw
      rw [e1]
      refine lv_if_eq (tgt := 64) hx hb dX7_passNumber_14 (by decide) (fun c14 => ?_) (fun c14 => ?_)
      · have q14 := b2i_f c14
        exact fin64 i v (by omega) (by rw [hsc, scanN, if_neg (by rw [q14]; exact Bool.false_ne_true)]) _ _ _ hXa hw ls (lv_sub hl [0, 1, 2, 3] rfl)
      · have q14 := b2i_t c14
        have hpt := isD_lt q14
        have hnx : nxt TX tl (pa + i) = TX (pa + i) := if_pos hpt
        refine lv_aload_n hx hb dX7_passNumber_17 rfl (lv_at hl 0 rfl) ?_
        refine wg (C := RX7) (T := TX7) (N := 31) hx hb hts hi7 hown hw (hC.m (by decide)) hXa.o rfl 22 (by decide) (hts (.fieldLink RX7 112 "LayerMoistureModel" "at" "I") (by decide +kernel)) (fun _ h9 => h9) (v := .int (nI (pa + i))) rfl dX7_passNumber_18 ?_
        refine lv_iload_n hx hb dX7_passNumber_21 rfl (lv_at hl 3 rfl) ?_
        refine lv_iconst (v := 3) hx hb dX7_passNumber_22 (by decide) ?_
        refine lv_iadd hx hb dX7_passNumber_23 ?_
        rw [show (nI pa) + 3 = nI (pa + 3) from nI_add pa 3]
        refine lv_icmp_ge (tgt := 64) hx hb dX7_passNumber_24 (by decide) (fun c9 => absurd c9 (nI_ge (by omega) (by omega))) (fun _ => ?_)
        refine lv_aload_n hx hb dX7_passNumber_27 rfl (lv_at hl 0 rfl) ?_
        refine lv_bipush (v := 10) hx hb dX7_passNumber_28 (by decide) ?_
        refine lv_aload_n hx hb dX7_passNumber_30 rfl (lv_at hl 0 rfl) ?_
        refine wg (C := RX7) (T := TX7) (N := 31) hx hb hts hi7 hown hw (hC.m (by decide)) hXa.o rfl 24 (by decide) (hts (.fieldLink RX7 118 "LayerMoistureModel" "number" "I") (by decide +kernel)) (fun _ h9 => h9) (v := .int v) rfl dX7_passNumber_31 ?_
        refine lv_imul hx hb dX7_passNumber_34 ?_
        refine lv_aload_n hx hb dX7_passNumber_35 rfl (lv_at hl 0 rfl) ?_
        refine wg (C := RX7) (T := TX7) (N := 31) hx hb hts hi7 hown hw (hC.m (by decide)) hXa.o rfl 20 (by decide) (hts (.fieldLink RX7 56 "LayerMoistureModel" "text" "[I") (by decide +kernel)) (fun _ h9 => h9) (v := .ref (ad 27)) rfl dX7_passNumber_36 ?_
        refine lv_aload_n hx hb dX7_passNumber_39 rfl (lv_at hl 0 rfl) ?_
        refine wg (C := RX7) (T := TX7) (N := 31) hx hb hts hi7 hown hw (hC.m (by decide)) hXa.o rfl 22 (by decide) (hts (.fieldLink RX7 112 "LayerMoistureModel" "at" "I") (by decide +kernel)) (fun _ h9 => h9) (v := .int (nI (pa + i))) rfl dX7_passNumber_40 ?_
        refine wld_i hx hb hw (hC.m (by decide)) hXa.aTX ((pa + i)) (by omega) (by decide) rfl dX7_passNumber_43 ?_
        refine lv_iadd hx hb dX7_passNumber_44 ?_
        refine lv_bipush (v := 48) hx hb dX7_passNumber_45 (by decide) ?_
        refine lv_isub hx hb dX7_passNumber_47 ?_
        rw [show ((10 * v) + (TX ((pa + i)))) - 48 = v * 10 + (nxt TX tl (pa + i) - 48) from (by rw [hnx]; exact num_eq v _)]
        refine wp_ (C := RX7) (T := TX7) (N := 31) hx hb hts hi7 tyX7 tyX7_ok nmX7 hown hw (hC.m (by decide)) hXa.o rfl 24 (by decide) (hts (.fieldLink RX7 118 "LayerMoistureModel" "number" "I") (by decide +kernel)) (fun _ h9 => h9) rfl (ty := .int) (v := .int (v * 10 + (nxt TX tl (pa + i) - 48))) (by decide +kernel) rfl rfl (Nat.le_of_ble_eq_true rfl) dX7_passNumber_48 (fun H locs hw => ?_)
        obtain ⟨f14, ef14⟩ : ∃ z : Nat → va_E, z = va_up fa (ad 16) (.inr (8, [.int thr, .int (nI n), .int (nI nb), .ref (ad 17), .ref (ad 18), .double kel, .double dmp, .double spd, .double ven, .double lef, .long gon, .int (nI hr), .ref (ad 19), .ref (ad 20), .ref (ad 21), .ref (ad 22), .ref (ad 23), .ref (ad 24), .ref (ad 25), .ref (ad 26), .ref (ad 27), .int (nI tl), .int (nI (pa + i)), .int bad, .int (v * 10 + (nxt TX tl (pa + i) - 48)), .ref (ad 28), .ref (ad 29), .ref (ad 30), .ref (ad 31), .int (nI st), .int (nI dn)])) := ⟨_, rfl⟩
        have hw : ww G dA A s L f14 H locs := by rw [ef14]; exact hw
        have hX15 : MX ad dA n nb kel dmp spd ven lef gon hr tl st dn thr (pa + i) bad (v * 10 + (nxt TX tl (pa + i) - 48)) RA RB TH DE KI WE NX LI LM KE TX BW TI KV DM f0 f14 := by rw [ef14]; exact hXa.sO hC kel dmp spd ven lef gon hr tl st dn thr (pa + i) bad (v * 10 + (nxt TX tl (pa + i) - 48))
        refine lv_aload_n hx hb dX7_passNumber_51 rfl (lv_at hl 0 rfl) ?_
        refine lv_dup hx hb dX7_passNumber_52 rfl ?_
        refine wg (C := RX7) (T := TX7) (N := 31) hx hb hts hi7 hown hw (hC.m (by decide)) hX15.o rfl 22 (by decide) (hts (.fieldLink RX7 112 "LayerMoistureModel" "at" "I") (by decide +kernel)) (fun _ h9 => h9) (v := .int (nI (pa + i))) rfl dX7_passNumber_53 ?_
        refine lv_iconst (v := 1) hx hb dX7_passNumber_56 (by decide) ?_
        refine lv_iadd hx hb dX7_passNumber_57 ?_
        rw [show (nI (pa + i)) + 1 = nI (pa + (i + 1)) from nI_1 _]
        refine wp_ (C := RX7) (T := TX7) (N := 31) hx hb hts hi7 tyX7 tyX7_ok nmX7 hown hw (hC.m (by decide)) hX15.o rfl 22 (by decide) (hts (.fieldLink RX7 112 "LayerMoistureModel" "at" "I") (by decide +kernel)) (fun _ h9 => h9) rfl (ty := .int) (v := .int (nI (pa + (i + 1)))) (by decide +kernel) rfl rfl (Nat.le_of_ble_eq_true rfl) dX7_passNumber_58 (fun H locs hw => ?_)
        obtain ⟨f16, ef16⟩ : ∃ z : Nat → va_E, z = va_up f14 (ad 16) (.inr (8, [.int thr, .int (nI n), .int (nI nb), .ref (ad 17), .ref (ad 18), .double kel, .double dmp, .double spd, .double ven, .double lef, .long gon, .int (nI hr), .ref (ad 19), .ref (ad 20), .ref (ad 21), .ref (ad 22), .ref (ad 23), .ref (ad 24), .ref (ad 25), .ref (ad 26), .ref (ad 27), .int (nI tl), .int (nI (pa + (i + 1))), .int bad, .int (v * 10 + (nxt TX tl (pa + i) - 48)), .ref (ad 28), .ref (ad 29), .ref (ad 30), .ref (ad 31), .int (nI st), .int (nI dn)])) := ⟨_, rfl⟩
        have hw : ww G dA A s L f16 H locs := by rw [ef16]; exact hw
        have hX17 : MX ad dA n nb kel dmp spd ven lef gon hr tl st dn thr ((pa + (i + 1))) bad (v * 10 + (nxt TX tl (pa + i) - 48)) RA RB TH DE KI WE NX LI LM KE TX BW TI KV DM f0 f16 := by rw [ef16]; exact hX15.sO hC kel dmp spd ven lef gon hr tl st dn thr ((pa + (i + 1))) bad (v * 10 + (nxt TX tl (pa + i) - 48))
        refine lv_goto (tgt := 10) hx hb dX7_passNumber_61 (by decide) ?_
        exact ih (i + 1) (v * 10 + (nxt TX tl (pa + i) - 48)) (by omega) (by rw [hsc, scanN, if_pos q14]; rfl) (by omega) _ _ _ hX17 hw ls (lv_sub hl [0, 1, 2, 3] rfl)
  refine lv_aload_n hx hb dX7_passNumber_0 rfl (lv_at hl 0 rfl) ?_
  refine wg (C := RX7) (T := TX7) (N := 31) hx hb hts hi7 hown hw (hC.m (by decide)) hX.o rfl 22 (by decide) (hts (.fieldLink RX7 112 "LayerMoistureModel" "at" "I") (by decide +kernel)) (fun _ h9 => h9) (v := .int (nI pa)) rfl dX7_passNumber_1 ?_
  refine lv_istore_n (lv' := [(3, .int (nI pa)), (0, .ref (ad 16)), (1, .int lo), (2, .int hi)]) hx hb dX7_passNumber_4 rfl hl (by decide) rfl (fun ls hl => ?_)
  refine lv_aload_n hx hb dX7_passNumber_5 rfl (lv_at hl 1 rfl) ?_
  refine lv_iconst (v := 0) hx hb dX7_passNumber_6 (by decide) ?_
  refine wp_ (C := RX7) (T := TX7) (N := 31) hx hb hts hi7 tyX7 tyX7_ok nmX7 hown hw (hC.m (by decide)) hX.o rfl 24 (by decide) (hts (.fieldLink RX7 118 "LayerMoistureModel" "number" "I") (by decide +kernel)) (fun _ h9 => h9) rfl (ty := .int) (v := .int 0) (by decide +kernel) rfl rfl (Nat.le_of_ble_eq_true rfl) dX7_passNumber_7 (fun H locs hw => ?_)
  obtain ⟨f18, ef18⟩ : ∃ z : Nat → va_E, z = va_up f (ad 16) (.inr (8, [.int thr, .int (nI n), .int (nI nb), .ref (ad 17), .ref (ad 18), .double kel, .double dmp, .double spd, .double ven, .double lef, .long gon, .int (nI hr), .ref (ad 19), .ref (ad 20), .ref (ad 21), .ref (ad 22), .ref (ad 23), .ref (ad 24), .ref (ad 25), .ref (ad 26), .ref (ad 27), .int (nI tl), .int (nI pa), .int bad, .int 0, .ref (ad 28), .ref (ad 29), .ref (ad 30), .ref (ad 31), .int (nI st), .int (nI dn)])) := ⟨_, rfl⟩
  have hw : ww G dA A s L f18 H locs := by rw [ef18]; exact hw
  have hX19 : MX ad dA n nb kel dmp spd ven lef gon hr tl st dn thr pa bad 0 RA RB TH DE KI WE NX LI LM KE TX BW TI KV DM f0 f18 := by rw [ef18]; exact hX.sO hC kel dmp spd ven lef gon hr tl st dn thr pa bad 0
  exact loop 3 0 0 rfl rfl hpl _ _ _ hX19 hw ls (lv_sub hl [1, 2, 3, 0] rfl)
