set_option maxHeartbeats 4000000 in
set_option maxRecDepth 100000 in
theorem c_X7_balance (l : Launch) (G : va_G) (dA : Nat → ClassId) (L : List Nat) (f : Nat → va_E) (ad : Nat → Nat) (n nb : Nat) (q qk : Nat → Option Nat) (kel : UInt64) (dmp : UInt64) (spd : UInt64) (ven : UInt64) (lef : UInt64) (gon : Int64) (hr : Nat) (tl : Nat) (st : Nat) (dn : Nat) (thr : Int32) (pa : Nat) (bad : Int32) (num : Int32) (RA : Nat → UInt64) (RB : Nat → UInt64) (TH : Nat → Int32) (DE : Nat → UInt64) (KI : Nat → Int32) (WE : Nat → UInt64) (NX : Nat → UInt64) (LI : Nat → Int32) (LM : Nat → UInt64) (KE : Nat → Int32) (TX : Nat → Int32) (BW : Nat → Int32) (TI : Nat → Int32) (KV : Nat → Int32) (DM : Nat → Int32) (f0 : Nat → va_E)   (hC : Cx ad L n nb q qk) (hX : MX ad dA n nb kel dmp spd ven lef gon hr tl st dn thr pa bad num RA RB TH DE KI WE NX LI LM KE TX BW TI KV DM f0 f) (hGA : GA kel dmp spd ven)  : mD l yX7_balance wsX7_balance ({ frames := 1, cells := 0, slots := 0, locals := 20 }) G dA [.ref (ad 16)] L f (fun r f2 => r = sp_bal kel dmp ∧ MX ad dA n nb kel dmp spd ven lef gon hr tl st dn 0 pa bad num RA RB TH DE KI WE NX LI LM KE TX BW TI KV DM f0 f2) := by
  refine mD_of (cc := cX7_balance) (maxL := 1) (by decide) rfl (Nat.le_of_ble_eq_true rfl) ?_
  intro p e s m below meth c A ls Q hx hb hml hown hts hlocks hA hin0 hw hl hret
  have hown : s.vm.findClass RX7 = some m.cls := hown
  have hl : lv_has ls 1 [(0, .ref (ad 16))] := hl
  have hi7 : ∀ w ∈ u_ws RX7 TX7 31, w ∈ wsX7_balance := by decide +kernel
  refine lv_aload_n hx hb dX7_balance_0 rfl (lv_at hl 0 rfl) ?_
  refine lv_iconst (v := 0) hx hb dX7_balance_1 (by decide) ?_
  refine wp_ (C := RX7) (T := TX7) (N := 31) hx hb hts hi7 tyX7 tyX7_ok nmX7 hown hw (hC.m (by decide)) hX.o rfl 0 (by decide) (hts (.fieldLink RX7 78 "LayerMoistureModel" "thrown" "I") (by decide +kernel)) (fun _ h9 => h9) rfl (ty := .int) (v := .int 0) (by decide +kernel) rfl rfl (Nat.le_of_ble_eq_true rfl) dX7_balance_2 (fun H locs hw => ?_)
  obtain ⟨f1, ef1⟩ : ∃ z : Nat → va_E, z = va_up f (ad 16) (.inr (8, [.int 0, .int (nI n), .int (nI nb), .ref (ad 17), .ref (ad 18), .double kel, .double dmp, .double spd, .double ven, .double lef, .long gon, .int (nI hr), .ref (ad 19), .ref (ad 20), .ref (ad 21), .ref (ad 22), .ref (ad 23), .ref (ad 24), .ref (ad 25), .ref (ad 26), .ref (ad 27), .int (nI tl), .int (nI pa), .int bad, .int num, .ref (ad 28), .ref (ad 29), .ref (ad 30), .ref (ad 31), .int (nI st), .int (nI dn)])) := ⟨_, rfl⟩
  have hw : ww G dA A s L f1 H locs := by rw [ef1]; exact hw
  have hX2 : MX ad dA n nb kel dmp spd ven lef gon hr tl st dn 0 pa bad num RA RB TH DE KI WE NX LI LM KE TX BW TI KV DM f0 f1 := by rw [ef1]; exact hX.sO hC kel dmp spd ven lef gon hr tl st dn 0 pa bad num
  refine lv_aload_n hx hb dX7_balance_5 rfl (lv_at hl 0 rfl) ?_
  refine kV_D (C := RX7) (T := TX7) (N := 31) (As := []) (rest := []) ⟨hx, hb, hml, hown, hts⟩ (c_X7_balanceNow l G dA L f1 ad n nb q qk kel dmp spd ven lef gon hr tl st dn 0 pa bad num RA RB TH DE KI WE NX LI LM KE TX BW TI KV DM f0 hC hX2 hGA) (cwV 0 hts gX7_balance_X7_balanceNow rfl rfl rfl (by decide +kernel) ⟨Nat.le_of_ble_eq_true rfl, Nat.le_of_ble_eq_true rfl⟩) hw hA (hC.m (by decide)) hX2.o rfl rfl hl.1 rfl (Nat.le_of_ble_eq_true rfl) dX7_balance_6 ⟨Nat.zero_le _, Nat.zero_le _⟩ (fun r4 f3 H locs hp hw => ?_)
  obtain ⟨e1, e2⟩ := hp
  rw [e2] at hw
  rw [e1]
  exact hret _ _ _ _ _ _ hw ⟨rfl, hX2⟩ dX7_balance_9

set_option maxHeartbeats 4000000 in
set_option maxRecDepth 100000 in
theorem c_X7_grams (l : Launch) (G : va_G) (dA : Nat → ClassId) (L : List Nat) (f : Nat → va_E) (ad : Nat → Nat) (n nb : Nat) (q qk : Nat → Option Nat) (kel : UInt64) (dmp : UInt64) (spd : UInt64) (ven : UInt64) (lef : UInt64) (gon : Int64) (hr : Nat) (tl : Nat) (st : Nat) (dn : Nat) (thr : Int32) (pa : Nat) (bad : Int32) (num : Int32) (RA : Nat → UInt64) (RB : Nat → UInt64) (TH : Nat → Int32) (DE : Nat → UInt64) (KI : Nat → Int32) (WE : Nat → UInt64) (NX : Nat → UInt64) (LI : Nat → Int32) (LM : Nat → UInt64) (KE : Nat → Int32) (TX : Nat → Int32) (BW : Nat → Int32) (TI : Nat → Int32) (KV : Nat → Int32) (DM : Nat → Int32) (f0 : Nat → va_E)   (hC : Cx ad L n nb q qk) (hX : MX ad dA n nb kel dmp spd ven lef gon hr tl st dn thr pa bad num RA RB TH DE KI WE NX LI LM KE TX BW TI KV DM f0 f)   : mL l yX7_grams wsX7_grams ({ frames := 0, cells := 0, slots := 0, locals := 0 }) G dA [.ref (ad 16)] L f (fun r f2 => r = gon ∧ MX ad dA n nb kel dmp spd ven lef gon hr tl st dn 0 pa bad num RA RB TH DE KI WE NX LI LM KE TX BW TI KV DM f0 f2) := by
  refine mL_of (cc := cX7_grams) (maxL := 1) (by decide) rfl (Nat.le_of_ble_eq_true rfl) ?_
  intro p e s m below meth c A ls Q hx hb hml hown hts hlocks hA hin0 hw hl hret
  have hown : s.vm.findClass RX7 = some m.cls := hown
  have hl : lv_has ls 1 [(0, .ref (ad 16))] := hl
  have hi7 : ∀ w ∈ u_ws RX7 TX7 31, w ∈ wsX7_grams := by decide +kernel
  refine lv_aload_n hx hb dX7_grams_0 rfl (lv_at hl 0 rfl) ?_
  refine lv_iconst (v := 0) hx hb dX7_grams_1 (by decide) ?_
  refine wp_ (C := RX7) (T := TX7) (N := 31) hx hb hts hi7 tyX7 tyX7_ok nmX7 hown hw (hC.m (by decide)) hX.o rfl 0 (by decide) (hts (.fieldLink RX7 78 "LayerMoistureModel" "thrown" "I") (by decide +kernel)) (fun _ h9 => h9) rfl (ty := .int) (v := .int 0) (by decide +kernel) rfl rfl (Nat.le_of_ble_eq_true rfl) dX7_grams_2 (fun H locs hw => ?_)
  obtain ⟨f1, ef1⟩ : ∃ z : Nat → va_E, z = va_up f (ad 16) (.inr (8, [.int 0, .int (nI n), .int (nI nb), .ref (ad 17), .ref (ad 18), .double kel, .double dmp, .double spd, .double ven, .double lef, .long gon, .int (nI hr), .ref (ad 19), .ref (ad 20), .ref (ad 21), .ref (ad 22), .ref (ad 23), .ref (ad 24), .ref (ad 25), .ref (ad 26), .ref (ad 27), .int (nI tl), .int (nI pa), .int bad, .int num, .ref (ad 28), .ref (ad 29), .ref (ad 30), .ref (ad 31), .int (nI st), .int (nI dn)])) := ⟨_, rfl⟩
  have hw : ww G dA A s L f1 H locs := by rw [ef1]; exact hw
  have hX2 : MX ad dA n nb kel dmp spd ven lef gon hr tl st dn 0 pa bad num RA RB TH DE KI WE NX LI LM KE TX BW TI KV DM f0 f1 := by rw [ef1]; exact hX.sO hC kel dmp spd ven lef gon hr tl st dn 0 pa bad num
  refine lv_aload_n hx hb dX7_grams_5 rfl (lv_at hl 0 rfl) ?_
  refine wg (C := RX7) (T := TX7) (N := 31) hx hb hts hi7 hown hw (hC.m (by decide)) hX2.o rfl 10 (by decide) (hts (.fieldLink RX7 175 "LayerMoistureModel" "gone" "J") (by decide +kernel)) (fun _ h9 => h9) (v := .long gon) rfl dX7_grams_6 ?_
  exact hret _ _ _ _ _ _ hw ⟨rfl, hX2⟩ dX7_grams_9

set_option maxHeartbeats 4000000 in
set_option maxRecDepth 100000 in
theorem c_X7_told_0 (l : Launch) (G : va_G) (dA : Nat → ClassId) (L : List Nat) (f : Nat → va_E) (ad : Nat → Nat) (n nb : Nat) (q qk : Nat → Option Nat) (kel : UInt64) (dmp : UInt64) (spd : UInt64) (ven : UInt64) (lef : UInt64) (gon : Int64) (hr : Nat) (tl : Nat) (st : Nat) (dn : Nat) (thr : Int32) (pa : Nat) (bad : Int32) (num : Int32) (RA : Nat → UInt64) (RB : Nat → UInt64) (TH : Nat → Int32) (DE : Nat → UInt64) (KI : Nat → Int32) (WE : Nat → UInt64) (NX : Nat → UInt64) (LI : Nat → Int32) (LM : Nat → UInt64) (KE : Nat → Int32) (TX : Nat → Int32) (BW : Nat → Int32) (TI : Nat → Int32) (KV : Nat → Int32) (DM : Nat → Int32) (f0 : Nat → va_E)   (hC : Cx ad L n nb q qk) (hX : MX ad dA n nb kel dmp spd ven lef gon hr tl st dn thr pa bad num RA RB TH DE KI WE NX LI LM KE TX BW TI KV DM f0 f)   : mD l yX7_told wsX7_told ({ frames := 0, cells := 0, slots := 0, locals := 0 }) G dA [.ref (ad 16), .int (nI 0)] L f (fun r f2 => r = kel ∧ MX ad dA n nb kel dmp spd ven lef gon hr tl st dn 0 pa bad num RA RB TH DE KI WE NX LI LM KE TX BW TI KV DM f0 f2) := by
  refine mD_of (cc := cX7_told) (maxL := 2) (by decide) rfl (Nat.le_of_ble_eq_true rfl) ?_
  intro p e s m below meth c A ls Q hx hb hml hown hts hlocks hA hin0 hw hl hret
  have hown : s.vm.findClass RX7 = some m.cls := hown
  have hl : lv_has ls 2 [(0, .ref (ad 16)), (1, .int (nI 0))] := hl
  have hi7 : ∀ w ∈ u_ws RX7 TX7 31, w ∈ wsX7_told := by decide +kernel
  refine lv_aload_n hx hb dX7_told_0 rfl (lv_at hl 0 rfl) ?_
  refine lv_iload_n hx hb dX7_told_1 rfl (lv_at hl 1 rfl) ?_
  refine lv_if_lt (tgt := 10) hx hb dX7_told_2 (by decide) (fun c9 => absurd c9 (by decide)) (fun _ => ?_)
  refine lv_iload_n hx hb dX7_told_5 rfl (lv_at hl 1 rfl) ?_
  refine lv_iconst (v := 4) hx hb dX7_told_6 (by decide) ?_
  refine lv_icmp_le (tgt := 14) hx hb dX7_told_7 (by decide) (fun _ => ?_) (fun c9 => absurd (by decide) c9)
  refine lv_iconst (v := 0) hx hb dX7_told_14 (by decide) ?_
  refine wp_ (C := RX7) (T := TX7) (N := 31) hx hb hts hi7 tyX7 tyX7_ok nmX7 hown hw (hC.m (by decide)) hX.o rfl 0 (by decide) (hts (.fieldLink RX7 78 "LayerMoistureModel" "thrown" "I") (by decide +kernel)) (fun _ h9 => h9) rfl (ty := .int) (v := .int 0) (by decide +kernel) rfl rfl (Nat.le_of_ble_eq_true rfl) dX7_told_15 (fun H locs hw => ?_)
  obtain ⟨f1, ef1⟩ : ∃ z : Nat → va_E, z = va_up f (ad 16) (.inr (8, [.int 0, .int (nI n), .int (nI nb), .ref (ad 17), .ref (ad 18), .double kel, .double dmp, .double spd, .double ven, .double lef, .long gon, .int (nI hr), .ref (ad 19), .ref (ad 20), .ref (ad 21), .ref (ad 22), .ref (ad 23), .ref (ad 24), .ref (ad 25), .ref (ad 26), .ref (ad 27), .int (nI tl), .int (nI pa), .int bad, .int num, .ref (ad 28), .ref (ad 29), .ref (ad 30), .ref (ad 31), .int (nI st), .int (nI dn)])) := ⟨_, rfl⟩
  have hw : ww G dA A s L f1 H locs := by rw [ef1]; exact hw
  have hX2 : MX ad dA n nb kel dmp spd ven lef gon hr tl st dn 0 pa bad num RA RB TH DE KI WE NX LI LM KE TX BW TI KV DM f0 f1 := by rw [ef1]; exact hX.sO hC kel dmp spd ven lef gon hr tl st dn 0 pa bad num
  refine lv_aload_n hx hb dX7_told_18 rfl (lv_at hl 0 rfl) ?_
  refine wg (C := RX7) (T := TX7) (N := 31) hx hb hts hi7 hown hw (hC.m (by decide)) hX2.o rfl 0 (by decide) (hts (.fieldLink RX7 78 "LayerMoistureModel" "thrown" "I") (by decide +kernel)) (fun _ h9 => h9) (v := .int 0) rfl dX7_told_19 ?_
  refine lv_if_le (tgt := 29) hx hb dX7_told_22 (by decide) (fun _ => ?_) (fun c9 => absurd (by decide) c9)
  refine lv_iload_n hx hb dX7_told_29 rfl (lv_at hl 1 rfl) ?_
  refine lv_if_ne (tgt := 40) hx hb dX7_told_30 (by decide) (fun c9 => absurd c9 (fun h7 => h7 (by decide))) (fun _ => ?_)
  refine lv_aload_n hx hb dX7_told_33 rfl (lv_at hl 0 rfl) ?_
  refine wg (C := RX7) (T := TX7) (N := 31) hx hb hts hi7 hown hw (hC.m (by decide)) hX2.o rfl 5 (by decide) (hts (.fieldLink RX7 18 "LayerMoistureModel" "kelvin" "D") (by decide +kernel)) (fun _ h9 => h9) (v := .double kel) rfl dX7_told_34 ?_
  refine lv_goto (tgt := 80) hx hb dX7_told_37 (by decide) ?_
  exact hret _ _ _ _ _ _ hw ⟨rfl, hX2⟩ dX7_told_80

set_option maxHeartbeats 4000000 in
set_option maxRecDepth 100000 in
theorem c_X7_told_1 (l : Launch) (G : va_G) (dA : Nat → ClassId) (L : List Nat) (f : Nat → va_E) (ad : Nat → Nat) (n nb : Nat) (q qk : Nat → Option Nat) (kel : UInt64) (dmp : UInt64) (spd : UInt64) (ven : UInt64) (lef : UInt64) (gon : Int64) (hr : Nat) (tl : Nat) (st : Nat) (dn : Nat) (thr : Int32) (pa : Nat) (bad : Int32) (num : Int32) (RA : Nat → UInt64) (RB : Nat → UInt64) (TH : Nat → Int32) (DE : Nat → UInt64) (KI : Nat → Int32) (WE : Nat → UInt64) (NX : Nat → UInt64) (LI : Nat → Int32) (LM : Nat → UInt64) (KE : Nat → Int32) (TX : Nat → Int32) (BW : Nat → Int32) (TI : Nat → Int32) (KV : Nat → Int32) (DM : Nat → Int32) (f0 : Nat → va_E)   (hC : Cx ad L n nb q qk) (hX : MX ad dA n nb kel dmp spd ven lef gon hr tl st dn thr pa bad num RA RB TH DE KI WE NX LI LM KE TX BW TI KV DM f0 f)   : mD l yX7_told wsX7_told ({ frames := 0, cells := 0, slots := 0, locals := 0 }) G dA [.ref (ad 16), .int (nI 1)] L f (fun r f2 => r = dmp ∧ MX ad dA n nb kel dmp spd ven lef gon hr tl st dn 0 pa bad num RA RB TH DE KI WE NX LI LM KE TX BW TI KV DM f0 f2) := by
  refine mD_of (cc := cX7_told) (maxL := 2) (by decide) rfl (Nat.le_of_ble_eq_true rfl) ?_
  intro p e s m below meth c A ls Q hx hb hml hown hts hlocks hA hin0 hw hl hret
  have hown : s.vm.findClass RX7 = some m.cls := hown
  have hl : lv_has ls 2 [(0, .ref (ad 16)), (1, .int (nI 1))] := hl
  have hi7 : ∀ w ∈ u_ws RX7 TX7 31, w ∈ wsX7_told := by decide +kernel
  refine lv_aload_n hx hb dX7_told_0 rfl (lv_at hl 0 rfl) ?_
  refine lv_iload_n hx hb dX7_told_1 rfl (lv_at hl 1 rfl) ?_
  refine lv_if_lt (tgt := 10) hx hb dX7_told_2 (by decide) (fun c9 => absurd c9 (by decide)) (fun _ => ?_)
  refine lv_iload_n hx hb dX7_told_5 rfl (lv_at hl 1 rfl) ?_
  refine lv_iconst (v := 4) hx hb dX7_told_6 (by decide) ?_
  refine lv_icmp_le (tgt := 14) hx hb dX7_told_7 (by decide) (fun _ => ?_) (fun c9 => absurd (by decide) c9)
  refine lv_iconst (v := 0) hx hb dX7_told_14 (by decide) ?_
  refine wp_ (C := RX7) (T := TX7) (N := 31) hx hb hts hi7 tyX7 tyX7_ok nmX7 hown hw (hC.m (by decide)) hX.o rfl 0 (by decide) (hts (.fieldLink RX7 78 "LayerMoistureModel" "thrown" "I") (by decide +kernel)) (fun _ h9 => h9) rfl (ty := .int) (v := .int 0) (by decide +kernel) rfl rfl (Nat.le_of_ble_eq_true rfl) dX7_told_15 (fun H locs hw => ?_)
  obtain ⟨f1, ef1⟩ : ∃ z : Nat → va_E, z = va_up f (ad 16) (.inr (8, [.int 0, .int (nI n), .int (nI nb), .ref (ad 17), .ref (ad 18), .double kel, .double dmp, .double spd, .double ven, .double lef, .long gon, .int (nI hr), .ref (ad 19), .ref (ad 20), .ref (ad 21), .ref (ad 22), .ref (ad 23), .ref (ad 24), .ref (ad 25), .ref (ad 26), .ref (ad 27), .int (nI tl), .int (nI pa), .int bad, .int num, .ref (ad 28), .ref (ad 29), .ref (ad 30), .ref (ad 31), .int (nI st), .int (nI dn)])) := ⟨_, rfl⟩
  have hw : ww G dA A s L f1 H locs := by rw [ef1]; exact hw
  have hX2 : MX ad dA n nb kel dmp spd ven lef gon hr tl st dn 0 pa bad num RA RB TH DE KI WE NX LI LM KE TX BW TI KV DM f0 f1 := by rw [ef1]; exact hX.sO hC kel dmp spd ven lef gon hr tl st dn 0 pa bad num
  refine lv_aload_n hx hb dX7_told_18 rfl (lv_at hl 0 rfl) ?_
  refine wg (C := RX7) (T := TX7) (N := 31) hx hb hts hi7 hown hw (hC.m (by decide)) hX2.o rfl 0 (by decide) (hts (.fieldLink RX7 78 "LayerMoistureModel" "thrown" "I") (by decide +kernel)) (fun _ h9 => h9) (v := .int 0) rfl dX7_told_19 ?_
  refine lv_if_le (tgt := 29) hx hb dX7_told_22 (by decide) (fun _ => ?_) (fun c9 => absurd (by decide) c9)
  refine lv_iload_n hx hb dX7_told_29 rfl (lv_at hl 1 rfl) ?_
  refine lv_if_ne (tgt := 40) hx hb dX7_told_30 (by decide) (fun _ => ?_) (fun c9 => absurd c9 (by decide))
  refine lv_iload_n hx hb dX7_told_40 rfl (lv_at hl 1 rfl) ?_
  refine lv_iconst (v := 1) hx hb dX7_told_41 (by decide) ?_
  refine lv_icmp_ne (tgt := 52) hx hb dX7_told_42 (by decide) (fun c9 => absurd c9 (fun h7 => h7 (by decide))) (fun _ => ?_)
  refine lv_aload_n hx hb dX7_told_45 rfl (lv_at hl 0 rfl) ?_
  refine wg (C := RX7) (T := TX7) (N := 31) hx hb hts hi7 hown hw (hC.m (by decide)) hX2.o rfl 6 (by decide) (hts (.fieldLink RX7 24 "LayerMoistureModel" "damp" "D") (by decide +kernel)) (fun _ h9 => h9) (v := .double dmp) rfl dX7_told_46 ?_
  refine lv_goto (tgt := 80) hx hb dX7_told_49 (by decide) ?_
  exact hret _ _ _ _ _ _ hw ⟨rfl, hX2⟩ dX7_told_80

set_option maxHeartbeats 4000000 in
set_option maxRecDepth 100000 in
theorem c_X7_told_2 (l : Launch) (G : va_G) (dA : Nat → ClassId) (L : List Nat) (f : Nat → va_E) (ad : Nat → Nat) (n nb : Nat) (q qk : Nat → Option Nat) (kel : UInt64) (dmp : UInt64) (spd : UInt64) (ven : UInt64) (lef : UInt64) (gon : Int64) (hr : Nat) (tl : Nat) (st : Nat) (dn : Nat) (thr : Int32) (pa : Nat) (bad : Int32) (num : Int32) (RA : Nat → UInt64) (RB : Nat → UInt64) (TH : Nat → Int32) (DE : Nat → UInt64) (KI : Nat → Int32) (WE : Nat → UInt64) (NX : Nat → UInt64) (LI : Nat → Int32) (LM : Nat → UInt64) (KE : Nat → Int32) (TX : Nat → Int32) (BW : Nat → Int32) (TI : Nat → Int32) (KV : Nat → Int32) (DM : Nat → Int32) (f0 : Nat → va_E)   (hC : Cx ad L n nb q qk) (hX : MX ad dA n nb kel dmp spd ven lef gon hr tl st dn thr pa bad num RA RB TH DE KI WE NX LI LM KE TX BW TI KV DM f0 f)   : mD l yX7_told wsX7_told ({ frames := 0, cells := 0, slots := 0, locals := 0 }) G dA [.ref (ad 16), .int (nI 2)] L f (fun r f2 => r = spd ∧ MX ad dA n nb kel dmp spd ven lef gon hr tl st dn 0 pa bad num RA RB TH DE KI WE NX LI LM KE TX BW TI KV DM f0 f2) := by
  refine mD_of (cc := cX7_told) (maxL := 2) (by decide) rfl (Nat.le_of_ble_eq_true rfl) ?_
  intro p e s m below meth c A ls Q hx hb hml hown hts hlocks hA hin0 hw hl hret
  have hown : s.vm.findClass RX7 = some m.cls := hown
  have hl : lv_has ls 2 [(0, .ref (ad 16)), (1, .int (nI 2))] := hl
  have hi7 : ∀ w ∈ u_ws RX7 TX7 31, w ∈ wsX7_told := by decide +kernel
  refine lv_aload_n hx hb dX7_told_0 rfl (lv_at hl 0 rfl) ?_
  refine lv_iload_n hx hb dX7_told_1 rfl (lv_at hl 1 rfl) ?_
  refine lv_if_lt (tgt := 10) hx hb dX7_told_2 (by decide) (fun c9 => absurd c9 (by decide)) (fun _ => ?_)
  refine lv_iload_n hx hb dX7_told_5 rfl (lv_at hl 1 rfl) ?_
  refine lv_iconst (v := 4) hx hb dX7_told_6 (by decide) ?_
  refine lv_icmp_le (tgt := 14) hx hb dX7_told_7 (by decide) (fun _ => ?_) (fun c9 => absurd (by decide) c9)
  refine lv_iconst (v := 0) hx hb dX7_told_14 (by decide) ?_
  refine wp_ (C := RX7) (T := TX7) (N := 31) hx hb hts hi7 tyX7 tyX7_ok nmX7 hown hw (hC.m (by decide)) hX.o rfl 0 (by decide) (hts (.fieldLink RX7 78 "LayerMoistureModel" "thrown" "I") (by decide +kernel)) (fun _ h9 => h9) rfl (ty := .int) (v := .int 0) (by decide +kernel) rfl rfl (Nat.le_of_ble_eq_true rfl) dX7_told_15 (fun H locs hw => ?_)
  obtain ⟨f1, ef1⟩ : ∃ z : Nat → va_E, z = va_up f (ad 16) (.inr (8, [.int 0, .int (nI n), .int (nI nb), .ref (ad 17), .ref (ad 18), .double kel, .double dmp, .double spd, .double ven, .double lef, .long gon, .int (nI hr), .ref (ad 19), .ref (ad 20), .ref (ad 21), .ref (ad 22), .ref (ad 23), .ref (ad 24), .ref (ad 25), .ref (ad 26), .ref (ad 27), .int (nI tl), .int (nI pa), .int bad, .int num, .ref (ad 28), .ref (ad 29), .ref (ad 30), .ref (ad 31), .int (nI st), .int (nI dn)])) := ⟨_, rfl⟩
  have hw : ww G dA A s L f1 H locs := by rw [ef1]; exact hw
  have hX2 : MX ad dA n nb kel dmp spd ven lef gon hr tl st dn 0 pa bad num RA RB TH DE KI WE NX LI LM KE TX BW TI KV DM f0 f1 := by rw [ef1]; exact hX.sO hC kel dmp spd ven lef gon hr tl st dn 0 pa bad num
  refine lv_aload_n hx hb dX7_told_18 rfl (lv_at hl 0 rfl) ?_
  refine wg (C := RX7) (T := TX7) (N := 31) hx hb hts hi7 hown hw (hC.m (by decide)) hX2.o rfl 0 (by decide) (hts (.fieldLink RX7 78 "LayerMoistureModel" "thrown" "I") (by decide +kernel)) (fun _ h9 => h9) (v := .int 0) rfl dX7_told_19 ?_
  refine lv_if_le (tgt := 29) hx hb dX7_told_22 (by decide) (fun _ => ?_) (fun c9 => absurd (by decide) c9)
  refine lv_iload_n hx hb dX7_told_29 rfl (lv_at hl 1 rfl) ?_
  refine lv_if_ne (tgt := 40) hx hb dX7_told_30 (by decide) (fun _ => ?_) (fun c9 => absurd c9 (by decide))
  refine lv_iload_n hx hb dX7_told_40 rfl (lv_at hl 1 rfl) ?_
  refine lv_iconst (v := 1) hx hb dX7_told_41 (by decide) ?_
  refine lv_icmp_ne (tgt := 52) hx hb dX7_told_42 (by decide) (fun _ => ?_) (fun c9 => absurd c9 (by decide))
  refine lv_iload_n hx hb dX7_told_52 rfl (lv_at hl 1 rfl) ?_
  refine lv_iconst (v := 2) hx hb dX7_told_53 (by decide) ?_
  refine lv_icmp_ne (tgt := 64) hx hb dX7_told_54 (by decide) (fun c9 => absurd c9 (fun h7 => h7 (by decide))) (fun _ => ?_)
  refine lv_aload_n hx hb dX7_told_57 rfl (lv_at hl 0 rfl) ?_
  refine wg (C := RX7) (T := TX7) (N := 31) hx hb hts hi7 hown hw (hC.m (by decide)) hX2.o rfl 7 (by decide) (hts (.fieldLink RX7 27 "LayerMoistureModel" "speed" "D") (by decide +kernel)) (fun _ h9 => h9) (v := .double spd) rfl dX7_told_58 ?_
  refine lv_goto (tgt := 80) hx hb dX7_told_61 (by decide) ?_
  exact hret _ _ _ _ _ _ hw ⟨rfl, hX2⟩ dX7_told_80

set_option maxHeartbeats 4000000 in
set_option maxRecDepth 100000 in
theorem c_X7_told_3 (l : Launch) (G : va_G) (dA : Nat → ClassId) (L : List Nat) (f : Nat → va_E) (ad : Nat → Nat) (n nb : Nat) (q qk : Nat → Option Nat) (kel : UInt64) (dmp : UInt64) (spd : UInt64) (ven : UInt64) (lef : UInt64) (gon : Int64) (hr : Nat) (tl : Nat) (st : Nat) (dn : Nat) (thr : Int32) (pa : Nat) (bad : Int32) (num : Int32) (RA : Nat → UInt64) (RB : Nat → UInt64) (TH : Nat → Int32) (DE : Nat → UInt64) (KI : Nat → Int32) (WE : Nat → UInt64) (NX : Nat → UInt64) (LI : Nat → Int32) (LM : Nat → UInt64) (KE : Nat → Int32) (TX : Nat → Int32) (BW : Nat → Int32) (TI : Nat → Int32) (KV : Nat → Int32) (DM : Nat → Int32) (f0 : Nat → va_E)   (hC : Cx ad L n nb q qk) (hX : MX ad dA n nb kel dmp spd ven lef gon hr tl st dn thr pa bad num RA RB TH DE KI WE NX LI LM KE TX BW TI KV DM f0 f)   : mD l yX7_told wsX7_told ({ frames := 0, cells := 0, slots := 0, locals := 0 }) G dA [.ref (ad 16), .int (nI 3)] L f (fun r f2 => r = ven ∧ MX ad dA n nb kel dmp spd ven lef gon hr tl st dn 0 pa bad num RA RB TH DE KI WE NX LI LM KE TX BW TI KV DM f0 f2) := by
  refine mD_of (cc := cX7_told) (maxL := 2) (by decide) rfl (Nat.le_of_ble_eq_true rfl) ?_
  intro p e s m below meth c A ls Q hx hb hml hown hts hlocks hA hin0 hw hl hret
  have hown : s.vm.findClass RX7 = some m.cls := hown
  have hl : lv_has ls 2 [(0, .ref (ad 16)), (1, .int (nI 3))] := hl
  have hi7 : ∀ w ∈ u_ws RX7 TX7 31, w ∈ wsX7_told := by decide +kernel
  refine lv_aload_n hx hb dX7_told_0 rfl (lv_at hl 0 rfl) ?_
  refine lv_iload_n hx hb dX7_told_1 rfl (lv_at hl 1 rfl) ?_
  refine lv_if_lt (tgt := 10) hx hb dX7_told_2 (by decide) (fun c9 => absurd c9 (by decide)) (fun _ => ?_)
  refine lv_iload_n hx hb dX7_told_5 rfl (lv_at hl 1 rfl) ?_
  refine lv_iconst (v := 4) hx hb dX7_told_6 (by decide) ?_
  refine lv_icmp_le (tgt := 14) hx hb dX7_told_7 (by decide) (fun _ => ?_) (fun c9 => absurd (by decide) c9)
  refine lv_iconst (v := 0) hx hb dX7_told_14 (by decide) ?_
  refine wp_ (C := RX7) (T := TX7) (N := 31) hx hb hts hi7 tyX7 tyX7_ok nmX7 hown hw (hC.m (by decide)) hX.o rfl 0 (by decide) (hts (.fieldLink RX7 78 "LayerMoistureModel" "thrown" "I") (by decide +kernel)) (fun _ h9 => h9) rfl (ty := .int) (v := .int 0) (by decide +kernel) rfl rfl (Nat.le_of_ble_eq_true rfl) dX7_told_15 (fun H locs hw => ?_)
  obtain ⟨f1, ef1⟩ : ∃ z : Nat → va_E, z = va_up f (ad 16) (.inr (8, [.int 0, .int (nI n), .int (nI nb), .ref (ad 17), .ref (ad 18), .double kel, .double dmp, .double spd, .double ven, .double lef, .long gon, .int (nI hr), .ref (ad 19), .ref (ad 20), .ref (ad 21), .ref (ad 22), .ref (ad 23), .ref (ad 24), .ref (ad 25), .ref (ad 26), .ref (ad 27), .int (nI tl), .int (nI pa), .int bad, .int num, .ref (ad 28), .ref (ad 29), .ref (ad 30), .ref (ad 31), .int (nI st), .int (nI dn)])) := ⟨_, rfl⟩
  have hw : ww G dA A s L f1 H locs := by rw [ef1]; exact hw
  have hX2 : MX ad dA n nb kel dmp spd ven lef gon hr tl st dn 0 pa bad num RA RB TH DE KI WE NX LI LM KE TX BW TI KV DM f0 f1 := by rw [ef1]; exact hX.sO hC kel dmp spd ven lef gon hr tl st dn 0 pa bad num
  refine lv_aload_n hx hb dX7_told_18 rfl (lv_at hl 0 rfl) ?_
  refine wg (C := RX7) (T := TX7) (N := 31) hx hb hts hi7 hown hw (hC.m (by decide)) hX2.o rfl 0 (by decide) (hts (.fieldLink RX7 78 "LayerMoistureModel" "thrown" "I") (by decide +kernel)) (fun _ h9 => h9) (v := .int 0) rfl dX7_told_19 ?_
  refine lv_if_le (tgt := 29) hx hb dX7_told_22 (by decide) (fun _ => ?_) (fun c9 => absurd (by decide) c9)
  refine lv_iload_n hx hb dX7_told_29 rfl (lv_at hl 1 rfl) ?_
  refine lv_if_ne (tgt := 40) hx hb dX7_told_30 (by decide) (fun _ => ?_) (fun c9 => absurd c9 (by decide))
  refine lv_iload_n hx hb dX7_told_40 rfl (lv_at hl 1 rfl) ?_
  refine lv_iconst (v := 1) hx hb dX7_told_41 (by decide) ?_
  refine lv_icmp_ne (tgt := 52) hx hb dX7_told_42 (by decide) (fun _ => ?_) (fun c9 => absurd c9 (by decide))
  refine lv_iload_n hx hb dX7_told_52 rfl (lv_at hl 1 rfl) ?_
  refine lv_iconst (v := 2) hx hb dX7_told_53 (by decide) ?_
  refine lv_icmp_ne (tgt := 64) hx hb dX7_told_54 (by decide) (fun _ => ?_) (fun c9 => absurd c9 (by decide))
  refine lv_iload_n hx hb dX7_told_64 rfl (lv_at hl 1 rfl) ?_
  refine lv_iconst (v := 3) hx hb dX7_told_65 (by decide) ?_
  refine lv_icmp_ne (tgt := 76) hx hb dX7_told_66 (by decide) (fun c9 => absurd c9 (fun h7 => h7 (by decide))) (fun _ => ?_)
  refine lv_aload_n hx hb dX7_told_69 rfl (lv_at hl 0 rfl) ?_
  refine wg (C := RX7) (T := TX7) (N := 31) hx hb hts hi7 hown hw (hC.m (by decide)) hX2.o rfl 8 (by decide) (hts (.fieldLink RX7 99 "LayerMoistureModel" "vent" "D") (by decide +kernel)) (fun _ h9 => h9) (v := .double ven) rfl dX7_told_70 ?_
  refine lv_goto (tgt := 80) hx hb dX7_told_73 (by decide) ?_
  exact hret _ _ _ _ _ _ hw ⟨rfl, hX2⟩ dX7_told_80

set_option maxHeartbeats 4000000 in
set_option maxRecDepth 100000 in
theorem c_X7_told_4 (l : Launch) (G : va_G) (dA : Nat → ClassId) (L : List Nat) (f : Nat → va_E) (ad : Nat → Nat) (n nb : Nat) (q qk : Nat → Option Nat) (kel : UInt64) (dmp : UInt64) (spd : UInt64) (ven : UInt64) (lef : UInt64) (gon : Int64) (hr : Nat) (tl : Nat) (st : Nat) (dn : Nat) (thr : Int32) (pa : Nat) (bad : Int32) (num : Int32) (RA : Nat → UInt64) (RB : Nat → UInt64) (TH : Nat → Int32) (DE : Nat → UInt64) (KI : Nat → Int32) (WE : Nat → UInt64) (NX : Nat → UInt64) (LI : Nat → Int32) (LM : Nat → UInt64) (KE : Nat → Int32) (TX : Nat → Int32) (BW : Nat → Int32) (TI : Nat → Int32) (KV : Nat → Int32) (DM : Nat → Int32) (f0 : Nat → va_E)   (hC : Cx ad L n nb q qk) (hX : MX ad dA n nb kel dmp spd ven lef gon hr tl st dn thr pa bad num RA RB TH DE KI WE NX LI LM KE TX BW TI KV DM f0 f)   : mD l yX7_told wsX7_told ({ frames := 0, cells := 0, slots := 0, locals := 0 }) G dA [.ref (ad 16), .int (nI 4)] L f (fun r f2 => r = lef ∧ MX ad dA n nb kel dmp spd ven lef gon hr tl st dn 0 pa bad num RA RB TH DE KI WE NX LI LM KE TX BW TI KV DM f0 f2) := by
  refine mD_of (cc := cX7_told) (maxL := 2) (by decide) rfl (Nat.le_of_ble_eq_true rfl) ?_
  intro p e s m below meth c A ls Q hx hb hml hown hts hlocks hA hin0 hw hl hret
  have hown : s.vm.findClass RX7 = some m.cls := hown
  have hl : lv_has ls 2 [(0, .ref (ad 16)), (1, .int (nI 4))] := hl
  have hi7 : ∀ w ∈ u_ws RX7 TX7 31, w ∈ wsX7_told := by decide +kernel
  refine lv_aload_n hx hb dX7_told_0 rfl (lv_at hl 0 rfl) ?_
  refine lv_iload_n hx hb dX7_told_1 rfl (lv_at hl 1 rfl) ?_
  refine lv_if_lt (tgt := 10) hx hb dX7_told_2 (by decide) (fun c9 => absurd c9 (by decide)) (fun _ => ?_)
  refine lv_iload_n hx hb dX7_told_5 rfl (lv_at hl 1 rfl) ?_
  refine lv_iconst (v := 4) hx hb dX7_told_6 (by decide) ?_
  refine lv_icmp_le (tgt := 14) hx hb dX7_told_7 (by decide) (fun _ => ?_) (fun c9 => absurd (by decide) c9)
  refine lv_iconst (v := 0) hx hb dX7_told_14 (by decide) ?_
  refine wp_ (C := RX7) (T := TX7) (N := 31) hx hb hts hi7 tyX7 tyX7_ok nmX7 hown hw (hC.m (by decide)) hX.o rfl 0 (by decide) (hts (.fieldLink RX7 78 "LayerMoistureModel" "thrown" "I") (by decide +kernel)) (fun _ h9 => h9) rfl (ty := .int) (v := .int 0) (by decide +kernel) rfl rfl (Nat.le_of_ble_eq_true rfl) dX7_told_15 (fun H locs hw => ?_)
  obtain ⟨f1, ef1⟩ : ∃ z : Nat → va_E, z = va_up f (ad 16) (.inr (8, [.int 0, .int (nI n), .int (nI nb), .ref (ad 17), .ref (ad 18), .double kel, .double dmp, .double spd, .double ven, .double lef, .long gon, .int (nI hr), .ref (ad 19), .ref (ad 20), .ref (ad 21), .ref (ad 22), .ref (ad 23), .ref (ad 24), .ref (ad 25), .ref (ad 26), .ref (ad 27), .int (nI tl), .int (nI pa), .int bad, .int num, .ref (ad 28), .ref (ad 29), .ref (ad 30), .ref (ad 31), .int (nI st), .int (nI dn)])) := ⟨_, rfl⟩
  have hw : ww G dA A s L f1 H locs := by rw [ef1]; exact hw
  have hX2 : MX ad dA n nb kel dmp spd ven lef gon hr tl st dn 0 pa bad num RA RB TH DE KI WE NX LI LM KE TX BW TI KV DM f0 f1 := by rw [ef1]; exact hX.sO hC kel dmp spd ven lef gon hr tl st dn 0 pa bad num
  refine lv_aload_n hx hb dX7_told_18 rfl (lv_at hl 0 rfl) ?_
  refine wg (C := RX7) (T := TX7) (N := 31) hx hb hts hi7 hown hw (hC.m (by decide)) hX2.o rfl 0 (by decide) (hts (.fieldLink RX7 78 "LayerMoistureModel" "thrown" "I") (by decide +kernel)) (fun _ h9 => h9) (v := .int 0) rfl dX7_told_19 ?_
  refine lv_if_le (tgt := 29) hx hb dX7_told_22 (by decide) (fun _ => ?_) (fun c9 => absurd (by decide) c9)
  refine lv_iload_n hx hb dX7_told_29 rfl (lv_at hl 1 rfl) ?_
  refine lv_if_ne (tgt := 40) hx hb dX7_told_30 (by decide) (fun _ => ?_) (fun c9 => absurd c9 (by decide))
  refine lv_iload_n hx hb dX7_told_40 rfl (lv_at hl 1 rfl) ?_
  refine lv_iconst (v := 1) hx hb dX7_told_41 (by decide) ?_
  refine lv_icmp_ne (tgt := 52) hx hb dX7_told_42 (by decide) (fun _ => ?_) (fun c9 => absurd c9 (by decide))
  refine lv_iload_n hx hb dX7_told_52 rfl (lv_at hl 1 rfl) ?_
  refine lv_iconst (v := 2) hx hb dX7_told_53 (by decide) ?_
  refine lv_icmp_ne (tgt := 64) hx hb dX7_told_54 (by decide) (fun _ => ?_) (fun c9 => absurd c9 (by decide))
  refine lv_iload_n hx hb dX7_told_64 rfl (lv_at hl 1 rfl) ?_
  refine lv_iconst (v := 3) hx hb dX7_told_65 (by decide) ?_
  refine lv_icmp_ne (tgt := 76) hx hb dX7_told_66 (by decide) (fun _ => ?_) (fun c9 => absurd c9 (by decide))
  refine lv_aload_n hx hb dX7_told_76 rfl (lv_at hl 0 rfl) ?_
  refine wg (C := RX7) (T := TX7) (N := 31) hx hb hts hi7 hown hw (hC.m (by decide)) hX2.o rfl 9 (by decide) (hts (.fieldLink RX7 172 "LayerMoistureModel" "left" "D") (by decide +kernel)) (fun _ h9 => h9) (v := .double lef) rfl dX7_told_77 ?_
  exact hret _ _ _ _ _ _ hw ⟨rfl, hX2⟩ dX7_told_80

set_option maxHeartbeats 4000000 in
set_option maxRecDepth 100000 in
theorem t1_X7_told (l : Launch) (G : va_G) (dA : Nat → ClassId) (L : List Nat) (f : Nat → va_E) (ad : Nat → Nat) (n nb : Nat) (q qk : Nat → Option Nat) (kel : UInt64) (dmp : UInt64) (spd : UInt64) (ven : UInt64) (lef : UInt64) (gon : Int64) (hr : Nat) (tl : Nat) (st : Nat) (dn : Nat) (thr : Int32) (pa : Nat) (bad : Int32) (num : Int32) (RA : Nat → UInt64) (RB : Nat → UInt64) (TH : Nat → Int32) (DE : Nat → UInt64) (KI : Nat → Int32) (WE : Nat → UInt64) (NX : Nat → UInt64) (LI : Nat → Int32) (LM : Nat → UInt64) (KE : Nat → Int32) (TX : Nat → Int32) (BW : Nat → Int32) (TI : Nat → Int32) (KV : Nat → Int32) (DM : Nat → Int32) (f0 : Nat → va_E) (k : Int32)  (hC : Cx ad L n nb q qk) (hX : MX ad dA n nb kel dmp spd ven lef gon hr tl st dn thr pa bad num RA RB TH DE KI WE NX LI LM KE TX BW TI KV DM f0 f) (hbad : k < 0 ∨ 4 < k)  : mD l yX7_told wsX7_told ({ frames := 0, cells := 0, slots := 0, locals := 0 }) G dA [.ref (ad 16), .int k] L f (fun r f2 => MX ad dA n nb kel dmp spd ven lef gon hr tl st dn 1 pa bad num RA RB TH DE KI WE NX LI LM KE TX BW TI KV DM f0 f2) := by
  refine mD_of (cc := cX7_told) (maxL := 2) (by decide) rfl (Nat.le_of_ble_eq_true rfl) ?_
  intro p e s m below meth c A ls Q hx hb hml hown hts hlocks hA hin0 hw hl hret
  have hown : s.vm.findClass RX7 = some m.cls := hown
  have hl : lv_has ls 2 [(0, .ref (ad 16)), (1, .int k)] := hl
  have hi7 : ∀ w ∈ u_ws RX7 TX7 31, w ∈ wsX7_told := by decide +kernel
  refine lv_aload_n hx hb dX7_told_0 rfl (lv_at hl 0 rfl) ?_
  refine lv_iload_n hx hb dX7_told_1 rfl (lv_at hl 1 rfl) ?_
  refine lv_if_lt (tgt := 10) hx hb dX7_told_2 (by decide) (fun c2 => ?_) (fun c2 => ?_)
  · refine lv_iconst (v := 1) hx hb dX7_told_10 (by decide) ?_
    refine lv_goto (tgt := 15) hx hb dX7_told_11 (by decide) ?_
    refine wp_ (C := RX7) (T := TX7) (N := 31) hx hb hts hi7 tyX7 tyX7_ok nmX7 hown hw (hC.m (by decide)) hX.o rfl 0 (by decide) (hts (.fieldLink RX7 78 "LayerMoistureModel" "thrown" "I") (by decide +kernel)) (fun _ h9 => h9) rfl (ty := .int) (v := .int 1) (by decide +kernel) rfl rfl (Nat.le_of_ble_eq_true rfl) dX7_told_15 (fun H locs hw => ?_)
    obtain ⟨f1, ef1⟩ : ∃ z : Nat → va_E, z = va_up f (ad 16) (.inr (8, [.int 1, .int (nI n), .int (nI nb), .ref (ad 17), .ref (ad 18), .double kel, .double dmp, .double spd, .double ven, .double lef, .long gon, .int (nI hr), .ref (ad 19), .ref (ad 20), .ref (ad 21), .ref (ad 22), .ref (ad 23), .ref (ad 24), .ref (ad 25), .ref (ad 26), .ref (ad 27), .int (nI tl), .int (nI pa), .int bad, .int num, .ref (ad 28), .ref (ad 29), .ref (ad 30), .ref (ad 31), .int (nI st), .int (nI dn)])) := ⟨_, rfl⟩
    have hw : ww G dA A s L f1 H locs := by rw [ef1]; exact hw
    have hX2 : MX ad dA n nb kel dmp spd ven lef gon hr tl st dn 1 pa bad num RA RB TH DE KI WE NX LI LM KE TX BW TI KV DM f0 f1 := by rw [ef1]; exact hX.sO hC kel dmp spd ven lef gon hr tl st dn 1 pa bad num
    refine lv_aload_n hx hb dX7_told_18 rfl (lv_at hl 0 rfl) ?_
    refine wg (C := RX7) (T := TX7) (N := 31) hx hb hts hi7 hown hw (hC.m (by decide)) hX2.o rfl 0 (by decide) (hts (.fieldLink RX7 78 "LayerMoistureModel" "thrown" "I") (by decide +kernel)) (fun _ h9 => h9) (v := .int 1) rfl dX7_told_19 ?_
    refine lv_if_le (tgt := 29) hx hb dX7_told_22 (by decide) (fun c9 => absurd c9 (by decide)) (fun _ => ?_)
    refine lv_dconst0 hx hb dX7_told_25 ?_
    refine lv_goto (tgt := 80) hx hb dX7_told_26 (by decide) ?_
    exact hret _ _ _ _ _ _ hw hX2 dX7_told_80
  · refine lv_iload_n hx hb dX7_told_5 rfl (lv_at hl 1 rfl) ?_
    refine lv_iconst (v := 4) hx hb dX7_told_6 (by decide) ?_
    refine lv_icmp_le (tgt := 14) hx hb dX7_told_7 (by decide) (fun c9 => absurd c9 (fun h7 => hbad.elim c2 (fun h8 => absurd h7 (Int32.not_le.mpr h8)))) (fun _ => ?_)
    refine lv_iconst (v := 1) hx hb dX7_told_10 (by decide) ?_
    refine lv_goto (tgt := 15) hx hb dX7_told_11 (by decide) ?_
    refine wp_ (C := RX7) (T := TX7) (N := 31) hx hb hts hi7 tyX7 tyX7_ok nmX7 hown hw (hC.m (by decide)) hX.o rfl 0 (by decide) (hts (.fieldLink RX7 78 "LayerMoistureModel" "thrown" "I") (by decide +kernel)) (fun _ h9 => h9) rfl (ty := .int) (v := .int 1) (by decide +kernel) rfl rfl (Nat.le_of_ble_eq_true rfl) dX7_told_15 (fun H locs hw => ?_)
    obtain ⟨f3, ef3⟩ : ∃ z : Nat → va_E, z = va_up f (ad 16) (.inr (8, [.int 1, .int (nI n), .int (nI nb), .ref (ad 17), .ref (ad 18), .double kel, .double dmp, .double spd, .double ven, .double lef, .long gon, .int (nI hr), .ref (ad 19), .ref (ad 20), .ref (ad 21), .ref (ad 22), .ref (ad 23), .ref (ad 24), .ref (ad 25), .ref (ad 26), .ref (ad 27), .int (nI tl), .int (nI pa), .int bad, .int num, .ref (ad 28), .ref (ad 29), .ref (ad 30), .ref (ad 31), .int (nI st), .int (nI dn)])) := ⟨_, rfl⟩
    have hw : ww G dA A s L f3 H locs := by rw [ef3]; exact hw
    have hX4 : MX ad dA n nb kel dmp spd ven lef gon hr tl st dn 1 pa bad num RA RB TH DE KI WE NX LI LM KE TX BW TI KV DM f0 f3 := by rw [ef3]; exact hX.sO hC kel dmp spd ven lef gon hr tl st dn 1 pa bad num
    refine lv_aload_n hx hb dX7_told_18 rfl (lv_at hl 0 rfl) ?_
    refine wg (C := RX7) (T := TX7) (N := 31) hx hb hts hi7 hown hw (hC.m (by decide)) hX4.o rfl 0 (by decide) (hts (.fieldLink RX7 78 "LayerMoistureModel" "thrown" "I") (by decide +kernel)) (fun _ h9 => h9) (v := .int 1) rfl dX7_told_19 ?_
    refine lv_if_le (tgt := 29) hx hb dX7_told_22 (by decide) (fun c9 => absurd c9 (by decide)) (fun _ => ?_)
    refine lv_dconst0 hx hb dX7_told_25 ?_
    refine lv_goto (tgt := 80) hx hb dX7_told_26 (by decide) ?_
    exact hret _ _ _ _ _ _ hw hX4 dX7_told_80

set_option maxHeartbeats 4000000 in
set_option maxRecDepth 100000 in
theorem c_X7_count_0 (l : Launch) (G : va_G) (dA : Nat → ClassId) (L : List Nat) (f : Nat → va_E) (ad : Nat → Nat) (n nb : Nat) (q qk : Nat → Option Nat) (kel : UInt64) (dmp : UInt64) (spd : UInt64) (ven : UInt64) (lef : UInt64) (gon : Int64) (hr : Nat) (tl : Nat) (st : Nat) (dn : Nat) (thr : Int32) (pa : Nat) (bad : Int32) (num : Int32) (RA : Nat → UInt64) (RB : Nat → UInt64) (TH : Nat → Int32) (DE : Nat → UInt64) (KI : Nat → Int32) (WE : Nat → UInt64) (NX : Nat → UInt64) (LI : Nat → Int32) (LM : Nat → UInt64) (KE : Nat → Int32) (TX : Nat → Int32) (BW : Nat → Int32) (TI : Nat → Int32) (KV : Nat → Int32) (DM : Nat → Int32) (f0 : Nat → va_E)   (hC : Cx ad L n nb q qk) (hX : MX ad dA n nb kel dmp spd ven lef gon hr tl st dn thr pa bad num RA RB TH DE KI WE NX LI LM KE TX BW TI KV DM f0 f)   : mI l yX7_count wsX7_count ({ frames := 0, cells := 0, slots := 0, locals := 0 }) G dA [.ref (ad 16), .int (nI 0)] L f (fun r f2 => r = nI hr ∧ MX ad dA n nb kel dmp spd ven lef gon hr tl st dn 0 pa bad num RA RB TH DE KI WE NX LI LM KE TX BW TI KV DM f0 f2) := by
  refine mI_of (cc := cX7_count) (maxL := 4) (by decide) rfl (Nat.le_of_ble_eq_true rfl) ?_
  intro p e s m below meth c A ls Q hx hb hml hown hts hlocks hA hin0 hw hl hret
  have hown : s.vm.findClass RX7 = some m.cls := hown
  have hl : lv_has ls 4 [(0, .ref (ad 16)), (1, .int (nI 0))] := hl
  have hi7 : ∀ w ∈ u_ws RX7 TX7 31, w ∈ wsX7_count := by decide +kernel
  refine lv_aload_n hx hb dX7_count_0 rfl (lv_at hl 0 rfl) ?_
  refine lv_iload_n hx hb dX7_count_1 rfl (lv_at hl 1 rfl) ?_
  refine lv_if_lt (tgt := 10) hx hb dX7_count_2 (by decide) (fun c9 => absurd c9 (by decide)) (fun _ => ?_)
  refine lv_iload_n hx hb dX7_count_5 rfl (lv_at hl 1 rfl) ?_
  refine lv_iconst (v := 2) hx hb dX7_count_6 (by decide) ?_
  refine lv_icmp_le (tgt := 14) hx hb dX7_count_7 (by decide) (fun _ => ?_) (fun c9 => absurd (by decide) c9)
  refine lv_iconst (v := 0) hx hb dX7_count_14 (by decide) ?_
  refine wp_ (C := RX7) (T := TX7) (N := 31) hx hb hts hi7 tyX7 tyX7_ok nmX7 hown hw (hC.m (by decide)) hX.o rfl 0 (by decide) (hts (.fieldLink RX7 78 "LayerMoistureModel" "thrown" "I") (by decide +kernel)) (fun _ h9 => h9) rfl (ty := .int) (v := .int 0) (by decide +kernel) rfl rfl (Nat.le_of_ble_eq_true rfl) dX7_count_15 (fun H locs hw => ?_)
  obtain ⟨f1, ef1⟩ : ∃ z : Nat → va_E, z = va_up f (ad 16) (.inr (8, [.int 0, .int (nI n), .int (nI nb), .ref (ad 17), .ref (ad 18), .double kel, .double dmp, .double spd, .double ven, .double lef, .long gon, .int (nI hr), .ref (ad 19), .ref (ad 20), .ref (ad 21), .ref (ad 22), .ref (ad 23), .ref (ad 24), .ref (ad 25), .ref (ad 26), .ref (ad 27), .int (nI tl), .int (nI pa), .int bad, .int num, .ref (ad 28), .ref (ad 29), .ref (ad 30), .ref (ad 31), .int (nI st), .int (nI dn)])) := ⟨_, rfl⟩
  have hw : ww G dA A s L f1 H locs := by rw [ef1]; exact hw
  have hX2 : MX ad dA n nb kel dmp spd ven lef gon hr tl st dn 0 pa bad num RA RB TH DE KI WE NX LI LM KE TX BW TI KV DM f0 f1 := by rw [ef1]; exact hX.sO hC kel dmp spd ven lef gon hr tl st dn 0 pa bad num
  refine lv_aload_n hx hb dX7_count_18 rfl (lv_at hl 0 rfl) ?_
  refine wg (C := RX7) (T := TX7) (N := 31) hx hb hts hi7 hown hw (hC.m (by decide)) hX2.o rfl 0 (by decide) (hts (.fieldLink RX7 78 "LayerMoistureModel" "thrown" "I") (by decide +kernel)) (fun _ h9 => h9) (v := .int 0) rfl dX7_count_19 ?_
  refine lv_if_gt (tgt := 30) hx hb dX7_count_22 (by decide) (fun c9 => absurd c9 (by decide)) (fun _ => ?_)
  refine lv_iload_n hx hb dX7_count_25 rfl (lv_at hl 1 rfl) ?_
  refine lv_iconst (v := 2) hx hb dX7_count_26 (by decide) ?_
  refine lv_icmp_ge (tgt := 57) hx hb dX7_count_27 (by decide) (fun c9 => absurd c9 (by decide)) (fun _ => ?_)
  refine lv_aload_n hx hb dX7_count_30 rfl (lv_at hl 0 rfl) ?_
  refine wg (C := RX7) (T := TX7) (N := 31) hx hb hts hi7 hown hw (hC.m (by decide)) hX2.o rfl 0 (by decide) (hts (.fieldLink RX7 78 "LayerMoistureModel" "thrown" "I") (by decide +kernel)) (fun _ h9 => h9) (v := .int 0) rfl dX7_count_31 ?_
  refine lv_if_le (tgt := 41) hx hb dX7_count_34 (by decide) (fun _ => ?_) (fun c9 => absurd (by decide) c9)
  refine lv_iload_n hx hb dX7_count_41 rfl (lv_at hl 1 rfl) ?_
  refine lv_if_ne (tgt := 52) hx hb dX7_count_42 (by decide) (fun c9 => absurd c9 (fun h7 => h7 (by decide))) (fun _ => ?_)
  refine lv_aload_n hx hb dX7_count_45 rfl (lv_at hl 0 rfl) ?_
  refine wg (C := RX7) (T := TX7) (N := 31) hx hb hts hi7 hown hw (hC.m (by decide)) hX2.o rfl 11 (by decide) (hts (.fieldLink RX7 152 "LayerMoistureModel" "hours" "I") (by decide +kernel)) (fun _ h9 => h9) (v := .int (nI hr)) rfl dX7_count_46 ?_
  refine lv_goto (tgt := 56) hx hb dX7_count_49 (by decide) ?_
  exact hret _ _ _ _ _ _ hw ⟨rfl, hX2⟩ rfl dX7_count_56

set_option maxHeartbeats 4000000 in
set_option maxRecDepth 100000 in
theorem c_X7_count_1 (l : Launch) (G : va_G) (dA : Nat → ClassId) (L : List Nat) (f : Nat → va_E) (ad : Nat → Nat) (n nb : Nat) (q qk : Nat → Option Nat) (kel : UInt64) (dmp : UInt64) (spd : UInt64) (ven : UInt64) (lef : UInt64) (gon : Int64) (hr : Nat) (tl : Nat) (st : Nat) (dn : Nat) (thr : Int32) (pa : Nat) (bad : Int32) (num : Int32) (RA : Nat → UInt64) (RB : Nat → UInt64) (TH : Nat → Int32) (DE : Nat → UInt64) (KI : Nat → Int32) (WE : Nat → UInt64) (NX : Nat → UInt64) (LI : Nat → Int32) (LM : Nat → UInt64) (KE : Nat → Int32) (TX : Nat → Int32) (BW : Nat → Int32) (TI : Nat → Int32) (KV : Nat → Int32) (DM : Nat → Int32) (f0 : Nat → va_E)   (hC : Cx ad L n nb q qk) (hX : MX ad dA n nb kel dmp spd ven lef gon hr tl st dn thr pa bad num RA RB TH DE KI WE NX LI LM KE TX BW TI KV DM f0 f)   : mI l yX7_count wsX7_count ({ frames := 0, cells := 0, slots := 0, locals := 0 }) G dA [.ref (ad 16), .int (nI 1)] L f (fun r f2 => r = nI dn ∧ MX ad dA n nb kel dmp spd ven lef gon hr tl st dn 0 pa bad num RA RB TH DE KI WE NX LI LM KE TX BW TI KV DM f0 f2) := by
  refine mI_of (cc := cX7_count) (maxL := 4) (by decide) rfl (Nat.le_of_ble_eq_true rfl) ?_
  intro p e s m below meth c A ls Q hx hb hml hown hts hlocks hA hin0 hw hl hret
  have hown : s.vm.findClass RX7 = some m.cls := hown
  have hl : lv_has ls 4 [(0, .ref (ad 16)), (1, .int (nI 1))] := hl
  have hi7 : ∀ w ∈ u_ws RX7 TX7 31, w ∈ wsX7_count := by decide +kernel
  refine lv_aload_n hx hb dX7_count_0 rfl (lv_at hl 0 rfl) ?_
  refine lv_iload_n hx hb dX7_count_1 rfl (lv_at hl 1 rfl) ?_
  refine lv_if_lt (tgt := 10) hx hb dX7_count_2 (by decide) (fun c9 => absurd c9 (by decide)) (fun _ => ?_)
  refine lv_iload_n hx hb dX7_count_5 rfl (lv_at hl 1 rfl) ?_
  refine lv_iconst (v := 2) hx hb dX7_count_6 (by decide) ?_
  refine lv_icmp_le (tgt := 14) hx hb dX7_count_7 (by decide) (fun _ => ?_) (fun c9 => absurd (by decide) c9)
  refine lv_iconst (v := 0) hx hb dX7_count_14 (by decide) ?_
  refine wp_ (C := RX7) (T := TX7) (N := 31) hx hb hts hi7 tyX7 tyX7_ok nmX7 hown hw (hC.m (by decide)) hX.o rfl 0 (by decide) (hts (.fieldLink RX7 78 "LayerMoistureModel" "thrown" "I") (by decide +kernel)) (fun _ h9 => h9) rfl (ty := .int) (v := .int 0) (by decide +kernel) rfl rfl (Nat.le_of_ble_eq_true rfl) dX7_count_15 (fun H locs hw => ?_)
  obtain ⟨f1, ef1⟩ : ∃ z : Nat → va_E, z = va_up f (ad 16) (.inr (8, [.int 0, .int (nI n), .int (nI nb), .ref (ad 17), .ref (ad 18), .double kel, .double dmp, .double spd, .double ven, .double lef, .long gon, .int (nI hr), .ref (ad 19), .ref (ad 20), .ref (ad 21), .ref (ad 22), .ref (ad 23), .ref (ad 24), .ref (ad 25), .ref (ad 26), .ref (ad 27), .int (nI tl), .int (nI pa), .int bad, .int num, .ref (ad 28), .ref (ad 29), .ref (ad 30), .ref (ad 31), .int (nI st), .int (nI dn)])) := ⟨_, rfl⟩
  have hw : ww G dA A s L f1 H locs := by rw [ef1]; exact hw
  have hX2 : MX ad dA n nb kel dmp spd ven lef gon hr tl st dn 0 pa bad num RA RB TH DE KI WE NX LI LM KE TX BW TI KV DM f0 f1 := by rw [ef1]; exact hX.sO hC kel dmp spd ven lef gon hr tl st dn 0 pa bad num
  refine lv_aload_n hx hb dX7_count_18 rfl (lv_at hl 0 rfl) ?_
  refine wg (C := RX7) (T := TX7) (N := 31) hx hb hts hi7 hown hw (hC.m (by decide)) hX2.o rfl 0 (by decide) (hts (.fieldLink RX7 78 "LayerMoistureModel" "thrown" "I") (by decide +kernel)) (fun _ h9 => h9) (v := .int 0) rfl dX7_count_19 ?_
  refine lv_if_gt (tgt := 30) hx hb dX7_count_22 (by decide) (fun c9 => absurd c9 (by decide)) (fun _ => ?_)
  refine lv_iload_n hx hb dX7_count_25 rfl (lv_at hl 1 rfl) ?_
  refine lv_iconst (v := 2) hx hb dX7_count_26 (by decide) ?_
  refine lv_icmp_ge (tgt := 57) hx hb dX7_count_27 (by decide) (fun c9 => absurd c9 (by decide)) (fun _ => ?_)
  refine lv_aload_n hx hb dX7_count_30 rfl (lv_at hl 0 rfl) ?_
  refine wg (C := RX7) (T := TX7) (N := 31) hx hb hts hi7 hown hw (hC.m (by decide)) hX2.o rfl 0 (by decide) (hts (.fieldLink RX7 78 "LayerMoistureModel" "thrown" "I") (by decide +kernel)) (fun _ h9 => h9) (v := .int 0) rfl dX7_count_31 ?_
  refine lv_if_le (tgt := 41) hx hb dX7_count_34 (by decide) (fun _ => ?_) (fun c9 => absurd (by decide) c9)
  refine lv_iload_n hx hb dX7_count_41 rfl (lv_at hl 1 rfl) ?_
  refine lv_if_ne (tgt := 52) hx hb dX7_count_42 (by decide) (fun _ => ?_) (fun c9 => absurd c9 (by decide))
  refine lv_aload_n hx hb dX7_count_52 rfl (lv_at hl 0 rfl) ?_
  refine wg (C := RX7) (T := TX7) (N := 31) hx hb hts hi7 hown hw (hC.m (by decide)) hX2.o rfl 30 (by decide) (hts (.fieldLink RX7 134 "LayerMoistureModel" "done" "I") (by decide +kernel)) (fun _ h9 => h9) (v := .int (nI dn)) rfl dX7_count_53 ?_
  exact hret _ _ _ _ _ _ hw ⟨rfl, hX2⟩ rfl dX7_count_56

set_option maxHeartbeats 4000000 in
set_option maxRecDepth 100000 in
theorem c_X7_count_2 (l : Launch) (G : va_G) (dA : Nat → ClassId) (L : List Nat) (f : Nat → va_E) (ad : Nat → Nat) (n nb : Nat) (q qk : Nat → Option Nat) (kel : UInt64) (dmp : UInt64) (spd : UInt64) (ven : UInt64) (lef : UInt64) (gon : Int64) (hr : Nat) (tl : Nat) (st : Nat) (dn : Nat) (thr : Int32) (pa : Nat) (bad : Int32) (num : Int32) (RA : Nat → UInt64) (RB : Nat → UInt64) (TH : Nat → Int32) (DE : Nat → UInt64) (KI : Nat → Int32) (WE : Nat → UInt64) (NX : Nat → UInt64) (LI : Nat → Int32) (LM : Nat → UInt64) (KE : Nat → Int32) (TX : Nat → Int32) (BW : Nat → Int32) (TI : Nat → Int32) (KV : Nat → Int32) (DM : Nat → Int32) (f0 : Nat → va_E) (bd : Nat → sB)  (hC : Cx ad L n nb q qk) (hX : MX ad dA n nb kel dmp spd ven lef gon hr tl st dn thr pa bad num RA RB TH DE KI WE NX LI LM KE TX BW TI KV DM f0 f) (hMb : MGb nb bd TH DE KI LI LM KE)  : mI l yX7_count wsX7_count ({ frames := 0, cells := 0, slots := 0, locals := 0 }) G dA [.ref (ad 16), .int (nI 2)] L f (fun r f2 => r = nI (cntTh bd nb) ∧ MX ad dA n nb kel dmp spd ven lef gon hr tl st dn 0 pa bad num RA RB TH DE KI WE NX LI LM KE TX BW TI KV DM f0 f2) := by
  refine mI_of (cc := cX7_count) (maxL := 4) (by decide) rfl (Nat.le_of_ble_eq_true rfl) ?_
  intro p e s m below meth c A ls Q hx hb hml hown hts hlocks hA hin0 hw hl hret
  have hown : s.vm.findClass RX7 = some m.cls := hown
  have hl : lv_has ls 4 [(0, .ref (ad 16)), (1, .int (nI 2))] := hl
  have hi7 : ∀ w ∈ u_ws RX7 TX7 31, w ∈ wsX7_count := by decide +kernel
  refine lv_aload_n hx hb dX7_count_0 rfl (lv_at hl 0 rfl) ?_
  refine lv_iload_n hx hb dX7_count_1 rfl (lv_at hl 1 rfl) ?_
  refine lv_if_lt (tgt := 10) hx hb dX7_count_2 (by decide) (fun c9 => absurd c9 (by decide)) (fun _ => ?_)
  refine lv_iload_n hx hb dX7_count_5 rfl (lv_at hl 1 rfl) ?_
  refine lv_iconst (v := 2) hx hb dX7_count_6 (by decide) ?_
  refine lv_icmp_le (tgt := 14) hx hb dX7_count_7 (by decide) (fun _ => ?_) (fun c9 => absurd (by decide) c9)
  refine lv_iconst (v := 0) hx hb dX7_count_14 (by decide) ?_
  refine wp_ (C := RX7) (T := TX7) (N := 31) hx hb hts hi7 tyX7 tyX7_ok nmX7 hown hw (hC.m (by decide)) hX.o rfl 0 (by decide) (hts (.fieldLink RX7 78 "LayerMoistureModel" "thrown" "I") (by decide +kernel)) (fun _ h9 => h9) rfl (ty := .int) (v := .int 0) (by decide +kernel) rfl rfl (Nat.le_of_ble_eq_true rfl) dX7_count_15 (fun H locs hw => ?_)
  obtain ⟨f1, ef1⟩ : ∃ z : Nat → va_E, z = va_up f (ad 16) (.inr (8, [.int 0, .int (nI n), .int (nI nb), .ref (ad 17), .ref (ad 18), .double kel, .double dmp, .double spd, .double ven, .double lef, .long gon, .int (nI hr), .ref (ad 19), .ref (ad 20), .ref (ad 21), .ref (ad 22), .ref (ad 23), .ref (ad 24), .ref (ad 25), .ref (ad 26), .ref (ad 27), .int (nI tl), .int (nI pa), .int bad, .int num, .ref (ad 28), .ref (ad 29), .ref (ad 30), .ref (ad 31), .int (nI st), .int (nI dn)])) := ⟨_, rfl⟩
  have hw : ww G dA A s L f1 H locs := by rw [ef1]; exact hw
  have hX2 : MX ad dA n nb kel dmp spd ven lef gon hr tl st dn 0 pa bad num RA RB TH DE KI WE NX LI LM KE TX BW TI KV DM f0 f1 := by rw [ef1]; exact hX.sO hC kel dmp spd ven lef gon hr tl st dn 0 pa bad num
  refine lv_aload_n hx hb dX7_count_18 rfl (lv_at hl 0 rfl) ?_
  refine wg (C := RX7) (T := TX7) (N := 31) hx hb hts hi7 hown hw (hC.m (by decide)) hX2.o rfl 0 (by decide) (hts (.fieldLink RX7 78 "LayerMoistureModel" "thrown" "I") (by decide +kernel)) (fun _ h9 => h9) (v := .int 0) rfl dX7_count_19 ?_
  refine lv_if_gt (tgt := 30) hx hb dX7_count_22 (by decide) (fun c9 => absurd c9 (by decide)) (fun _ => ?_)
  refine lv_iload_n hx hb dX7_count_25 rfl (lv_at hl 1 rfl) ?_
  refine lv_iconst (v := 2) hx hb dX7_count_26 (by decide) ?_
  refine lv_icmp_ge (tgt := 57) hx hb dX7_count_27 (by decide) (fun _ => ?_) (fun c9 => absurd (by decide) c9)
  refine lv_iconst (v := 0) hx hb dX7_count_57 (by decide) ?_
  refine lv_istore_n (lv' := [(2, .int 0), (0, .ref (ad 16)), (1, .int (nI 2))]) hx hb dX7_count_58 rfl hl (by decide) rfl (fun ls hl => ?_)
  refine lv_iconst (v := 0) hx hb dX7_count_59 (by decide) ?_
  refine lv_istore_n (lv' := [(3, .int 0), (2, .int 0), (0, .ref (ad 16)), (1, .int (nI 2))]) hx hb dX7_count_60 rfl hl (by decide) rfl (fun ls hl => ?_)
  have loop : ∀ (kf i : Nat), i + kf = nb → 0 ≤ i → ∀ (H : Heap) (locs : List Loc), ww G dA A s L f1 H locs → ∀ (ls : Array Slot), lv_has ls 4 [(0, .ref (ad 16)), (1, .int (nI 2)), (2, .int (nI (cntTh bd i))), (3, .int (nI i))] → W p l e ({ frames := 0, cells := 0, slots := 0, locals := 0 } : Room) s m ([.ref (ad 16), .int (nI 2)] : List Value).toArray below meth c H locs 0 0 Q (F0 m 61 ls []) := by
    intro kf
    induction kf with
    | zero =>
      intro i hik h1i H locs hw ls hl
      rw [show i = nb by omega] at hl
      refine lv_iload_n hx hb dX7_count_61 rfl (lv_at hl 3 rfl) ?_
      refine lv_aload_n hx hb dX7_count_62 rfl (lv_at hl 0 rfl) ?_
      refine wg (C := RX7) (T := TX7) (N := 31) hx hb hts hi7 hown hw (hC.m (by decide)) hX2.o rfl 2 (by decide) (hts (.fieldLink RX7 75 "LayerMoistureModel" "boards" "I") (by decide +kernel)) (fun _ h9 => h9) (v := .int (nI nb)) rfl dX7_count_63 ?_
      refine lv_icmp_ge (tgt := 92) hx hb dX7_count_66 (by decide) (fun _ => ?_) (fun c9 => absurd (nI_le (Nat.le_refl _) hC.nb31) c9)
      refine lv_iload_n hx hb dX7_count_92 rfl (lv_at hl 2 rfl) ?_
      exact hret _ _ _ _ _ _ hw ⟨rfl, hX2⟩ rfl dX7_count_93
    | succ kf ih =>
      intro i hik h1i H locs hw ls hl
      have hlt : i < nb := by omega
      refine lv_iload_n hx hb dX7_count_61 rfl (lv_at hl 3 rfl) ?_
      refine lv_aload_n hx hb dX7_count_62 rfl (lv_at hl 0 rfl) ?_
      refine wg (C := RX7) (T := TX7) (N := 31) hx hb hts hi7 hown hw (hC.m (by decide)) hX2.o rfl 2 (by decide) (hts (.fieldLink RX7 75 "LayerMoistureModel" "boards" "I") (by decide +kernel)) (fun _ h9 => h9) (v := .int (nI nb)) rfl dX7_count_63 ?_
      refine lv_icmp_ge (tgt := 92) hx hb dX7_count_66 (by decide) (fun c9 => absurd c9 (nI_ge hlt hC.nb31)) (fun _ => ?_)
      refine lv_aload_n hx hb dX7_count_69 rfl (lv_at hl 0 rfl) ?_
      refine wg (C := RX7) (T := TX7) (N := 31) hx hb hts hi7 hown hw (hC.m (by decide)) hX2.o rfl 12 (by decide) (hts (.fieldLink RX7 30 "LayerMoistureModel" "there" "[Z") (by decide +kernel)) (fun _ h9 => h9) (v := .ref (ad 19)) rfl dX7_count_70 ?_
      refine lv_iload_n hx hb dX7_count_73 rfl (lv_at hl 3 rfl) ?_
      refine wld_z hx hb hw (hC.m (by decide)) hX2.aTH i (by have := hC.2.2.2.1; omega) (by decide) rfl dX7_count_74 ?_
      rw [show TH i = (bd i).1 from (hMb i hlt).1]
      refine lv_if_eq (tgt := 84) hx hb dX7_count_75 (by decide) (fun c75 => ?_) (fun c75 => ?_)
      · have e9 : cntTh bd (i + 1) = cntTh bd i := by rw [cntTh, if_pos c75]
        refine lv_iload_n hx hb dX7_count_84 rfl (lv_at hl 2 rfl) ?_
        refine lv_istore_n (lv' := [(2, .int (nI (cntTh bd i))), (0, .ref (ad 16)), (1, .int (nI 2)), (3, .int (nI i))]) hx hb dX7_count_85 rfl hl (by decide) rfl (fun ls hl => ?_)
        refine lv_iinc (v := nI (i + 1)) (lv' := [(3, .int (nI (i + 1))), (2, .int (nI (cntTh bd i))), (0, .ref (ad 16)), (1, .int (nI 2))]) hx hb dX7_count_86 hl (k := 3) rfl (nI_1 i) (by decide) rfl (fun ls hl => ?_)
        refine lv_goto (tgt := 61) hx hb dX7_count_89 (by decide) ?_
        exact ih (i + 1) (by omega) (by omega) _ _ hw ls (by rw [e9]; exact lv_sub hl [2, 3, 1, 0] rfl)
      · have e9 : cntTh bd (i + 1) = cntTh bd i + 1 := by rw [cntTh, if_neg c75]
        refine lv_iload_n hx hb dX7_count_78 rfl (lv_at hl 2 rfl) ?_
        refine lv_iconst (v := 1) hx hb dX7_count_79 (by decide) ?_
        refine lv_iadd hx hb dX7_count_80 ?_
        rw [show (nI (cntTh bd i)) + 1 = nI (cntTh bd i + 1) from nI_1 _]
        refine lv_goto (tgt := 85) hx hb dX7_count_81 (by decide) ?_
        refine lv_istore_n (lv' := [(2, .int (nI (cntTh bd i + 1))), (0, .ref (ad 16)), (1, .int (nI 2)), (3, .int (nI i))]) hx hb dX7_count_85 rfl hl (by decide) rfl (fun ls hl => ?_)
        refine lv_iinc (v := nI (i + 1)) (lv' := [(3, .int (nI (i + 1))), (2, .int (nI (cntTh bd i + 1))), (0, .ref (ad 16)), (1, .int (nI 2))]) hx hb dX7_count_86 hl (k := 3) rfl (nI_1 i) (by decide) rfl (fun ls hl => ?_)
        refine lv_goto (tgt := 61) hx hb dX7_count_89 (by decide) ?_
        exact ih (i + 1) (by omega) (by omega) _ _ hw ls (by rw [e9]; exact lv_sub hl [2, 3, 1, 0] rfl)
  exact loop nb 0 (by have := hC.2.2.1; omega) (Nat.le_refl _) _ _ hw ls (lv_sub hl [2, 3, 1, 0] rfl)

set_option maxHeartbeats 4000000 in
set_option maxRecDepth 100000 in
theorem t1_X7_count (l : Launch) (G : va_G) (dA : Nat → ClassId) (L : List Nat) (f : Nat → va_E) (ad : Nat → Nat) (n nb : Nat) (q qk : Nat → Option Nat) (kel : UInt64) (dmp : UInt64) (spd : UInt64) (ven : UInt64) (lef : UInt64) (gon : Int64) (hr : Nat) (tl : Nat) (st : Nat) (dn : Nat) (thr : Int32) (pa : Nat) (bad : Int32) (num : Int32) (RA : Nat → UInt64) (RB : Nat → UInt64) (TH : Nat → Int32) (DE : Nat → UInt64) (KI : Nat → Int32) (WE : Nat → UInt64) (NX : Nat → UInt64) (LI : Nat → Int32) (LM : Nat → UInt64) (KE : Nat → Int32) (TX : Nat → Int32) (BW : Nat → Int32) (TI : Nat → Int32) (KV : Nat → Int32) (DM : Nat → Int32) (f0 : Nat → va_E) (k : Int32)  (hC : Cx ad L n nb q qk) (hX : MX ad dA n nb kel dmp spd ven lef gon hr tl st dn thr pa bad num RA RB TH DE KI WE NX LI LM KE TX BW TI KV DM f0 f) (hbad : k < 0 ∨ 2 < k)  : mI l yX7_count wsX7_count ({ frames := 0, cells := 0, slots := 0, locals := 0 }) G dA [.ref (ad 16), .int k] L f (fun r f2 => MX ad dA n nb kel dmp spd ven lef gon hr tl st dn 1 pa bad num RA RB TH DE KI WE NX LI LM KE TX BW TI KV DM f0 f2) := by
  refine mI_of (cc := cX7_count) (maxL := 4) (by decide) rfl (Nat.le_of_ble_eq_true rfl) ?_
  intro p e s m below meth c A ls Q hx hb hml hown hts hlocks hA hin0 hw hl hret
  have hown : s.vm.findClass RX7 = some m.cls := hown
  have hl : lv_has ls 4 [(0, .ref (ad 16)), (1, .int k)] := hl
  have hi7 : ∀ w ∈ u_ws RX7 TX7 31, w ∈ wsX7_count := by decide +kernel
  refine lv_aload_n hx hb dX7_count_0 rfl (lv_at hl 0 rfl) ?_
  refine lv_iload_n hx hb dX7_count_1 rfl (lv_at hl 1 rfl) ?_
  refine lv_if_lt (tgt := 10) hx hb dX7_count_2 (by decide) (fun c2 => ?_) (fun c2 => ?_)
  · refine lv_iconst (v := 1) hx hb dX7_count_10 (by decide) ?_
    refine lv_goto (tgt := 15) hx hb dX7_count_11 (by decide) ?_
    refine wp_ (C := RX7) (T := TX7) (N := 31) hx hb hts hi7 tyX7 tyX7_ok nmX7 hown hw (hC.m (by decide)) hX.o rfl 0 (by decide) (hts (.fieldLink RX7 78 "LayerMoistureModel" "thrown" "I") (by decide +kernel)) (fun _ h9 => h9) rfl (ty := .int) (v := .int 1) (by decide +kernel) rfl rfl (Nat.le_of_ble_eq_true rfl) dX7_count_15 (fun H locs hw => ?_)
    obtain ⟨f1, ef1⟩ : ∃ z : Nat → va_E, z = va_up f (ad 16) (.inr (8, [.int 1, .int (nI n), .int (nI nb), .ref (ad 17), .ref (ad 18), .double kel, .double dmp, .double spd, .double ven, .double lef, .long gon, .int (nI hr), .ref (ad 19), .ref (ad 20), .ref (ad 21), .ref (ad 22), .ref (ad 23), .ref (ad 24), .ref (ad 25), .ref (ad 26), .ref (ad 27), .int (nI tl), .int (nI pa), .int bad, .int num, .ref (ad 28), .ref (ad 29), .ref (ad 30), .ref (ad 31), .int (nI st), .int (nI dn)])) := ⟨_, rfl⟩
    have hw : ww G dA A s L f1 H locs := by rw [ef1]; exact hw
    have hX2 : MX ad dA n nb kel dmp spd ven lef gon hr tl st dn 1 pa bad num RA RB TH DE KI WE NX LI LM KE TX BW TI KV DM f0 f1 := by rw [ef1]; exact hX.sO hC kel dmp spd ven lef gon hr tl st dn 1 pa bad num
    refine lv_aload_n hx hb dX7_count_18 rfl (lv_at hl 0 rfl) ?_
    refine wg (C := RX7) (T := TX7) (N := 31) hx hb hts hi7 hown hw (hC.m (by decide)) hX2.o rfl 0 (by decide) (hts (.fieldLink RX7 78 "LayerMoistureModel" "thrown" "I") (by decide +kernel)) (fun _ h9 => h9) (v := .int 1) rfl dX7_count_19 ?_
    refine lv_if_gt (tgt := 30) hx hb dX7_count_22 (by decide) (fun _ => ?_) (fun c9 => absurd (by decide) c9)
    refine lv_aload_n hx hb dX7_count_30 rfl (lv_at hl 0 rfl) ?_
    refine wg (C := RX7) (T := TX7) (N := 31) hx hb hts hi7 hown hw (hC.m (by decide)) hX2.o rfl 0 (by decide) (hts (.fieldLink RX7 78 "LayerMoistureModel" "thrown" "I") (by decide +kernel)) (fun _ h9 => h9) (v := .int 1) rfl dX7_count_31 ?_
    refine lv_if_le (tgt := 41) hx hb dX7_count_34 (by decide) (fun c9 => absurd c9 (by decide)) (fun _ => ?_)
    refine lv_iconst (v := 0) hx hb dX7_count_37 (by decide) ?_
    refine lv_goto (tgt := 56) hx hb dX7_count_38 (by decide) ?_
    exact hret _ _ _ _ _ _ hw hX2 rfl dX7_count_56
  · refine lv_iload_n hx hb dX7_count_5 rfl (lv_at hl 1 rfl) ?_
    refine lv_iconst (v := 2) hx hb dX7_count_6 (by decide) ?_
    refine lv_icmp_le (tgt := 14) hx hb dX7_count_7 (by decide) (fun c9 => absurd c9 (fun h7 => hbad.elim c2 (fun h8 => absurd h7 (Int32.not_le.mpr h8)))) (fun _ => ?_)
    refine lv_iconst (v := 1) hx hb dX7_count_10 (by decide) ?_
    refine lv_goto (tgt := 15) hx hb dX7_count_11 (by decide) ?_
    refine wp_ (C := RX7) (T := TX7) (N := 31) hx hb hts hi7 tyX7 tyX7_ok nmX7 hown hw (hC.m (by decide)) hX.o rfl 0 (by decide) (hts (.fieldLink RX7 78 "LayerMoistureModel" "thrown" "I") (by decide +kernel)) (fun _ h9 => h9) rfl (ty := .int) (v := .int 1) (by decide +kernel) rfl rfl (Nat.le_of_ble_eq_true rfl) dX7_count_15 (fun H locs hw => ?_)
    obtain ⟨f3, ef3⟩ : ∃ z : Nat → va_E, z = va_up f (ad 16) (.inr (8, [.int 1, .int (nI n), .int (nI nb), .ref (ad 17), .ref (ad 18), .double kel, .double dmp, .double spd, .double ven, .double lef, .long gon, .int (nI hr), .ref (ad 19), .ref (ad 20), .ref (ad 21), .ref (ad 22), .ref (ad 23), .ref (ad 24), .ref (ad 25), .ref (ad 26), .ref (ad 27), .int (nI tl), .int (nI pa), .int bad, .int num, .ref (ad 28), .ref (ad 29), .ref (ad 30), .ref (ad 31), .int (nI st), .int (nI dn)])) := ⟨_, rfl⟩
    have hw : ww G dA A s L f3 H locs := by rw [ef3]; exact hw
    have hX4 : MX ad dA n nb kel dmp spd ven lef gon hr tl st dn 1 pa bad num RA RB TH DE KI WE NX LI LM KE TX BW TI KV DM f0 f3 := by rw [ef3]; exact hX.sO hC kel dmp spd ven lef gon hr tl st dn 1 pa bad num
    refine lv_aload_n hx hb dX7_count_18 rfl (lv_at hl 0 rfl) ?_
    refine wg (C := RX7) (T := TX7) (N := 31) hx hb hts hi7 hown hw (hC.m (by decide)) hX4.o rfl 0 (by decide) (hts (.fieldLink RX7 78 "LayerMoistureModel" "thrown" "I") (by decide +kernel)) (fun _ h9 => h9) (v := .int 1) rfl dX7_count_19 ?_
    refine lv_if_gt (tgt := 30) hx hb dX7_count_22 (by decide) (fun _ => ?_) (fun c9 => absurd (by decide) c9)
    refine lv_aload_n hx hb dX7_count_30 rfl (lv_at hl 0 rfl) ?_
    refine wg (C := RX7) (T := TX7) (N := 31) hx hb hts hi7 hown hw (hC.m (by decide)) hX4.o rfl 0 (by decide) (hts (.fieldLink RX7 78 "LayerMoistureModel" "thrown" "I") (by decide +kernel)) (fun _ h9 => h9) (v := .int 1) rfl dX7_count_31 ?_
    refine lv_if_le (tgt := 41) hx hb dX7_count_34 (by decide) (fun c9 => absurd c9 (by decide)) (fun _ => ?_)
    refine lv_iconst (v := 0) hx hb dX7_count_37 (by decide) ?_
    refine lv_goto (tgt := 56) hx hb dX7_count_38 (by decide) ?_
    exact hret _ _ _ _ _ _ hw hX4 rfl dX7_count_56

set_option maxHeartbeats 4000000 in
set_option maxRecDepth 100000 in
theorem t1_X7_mean (l : Launch) (G : va_G) (dA : Nat → ClassId) (L : List Nat) (f : Nat → va_E) (ad : Nat → Nat) (n nb : Nat) (q qk : Nat → Option Nat) (kel : UInt64) (dmp : UInt64) (spd : UInt64) (ven : UInt64) (lef : UInt64) (gon : Int64) (hr : Nat) (tl : Nat) (st : Nat) (dn : Nat) (thr : Int32) (pa : Nat) (bad : Int32) (num : Int32) (RA : Nat → UInt64) (RB : Nat → UInt64) (TH : Nat → Int32) (DE : Nat → UInt64) (KI : Nat → Int32) (WE : Nat → UInt64) (NX : Nat → UInt64) (LI : Nat → Int32) (LM : Nat → UInt64) (KE : Nat → Int32) (TX : Nat → Int32) (BW : Nat → Int32) (TI : Nat → Int32) (KV : Nat → Int32) (DM : Nat → Int32) (f0 : Nat → va_E) (k : Int32)  (hC : Cx ad L n nb q qk) (hX : MX ad dA n nb kel dmp spd ven lef gon hr tl st dn thr pa bad num RA RB TH DE KI WE NX LI LM KE TX BW TI KV DM f0 f) (hbad : noB nb k = true)  : mD l yX7_mean wsX7_mean ({ frames := 1, cells := 0, slots := 0, locals := 22 }) G dA [.ref (ad 16), .int k] L f (fun r f2 => MX ad dA n nb kel dmp spd ven lef gon hr tl st dn 1 pa bad num RA RB TH DE KI WE NX LI LM KE TX BW TI KV DM f0 f2) := by
  refine mD_of (cc := cX7_mean) (maxL := 2) (by decide) rfl (Nat.le_of_ble_eq_true rfl) ?_
  intro p e s m below meth c A ls Q hx hb hml hown hts hlocks hA hin0 hw hl hret
  have hown : s.vm.findClass RX7 = some m.cls := hown
  have hl : lv_has ls 2 [(0, .ref (ad 16)), (1, .int k)] := hl
  refine lv_aload_n hx hb dX7_mean_0 rfl (lv_at hl 0 rfl) ?_
  refine lv_iload_n hx hb dX7_mean_1 rfl (lv_at hl 1 rfl) ?_
  refine lv_aload_n hx hb dX7_mean_2 rfl (lv_at hl 0 rfl) ?_
  refine lv_iload_n hx hb dX7_mean_3 rfl (lv_at hl 1 rfl) ?_
  refine kV_I (C := RX7) (T := TX7) (N := 31) (As := [.int k]) (rest := [.int k, .ref (ad 16)]) ⟨hx, hb, hml, hown, hts⟩ (c_X7_noBoard l G dA L f ad n nb q qk kel dmp spd ven lef gon hr tl st dn thr pa bad num RA RB TH DE KI WE NX LI LM KE TX BW TI KV DM f0 k hC hX) (cwV 1 hts gX7_mean_X7_noBoard rfl rfl rfl (by decide +kernel) ⟨Nat.le_of_ble_eq_true rfl, Nat.le_of_ble_eq_true rfl⟩) hw hA (hC.m (by decide)) hX.o rfl rfl hl.1 rfl (Nat.le_of_ble_eq_true rfl) dX7_mean_4 ⟨Nat.zero_le _, Nat.zero_le _⟩ (fun r2 f1 H locs hp hw => ?_)
  obtain ⟨e1, e2⟩ := hp
  rw [e2] at hw
  rw [e1]
  rw [show b2i (noB nb k) = 1 from (by rw [hbad]; rfl)]
  refine kV_I (C := RX7) (T := TX7) (N := 31) (As := [.int k, .int 1]) (rest := []) ⟨hx, hb, hml, hown, hts⟩ (t1_X7_isMissing l G dA L f ad n nb q qk kel dmp spd ven lef gon hr tl st dn thr pa bad num RA RB TH DE KI WE NX LI LM KE TX BW TI KV DM f0 k hC hX) (cwV 2 hts gX7_mean_X7_isMissing rfl rfl rfl (by decide +kernel) ⟨Nat.le_of_ble_eq_true rfl, Nat.le_of_ble_eq_true rfl⟩) hw hA (hC.m (by decide)) hX.o rfl rfl hl.1 rfl (Nat.le_of_ble_eq_true rfl) dX7_mean_7 ⟨Nat.zero_le _, Nat.zero_le _⟩ (fun r4 f3 H locs hp hw => ?_)
  obtain ⟨e1, e2⟩ := hp
  rw [e1]
  have hX5 : MX ad dA n nb kel dmp spd ven lef gon hr tl st dn 1 pa bad num RA RB TH DE KI WE NX LI LM KE TX BW TI KV DM f0 f3 := e2
  refine lv_if_eq (tgt := 17) hx hb dX7_mean_10 (by decide) (fun c9 => absurd c9 (by decide)) (fun _ => ?_)
  refine lv_dconst0 hx hb dX7_mean_13 ?_
  refine lv_goto (tgt := 22) hx hb dX7_mean_14 (by decide) ?_
  exact hret _ _ _ _ _ _ hw hX5 dX7_mean_22

set_option maxHeartbeats 4000000 in
set_option maxRecDepth 100000 in
theorem t2_X7_mean (l : Launch) (G : va_G) (dA : Nat → ClassId) (L : List Nat) (f : Nat → va_E) (ad : Nat → Nat) (n nb : Nat) (q qk : Nat → Option Nat) (kel : UInt64) (dmp : UInt64) (spd : UInt64) (ven : UInt64) (lef : UInt64) (gon : Int64) (hr : Nat) (tl : Nat) (st : Nat) (dn : Nat) (thr : Int32) (pa : Nat) (bad : Int32) (num : Int32) (RA : Nat → UInt64) (RB : Nat → UInt64) (TH : Nat → Int32) (DE : Nat → UInt64) (KI : Nat → Int32) (WE : Nat → UInt64) (NX : Nat → UInt64) (LI : Nat → Int32) (LM : Nat → UInt64) (KE : Nat → Int32) (TX : Nat → Int32) (BW : Nat → Int32) (TI : Nat → Int32) (KV : Nat → Int32) (DM : Nat → Int32) (f0 : Nat → va_E) (j : Nat)  (hC : Cx ad L n nb q qk) (hX : MX ad dA n nb kel dmp spd ven lef gon hr tl st dn thr pa bad num RA RB TH DE KI WE NX LI LM KE TX BW TI KV DM f0 f) (hj : j < nb) (hbad : TH j = 0)  : mD l yX7_mean wsX7_mean ({ frames := 1, cells := 0, slots := 0, locals := 22 }) G dA [.ref (ad 16), .int (nI j)] L f (fun r f2 => MX ad dA n nb kel dmp spd ven lef gon hr tl st dn 2 pa bad num RA RB TH DE KI WE NX LI LM KE TX BW TI KV DM f0 f2) := by
  refine mD_of (cc := cX7_mean) (maxL := 2) (by decide) rfl (Nat.le_of_ble_eq_true rfl) ?_
  intro p e s m below meth c A ls Q hx hb hml hown hts hlocks hA hin0 hw hl hret
  have hown : s.vm.findClass RX7 = some m.cls := hown
  have hl : lv_has ls 2 [(0, .ref (ad 16)), (1, .int (nI j))] := hl
  refine lv_aload_n hx hb dX7_mean_0 rfl (lv_at hl 0 rfl) ?_
  refine lv_iload_n hx hb dX7_mean_1 rfl (lv_at hl 1 rfl) ?_
  refine lv_aload_n hx hb dX7_mean_2 rfl (lv_at hl 0 rfl) ?_
  refine lv_iload_n hx hb dX7_mean_3 rfl (lv_at hl 1 rfl) ?_
  refine kV_I (C := RX7) (T := TX7) (N := 31) (As := [.int (nI j)]) (rest := [.int (nI j), .ref (ad 16)]) ⟨hx, hb, hml, hown, hts⟩ (c_X7_noBoard l G dA L f ad n nb q qk kel dmp spd ven lef gon hr tl st dn thr pa bad num RA RB TH DE KI WE NX LI LM KE TX BW TI KV DM f0 (nI j) hC hX) (cwV 1 hts gX7_mean_X7_noBoard rfl rfl rfl (by decide +kernel) ⟨Nat.le_of_ble_eq_true rfl, Nat.le_of_ble_eq_true rfl⟩) hw hA (hC.m (by decide)) hX.o rfl rfl hl.1 rfl (Nat.le_of_ble_eq_true rfl) dX7_mean_4 ⟨Nat.zero_le _, Nat.zero_le _⟩ (fun r2 f1 H locs hp hw => ?_)
  obtain ⟨e1, e2⟩ := hp
  rw [e2] at hw
  rw [e1]
  rw [show b2i (noB nb (nI j)) = 0 from (by rw [(noB_f hC.nb31 hj)]; rfl)]
  refine kV_I (C := RX7) (T := TX7) (N := 31) (As := [.int (nI j), .int 0]) (rest := []) ⟨hx, hb, hml, hown, hts⟩ (t2_X7_isMissing l G dA L f ad n nb q qk kel dmp spd ven lef gon hr tl st dn thr pa bad num RA RB TH DE KI WE NX LI LM KE TX BW TI KV DM f0 j hC hX hj hbad) (cwV 2 hts gX7_mean_X7_isMissing rfl rfl rfl (by decide +kernel) ⟨Nat.le_of_ble_eq_true rfl, Nat.le_of_ble_eq_true rfl⟩) hw hA (hC.m (by decide)) hX.o rfl rfl hl.1 rfl (Nat.le_of_ble_eq_true rfl) dX7_mean_7 ⟨Nat.zero_le _, Nat.zero_le _⟩ (fun r4 f3 H locs hp hw => ?_)
  obtain ⟨e1, e2⟩ := hp
  rw [e1]
  have hX5 : MX ad dA n nb kel dmp spd ven lef gon hr tl st dn 2 pa bad num RA RB TH DE KI WE NX LI LM KE TX BW TI KV DM f0 f3 := e2
  refine lv_if_eq (tgt := 17) hx hb dX7_mean_10 (by decide) (fun c9 => absurd c9 (by decide)) (fun _ => ?_)
  refine lv_dconst0 hx hb dX7_mean_13 ?_
  refine lv_goto (tgt := 22) hx hb dX7_mean_14 (by decide) ?_
  exact hret _ _ _ _ _ _ hw hX5 dX7_mean_22

set_option maxHeartbeats 4000000 in
set_option maxRecDepth 100000 in
theorem c_X7_mean (l : Launch) (G : va_G) (dA : Nat → ClassId) (L : List Nat) (f : Nat → va_E) (ad : Nat → Nat) (n nb : Nat) (q qk : Nat → Option Nat) (kel : UInt64) (dmp : UInt64) (spd : UInt64) (ven : UInt64) (lef : UInt64) (gon : Int64) (hr : Nat) (tl : Nat) (st : Nat) (dn : Nat) (thr : Int32) (pa : Nat) (bad : Int32) (num : Int32) (RA : Nat → UInt64) (RB : Nat → UInt64) (TH : Nat → Int32) (DE : Nat → UInt64) (KI : Nat → Int32) (WE : Nat → UInt64) (NX : Nat → UInt64) (LI : Nat → Int32) (LM : Nat → UInt64) (KE : Nat → Int32) (TX : Nat → Int32) (BW : Nat → Int32) (TI : Nat → Int32) (KV : Nat → Int32) (DM : Nat → Int32) (f0 : Nat → va_E) (j : Nat) (g : Nat → UInt64)  (hC : Cx ad L n nb q qk) (hX : MX ad dA n nb kel dmp spd ven lef gon hr tl st dn thr pa bad num RA RB TH DE KI WE NX LI LM KE TX BW TI KV DM f0 f) (hj : j < nb) (hth : ¬ TH j = 0) (hW : ∀ i, i < n → WE (16 * j + i) = g i) (h0 : sumD g 1 = g 0) (hs : ∀ i, i < n → vf_n64 (FP.dadd (sumD g i) (g i))) (hq : vf_n64 (FP.ddiv (sumD g n) (FP.i2d (nI n))))  : mD l yX7_mean wsX7_mean ({ frames := 2, cells := 0, slots := 0, locals := 45 }) G dA [.ref (ad 16), .int (nI j)] L f (fun r f2 => r = sp_mean g n ∧ MX ad dA n nb kel dmp spd ven lef gon hr tl st dn 0 pa bad num RA RB TH DE KI WE NX LI LM KE TX BW TI KV DM f0 f2) := by
  refine mD_of (cc := cX7_mean) (maxL := 2) (by decide) rfl (Nat.le_of_ble_eq_true rfl) ?_
  intro p e s m below meth c A ls Q hx hb hml hown hts hlocks hA hin0 hw hl hret
  have hown : s.vm.findClass RX7 = some m.cls := hown
  have hl : lv_has ls 2 [(0, .ref (ad 16)), (1, .int (nI j))] := hl
  refine lv_aload_n hx hb dX7_mean_0 rfl (lv_at hl 0 rfl) ?_
  refine lv_iload_n hx hb dX7_mean_1 rfl (lv_at hl 1 rfl) ?_
  refine lv_aload_n hx hb dX7_mean_2 rfl (lv_at hl 0 rfl) ?_
  refine lv_iload_n hx hb dX7_mean_3 rfl (lv_at hl 1 rfl) ?_
  refine kV_I (C := RX7) (T := TX7) (N := 31) (As := [.int (nI j)]) (rest := [.int (nI j), .ref (ad 16)]) ⟨hx, hb, hml, hown, hts⟩ (c_X7_noBoard l G dA L f ad n nb q qk kel dmp spd ven lef gon hr tl st dn thr pa bad num RA RB TH DE KI WE NX LI LM KE TX BW TI KV DM f0 (nI j) hC hX) (cwV 1 hts gX7_mean_X7_noBoard rfl rfl rfl (by decide +kernel) ⟨Nat.le_of_ble_eq_true rfl, Nat.le_of_ble_eq_true rfl⟩) hw hA (hC.m (by decide)) hX.o rfl rfl hl.1 rfl (Nat.le_of_ble_eq_true rfl) dX7_mean_4 ⟨Nat.zero_le _, Nat.zero_le _⟩ (fun r2 f1 H locs hp hw => ?_)
  obtain ⟨e1, e2⟩ := hp
  rw [e2] at hw
  rw [e1]
  rw [show b2i (noB nb (nI j)) = 0 from (by rw [(noB_f hC.nb31 hj)]; rfl)]
  refine kV_I (C := RX7) (T := TX7) (N := 31) (As := [.int (nI j), .int 0]) (rest := []) ⟨hx, hb, hml, hown, hts⟩ (c_X7_isMissing l G dA L f ad n nb q qk kel dmp spd ven lef gon hr tl st dn thr pa bad num RA RB TH DE KI WE NX LI LM KE TX BW TI KV DM f0 j hC hX hj hth) (cwV 2 hts gX7_mean_X7_isMissing rfl rfl rfl (by decide +kernel) ⟨Nat.le_of_ble_eq_true rfl, Nat.le_of_ble_eq_true rfl⟩) hw hA (hC.m (by decide)) hX.o rfl rfl hl.1 rfl (Nat.le_of_ble_eq_true rfl) dX7_mean_7 ⟨Nat.zero_le _, Nat.zero_le _⟩ (fun r4 f3 H locs hp hw => ?_)
  obtain ⟨e1, e2⟩ := hp
  rw [e1]
  have hX5 : MX ad dA n nb kel dmp spd ven lef gon hr tl st dn 0 pa bad num RA RB TH DE KI WE NX LI LM KE TX BW TI KV DM f0 f3 := e2
  refine lv_if_eq (tgt := 17) hx hb dX7_mean_10 (by decide) (fun _ => ?_) (fun c9 => absurd rfl c9)
  refine lv_aload_n hx hb dX7_mean_17 rfl (lv_at hl 0 rfl) ?_
  refine lv_iload_n hx hb dX7_mean_18 rfl (lv_at hl 1 rfl) ?_
  refine kV_D (C := RX7) (T := TX7) (N := 31) (As := [.int (nI j)]) (rest := []) ⟨hx, hb, hml, hown, hts⟩ (c_X7_meanOf l G dA L f3 ad n nb q qk kel dmp spd ven lef gon hr tl st dn 0 pa bad num RA RB TH DE KI WE NX LI LM KE TX BW TI KV DM f0 j g hC hX5 hj hW h0 hs hq) (cwV 1 hts gX7_mean_X7_meanOf rfl rfl rfl (by decide +kernel) ⟨Nat.le_of_ble_eq_true rfl, Nat.le_of_ble_eq_true rfl⟩) hw hA (hC.m (by decide)) hX5.o rfl rfl hl.1 rfl (Nat.le_of_ble_eq_true rfl) dX7_mean_19 ⟨Nat.zero_le _, Nat.zero_le _⟩ (fun r7 f6 H locs hp hw => ?_)
  obtain ⟨e1, e2⟩ := hp
  rw [e2] at hw
  rw [e1]
  exact hret _ _ _ _ _ _ hw ⟨rfl, hX5⟩ dX7_mean_22

set_option maxHeartbeats 4000000 in
set_option maxRecDepth 100000 in
theorem t1_X7_stress (l : Launch) (G : va_G) (dA : Nat → ClassId) (L : List Nat) (f : Nat → va_E) (ad : Nat → Nat) (n nb : Nat) (q qk : Nat → Option Nat) (kel : UInt64) (dmp : UInt64) (spd : UInt64) (ven : UInt64) (lef : UInt64) (gon : Int64) (hr : Nat) (tl : Nat) (st : Nat) (dn : Nat) (thr : Int32) (pa : Nat) (bad : Int32) (num : Int32) (RA : Nat → UInt64) (RB : Nat → UInt64) (TH : Nat → Int32) (DE : Nat → UInt64) (KI : Nat → Int32) (WE : Nat → UInt64) (NX : Nat → UInt64) (LI : Nat → Int32) (LM : Nat → UInt64) (KE : Nat → Int32) (TX : Nat → Int32) (BW : Nat → Int32) (TI : Nat → Int32) (KV : Nat → Int32) (DM : Nat → Int32) (f0 : Nat → va_E) (k i : Int32)  (hC : Cx ad L n nb q qk) (hX : MX ad dA n nb kel dmp spd ven lef gon hr tl st dn thr pa bad num RA RB TH DE KI WE NX LI LM KE TX BW TI KV DM f0 f) (hbad : noL n nb k i = true)  : mD l yX7_stress wsX7_stress ({ frames := 2, cells := 0, slots := 0, locals := 43 }) G dA [.ref (ad 16), .int k, .int i] L f (fun r f2 => MX ad dA n nb kel dmp spd ven lef gon hr tl st dn 1 pa bad num RA RB TH DE KI WE NX LI LM KE TX BW TI KV DM f0 f2) := by
  refine mD_of (cc := cX7_stress) (maxL := 3) (by decide) rfl (Nat.le_of_ble_eq_true rfl) ?_
  intro p e s m below meth c A ls Q hx hb hml hown hts hlocks hA hin0 hw hl hret
  have hown : s.vm.findClass RX7 = some m.cls := hown
  have hl : lv_has ls 3 [(0, .ref (ad 16)), (1, .int k), (2, .int i)] := hl
  refine lv_aload_n hx hb dX7_stress_0 rfl (lv_at hl 0 rfl) ?_
  refine lv_iload_n hx hb dX7_stress_1 rfl (lv_at hl 1 rfl) ?_
  refine lv_aload_n hx hb dX7_stress_2 rfl (lv_at hl 0 rfl) ?_
  refine lv_iload_n hx hb dX7_stress_3 rfl (lv_at hl 1 rfl) ?_
  refine lv_iload_n hx hb dX7_stress_4 rfl (lv_at hl 2 rfl) ?_
  refine kV_I (C := RX7) (T := TX7) (N := 31) (As := [.int k, .int i]) (rest := [.int k, .ref (ad 16)]) ⟨hx, hb, hml, hown, hts⟩ (c_X7_noLayer l G dA L f ad n nb q qk kel dmp spd ven lef gon hr tl st dn thr pa bad num RA RB TH DE KI WE NX LI LM KE TX BW TI KV DM f0 k i hC hX) (cwV 2 hts gX7_stress_X7_noLayer rfl rfl rfl (by decide +kernel) ⟨Nat.le_of_ble_eq_true rfl, Nat.le_of_ble_eq_true rfl⟩) hw hA (hC.m (by decide)) hX.o rfl rfl hl.1 rfl (Nat.le_of_ble_eq_true rfl) dX7_stress_5 ⟨Nat.zero_le _, Nat.zero_le _⟩ (fun r2 f1 H locs hp hw => ?_)
  obtain ⟨e1, e2⟩ := hp
  rw [e2] at hw
  rw [e1]
  rw [show b2i (noL n nb k i) = 1 from (by rw [hbad]; rfl)]
  refine kV_I (C := RX7) (T := TX7) (N := 31) (As := [.int k, .int 1]) (rest := []) ⟨hx, hb, hml, hown, hts⟩ (t1_X7_isMissing l G dA L f ad n nb q qk kel dmp spd ven lef gon hr tl st dn thr pa bad num RA RB TH DE KI WE NX LI LM KE TX BW TI KV DM f0 k hC hX) (cwV 2 hts gX7_stress_X7_isMissing rfl rfl rfl (by decide +kernel) ⟨Nat.le_of_ble_eq_true rfl, Nat.le_of_ble_eq_true rfl⟩) hw hA (hC.m (by decide)) hX.o rfl rfl hl.1 rfl (Nat.le_of_ble_eq_true rfl) dX7_stress_8 ⟨Nat.zero_le _, Nat.zero_le _⟩ (fun r4 f3 H locs hp hw => ?_)
  obtain ⟨e1, e2⟩ := hp
  rw [e1]
  have hX5 : MX ad dA n nb kel dmp spd ven lef gon hr tl st dn 1 pa bad num RA RB TH DE KI WE NX LI LM KE TX BW TI KV DM f0 f3 := e2
  refine lv_if_eq (tgt := 18) hx hb dX7_stress_11 (by decide) (fun c9 => absurd c9 (by decide)) (fun _ => ?_)
  refine lv_dconst0 hx hb dX7_stress_14 ?_
  refine lv_goto (tgt := 24) hx hb dX7_stress_15 (by decide) ?_
  exact hret _ _ _ _ _ _ hw hX5 dX7_stress_24

set_option maxHeartbeats 4000000 in
set_option maxRecDepth 100000 in
theorem t2_X7_stress (l : Launch) (G : va_G) (dA : Nat → ClassId) (L : List Nat) (f : Nat → va_E) (ad : Nat → Nat) (n nb : Nat) (q qk : Nat → Option Nat) (kel : UInt64) (dmp : UInt64) (spd : UInt64) (ven : UInt64) (lef : UInt64) (gon : Int64) (hr : Nat) (tl : Nat) (st : Nat) (dn : Nat) (thr : Int32) (pa : Nat) (bad : Int32) (num : Int32) (RA : Nat → UInt64) (RB : Nat → UInt64) (TH : Nat → Int32) (DE : Nat → UInt64) (KI : Nat → Int32) (WE : Nat → UInt64) (NX : Nat → UInt64) (LI : Nat → Int32) (LM : Nat → UInt64) (KE : Nat → Int32) (TX : Nat → Int32) (BW : Nat → Int32) (TI : Nat → Int32) (KV : Nat → Int32) (DM : Nat → Int32) (f0 : Nat → va_E) (j i : Nat)  (hC : Cx ad L n nb q qk) (hX : MX ad dA n nb kel dmp spd ven lef gon hr tl st dn thr pa bad num RA RB TH DE KI WE NX LI LM KE TX BW TI KV DM f0 f) (hj : j < nb) (hi : i < n) (hbad : TH j = 0)  : mD l yX7_stress wsX7_stress ({ frames := 2, cells := 0, slots := 0, locals := 43 }) G dA [.ref (ad 16), .int (nI j), .int (nI i)] L f (fun r f2 => MX ad dA n nb kel dmp spd ven lef gon hr tl st dn 2 pa bad num RA RB TH DE KI WE NX LI LM KE TX BW TI KV DM f0 f2) := by
  refine mD_of (cc := cX7_stress) (maxL := 3) (by decide) rfl (Nat.le_of_ble_eq_true rfl) ?_
  intro p e s m below meth c A ls Q hx hb hml hown hts hlocks hA hin0 hw hl hret
  have hown : s.vm.findClass RX7 = some m.cls := hown
  have hl : lv_has ls 3 [(0, .ref (ad 16)), (1, .int (nI j)), (2, .int (nI i))] := hl
  refine lv_aload_n hx hb dX7_stress_0 rfl (lv_at hl 0 rfl) ?_
  refine lv_iload_n hx hb dX7_stress_1 rfl (lv_at hl 1 rfl) ?_
  refine lv_aload_n hx hb dX7_stress_2 rfl (lv_at hl 0 rfl) ?_
  refine lv_iload_n hx hb dX7_stress_3 rfl (lv_at hl 1 rfl) ?_
  refine lv_iload_n hx hb dX7_stress_4 rfl (lv_at hl 2 rfl) ?_
  refine kV_I (C := RX7) (T := TX7) (N := 31) (As := [.int (nI j), .int (nI i)]) (rest := [.int (nI j), .ref (ad 16)]) ⟨hx, hb, hml, hown, hts⟩ (c_X7_noLayer l G dA L f ad n nb q qk kel dmp spd ven lef gon hr tl st dn thr pa bad num RA RB TH DE KI WE NX LI LM KE TX BW TI KV DM f0 (nI j) (nI i) hC hX) (cwV 2 hts gX7_stress_X7_noLayer rfl rfl rfl (by decide +kernel) ⟨Nat.le_of_ble_eq_true rfl, Nat.le_of_ble_eq_true rfl⟩) hw hA (hC.m (by decide)) hX.o rfl rfl hl.1 rfl (Nat.le_of_ble_eq_true rfl) dX7_stress_5 ⟨Nat.zero_le _, Nat.zero_le _⟩ (fun r2 f1 H locs hp hw => ?_)
  obtain ⟨e1, e2⟩ := hp
  rw [e2] at hw
  rw [e1]
  rw [show b2i (noL n nb (nI j) (nI i)) = 0 from (by rw [(noL_f hC.nb31 hC.n31 hj hi)]; rfl)]
  refine kV_I (C := RX7) (T := TX7) (N := 31) (As := [.int (nI j), .int 0]) (rest := []) ⟨hx, hb, hml, hown, hts⟩ (t2_X7_isMissing l G dA L f ad n nb q qk kel dmp spd ven lef gon hr tl st dn thr pa bad num RA RB TH DE KI WE NX LI LM KE TX BW TI KV DM f0 j hC hX hj hbad) (cwV 2 hts gX7_stress_X7_isMissing rfl rfl rfl (by decide +kernel) ⟨Nat.le_of_ble_eq_true rfl, Nat.le_of_ble_eq_true rfl⟩) hw hA (hC.m (by decide)) hX.o rfl rfl hl.1 rfl (Nat.le_of_ble_eq_true rfl) dX7_stress_8 ⟨Nat.zero_le _, Nat.zero_le _⟩ (fun r4 f3 H locs hp hw => ?_)
  obtain ⟨e1, e2⟩ := hp
  rw [e1]
  have hX5 : MX ad dA n nb kel dmp spd ven lef gon hr tl st dn 2 pa bad num RA RB TH DE KI WE NX LI LM KE TX BW TI KV DM f0 f3 := e2
  refine lv_if_eq (tgt := 18) hx hb dX7_stress_11 (by decide) (fun c9 => absurd c9 (by decide)) (fun _ => ?_)
  refine lv_dconst0 hx hb dX7_stress_14 ?_
  refine lv_goto (tgt := 24) hx hb dX7_stress_15 (by decide) ?_
  exact hret _ _ _ _ _ _ hw hX5 dX7_stress_24

set_option maxHeartbeats 4000000 in
set_option maxRecDepth 100000 in
theorem c_X7_stress (l : Launch) (G : va_G) (dA : Nat → ClassId) (L : List Nat) (f : Nat → va_E) (ad : Nat → Nat) (n nb : Nat) (q qk : Nat → Option Nat) (kel : UInt64) (dmp : UInt64) (spd : UInt64) (ven : UInt64) (lef : UInt64) (gon : Int64) (hr : Nat) (tl : Nat) (st : Nat) (dn : Nat) (thr : Int32) (pa : Nat) (bad : Int32) (num : Int32) (RA : Nat → UInt64) (RB : Nat → UInt64) (TH : Nat → Int32) (DE : Nat → UInt64) (KI : Nat → Int32) (WE : Nat → UInt64) (NX : Nat → UInt64) (LI : Nat → Int32) (LM : Nat → UInt64) (KE : Nat → Int32) (TX : Nat → Int32) (BW : Nat → Int32) (TI : Nat → Int32) (KV : Nat → Int32) (DM : Nat → Int32) (f0 : Nat → va_E) (j i : Nat) (g : Nat → UInt64)  (hC : Cx ad L n nb q qk) (hX : MX ad dA n nb kel dmp spd ven lef gon hr tl st dn thr pa bad num RA RB TH DE KI WE NX LI LM KE TX BW TI KV DM f0 f) (hj : j < nb) (hi : i < n) (hth : ¬ TH j = 0) (hW : ∀ i, i < n → WE (16 * j + i) = g i) (hg : ∀ i, i < n → Np (2 ^ 1076) (g i))  : mD l yX7_stress wsX7_stress ({ frames := 2, cells := 0, slots := 0, locals := 49 }) G dA [.ref (ad 16), .int (nI j), .int (nI i)] L f (fun r f2 => r = sp_stress g n i ∧ MX ad dA n nb kel dmp spd ven lef gon hr tl st dn 0 pa bad num RA RB TH DE KI WE NX LI LM KE TX BW TI KV DM f0 f2) := by
  refine mD_of (cc := cX7_stress) (maxL := 3) (by decide) rfl (Nat.le_of_ble_eq_true rfl) ?_
  intro p e s m below meth c A ls Q hx hb hml hown hts hlocks hA hin0 hw hl hret
  have hown : s.vm.findClass RX7 = some m.cls := hown
  have hl : lv_has ls 3 [(0, .ref (ad 16)), (1, .int (nI j)), (2, .int (nI i))] := hl
  refine lv_aload_n hx hb dX7_stress_0 rfl (lv_at hl 0 rfl) ?_
  refine lv_iload_n hx hb dX7_stress_1 rfl (lv_at hl 1 rfl) ?_
  refine lv_aload_n hx hb dX7_stress_2 rfl (lv_at hl 0 rfl) ?_
  refine lv_iload_n hx hb dX7_stress_3 rfl (lv_at hl 1 rfl) ?_
  refine lv_iload_n hx hb dX7_stress_4 rfl (lv_at hl 2 rfl) ?_
  refine kV_I (C := RX7) (T := TX7) (N := 31) (As := [.int (nI j), .int (nI i)]) (rest := [.int (nI j), .ref (ad 16)]) ⟨hx, hb, hml, hown, hts⟩ (c_X7_noLayer l G dA L f ad n nb q qk kel dmp spd ven lef gon hr tl st dn thr pa bad num RA RB TH DE KI WE NX LI LM KE TX BW TI KV DM f0 (nI j) (nI i) hC hX) (cwV 2 hts gX7_stress_X7_noLayer rfl rfl rfl (by decide +kernel) ⟨Nat.le_of_ble_eq_true rfl, Nat.le_of_ble_eq_true rfl⟩) hw hA (hC.m (by decide)) hX.o rfl rfl hl.1 rfl (Nat.le_of_ble_eq_true rfl) dX7_stress_5 ⟨Nat.zero_le _, Nat.zero_le _⟩ (fun r2 f1 H locs hp hw => ?_)
  obtain ⟨e1, e2⟩ := hp
  rw [e2] at hw
  rw [e1]
  rw [show b2i (noL n nb (nI j) (nI i)) = 0 from (by rw [(noL_f hC.nb31 hC.n31 hj hi)]; rfl)]
  refine kV_I (C := RX7) (T := TX7) (N := 31) (As := [.int (nI j), .int 0]) (rest := []) ⟨hx, hb, hml, hown, hts⟩ (c_X7_isMissing l G dA L f ad n nb q qk kel dmp spd ven lef gon hr tl st dn thr pa bad num RA RB TH DE KI WE NX LI LM KE TX BW TI KV DM f0 j hC hX hj hth) (cwV 2 hts gX7_stress_X7_isMissing rfl rfl rfl (by decide +kernel) ⟨Nat.le_of_ble_eq_true rfl, Nat.le_of_ble_eq_true rfl⟩) hw hA (hC.m (by decide)) hX.o rfl rfl hl.1 rfl (Nat.le_of_ble_eq_true rfl) dX7_stress_8 ⟨Nat.zero_le _, Nat.zero_le _⟩ (fun r4 f3 H locs hp hw => ?_)
  obtain ⟨e1, e2⟩ := hp
  rw [e1]
  have hX5 : MX ad dA n nb kel dmp spd ven lef gon hr tl st dn 0 pa bad num RA RB TH DE KI WE NX LI LM KE TX BW TI KV DM f0 f3 := e2
  refine lv_if_eq (tgt := 18) hx hb dX7_stress_11 (by decide) (fun _ => ?_) (fun c9 => absurd rfl c9)
  refine lv_aload_n hx hb dX7_stress_18 rfl (lv_at hl 0 rfl) ?_
  refine lv_iload_n hx hb dX7_stress_19 rfl (lv_at hl 1 rfl) ?_
  refine lv_iload_n hx hb dX7_stress_20 rfl (lv_at hl 2 rfl) ?_
  refine kV_D (C := RX7) (T := TX7) (N := 31) (As := [.int (nI j), .int (nI i)]) (rest := []) ⟨hx, hb, hml, hown, hts⟩ (c_X7_stressOf l G dA L f3 ad n nb q qk kel dmp spd ven lef gon hr tl st dn 0 pa bad num RA RB TH DE KI WE NX LI LM KE TX BW TI KV DM f0 j i g hC hX5 hj hi hW hg) (cwV 2 hts gX7_stress_X7_stressOf rfl rfl rfl (by decide +kernel) ⟨Nat.le_of_ble_eq_true rfl, Nat.le_of_ble_eq_true rfl⟩) hw hA (hC.m (by decide)) hX5.o rfl rfl hl.1 rfl (Nat.le_of_ble_eq_true rfl) dX7_stress_21 ⟨Nat.zero_le _, Nat.zero_le _⟩ (fun r7 f6 H locs hp hw => ?_)
  obtain ⟨e1, e2⟩ := hp
  rw [e2] at hw
  rw [e1]
  exact hret _ _ _ _ _ _ hw ⟨rfl, hX5⟩ dX7_stress_24
