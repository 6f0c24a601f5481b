set_option maxHeartbeats 4000000 in
set_option maxRecDepth 100000 in
theorem c_X7_thrown (l : Launch) (G : va_G) (dA : Nat → ClassId) (L : List Nat) (f : Nat → va_E) (ad : Nat → Nat) (n nb : Nat) (q qk : Nat → Option Nat) (kel : UInt64) (dmp : UInt64) (spd : UInt64) (ven : UInt64) (lef : UInt64) (gon : Int64) (hr : Nat) (tl : Nat) (st : Nat) (dn : Nat) (thr : Int32) (pa : Nat) (bad : Int32) (num : Int32) (RA : Nat → UInt64) (RB : Nat → UInt64) (TH : Nat → Int32) (DE : Nat → UInt64) (KI : Nat → Int32) (WE : Nat → UInt64) (NX : Nat → UInt64) (LI : Nat → Int32) (LM : Nat → UInt64) (KE : Nat → Int32) (TX : Nat → Int32) (BW : Nat → Int32) (TI : Nat → Int32) (KV : Nat → Int32) (DM : Nat → Int32) (f0 : Nat → va_E)   (hC : Cx ad L n nb q qk) (hX : MX ad dA n nb kel dmp spd ven lef gon hr tl st dn thr pa bad num RA RB TH DE KI WE NX LI LM KE TX BW TI KV DM f0 f)   : mI l yX7_thrown wsX7_thrown ({ frames := 0, cells := 0, slots := 0, locals := 0 }) G dA [.ref (ad 16)] L f (fun r f2 => r = thr ∧ f2 = f) := by
  refine mI_of (cc := cX7_thrown) (maxL := 1) (by decide) rfl (Nat.le_of_ble_eq_true rfl) ?_
  intro p e s m below meth c A ls Q hx hb hml hown hts hlocks hA hin0 hw hl hret
  have hown : s.vm.findClass RX7 = some m.cls := hown
  have hl : lv_has ls 1 [(0, .ref (ad 16))] := hl
  have hi7 : ∀ w ∈ u_ws RX7 TX7 31, w ∈ wsX7_thrown := by decide +kernel
  refine lv_aload_n hx hb dX7_thrown_0 rfl (lv_at hl 0 rfl) ?_
  refine wg (C := RX7) (T := TX7) (N := 31) hx hb hts hi7 hown hw (hC.m (by decide)) hX.o rfl 0 (by decide) (hts (.fieldLink RX7 78 "LayerMoistureModel" "thrown" "I") (by decide +kernel)) (fun _ h9 => h9) (v := .int thr) rfl dX7_thrown_1 ?_
  exact hret _ _ _ _ _ _ hw ⟨rfl, rfl⟩ rfl dX7_thrown_4

set_option maxHeartbeats 4000000 in
set_option maxRecDepth 100000 in
theorem c_X7_noBoard (l : Launch) (G : va_G) (dA : Nat → ClassId) (L : List Nat) (f : Nat → va_E) (ad : Nat → Nat) (n nb : Nat) (q qk : Nat → Option Nat) (kel : UInt64) (dmp : UInt64) (spd : UInt64) (ven : UInt64) (lef : UInt64) (gon : Int64) (hr : Nat) (tl : Nat) (st : Nat) (dn : Nat) (thr : Int32) (pa : Nat) (bad : Int32) (num : Int32) (RA : Nat → UInt64) (RB : Nat → UInt64) (TH : Nat → Int32) (DE : Nat → UInt64) (KI : Nat → Int32) (WE : Nat → UInt64) (NX : Nat → UInt64) (LI : Nat → Int32) (LM : Nat → UInt64) (KE : Nat → Int32) (TX : Nat → Int32) (BW : Nat → Int32) (TI : Nat → Int32) (KV : Nat → Int32) (DM : Nat → Int32) (f0 : Nat → va_E) (k : Int32)  (hC : Cx ad L n nb q qk) (hX : MX ad dA n nb kel dmp spd ven lef gon hr tl st dn thr pa bad num RA RB TH DE KI WE NX LI LM KE TX BW TI KV DM f0 f)   : mI l yX7_noBoard wsX7_noBoard ({ frames := 0, cells := 0, slots := 0, locals := 0 }) G dA [.ref (ad 16), .int k] L f (fun r f2 => r = b2i (noB nb k) ∧ f2 = f) := by
  refine mI_of (cc := cX7_noBoard) (maxL := 2) (by decide) rfl (Nat.le_of_ble_eq_true rfl) ?_
  intro p e s m below meth c A ls Q hx hb hml hown hts hlocks hA hin0 hw hl hret
  have hown : s.vm.findClass RX7 = some m.cls := hown
  have hl : lv_has ls 2 [(0, .ref (ad 16)), (1, .int k)] := hl
  have hi7 : ∀ w ∈ u_ws RX7 TX7 31, w ∈ wsX7_noBoard := by decide +kernel
  refine lv_iload_n hx hb dX7_noBoard_0 rfl (lv_at hl 1 rfl) ?_
  refine lv_if_lt (tgt := 12) hx hb dX7_noBoard_1 (by decide) (fun c1 => ?_) (fun c1 => ?_)
  · have e9 : noB nb k = true := noB_t (Or.inl c1)
    refine lv_iconst (v := 1) hx hb dX7_noBoard_12 (by decide) ?_
    refine lv_goto (tgt := 17) hx hb dX7_noBoard_13 (by decide) ?_
    exact hret _ _ _ _ _ _ hw ⟨by rw [e9]; rfl, rfl⟩ (by decide) dX7_noBoard_17
  · refine lv_iload_n hx hb dX7_noBoard_4 rfl (lv_at hl 1 rfl) ?_
    refine lv_aload_n hx hb dX7_noBoard_5 rfl (lv_at hl 0 rfl) ?_
    refine wg (C := RX7) (T := TX7) (N := 31) hx hb hts hi7 hown hw (hC.m (by decide)) hX.o rfl 2 (by decide) (hts (.fieldLink RX7 75 "LayerMoistureModel" "boards" "I") (by decide +kernel)) (fun _ h9 => h9) (v := .int (nI nb)) rfl dX7_noBoard_6 ?_
    refine lv_icmp_lt (tgt := 16) hx hb dX7_noBoard_9 (by decide) (fun c9 => ?_) (fun c9 => ?_)
    · have e9 : noB nb k = false := by unfold noB; rw [decide_eq_false c1, decide_eq_false (Int32.not_le.mpr c9)]; rfl
      refine lv_iconst (v := 0) hx hb dX7_noBoard_16 (by decide) ?_
      exact hret _ _ _ _ _ _ hw ⟨by rw [e9]; rfl, rfl⟩ (by decide) dX7_noBoard_17
    · have e9 : noB nb k = true := noB_t (Or.inr (Int32.not_lt.mp c9))
      refine lv_iconst (v := 1) hx hb dX7_noBoard_12 (by decide) ?_
      refine lv_goto (tgt := 17) hx hb dX7_noBoard_13 (by decide) ?_
      exact hret _ _ _ _ _ _ hw ⟨by rw [e9]; rfl, rfl⟩ (by decide) dX7_noBoard_17

set_option maxHeartbeats 4000000 in
set_option maxRecDepth 100000 in
theorem c_X7_noLayer (l : Launch) (G : va_G) (dA : Nat → ClassId) (L : List Nat) (f : Nat → va_E) (ad : Nat → Nat) (n nb : Nat) (q qk : Nat → Option Nat) (kel : UInt64) (dmp : UInt64) (spd : UInt64) (ven : UInt64) (lef : UInt64) (gon : Int64) (hr : Nat) (tl : Nat) (st : Nat) (dn : Nat) (thr : Int32) (pa : Nat) (bad : Int32) (num : Int32) (RA : Nat → UInt64) (RB : Nat → UInt64) (TH : Nat → Int32) (DE : Nat → UInt64) (KI : Nat → Int32) (WE : Nat → UInt64) (NX : Nat → UInt64) (LI : Nat → Int32) (LM : Nat → UInt64) (KE : Nat → Int32) (TX : Nat → Int32) (BW : Nat → Int32) (TI : Nat → Int32) (KV : Nat → Int32) (DM : Nat → Int32) (f0 : Nat → va_E) (k i : Int32)  (hC : Cx ad L n nb q qk) (hX : MX ad dA n nb kel dmp spd ven lef gon hr tl st dn thr pa bad num RA RB TH DE KI WE NX LI LM KE TX BW TI KV DM f0 f)   : mI l yX7_noLayer wsX7_noLayer ({ frames := 1, cells := 0, slots := 0, locals := 21 }) G dA [.ref (ad 16), .int k, .int i] L f (fun r f2 => r = b2i (noL n nb k i) ∧ f2 = f) := by
  refine mI_of (cc := cX7_noLayer) (maxL := 3) (by decide) rfl (Nat.le_of_ble_eq_true rfl) ?_
  intro p e s m below meth c A ls Q hx hb hml hown hts hlocks hA hin0 hw hl hret
  have hown : s.vm.findClass RX7 = some m.cls := hown
  have hl : lv_has ls 3 [(0, .ref (ad 16)), (1, .int k), (2, .int i)] := hl
  have hi7 : ∀ w ∈ u_ws RX7 TX7 31, w ∈ wsX7_noLayer := by decide +kernel
  refine lv_aload_n hx hb dX7_noLayer_0 rfl (lv_at hl 0 rfl) ?_
  refine lv_iload_n hx hb dX7_noLayer_1 rfl (lv_at hl 1 rfl) ?_
  refine kV_I (C := RX7) (T := TX7) (N := 31) (As := [.int k]) (rest := []) ⟨hx, hb, hml, hown, hts⟩ (c_X7_noBoard l G dA L f ad n nb q qk kel dmp spd ven lef gon hr tl st dn thr pa bad num RA RB TH DE KI WE NX LI LM KE TX BW TI KV DM f0 k hC hX) (cwV 1 hts gX7_noLayer_X7_noBoard rfl rfl rfl (by decide +kernel) ⟨Nat.le_of_ble_eq_true rfl, Nat.le_of_ble_eq_true rfl⟩) hw hA (hC.m (by decide)) hX.o rfl rfl hl.1 rfl (Nat.le_of_ble_eq_true rfl) dX7_noLayer_2 ⟨Nat.zero_le _, Nat.zero_le _⟩ (fun r2 f1 H locs hp hw => ?_)
  obtain ⟨e1, e2⟩ := hp
  rw [e2] at hw
  rw [e1]
  refine lv_if_ne (tgt := 20) hx hb dX7_noLayer_5 (by decide) (fun c5 => ?_) (fun c5 => ?_)
  · have e9 : noL n nb k i = true := by unfold noL; rw [b2i_t c5]; rfl
    refine lv_iconst (v := 1) hx hb dX7_noLayer_20 (by decide) ?_
    refine lv_goto (tgt := 25) hx hb dX7_noLayer_21 (by decide) ?_
    exact hret _ _ _ _ _ _ hw ⟨by rw [e9]; rfl, rfl⟩ (by decide) dX7_noLayer_25
  · have q5 := b2i_f c5
    refine lv_iload_n hx hb dX7_noLayer_8 rfl (lv_at hl 2 rfl) ?_
    refine lv_if_lt (tgt := 20) hx hb dX7_noLayer_9 (by decide) (fun c9 => ?_) (fun c9 => ?_)
    · have e9 : noL n nb k i = true := noL_t2 (Or.inl c9)
      refine lv_iconst (v := 1) hx hb dX7_noLayer_20 (by decide) ?_
      refine lv_goto (tgt := 25) hx hb dX7_noLayer_21 (by decide) ?_
      exact hret _ _ _ _ _ _ hw ⟨by rw [e9]; rfl, rfl⟩ (by decide) dX7_noLayer_25
    · refine lv_iload_n hx hb dX7_noLayer_12 rfl (lv_at hl 2 rfl) ?_
      refine lv_aload_n hx hb dX7_noLayer_13 rfl (lv_at hl 0 rfl) ?_
      refine wg (C := RX7) (T := TX7) (N := 31) hx hb hts hi7 hown hw (hC.m (by decide)) hX.o rfl 1 (by decide) (hts (.fieldLink RX7 71 "LayerMoistureModel" "layers" "I") (by decide +kernel)) (fun _ h9 => h9) (v := .int (nI n)) rfl dX7_noLayer_14 ?_
      refine lv_icmp_lt (tgt := 24) hx hb dX7_noLayer_17 (by decide) (fun c17 => ?_) (fun c17 => ?_)
      · have e9 : noL n nb k i = false := by unfold noL; rw [q5, decide_eq_false c9, decide_eq_false (Int32.not_le.mpr c17)]; rfl
        refine lv_iconst (v := 0) hx hb dX7_noLayer_24 (by decide) ?_
        exact hret _ _ _ _ _ _ hw ⟨by rw [e9]; rfl, rfl⟩ (by decide) dX7_noLayer_25
      · have e9 : noL n nb k i = true := noL_t2 (Or.inr (Int32.not_lt.mp c17))
        refine lv_iconst (v := 1) hx hb dX7_noLayer_20 (by decide) ?_
        refine lv_goto (tgt := 25) hx hb dX7_noLayer_21 (by decide) ?_
        exact hret _ _ _ _ _ _ hw ⟨by rw [e9]; rfl, rfl⟩ (by decide) dX7_noLayer_25

set_option maxHeartbeats 4000000 in
set_option maxRecDepth 100000 in
theorem c_X7_isIn (l : Launch) (G : va_G) (dA : Nat → ClassId) (L : List Nat) (f : Nat → va_E) (x lo hi : UInt64)    : mI l yX7_isIn wsX7_isIn ({ frames := 0, cells := 0, slots := 0, locals := 0 }) G dA [.double x, .double lo, .double hi] L f (fun r f2 => r = b2i (inB x lo hi) ∧ f2 = f) := by
  refine mI_of (cc := cX7_isIn) (maxL := 6) (by decide) rfl (Nat.le_of_ble_eq_true rfl) ?_
  intro p e s m below meth c A ls Q hx hb hml hown hts hlocks hA hin0 hw hl hret
  have hown : s.vm.findClass RX7 = some m.cls := hown
  have hl : lv_has ls 6 [(0, .double x), (2, .double lo), (4, .double hi)] := hl
  refine lv_dload_n hx hb dX7_isIn_0 rfl (lv_at hl 0 rfl) ?_
  refine lv_dload_n hx hb dX7_isIn_1 rfl (lv_at hl 1 rfl) ?_
  refine lv_dcmp hx hb dX7_isIn_2 ?_
  refine lv_if_lt (tgt := 17) hx hb dX7_isIn_3 (by decide) (fun c3 => ?_) (fun c3 => ?_)
  · have e9 : inB x lo hi = false := inB_f (fun h7 => cmp_lt0 c3 h7.1)
    refine lv_iconst (v := 0) hx hb dX7_isIn_17 (by decide) ?_
    exact hret _ _ _ _ _ _ hw ⟨by rw [e9]; rfl, rfl⟩ (by decide) dX7_isIn_18
  · refine lv_dload_n hx hb dX7_isIn_6 rfl (lv_at hl 0 rfl) ?_
    refine lv_dload hx hb dX7_isIn_7 (lv_at hl 2 rfl) ?_
    refine lv_dcmp hx hb dX7_isIn_9 ?_
    refine lv_if_gt (tgt := 17) hx hb dX7_isIn_10 (by decide) (fun c10 => ?_) (fun c10 => ?_)
    · have e9 : inB x lo hi = false := inB_f (fun h7 => by rcases h7.2 with h8 | h8 <;> rw [h8] at c10 <;> exact absurd c10 (by decide))
      refine lv_iconst (v := 0) hx hb dX7_isIn_17 (by decide) ?_
      exact hret _ _ _ _ _ _ hw ⟨by rw [e9]; rfl, rfl⟩ (by decide) dX7_isIn_18
    · have e9 : inB x lo hi = true := inB_t ⟨cmp_nlt0 c3, cmp_gle (Int32.not_lt.mp c10)⟩
      refine lv_iconst (v := 1) hx hb dX7_isIn_13 (by decide) ?_
      refine lv_goto (tgt := 18) hx hb dX7_isIn_14 (by decide) ?_
      exact hret _ _ _ _ _ _ hw ⟨by rw [e9]; rfl, rfl⟩ (by decide) dX7_isIn_18

set_option maxHeartbeats 4000000 in
set_option maxRecDepth 100000 in
theorem t1_X7_board (l : Launch) (G : va_G) (dA : Nat → ClassId) (L : List Nat) (f : Nat → va_E) (ad : Nat → Nat) (n nb : Nat) (q qk : Nat → Option Nat) (kel : UInt64) (dmp : UInt64) (spd : UInt64) (ven : UInt64) (lef : UInt64) (gon : Int64) (hr : Nat) (tl : Nat) (st : Nat) (dn : Nat) (thr : Int32) (pa : Nat) (bad : Int32) (num : Int32) (RA : Nat → UInt64) (RB : Nat → UInt64) (TH : Nat → Int32) (DE : Nat → UInt64) (KI : Nat → Int32) (WE : Nat → UInt64) (NX : Nat → UInt64) (LI : Nat → Int32) (LM : Nat → UInt64) (KE : Nat → Int32) (TX : Nat → Int32) (BW : Nat → Int32) (TI : Nat → Int32) (KV : Nat → Int32) (DM : Nat → Int32) (f0 : Nat → va_E) (k c9 : Int32) (th we : UInt64)  (hC : Cx ad L n nb q qk) (hX : MX ad dA n nb kel dmp spd ven lef gon hr tl st dn thr pa bad num RA RB TH DE KI WE NX LI LM KE TX BW TI KV DM f0 f) (hbad : noB nb k = true)  : mV l yX7_board wsX7_board ({ frames := 1, cells := 0, slots := 0, locals := 21 }) G dA [.ref (ad 16), .int k, .double th, .double we, .int c9] L f (fun f2 => MX ad dA n nb kel dmp spd ven lef gon hr tl st dn 1 pa bad num RA RB TH DE KI WE NX LI LM KE TX BW TI KV DM f0 f2) := by
  refine mV_of (cc := cX7_board) (maxL := 8) (by decide) rfl (Nat.le_of_ble_eq_true rfl) ?_
  intro p e s m below meth c A ls Q hx hb hml hown hts hlocks hA hin0 hw hl hret
  have hown : s.vm.findClass RX7 = some m.cls := hown
  have hl : lv_has ls 8 [(0, .ref (ad 16)), (1, .int k), (2, .double th), (4, .double we), (6, .int c9)] := hl
  have hi7 : ∀ w ∈ u_ws RX7 TX7 31, w ∈ wsX7_board := by decide +kernel
  refine lv_aload_n hx hb dX7_board_0 rfl (lv_at hl 0 rfl) ?_
  refine lv_aload_n hx hb dX7_board_1 rfl (lv_at hl 0 rfl) ?_
  refine lv_iload_n hx hb dX7_board_2 rfl (lv_at hl 1 rfl) ?_
  refine kV_I (C := RX7) (T := TX7) (N := 31) (As := [.int k]) (rest := [.ref (ad 16)]) ⟨hx, hb, hml, hown, hts⟩ (c_X7_noBoard l G dA L f ad n nb q qk kel dmp spd ven lef gon hr tl st dn thr pa bad num RA RB TH DE KI WE NX LI LM KE TX BW TI KV DM f0 k hC hX) (cwV 1 hts gX7_board_X7_noBoard rfl rfl rfl (by decide +kernel) ⟨Nat.le_of_ble_eq_true rfl, Nat.le_of_ble_eq_true rfl⟩) hw hA (hC.m (by decide)) hX.o rfl rfl hl.1 rfl (Nat.le_of_ble_eq_true rfl) dX7_board_3 ⟨Nat.zero_le _, Nat.zero_le _⟩ (fun r2 f1 H locs hp hw => ?_)
  obtain ⟨e1, e2⟩ := hp
  rw [e2] at hw
  rw [e1]
  refine lv_if_ne (tgt := 20) hx hb dX7_board_6 (by decide) (fun _ => ?_) (fun c9 => absurd c9 (by rw [hbad]; decide))
  refine lv_iconst (v := 1) hx hb dX7_board_20 (by decide) ?_
  refine lv_goto (tgt := 52) hx hb dX7_board_21 (by decide) ?_
  refine wp_ (C := RX7) (T := TX7) (N := 31) hx hb hts hi7 tyX7 tyX7_ok nmX7 hown hw (hC.m (by decide)) hX.o rfl 0 (by decide) (hts (.fieldLink RX7 78 "LayerMoistureModel" "thrown" "I") (by decide +kernel)) (fun _ h9 => h9) rfl (ty := .int) (v := .int 1) (by decide +kernel) rfl rfl (Nat.le_of_ble_eq_true rfl) dX7_board_52 (fun H locs hw => ?_)
  obtain ⟨f3, ef3⟩ : ∃ z : Nat → va_E, z = va_up f (ad 16) (.inr (8, [.int 1, .int (nI n), .int (nI nb), .ref (ad 17), .ref (ad 18), .double kel, .double dmp, .double spd, .double ven, .double lef, .long gon, .int (nI hr), .ref (ad 19), .ref (ad 20), .ref (ad 21), .ref (ad 22), .ref (ad 23), .ref (ad 24), .ref (ad 25), .ref (ad 26), .ref (ad 27), .int (nI tl), .int (nI pa), .int bad, .int num, .ref (ad 28), .ref (ad 29), .ref (ad 30), .ref (ad 31), .int (nI st), .int (nI dn)])) := ⟨_, rfl⟩
  have hw : ww G dA A s L f3 H locs := by rw [ef3]; exact hw
  have hX4 : MX ad dA n nb kel dmp spd ven lef gon hr tl st dn 1 pa bad num RA RB TH DE KI WE NX LI LM KE TX BW TI KV DM f0 f3 := by rw [ef3]; exact hX.sO hC kel dmp spd ven lef gon hr tl st dn 1 pa bad num
  refine lv_aload_n hx hb dX7_board_55 rfl (lv_at hl 0 rfl) ?_
  refine wg (C := RX7) (T := TX7) (N := 31) hx hb hts hi7 hown hw (hC.m (by decide)) hX4.o rfl 0 (by decide) (hts (.fieldLink RX7 78 "LayerMoistureModel" "thrown" "I") (by decide +kernel)) (fun _ h9 => h9) (v := .int 1) rfl dX7_board_56 ?_
  refine lv_if_le (tgt := 63) hx hb dX7_board_59 (by decide) (fun c9 => absurd c9 (by decide)) (fun _ => ?_)
  exact hret _ _ _ _ _ hw hX4 dX7_board_62

set_option maxHeartbeats 4000000 in
set_option maxRecDepth 100000 in
theorem t2_X7_board (l : Launch) (G : va_G) (dA : Nat → ClassId) (L : List Nat) (f : Nat → va_E) (ad : Nat → Nat) (n nb : Nat) (q qk : Nat → Option Nat) (kel : UInt64) (dmp : UInt64) (spd : UInt64) (ven : UInt64) (lef : UInt64) (gon : Int64) (hr : Nat) (tl : Nat) (st : Nat) (dn : Nat) (thr : Int32) (pa : Nat) (bad : Int32) (num : Int32) (RA : Nat → UInt64) (RB : Nat → UInt64) (TH : Nat → Int32) (DE : Nat → UInt64) (KI : Nat → Int32) (WE : Nat → UInt64) (NX : Nat → UInt64) (LI : Nat → Int32) (LM : Nat → UInt64) (KE : Nat → Int32) (TX : Nat → Int32) (BW : Nat → Int32) (TI : Nat → Int32) (KV : Nat → Int32) (DM : Nat → Int32) (f0 : Nat → va_E) (k c9 : Int32) (th we : UInt64)  (hC : Cx ad L n nb q qk) (hX : MX ad dA n nb kel dmp spd ven lef gon hr tl st dn thr pa bad num RA RB TH DE KI WE NX LI LM KE TX BW TI KV DM f0 f) (h0 : noB nb k = false) (hbad : c9 < 0 ∨ nI 4 ≤ c9)  : mV l yX7_board wsX7_board ({ frames := 1, cells := 0, slots := 0, locals := 21 }) G dA [.ref (ad 16), .int k, .double th, .double we, .int c9] L f (fun f2 => MX ad dA n nb kel dmp spd ven lef gon hr tl st dn 1 pa bad num RA RB TH DE KI WE NX LI LM KE TX BW TI KV DM f0 f2) := by
  refine mV_of (cc := cX7_board) (maxL := 8) (by decide) rfl (Nat.le_of_ble_eq_true rfl) ?_
  intro p e s m below meth c A ls Q hx hb hml hown hts hlocks hA hin0 hw hl hret
  have hown : s.vm.findClass RX7 = some m.cls := hown
  have hl : lv_has ls 8 [(0, .ref (ad 16)), (1, .int k), (2, .double th), (4, .double we), (6, .int c9)] := hl
  have hi7 : ∀ w ∈ u_ws RX7 TX7 31, w ∈ wsX7_board := by decide +kernel
  refine lv_aload_n hx hb dX7_board_0 rfl (lv_at hl 0 rfl) ?_
  refine lv_aload_n hx hb dX7_board_1 rfl (lv_at hl 0 rfl) ?_
  refine lv_iload_n hx hb dX7_board_2 rfl (lv_at hl 1 rfl) ?_
  refine kV_I (C := RX7) (T := TX7) (N := 31) (As := [.int k]) (rest := [.ref (ad 16)]) ⟨hx, hb, hml, hown, hts⟩ (c_X7_noBoard l G dA L f ad n nb q qk kel dmp spd ven lef gon hr tl st dn thr pa bad num RA RB TH DE KI WE NX LI LM KE TX BW TI KV DM f0 k hC hX) (cwV 1 hts gX7_board_X7_noBoard rfl rfl rfl (by decide +kernel) ⟨Nat.le_of_ble_eq_true rfl, Nat.le_of_ble_eq_true rfl⟩) hw hA (hC.m (by decide)) hX.o rfl rfl hl.1 rfl (Nat.le_of_ble_eq_true rfl) dX7_board_3 ⟨Nat.zero_le _, Nat.zero_le _⟩ (fun r2 f1 H locs hp hw => ?_)
  obtain ⟨e1, e2⟩ := hp
  rw [e2] at hw
  rw [e1]
  refine lv_if_ne (tgt := 20) hx hb dX7_board_6 (by decide) (fun c9 => absurd c9 (fun h7 => h7 (by rw [h0]; rfl))) (fun _ => ?_)
  refine lv_iload hx hb dX7_board_9 (lv_at hl 4 rfl) ?_
  refine lv_if_lt (tgt := 20) hx hb dX7_board_11 (by decide) (fun c11 => ?_) (fun c11 => ?_)
  · refine lv_iconst (v := 1) hx hb dX7_board_20 (by decide) ?_
    refine lv_goto (tgt := 52) hx hb dX7_board_21 (by decide) ?_
    refine wp_ (C := RX7) (T := TX7) (N := 31) hx hb hts hi7 tyX7 tyX7_ok nmX7 hown hw (hC.m (by decide)) hX.o rfl 0 (by decide) (hts (.fieldLink RX7 78 "LayerMoistureModel" "thrown" "I") (by decide +kernel)) (fun _ h9 => h9) rfl (ty := .int) (v := .int 1) (by decide +kernel) rfl rfl (Nat.le_of_ble_eq_true rfl) dX7_board_52 (fun H locs hw => ?_)
    obtain ⟨f3, ef3⟩ : ∃ z : Nat → va_E, z = va_up f (ad 16) (.inr (8, [.int 1, .int (nI n), .int (nI nb), .ref (ad 17), .ref (ad 18), .double kel, .double dmp, .double spd, .double ven, .double lef, .long gon, .int (nI hr), .ref (ad 19), .ref (ad 20), .ref (ad 21), .ref (ad 22), .ref (ad 23), .ref (ad 24), .ref (ad 25), .ref (ad 26), .ref (ad 27), .int (nI tl), .int (nI pa), .int bad, .int num, .ref (ad 28), .ref (ad 29), .ref (ad 30), .ref (ad 31), .int (nI st), .int (nI dn)])) := ⟨_, rfl⟩
    have hw : ww G dA A s L f3 H locs := by rw [ef3]; exact hw
    have hX4 : MX ad dA n nb kel dmp spd ven lef gon hr tl st dn 1 pa bad num RA RB TH DE KI WE NX LI LM KE TX BW TI KV DM f0 f3 := by rw [ef3]; exact hX.sO hC kel dmp spd ven lef gon hr tl st dn 1 pa bad num
    refine lv_aload_n hx hb dX7_board_55 rfl (lv_at hl 0 rfl) ?_
    refine wg (C := RX7) (T := TX7) (N := 31) hx hb hts hi7 hown hw (hC.m (by decide)) hX4.o rfl 0 (by decide) (hts (.fieldLink RX7 78 "LayerMoistureModel" "thrown" "I") (by decide +kernel)) (fun _ h9 => h9) (v := .int 1) rfl dX7_board_56 ?_
    refine lv_if_le (tgt := 63) hx hb dX7_board_59 (by decide) (fun c9 => absurd c9 (by decide)) (fun _ => ?_)
    exact hret _ _ _ _ _ hw hX4 dX7_board_62
  · refine lv_iload hx hb dX7_board_14 (lv_at hl 4 rfl) ?_
    refine lv_iconst (v := 4) hx hb dX7_board_16 (by decide) ?_
    refine lv_icmp_lt (tgt := 24) hx hb dX7_board_17 (by decide) (fun c9 => absurd c9 (fun h7 => hbad.elim c11 (fun h8 => absurd h7 (Int32.not_lt.mpr h8)))) (fun _ => ?_)
    refine lv_iconst (v := 1) hx hb dX7_board_20 (by decide) ?_
    refine lv_goto (tgt := 52) hx hb dX7_board_21 (by decide) ?_
    refine wp_ (C := RX7) (T := TX7) (N := 31) hx hb hts hi7 tyX7 tyX7_ok nmX7 hown hw (hC.m (by decide)) hX.o rfl 0 (by decide) (hts (.fieldLink RX7 78 "LayerMoistureModel" "thrown" "I") (by decide +kernel)) (fun _ h9 => h9) rfl (ty := .int) (v := .int 1) (by decide +kernel) rfl rfl (Nat.le_of_ble_eq_true rfl) dX7_board_52 (fun H locs hw => ?_)
    obtain ⟨f5, ef5⟩ : ∃ z : Nat → va_E, z = va_up f (ad 16) (.inr (8, [.int 1, .int (nI n), .int (nI nb), .ref (ad 17), .ref (ad 18), .double kel, .double dmp, .double spd, .double ven, .double lef, .long gon, .int (nI hr), .ref (ad 19), .ref (ad 20), .ref (ad 21), .ref (ad 22), .ref (ad 23), .ref (ad 24), .ref (ad 25), .ref (ad 26), .ref (ad 27), .int (nI tl), .int (nI pa), .int bad, .int num, .ref (ad 28), .ref (ad 29), .ref (ad 30), .ref (ad 31), .int (nI st), .int (nI dn)])) := ⟨_, rfl⟩
    have hw : ww G dA A s L f5 H locs := by rw [ef5]; exact hw
    have hX6 : MX ad dA n nb kel dmp spd ven lef gon hr tl st dn 1 pa bad num RA RB TH DE KI WE NX LI LM KE TX BW TI KV DM f0 f5 := by rw [ef5]; exact hX.sO hC kel dmp spd ven lef gon hr tl st dn 1 pa bad num
    refine lv_aload_n hx hb dX7_board_55 rfl (lv_at hl 0 rfl) ?_
    refine wg (C := RX7) (T := TX7) (N := 31) hx hb hts hi7 hown hw (hC.m (by decide)) hX6.o rfl 0 (by decide) (hts (.fieldLink RX7 78 "LayerMoistureModel" "thrown" "I") (by decide +kernel)) (fun _ h9 => h9) (v := .int 1) rfl dX7_board_56 ?_
    refine lv_if_le (tgt := 63) hx hb dX7_board_59 (by decide) (fun c9 => absurd c9 (by decide)) (fun _ => ?_)
    exact hret _ _ _ _ _ hw hX6 dX7_board_62

set_option maxHeartbeats 4000000 in
set_option maxRecDepth 100000 in
theorem t3_X7_board (l : Launch) (G : va_G) (dA : Nat → ClassId) (L : List Nat) (f : Nat → va_E) (ad : Nat → Nat) (n nb : Nat) (q qk : Nat → Option Nat) (kel : UInt64) (dmp : UInt64) (spd : UInt64) (ven : UInt64) (lef : UInt64) (gon : Int64) (hr : Nat) (tl : Nat) (st : Nat) (dn : Nat) (thr : Int32) (pa : Nat) (bad : Int32) (num : Int32) (RA : Nat → UInt64) (RB : Nat → UInt64) (TH : Nat → Int32) (DE : Nat → UInt64) (KI : Nat → Int32) (WE : Nat → UInt64) (NX : Nat → UInt64) (LI : Nat → Int32) (LM : Nat → UInt64) (KE : Nat → Int32) (TX : Nat → Int32) (BW : Nat → Int32) (TI : Nat → Int32) (KV : Nat → Int32) (DM : Nat → Int32) (f0 : Nat → va_E) (k : Int32) (kc : Nat) (th we : UInt64)  (hC : Cx ad L n nb q qk) (hX : MX ad dA n nb kel dmp spd ven lef gon hr tl st dn thr pa bad num RA RB TH DE KI WE NX LI LM KE TX BW TI KV DM f0 f) (h0 : noB nb k = false) (hc : kc < 4) (hbad : inB th FP.dconst1 4645744490609377280 = false)  : mV l yX7_board wsX7_board ({ frames := 1, cells := 0, slots := 0, locals := 25 }) G dA [.ref (ad 16), .int k, .double th, .double we, .int (nI kc)] L f (fun f2 => MX ad dA n nb kel dmp spd ven lef gon hr tl st dn 2 pa bad num RA RB TH DE KI WE NX LI LM KE TX BW TI KV DM f0 f2) := by
  refine mV_of (cc := cX7_board) (maxL := 8) (by decide) rfl (Nat.le_of_ble_eq_true rfl) ?_
  intro p e s m below meth c A ls Q hx hb hml hown hts hlocks hA hin0 hw hl hret
  have hown : s.vm.findClass RX7 = some m.cls := hown
  have hl : lv_has ls 8 [(0, .ref (ad 16)), (1, .int k), (2, .double th), (4, .double we), (6, .int (nI kc))] := hl
  have hi7 : ∀ w ∈ u_ws RX7 TX7 31, w ∈ wsX7_board := by decide +kernel
  refine lv_aload_n hx hb dX7_board_0 rfl (lv_at hl 0 rfl) ?_
  refine lv_aload_n hx hb dX7_board_1 rfl (lv_at hl 0 rfl) ?_
  refine lv_iload_n hx hb dX7_board_2 rfl (lv_at hl 1 rfl) ?_
  refine kV_I (C := RX7) (T := TX7) (N := 31) (As := [.int k]) (rest := [.ref (ad 16)]) ⟨hx, hb, hml, hown, hts⟩ (c_X7_noBoard l G dA L f ad n nb q qk kel dmp spd ven lef gon hr tl st dn thr pa bad num RA RB TH DE KI WE NX LI LM KE TX BW TI KV DM f0 k hC hX) (cwV 1 hts gX7_board_X7_noBoard rfl rfl rfl (by decide +kernel) ⟨Nat.le_of_ble_eq_true rfl, Nat.le_of_ble_eq_true rfl⟩) hw hA (hC.m (by decide)) hX.o rfl rfl hl.1 rfl (Nat.le_of_ble_eq_true rfl) dX7_board_3 ⟨Nat.zero_le _, Nat.zero_le _⟩ (fun r2 f1 H locs hp hw => ?_)
  obtain ⟨e1, e2⟩ := hp
  rw [e2] at hw
  rw [e1]
  refine lv_if_ne (tgt := 20) hx hb dX7_board_6 (by decide) (fun c9 => absurd c9 (fun h7 => h7 (by rw [h0]; rfl))) (fun _ => ?_)
  refine lv_iload hx hb dX7_board_9 (lv_at hl 4 rfl) ?_
  refine lv_if_lt (tgt := 20) hx hb dX7_board_11 (by decide) (fun c9 => absurd c9 (nI_pos (by omega))) (fun _ => ?_)
  refine lv_iload hx hb dX7_board_14 (lv_at hl 4 rfl) ?_
  refine lv_iconst (v := 4) hx hb dX7_board_16 (by decide) ?_
  refine lv_icmp_lt (tgt := 24) hx hb dX7_board_17 (by decide) (fun _ => ?_) (fun c9 => absurd (show nI kc < nI 4 from nI_lt hc (by decide)) c9)
  refine lv_dload_n hx hb dX7_board_24 rfl (lv_at hl 2 rfl) ?_
  refine lv_dconst1 hx hb dX7_board_25 ?_
  refine lv_ldc2d (v := 4645744490609377280) hx hb hown (hts (.constantDouble RX7 85 (4645744490609377280)) (by decide +kernel)) dX7_board_26 ?_
  refine kS_I (As := [.double th, .double FP.dconst1, .double 4645744490609377280]) (rest := [.ref (ad 16)]) ⟨hx, hb, hml, hown, hts⟩ (c_X7_isIn l G dA L f th FP.dconst1 4645744490609377280) (va_cwS 3 hts gX7_board_X7_isIn rfl rfl rfl (by decide +kernel) ⟨Nat.le_of_ble_eq_true rfl, Nat.le_of_ble_eq_true rfl⟩) hw hA rfl hl.1 rfl (Nat.le_of_ble_eq_true rfl) dX7_board_29 ⟨Nat.zero_le _, Nat.zero_le _⟩ (fun r4 f3 H locs hp hw => ?_)
  obtain ⟨e1, e2⟩ := hp
  rw [e2] at hw
  rw [e1]
  refine lv_if_eq (tgt := 51) hx hb dX7_board_32 (by decide) (fun _ => ?_) (fun c9 => absurd (by rw [hbad]; rfl) c9)
  refine lv_iconst (v := 2) hx hb dX7_board_51 (by decide) ?_
  refine wp_ (C := RX7) (T := TX7) (N := 31) hx hb hts hi7 tyX7 tyX7_ok nmX7 hown hw (hC.m (by decide)) hX.o rfl 0 (by decide) (hts (.fieldLink RX7 78 "LayerMoistureModel" "thrown" "I") (by decide +kernel)) (fun _ h9 => h9) rfl (ty := .int) (v := .int 2) (by decide +kernel) rfl rfl (Nat.le_of_ble_eq_true rfl) dX7_board_52 (fun H locs hw => ?_)
  obtain ⟨f5, ef5⟩ : ∃ z : Nat → va_E, z = va_up f (ad 16) (.inr (8, [.int 2, .int (nI n), .int (nI nb), .ref (ad 17), .ref (ad 18), .double kel, .double dmp, .double spd, .double ven, .double lef, .long gon, .int (nI hr), .ref (ad 19), .ref (ad 20), .ref (ad 21), .ref (ad 22), .ref (ad 23), .ref (ad 24), .ref (ad 25), .ref (ad 26), .ref (ad 27), .int (nI tl), .int (nI pa), .int bad, .int num, .ref (ad 28), .ref (ad 29), .ref (ad 30), .ref (ad 31), .int (nI st), .int (nI dn)])) := ⟨_, rfl⟩
  have hw : ww G dA A s L f5 H locs := by rw [ef5]; exact hw
  have hX6 : MX ad dA n nb kel dmp spd ven lef gon hr tl st dn 2 pa bad num RA RB TH DE KI WE NX LI LM KE TX BW TI KV DM f0 f5 := by rw [ef5]; exact hX.sO hC kel dmp spd ven lef gon hr tl st dn 2 pa bad num
  refine lv_aload_n hx hb dX7_board_55 rfl (lv_at hl 0 rfl) ?_
  refine wg (C := RX7) (T := TX7) (N := 31) hx hb hts hi7 hown hw (hC.m (by decide)) hX6.o rfl 0 (by decide) (hts (.fieldLink RX7 78 "LayerMoistureModel" "thrown" "I") (by decide +kernel)) (fun _ h9 => h9) (v := .int 2) rfl dX7_board_56 ?_
  refine lv_if_le (tgt := 63) hx hb dX7_board_59 (by decide) (fun c9 => absurd c9 (by decide)) (fun _ => ?_)
  exact hret _ _ _ _ _ hw hX6 dX7_board_62

set_option maxHeartbeats 4000000 in
set_option maxRecDepth 100000 in
theorem t4_X7_board (l : Launch) (G : va_G) (dA : Nat → ClassId) (L : List Nat) (f : Nat → va_E) (ad : Nat → Nat) (n nb : Nat) (q qk : Nat → Option Nat) (kel : UInt64) (dmp : UInt64) (spd : UInt64) (ven : UInt64) (lef : UInt64) (gon : Int64) (hr : Nat) (tl : Nat) (st : Nat) (dn : Nat) (thr : Int32) (pa : Nat) (bad : Int32) (num : Int32) (RA : Nat → UInt64) (RB : Nat → UInt64) (TH : Nat → Int32) (DE : Nat → UInt64) (KI : Nat → Int32) (WE : Nat → UInt64) (NX : Nat → UInt64) (LI : Nat → Int32) (LM : Nat → UInt64) (KE : Nat → Int32) (TX : Nat → Int32) (BW : Nat → Int32) (TI : Nat → Int32) (KV : Nat → Int32) (DM : Nat → Int32) (f0 : Nat → va_E) (k : Int32) (kc : Nat) (th we : UInt64)  (hC : Cx ad L n nb q qk) (hX : MX ad dA n nb kel dmp spd ven lef gon hr tl st dn thr pa bad num RA RB TH DE KI WE NX LI LM KE TX BW TI KV DM f0 f) (h0 : noB nb k = false) (hc : kc < 4) (h1 : inB th FP.dconst1 4645744490609377280 = true) (hbad : inB we FP.dconst0 4613937818241073152 = false)  : mV l yX7_board wsX7_board ({ frames := 1, cells := 0, slots := 0, locals := 25 }) G dA [.ref (ad 16), .int k, .double th, .double we, .int (nI kc)] L f (fun f2 => MX ad dA n nb kel dmp spd ven lef gon hr tl st dn 2 pa bad num RA RB TH DE KI WE NX LI LM KE TX BW TI KV DM f0 f2) := by
  refine mV_of (cc := cX7_board) (maxL := 8) (by decide) rfl (Nat.le_of_ble_eq_true rfl) ?_
  intro p e s m below meth c A ls Q hx hb hml hown hts hlocks hA hin0 hw hl hret
  have hown : s.vm.findClass RX7 = some m.cls := hown
  have hl : lv_has ls 8 [(0, .ref (ad 16)), (1, .int k), (2, .double th), (4, .double we), (6, .int (nI kc))] := hl
  have hi7 : ∀ w ∈ u_ws RX7 TX7 31, w ∈ wsX7_board := by decide +kernel
  refine lv_aload_n hx hb dX7_board_0 rfl (lv_at hl 0 rfl) ?_
  refine lv_aload_n hx hb dX7_board_1 rfl (lv_at hl 0 rfl) ?_
  refine lv_iload_n hx hb dX7_board_2 rfl (lv_at hl 1 rfl) ?_
  refine kV_I (C := RX7) (T := TX7) (N := 31) (As := [.int k]) (rest := [.ref (ad 16)]) ⟨hx, hb, hml, hown, hts⟩ (c_X7_noBoard l G dA L f ad n nb q qk kel dmp spd ven lef gon hr tl st dn thr pa bad num RA RB TH DE KI WE NX LI LM KE TX BW TI KV DM f0 k hC hX) (cwV 1 hts gX7_board_X7_noBoard rfl rfl rfl (by decide +kernel) ⟨Nat.le_of_ble_eq_true rfl, Nat.le_of_ble_eq_true rfl⟩) hw hA (hC.m (by decide)) hX.o rfl rfl hl.1 rfl (Nat.le_of_ble_eq_true rfl) dX7_board_3 ⟨Nat.zero_le _, Nat.zero_le _⟩ (fun r2 f1 H locs hp hw => ?_)
  obtain ⟨e1, e2⟩ := hp
  rw [e2] at hw
  rw [e1]
  refine lv_if_ne (tgt := 20) hx hb dX7_board_6 (by decide) (fun c9 => absurd c9 (fun h7 => h7 (by rw [h0]; rfl))) (fun _ => ?_)
  refine lv_iload hx hb dX7_board_9 (lv_at hl 4 rfl) ?_
  refine lv_if_lt (tgt := 20) hx hb dX7_board_11 (by decide) (fun c9 => absurd c9 (nI_pos (by omega))) (fun _ => ?_)
  refine lv_iload hx hb dX7_board_14 (lv_at hl 4 rfl) ?_
  refine lv_iconst (v := 4) hx hb dX7_board_16 (by decide) ?_
  refine lv_icmp_lt (tgt := 24) hx hb dX7_board_17 (by decide) (fun _ => ?_) (fun c9 => absurd (show nI kc < nI 4 from nI_lt hc (by decide)) c9)
  refine lv_dload_n hx hb dX7_board_24 rfl (lv_at hl 2 rfl) ?_
  refine lv_dconst1 hx hb dX7_board_25 ?_
  refine lv_ldc2d (v := 4645744490609377280) hx hb hown (hts (.constantDouble RX7 85 (4645744490609377280)) (by decide +kernel)) dX7_board_26 ?_
  refine kS_I (As := [.double th, .double FP.dconst1, .double 4645744490609377280]) (rest := [.ref (ad 16)]) ⟨hx, hb, hml, hown, hts⟩ (c_X7_isIn l G dA L f th FP.dconst1 4645744490609377280) (va_cwS 3 hts gX7_board_X7_isIn rfl rfl rfl (by decide +kernel) ⟨Nat.le_of_ble_eq_true rfl, Nat.le_of_ble_eq_true rfl⟩) hw hA rfl hl.1 rfl (Nat.le_of_ble_eq_true rfl) dX7_board_29 ⟨Nat.zero_le _, Nat.zero_le _⟩ (fun r4 f3 H locs hp hw => ?_)
  obtain ⟨e1, e2⟩ := hp
  rw [e2] at hw
  rw [e1]
  refine lv_if_eq (tgt := 51) hx hb dX7_board_32 (by decide) (fun c9 => absurd c9 (by rw [h1]; decide)) (fun _ => ?_)
  refine lv_dload hx hb dX7_board_35 (lv_at hl 3 rfl) ?_
  refine lv_dconst0 hx hb dX7_board_37 ?_
  refine lv_ldc2d (v := 4613937818241073152) hx hb hown (hts (.constantDouble RX7 91 (4613937818241073152)) (by decide +kernel)) dX7_board_38 ?_
  refine kS_I (As := [.double we, .double FP.dconst0, .double 4613937818241073152]) (rest := [.ref (ad 16)]) ⟨hx, hb, hml, hown, hts⟩ (c_X7_isIn l G dA L f we FP.dconst0 4613937818241073152) (va_cwS 3 hts gX7_board_X7_isIn rfl rfl rfl (by decide +kernel) ⟨Nat.le_of_ble_eq_true rfl, Nat.le_of_ble_eq_true rfl⟩) hw hA rfl hl.1 rfl (Nat.le_of_ble_eq_true rfl) dX7_board_41 ⟨Nat.zero_le _, Nat.zero_le _⟩ (fun r6 f5 H locs hp hw => ?_)
  obtain ⟨e1, e2⟩ := hp
  rw [e2] at hw
  rw [e1]
  refine lv_if_eq (tgt := 51) hx hb dX7_board_44 (by decide) (fun _ => ?_) (fun c9 => absurd (by rw [hbad]; rfl) c9)
  refine lv_iconst (v := 2) hx hb dX7_board_51 (by decide) ?_
  refine wp_ (C := RX7) (T := TX7) (N := 31) hx hb hts hi7 tyX7 tyX7_ok nmX7 hown hw (hC.m (by decide)) hX.o rfl 0 (by decide) (hts (.fieldLink RX7 78 "LayerMoistureModel" "thrown" "I") (by decide +kernel)) (fun _ h9 => h9) rfl (ty := .int) (v := .int 2) (by decide +kernel) rfl rfl (Nat.le_of_ble_eq_true rfl) dX7_board_52 (fun H locs hw => ?_)
  obtain ⟨f7, ef7⟩ : ∃ z : Nat → va_E, z = va_up f (ad 16) (.inr (8, [.int 2, .int (nI n), .int (nI nb), .ref (ad 17), .ref (ad 18), .double kel, .double dmp, .double spd, .double ven, .double lef, .long gon, .int (nI hr), .ref (ad 19), .ref (ad 20), .ref (ad 21), .ref (ad 22), .ref (ad 23), .ref (ad 24), .ref (ad 25), .ref (ad 26), .ref (ad 27), .int (nI tl), .int (nI pa), .int bad, .int num, .ref (ad 28), .ref (ad 29), .ref (ad 30), .ref (ad 31), .int (nI st), .int (nI dn)])) := ⟨_, rfl⟩
  have hw : ww G dA A s L f7 H locs := by rw [ef7]; exact hw
  have hX8 : MX ad dA n nb kel dmp spd ven lef gon hr tl st dn 2 pa bad num RA RB TH DE KI WE NX LI LM KE TX BW TI KV DM f0 f7 := by rw [ef7]; exact hX.sO hC kel dmp spd ven lef gon hr tl st dn 2 pa bad num
  refine lv_aload_n hx hb dX7_board_55 rfl (lv_at hl 0 rfl) ?_
  refine wg (C := RX7) (T := TX7) (N := 31) hx hb hts hi7 hown hw (hC.m (by decide)) hX8.o rfl 0 (by decide) (hts (.fieldLink RX7 78 "LayerMoistureModel" "thrown" "I") (by decide +kernel)) (fun _ h9 => h9) (v := .int 2) rfl dX7_board_56 ?_
  refine lv_if_le (tgt := 63) hx hb dX7_board_59 (by decide) (fun c9 => absurd c9 (by decide)) (fun _ => ?_)
  exact hret _ _ _ _ _ hw hX8 dX7_board_62

def wfill (x : UInt64) (W : Nat → UInt64) (j i : Nat) : Nat → UInt64 := fun z => if 16 * j ≤ z ∧ z < 16 * j + i then x else W z
theorem wfill_0 (x : UInt64) (W : Nat → UInt64) (j : Nat) : W = wfill x W j 0 := by
  funext z; unfold wfill; rw [if_neg (by omega)]
theorem wfill_s (x : UInt64) (W : Nat → UInt64) (j i : Nat) : vf_upd (wfill x W j i) (16 * j + i) x = wfill x W j (i + 1) := by
  funext z
  unfold vf_upd wfill
  by_cases h : z = 16 * j + i
  · rw [if_pos h, if_pos (by omega)]
  · rw [if_neg h]
    by_cases h2 : 16 * j ≤ z ∧ z < 16 * j + i
    · rw [if_pos h2, if_pos (by omega)]
    · rw [if_neg h2, if_neg (by omega)]

set_option maxHeartbeats 4000000 in
set_option maxRecDepth 100000 in
theorem c_X7_board (l : Launch) (G : va_G) (dA : Nat → ClassId) (L : List Nat) (f : Nat → va_E) (ad : Nat → Nat) (n nb : Nat) (q qk : Nat → Option Nat) (kel : UInt64) (dmp : UInt64) (spd : UInt64) (ven : UInt64) (lef : UInt64) (gon : Int64) (hr : Nat) (tl : Nat) (st : Nat) (dn : Nat) (thr : Int32) (pa : Nat) (bad : Int32) (num : Int32) (RA : Nat → UInt64) (RB : Nat → UInt64) (TH : Nat → Int32) (DE : Nat → UInt64) (KI : Nat → Int32) (WE : Nat → UInt64) (NX : Nat → UInt64) (LI : Nat → Int32) (LM : Nat → UInt64) (KE : Nat → Int32) (TX : Nat → Int32) (BW : Nat → Int32) (TI : Nat → Int32) (KV : Nat → Int32) (DM : Nat → Int32) (f0 : Nat → va_E) (j kc : Nat) (th we : UInt64)  (hC : Cx ad L n nb q qk) (hX : MX ad dA n nb kel dmp spd ven lef gon hr tl st dn thr pa bad num RA RB TH DE KI WE NX LI LM KE TX BW TI KV DM f0 f) (hj : j < nb) (hc : kc < 4) (h1 : inB th FP.dconst1 4645744490609377280 = true) (h2 : inB we FP.dconst0 4613937818241073152 = true) (hnn : vf_n64 (FP.ddiv th (FP.i2d (nI n))))  : mV l yX7_board wsX7_board ({ frames := 1, cells := 0, slots := 0, locals := 25 }) G dA [.ref (ad 16), .int (nI j), .double th, .double we, .int (nI kc)] L f (fun f2 => MX ad dA n nb kel dmp spd ven lef gon hr tl st dn 0 pa bad num RA RB (upd TH j 1) (vf_upd DE j (FP.ddiv th (FP.i2d (nI n)))) (upd KI j (nI kc)) (wfill we WE j n) NX (upd LI j 0) LM (upd KE j (-1)) TX BW TI KV DM f0 f2) := by
  refine mV_of (cc := cX7_board) (maxL := 8) (by decide) rfl (Nat.le_of_ble_eq_true rfl) ?_
  intro p e s m below meth c A ls Q hx hb hml hown hts hlocks hA hin0 hw hl hret
  have hown : s.vm.findClass RX7 = some m.cls := hown
  have hl : lv_has ls 8 [(0, .ref (ad 16)), (1, .int (nI j)), (2, .double th), (4, .double we), (6, .int (nI kc))] := hl
  have hi7 : ∀ w ∈ u_ws RX7 TX7 31, w ∈ wsX7_board := by decide +kernel
  refine lv_aload_n hx hb dX7_board_0 rfl (lv_at hl 0 rfl) ?_
  refine lv_aload_n hx hb dX7_board_1 rfl (lv_at hl 0 rfl) ?_
  refine lv_iload_n hx hb dX7_board_2 rfl (lv_at hl 1 rfl) ?_
  refine kV_I (C := RX7) (T := TX7) (N := 31) (As := [.int (nI j)]) (rest := [.ref (ad 16)]) ⟨hx, hb, hml, hown, hts⟩ (c_X7_noBoard l G dA L f ad n nb q qk kel dmp spd ven lef gon hr tl st dn thr pa bad num RA RB TH DE KI WE NX LI LM KE TX BW TI KV DM f0 (nI j) hC hX) (cwV 1 hts gX7_board_X7_noBoard rfl rfl rfl (by decide +kernel) ⟨Nat.le_of_ble_eq_true rfl, Nat.le_of_ble_eq_true rfl⟩) hw hA (hC.m (by decide)) hX.o rfl rfl hl.1 rfl (Nat.le_of_ble_eq_true rfl) dX7_board_3 ⟨Nat.zero_le _, Nat.zero_le _⟩ (fun r2 f1 H locs hp hw => ?_)
  obtain ⟨e1, e2⟩ := hp
  rw [e2] at hw
  rw [e1]
  refine lv_if_ne (tgt := 20) hx hb dX7_board_6 (by decide) (fun c9 => absurd c9 (fun h7 => h7 (by rw [(noB_f hC.nb31 hj)]; rfl))) (fun _ => ?_)
  refine lv_iload hx hb dX7_board_9 (lv_at hl 4 rfl) ?_
  refine lv_if_lt (tgt := 20) hx hb dX7_board_11 (by decide) (fun c9 => absurd c9 (nI_pos (by omega))) (fun _ => ?_)
  refine lv_iload hx hb dX7_board_14 (lv_at hl 4 rfl) ?_
  refine lv_iconst (v := 4) hx hb dX7_board_16 (by decide) ?_
  refine lv_icmp_lt (tgt := 24) hx hb dX7_board_17 (by decide) (fun _ => ?_) (fun c9 => absurd (show nI kc < nI 4 from nI_lt hc (by decide)) c9)
  refine lv_dload_n hx hb dX7_board_24 rfl (lv_at hl 2 rfl) ?_
  refine lv_dconst1 hx hb dX7_board_25 ?_
  refine lv_ldc2d (v := 4645744490609377280) hx hb hown (hts (.constantDouble RX7 85 (4645744490609377280)) (by decide +kernel)) dX7_board_26 ?_
  refine kS_I (As := [.double th, .double FP.dconst1, .double 4645744490609377280]) (rest := [.ref (ad 16)]) ⟨hx, hb, hml, hown, hts⟩ (c_X7_isIn l G dA L f th FP.dconst1 4645744490609377280) (va_cwS 3 hts gX7_board_X7_isIn rfl rfl rfl (by decide +kernel) ⟨Nat.le_of_ble_eq_true rfl, Nat.le_of_ble_eq_true rfl⟩) hw hA rfl hl.1 rfl (Nat.le_of_ble_eq_true rfl) dX7_board_29 ⟨Nat.zero_le _, Nat.zero_le _⟩ (fun r4 f3 H locs hp hw => ?_)
  obtain ⟨e1, e2⟩ := hp
  rw [e2] at hw
  rw [e1]
  refine lv_if_eq (tgt := 51) hx hb dX7_board_32 (by decide) (fun c9 => absurd c9 (by rw [h1]; decide)) (fun _ => ?_)
  refine lv_dload hx hb dX7_board_35 (lv_at hl 3 rfl) ?_
  refine lv_dconst0 hx hb dX7_board_37 ?_
  refine lv_ldc2d (v := 4613937818241073152) hx hb hown (hts (.constantDouble RX7 91 (4613937818241073152)) (by decide +kernel)) dX7_board_38 ?_
  refine kS_I (As := [.double we, .double FP.dconst0, .double 4613937818241073152]) (rest := [.ref (ad 16)]) ⟨hx, hb, hml, hown, hts⟩ (c_X7_isIn l G dA L f we FP.dconst0 4613937818241073152) (va_cwS 3 hts gX7_board_X7_isIn rfl rfl rfl (by decide +kernel) ⟨Nat.le_of_ble_eq_true rfl, Nat.le_of_ble_eq_true rfl⟩) hw hA rfl hl.1 rfl (Nat.le_of_ble_eq_true rfl) dX7_board_41 ⟨Nat.zero_le _, Nat.zero_le _⟩ (fun r6 f5 H locs hp hw => ?_)
  obtain ⟨e1, e2⟩ := hp
  rw [e2] at hw
  rw [e1]
  refine lv_if_eq (tgt := 51) hx hb dX7_board_44 (by decide) (fun c9 => absurd c9 (by rw [h2]; decide)) (fun _ => ?_)
  refine lv_iconst (v := 0) hx hb dX7_board_47 (by decide) ?_
  refine lv_goto (tgt := 52) hx hb dX7_board_48 (by decide) ?_
  refine wp_ (C := RX7) (T := TX7) (N := 31) hx hb hts hi7 tyX7 tyX7_ok nmX7 hown hw (hC.m (by decide)) hX.o rfl 0 (by decide) (hts (.fieldLink RX7 78 "LayerMoistureModel" "thrown" "I") (by decide +kernel)) (fun _ h9 => h9) rfl (ty := .int) (v := .int 0) (by decide +kernel) rfl rfl (Nat.le_of_ble_eq_true rfl) dX7_board_52 (fun H locs hw => ?_)
  obtain ⟨f7, ef7⟩ : ∃ z : Nat → va_E, z = va_up f (ad 16) (.inr (8, [.int 0, .int (nI n), .int (nI nb), .ref (ad 17), .ref (ad 18), .double kel, .double dmp, .double spd, .double ven, .double lef, .long gon, .int (nI hr), .ref (ad 19), .ref (ad 20), .ref (ad 21), .ref (ad 22), .ref (ad 23), .ref (ad 24), .ref (ad 25), .ref (ad 26), .ref (ad 27), .int (nI tl), .int (nI pa), .int bad, .int num, .ref (ad 28), .ref (ad 29), .ref (ad 30), .ref (ad 31), .int (nI st), .int (nI dn)])) := ⟨_, rfl⟩
  have hw : ww G dA A s L f7 H locs := by rw [ef7]; exact hw
  have hX8 : MX ad dA n nb kel dmp spd ven lef gon hr tl st dn 0 pa bad num RA RB TH DE KI WE NX LI LM KE TX BW TI KV DM f0 f7 := by rw [ef7]; exact hX.sO hC kel dmp spd ven lef gon hr tl st dn 0 pa bad num
  refine lv_aload_n hx hb dX7_board_55 rfl (lv_at hl 0 rfl) ?_
  refine wg (C := RX7) (T := TX7) (N := 31) hx hb hts hi7 hown hw (hC.m (by decide)) hX8.o rfl 0 (by decide) (hts (.fieldLink RX7 78 "LayerMoistureModel" "thrown" "I") (by decide +kernel)) (fun _ h9 => h9) (v := .int 0) rfl dX7_board_56 ?_
  refine lv_if_le (tgt := 63) hx hb dX7_board_59 (by decide) (fun _ => ?_) (fun c9 => absurd (by decide) c9)
  refine lv_aload_n hx hb dX7_board_63 rfl (lv_at hl 0 rfl) ?_
  refine wg (C := RX7) (T := TX7) (N := 31) hx hb hts hi7 hown hw (hC.m (by decide)) hX8.o rfl 12 (by decide) (hts (.fieldLink RX7 30 "LayerMoistureModel" "there" "[Z") (by decide +kernel)) (fun _ h9 => h9) (v := .ref (ad 19)) rfl dX7_board_64 ?_
  refine lv_iload_n hx hb dX7_board_67 rfl (lv_at hl 1 rfl) ?_
  refine lv_iconst (v := 1) hx hb dX7_board_68 (by decide) ?_
  refine wst_z hx hb hw (hC.m (by decide)) hX8.aTH j (by have := hC.2.2.2.1; omega) (by decide) rfl dX7_board_69 (fun H locs hw => ?_)
  obtain ⟨f9, ef9⟩ : ∃ z : Nat → va_E, z = va_up f7 (ad 19) (aI (dA 3) 8 (upd TH j (vp_nar .boolean 1))) := ⟨_, rfl⟩
  have hw : ww G dA A s L f9 H locs := by rw [ef9]; exact hw
  have hX10 : MX ad dA n nb kel dmp spd ven lef gon hr tl st dn 0 pa bad num RA RB (upd TH j (vp_nar .boolean 1)) DE KI WE NX LI LM KE TX BW TI KV DM f0 f9 := by rw [ef9]; exact hX8.sTH hC _
  refine lv_aload_n hx hb dX7_board_70 rfl (lv_at hl 0 rfl) ?_
  refine wg (C := RX7) (T := TX7) (N := 31) hx hb hts hi7 hown hw (hC.m (by decide)) hX10.o rfl 13 (by decide) (hts (.fieldLink RX7 34 "LayerMoistureModel" "depths" "[D") (by decide +kernel)) (fun _ h9 => h9) (v := .ref (ad 20)) rfl dX7_board_71 ?_
  refine lv_iload_n hx hb dX7_board_74 rfl (lv_at hl 1 rfl) ?_
  refine lv_dload_n hx hb dX7_board_75 rfl (lv_at hl 2 rfl) ?_
  refine lv_aload_n hx hb dX7_board_76 rfl (lv_at hl 0 rfl) ?_
  refine wg (C := RX7) (T := TX7) (N := 31) hx hb hts hi7 hown hw (hC.m (by decide)) hX10.o rfl 1 (by decide) (hts (.fieldLink RX7 71 "LayerMoistureModel" "layers" "I") (by decide +kernel)) (fun _ h9 => h9) (v := .int (nI n)) rfl dX7_board_77 ?_
  refine lv_i2d hx hb dX7_board_80 ?_
  refine lv_ddiv hx hb dX7_board_81 hnn ?_
  refine wst_d hx hb hw (hC.m (by decide)) hX10.aDE j (by have := hC.2.2.2.1; omega) (by decide) rfl dX7_board_82 (fun H locs hw => ?_)
  obtain ⟨f11, ef11⟩ : ∃ z : Nat → va_E, z = va_up f9 (ad 20) (aD (dA 1) 8 (vf_upd DE j (FP.ddiv th (FP.i2d (nI n))))) := ⟨_, rfl⟩
  have hw : ww G dA A s L f11 H locs := by rw [ef11]; exact hw
  have hX12 : MX ad dA n nb kel dmp spd ven lef gon hr tl st dn 0 pa bad num RA RB (upd TH j (vp_nar .boolean 1)) (vf_upd DE j (FP.ddiv th (FP.i2d (nI n)))) KI WE NX LI LM KE TX BW TI KV DM f0 f11 := by rw [ef11]; exact hX10.sDE hC _
  refine lv_aload_n hx hb dX7_board_83 rfl (lv_at hl 0 rfl) ?_
  refine wg (C := RX7) (T := TX7) (N := 31) hx hb hts hi7 hown hw (hC.m (by decide)) hX12.o rfl 14 (by decide) (hts (.fieldLink RX7 37 "LayerMoistureModel" "kinds" "[I") (by decide +kernel)) (fun _ h9 => h9) (v := .ref (ad 21)) rfl dX7_board_84 ?_
  refine lv_iload_n hx hb dX7_board_87 rfl (lv_at hl 1 rfl) ?_
  refine lv_iload hx hb dX7_board_88 (lv_at hl 4 rfl) ?_
  refine wst_i hx hb hw (hC.m (by decide)) hX12.aKI j (by have := hC.2.2.2.1; omega) (by decide) rfl dX7_board_90 (fun H locs hw => ?_)
  obtain ⟨f13, ef13⟩ : ∃ z : Nat → va_E, z = va_up f11 (ad 21) (aI (dA 2) 8 (upd KI j (nI kc))) := ⟨_, rfl⟩
  have hw : ww G dA A s L f13 H locs := by rw [ef13]; exact hw
  have hX14 : MX ad dA n nb kel dmp spd ven lef gon hr tl st dn 0 pa bad num RA RB (upd TH j (vp_nar .boolean 1)) (vf_upd DE j (FP.ddiv th (FP.i2d (nI n)))) (upd KI j (nI kc)) WE NX LI LM KE TX BW TI KV DM f0 f13 := by rw [ef13]; exact hX12.sKI hC _
  refine lv_aload_n hx hb dX7_board_91 rfl (lv_at hl 0 rfl) ?_
  refine wg (C := RX7) (T := TX7) (N := 31) hx hb hts hi7 hown hw (hC.m (by decide)) hX14.o rfl 17 (by decide) (hts (.fieldLink RX7 47 "LayerMoistureModel" "limited" "[Z") (by decide +kernel)) (fun _ h9 => h9) (v := .ref (ad 24)) rfl dX7_board_92 ?_
  refine lv_iload_n hx hb dX7_board_95 rfl (lv_at hl 1 rfl) ?_
  refine lv_iconst (v := 0) hx hb dX7_board_96 (by decide) ?_
  refine wst_z hx hb hw (hC.m (by decide)) hX14.aLI j (by have := hC.2.2.2.1; omega) (by decide) rfl dX7_board_97 (fun H locs hw => ?_)
  obtain ⟨f15, ef15⟩ : ∃ z : Nat → va_E, z = va_up f13 (ad 24) (aI (dA 3) 8 (upd LI j (vp_nar .boolean 0))) := ⟨_, rfl⟩
  have hw : ww G dA A s L f15 H locs := by rw [ef15]; exact hw
  have hX16 : MX ad dA n nb kel dmp spd ven lef gon hr tl st dn 0 pa bad num RA RB (upd TH j (vp_nar .boolean 1)) (vf_upd DE j (FP.ddiv th (FP.i2d (nI n)))) (upd KI j (nI kc)) WE NX (upd LI j (vp_nar .boolean 0)) LM KE TX BW TI KV DM f0 f15 := by rw [ef15]; exact hX14.sLI hC _
  refine lv_aload_n hx hb dX7_board_98 rfl (lv_at hl 0 rfl) ?_
  refine wg (C := RX7) (T := TX7) (N := 31) hx hb hts hi7 hown hw (hC.m (by decide)) hX16.o rfl 19 (by decide) (hts (.fieldLink RX7 53 "LayerMoistureModel" "kept" "[I") (by decide +kernel)) (fun _ h9 => h9) (v := .ref (ad 26)) rfl dX7_board_99 ?_
  refine lv_iload_n hx hb dX7_board_102 rfl (lv_at hl 1 rfl) ?_
  refine lv_iconst (v := (-1)) hx hb dX7_board_103 (by decide) ?_
  refine wst_i hx hb hw (hC.m (by decide)) hX16.aKE j (by have := hC.2.2.2.1; omega) (by decide) rfl dX7_board_104 (fun H locs hw => ?_)
  obtain ⟨f17, ef17⟩ : ∃ z : Nat → va_E, z = va_up f15 (ad 26) (aI (dA 2) 8 (upd KE j (-1))) := ⟨_, rfl⟩
  have hw : ww G dA A s L f17 H locs := by rw [ef17]; exact hw
  have hX18 : MX ad dA n nb kel dmp spd ven lef gon hr tl st dn 0 pa bad num RA RB (upd TH j (vp_nar .boolean 1)) (vf_upd DE j (FP.ddiv th (FP.i2d (nI n)))) (upd KI j (nI kc)) WE NX (upd LI j (vp_nar .boolean 0)) LM (upd KE j (-1)) TX BW TI KV DM f0 f17 := by rw [ef17]; exact hX16.sKE hC _
  refine lv_iconst (v := 0) hx hb dX7_board_105 (by decide) ?_
  refine lv_istore (lv' := [(7, .int 0), (0, .ref (ad 16)), (1, .int (nI j)), (2, .double th), (4, .double we), (6, .int (nI kc))]) hx hb dX7_board_106 hl (by decide) rfl (fun ls hl => ?_)
  have loop108 : ∀ (kf i : Nat), i + kf = n → ∀ (fa : Nat → va_E) (H : Heap) (locs : List Loc), MX ad dA n nb kel dmp spd ven lef gon hr tl st dn 0 pa bad num RA RB (upd TH j (vp_nar .boolean 1)) (vf_upd DE j (FP.ddiv th (FP.i2d (nI n)))) (upd KI j (nI kc)) (wfill we WE j i) NX (upd LI j (vp_nar .boolean 0)) LM (upd KE j (-1)) TX BW TI KV DM f0 fa → ww G dA A s L fa H locs → ∀ (ls : Array Slot), lv_has ls 8 [(0, .ref (ad 16)), (1, .int (nI j)), (2, .double th), (4, .double we), (6, .int (nI kc)), (7, .int (nI i))] → W p l e ({ frames := 1, cells := 0, slots := 0, locals := 25 } : Room) s m ([.ref (ad 16), .int (nI j), .double th, .double we, .int (nI kc)] : List Value).toArray below meth c H locs 0 0 Q (F0 m 108 ls []) := by
    intro kf
    induction kf with
    | zero =>
      intro i hik fa H locs hXa hw ls hl
      rw [show i = n by omega] at hl hXa
      refine lv_iload hx hb dX7_board_108 (lv_at hl 5 rfl) ?_
      refine lv_aload_n hx hb dX7_board_110 rfl (lv_at hl 0 rfl) ?_
      refine wg (C := RX7) (T := TX7) (N := 31) hx hb hts hi7 hown hw (hC.m (by decide)) hXa.o rfl 1 (by decide) (hts (.fieldLink RX7 71 "LayerMoistureModel" "layers" "I") (by decide +kernel)) (fun _ h9 => h9) (v := .int (nI n)) rfl dX7_board_111 ?_
      refine lv_icmp_ge (tgt := 137) hx hb dX7_board_114 (by decide) (fun _ => ?_) (fun c9 => absurd (nI_le (Nat.le_refl _) hC.n31) c9)
      exact hret _ _ _ _ _ hw hXa dX7_board_137
    | succ kf ih =>
      intro i hik fa H locs hXa hw ls hl
      have hlt : i < n := by omega
      refine lv_iload hx hb dX7_board_108 (lv_at hl 5 rfl) ?_
      refine lv_aload_n hx hb dX7_board_110 rfl (lv_at hl 0 rfl) ?_
      refine wg (C := RX7) (T := TX7) (N := 31) hx hb hts hi7 hown hw (hC.m (by decide)) hXa.o rfl 1 (by decide) (hts (.fieldLink RX7 71 "LayerMoistureModel" "layers" "I") (by decide +kernel)) (fun _ h9 => h9) (v := .int (nI n)) rfl dX7_board_111 ?_
      refine lv_icmp_ge (tgt := 137) hx hb dX7_board_114 (by decide) (fun c9 => absurd c9 (nI_ge hlt hC.n31)) (fun _ => ?_)
      refine lv_aload_n hx hb dX7_board_117 rfl (lv_at hl 0 rfl) ?_
      refine wg (C := RX7) (T := TX7) (N := 31) hx hb hts hi7 hown hw (hC.m (by decide)) hXa.o rfl 15 (by decide) (hts (.fieldLink RX7 41 "LayerMoistureModel" "wets" "[D") (by decide +kernel)) (fun _ h9 => h9) (v := .ref (ad 22)) rfl dX7_board_118 ?_
      refine lv_bipush (v := 16) hx hb dX7_board_121 (by decide) ?_
      refine lv_iload_n hx hb dX7_board_123 rfl (lv_at hl 1 rfl) ?_
      refine lv_imul hx hb dX7_board_124 ?_
      rw [show 16 * (nI j) = nI (16 * j) from nI_m16 j]
      refine lv_iload hx hb dX7_board_125 (lv_at hl 5 rfl) ?_
      refine lv_iadd hx hb dX7_board_127 ?_
      rw [show (nI (16 * j)) + (nI i) = nI (16 * j + i) from nI_add _ _]
      refine lv_dload hx hb dX7_board_128 (lv_at hl 3 rfl) ?_
      refine wst_d hx hb hw (hC.m (by decide)) hXa.aWE (16 * j + i) (by have := hC.2.2.2.1; have := hC.2.2.1; omega) (by decide) rfl dX7_board_130 (fun H locs hw => ?_)
      obtain ⟨f19, ef19⟩ : ∃ z : Nat → va_E, z = va_up fa (ad 22) (aD (dA 1) 128 (vf_upd (wfill we WE j i) (16 * j + i) we)) := ⟨_, rfl⟩
      have hw : ww G dA A s L f19 H locs := by rw [ef19]; exact hw
      have hX20 : MX ad dA n nb kel dmp spd ven lef gon hr tl st dn 0 pa bad num RA RB (upd TH j (vp_nar .boolean 1)) (vf_upd DE j (FP.ddiv th (FP.i2d (nI n)))) (upd KI j (nI kc)) (vf_upd (wfill we WE j i) (16 * j + i) we) NX (upd LI j (vp_nar .boolean 0)) LM (upd KE j (-1)) TX BW TI KV DM f0 f19 := by rw [ef19]; exact hXa.sWE hC _
      refine lv_iinc (v := nI (i + 1)) (lv' := [(7, .int (nI (i + 1))), (0, .ref (ad 16)), (1, .int (nI j)), (2, .double th), (4, .double we), (6, .int (nI kc))]) hx hb dX7_board_131 hl (k := 5) rfl (nI_1 i) (by decide) rfl (fun ls hl => ?_)
      refine lv_goto (tgt := 108) hx hb dX7_board_134 (by decide) ?_
      exact ih (i + 1) (by omega) _ _ _ (by have h9 := hX20; rw [wfill_s] at h9; exact h9) hw ls (lv_sub hl [1, 2, 3, 4, 5, 0] rfl)
  exact loop108 n 0 (by omega) _ _ _ (by have h9 := hX18; rw [wfill_0 we WE j] at h9; exact h9) hw ls (lv_sub hl [1, 2, 3, 4, 5, 0] rfl)

set_option maxHeartbeats 4000000 in
set_option maxRecDepth 100000 in
theorem t1_X7_rate (l : Launch) (G : va_G) (dA : Nat → ClassId) (L : List Nat) (f : Nat → va_E) (ad : Nat → Nat) (n nb : Nat) (q qk : Nat → Option Nat) (kel : UInt64) (dmp : UInt64) (spd : UInt64) (ven : UInt64) (lef : UInt64) (gon : Int64) (hr : Nat) (tl : Nat) (st : Nat) (dn : Nat) (thr : Int32) (pa : Nat) (bad : Int32) (num : Int32) (RA : Nat → UInt64) (RB : Nat → UInt64) (TH : Nat → Int32) (DE : Nat → UInt64) (KI : Nat → Int32) (WE : Nat → UInt64) (NX : Nat → UInt64) (LI : Nat → Int32) (LM : Nat → UInt64) (KE : Nat → Int32) (TX : Nat → Int32) (BW : Nat → Int32) (TI : Nat → Int32) (KV : Nat → Int32) (DM : Nat → Int32) (f0 : Nat → va_E) (k : Int32) (u v : UInt64)  (hC : Cx ad L n nb q qk) (hX : MX ad dA n nb kel dmp spd ven lef gon hr tl st dn thr pa bad num RA RB TH DE KI WE NX LI LM KE TX BW TI KV DM f0 f) (hbad : k < 0 ∨ nI 4 ≤ k)  : mV l yX7_rate wsX7_rate ({ frames := 0, cells := 0, slots := 0, locals := 0 }) G dA [.ref (ad 16), .int k, .double u, .double v] L f (fun f2 => MX ad dA n nb kel dmp spd ven lef gon hr tl st dn 1 pa bad num RA RB TH DE KI WE NX LI LM KE TX BW TI KV DM f0 f2) := by
  refine mV_of (cc := cX7_rate) (maxL := 6) (by decide) rfl (Nat.le_of_ble_eq_true rfl) ?_
  intro p e s m below meth c A ls Q hx hb hml hown hts hlocks hA hin0 hw hl hret
  have hown : s.vm.findClass RX7 = some m.cls := hown
  have hl : lv_has ls 6 [(0, .ref (ad 16)), (1, .int k), (2, .double u), (4, .double v)] := hl
  have hi7 : ∀ w ∈ u_ws RX7 TX7 31, w ∈ wsX7_rate := by decide +kernel
  refine lv_aload_n hx hb dX7_rate_0 rfl (lv_at hl 0 rfl) ?_
  refine lv_iload_n hx hb dX7_rate_1 rfl (lv_at hl 1 rfl) ?_
  refine lv_if_lt (tgt := 10) hx hb dX7_rate_2 (by decide) (fun c2 => ?_) (fun c2 => ?_)
  · refine lv_iconst (v := 1) hx hb dX7_rate_10 (by decide) ?_
    refine lv_goto (tgt := 42) hx hb dX7_rate_11 (by decide) ?_
    refine wp_ (C := RX7) (T := TX7) (N := 31) hx hb hts hi7 tyX7 tyX7_ok nmX7 hown hw (hC.m (by decide)) hX.o rfl 0 (by decide) (hts (.fieldLink RX7 78 "LayerMoistureModel" "thrown" "I") (by decide +kernel)) (fun _ h9 => h9) rfl (ty := .int) (v := .int 1) (by decide +kernel) rfl rfl (Nat.le_of_ble_eq_true rfl) dX7_rate_42 (fun H locs hw => ?_)
    obtain ⟨f1, ef1⟩ : ∃ z : Nat → va_E, z = va_up f (ad 16) (.inr (8, [.int 1, .int (nI n), .int (nI nb), .ref (ad 17), .ref (ad 18), .double kel, .double dmp, .double spd, .double ven, .double lef, .long gon, .int (nI hr), .ref (ad 19), .ref (ad 20), .ref (ad 21), .ref (ad 22), .ref (ad 23), .ref (ad 24), .ref (ad 25), .ref (ad 26), .ref (ad 27), .int (nI tl), .int (nI pa), .int bad, .int num, .ref (ad 28), .ref (ad 29), .ref (ad 30), .ref (ad 31), .int (nI st), .int (nI dn)])) := ⟨_, rfl⟩
    have hw : ww G dA A s L f1 H locs := by rw [ef1]; exact hw
    have hX2 : MX ad dA n nb kel dmp spd ven lef gon hr tl st dn 1 pa bad num RA RB TH DE KI WE NX LI LM KE TX BW TI KV DM f0 f1 := by rw [ef1]; exact hX.sO hC kel dmp spd ven lef gon hr tl st dn 1 pa bad num
    refine lv_aload_n hx hb dX7_rate_45 rfl (lv_at hl 0 rfl) ?_
    refine wg (C := RX7) (T := TX7) (N := 31) hx hb hts hi7 hown hw (hC.m (by decide)) hX2.o rfl 0 (by decide) (hts (.fieldLink RX7 78 "LayerMoistureModel" "thrown" "I") (by decide +kernel)) (fun _ h9 => h9) (v := .int 1) rfl dX7_rate_46 ?_
    refine lv_if_ne (tgt := 67) hx hb dX7_rate_49 (by decide) (fun _ => ?_) (fun c9 => absurd c9 (by decide))
    exact hret _ _ _ _ _ hw hX2 dX7_rate_67
  · refine lv_iload_n hx hb dX7_rate_5 rfl (lv_at hl 1 rfl) ?_
    refine lv_iconst (v := 4) hx hb dX7_rate_6 (by decide) ?_
    refine lv_icmp_lt (tgt := 14) hx hb dX7_rate_7 (by decide) (fun c9 => absurd c9 (fun h7 => hbad.elim c2 (fun h8 => absurd h7 (Int32.not_lt.mpr h8)))) (fun _ => ?_)
    refine lv_iconst (v := 1) hx hb dX7_rate_10 (by decide) ?_
    refine lv_goto (tgt := 42) hx hb dX7_rate_11 (by decide) ?_
    refine wp_ (C := RX7) (T := TX7) (N := 31) hx hb hts hi7 tyX7 tyX7_ok nmX7 hown hw (hC.m (by decide)) hX.o rfl 0 (by decide) (hts (.fieldLink RX7 78 "LayerMoistureModel" "thrown" "I") (by decide +kernel)) (fun _ h9 => h9) rfl (ty := .int) (v := .int 1) (by decide +kernel) rfl rfl (Nat.le_of_ble_eq_true rfl) dX7_rate_42 (fun H locs hw => ?_)
    obtain ⟨f3, ef3⟩ : ∃ z : Nat → va_E, z = va_up f (ad 16) (.inr (8, [.int 1, .int (nI n), .int (nI nb), .ref (ad 17), .ref (ad 18), .double kel, .double dmp, .double spd, .double ven, .double lef, .long gon, .int (nI hr), .ref (ad 19), .ref (ad 20), .ref (ad 21), .ref (ad 22), .ref (ad 23), .ref (ad 24), .ref (ad 25), .ref (ad 26), .ref (ad 27), .int (nI tl), .int (nI pa), .int bad, .int num, .ref (ad 28), .ref (ad 29), .ref (ad 30), .ref (ad 31), .int (nI st), .int (nI dn)])) := ⟨_, rfl⟩
    have hw : ww G dA A s L f3 H locs := by rw [ef3]; exact hw
    have hX4 : MX ad dA n nb kel dmp spd ven lef gon hr tl st dn 1 pa bad num RA RB TH DE KI WE NX LI LM KE TX BW TI KV DM f0 f3 := by rw [ef3]; exact hX.sO hC kel dmp spd ven lef gon hr tl st dn 1 pa bad num
    refine lv_aload_n hx hb dX7_rate_45 rfl (lv_at hl 0 rfl) ?_
    refine wg (C := RX7) (T := TX7) (N := 31) hx hb hts hi7 hown hw (hC.m (by decide)) hX4.o rfl 0 (by decide) (hts (.fieldLink RX7 78 "LayerMoistureModel" "thrown" "I") (by decide +kernel)) (fun _ h9 => h9) (v := .int 1) rfl dX7_rate_46 ?_
    refine lv_if_ne (tgt := 67) hx hb dX7_rate_49 (by decide) (fun _ => ?_) (fun c9 => absurd c9 (by decide))
    exact hret _ _ _ _ _ hw hX4 dX7_rate_67

set_option maxHeartbeats 4000000 in
set_option maxRecDepth 100000 in
theorem t2_X7_rate (l : Launch) (G : va_G) (dA : Nat → ClassId) (L : List Nat) (f : Nat → va_E) (ad : Nat → Nat) (n nb : Nat) (q qk : Nat → Option Nat) (kel : UInt64) (dmp : UInt64) (spd : UInt64) (ven : UInt64) (lef : UInt64) (gon : Int64) (hr : Nat) (tl : Nat) (st : Nat) (dn : Nat) (thr : Int32) (pa : Nat) (bad : Int32) (num : Int32) (RA : Nat → UInt64) (RB : Nat → UInt64) (TH : Nat → Int32) (DE : Nat → UInt64) (KI : Nat → Int32) (WE : Nat → UInt64) (NX : Nat → UInt64) (LI : Nat → Int32) (LM : Nat → UInt64) (KE : Nat → Int32) (TX : Nat → Int32) (BW : Nat → Int32) (TI : Nat → Int32) (KV : Nat → Int32) (DM : Nat → Int32) (f0 : Nat → va_E) (kc : Nat) (u v : UInt64)  (hC : Cx ad L n nb q qk) (hX : MX ad dA n nb kel dmp spd ven lef gon hr tl st dn thr pa bad num RA RB TH DE KI WE NX LI LM KE TX BW TI KV DM f0 f) (hc : kc < 4) (hbad : inB u FP.dconst0 4620693217682128896 = false)  : mV l yX7_rate wsX7_rate ({ frames := 1, cells := 0, slots := 0, locals := 25 }) G dA [.ref (ad 16), .int (nI kc), .double u, .double v] L f (fun f2 => MX ad dA n nb kel dmp spd ven lef gon hr tl st dn 2 pa bad num RA RB TH DE KI WE NX LI LM KE TX BW TI KV DM f0 f2) := by
  refine mV_of (cc := cX7_rate) (maxL := 6) (by decide) rfl (Nat.le_of_ble_eq_true rfl) ?_
  intro p e s m below meth c A ls Q hx hb hml hown hts hlocks hA hin0 hw hl hret
  have hown : s.vm.findClass RX7 = some m.cls := hown
  have hl : lv_has ls 6 [(0, .ref (ad 16)), (1, .int (nI kc)), (2, .double u), (4, .double v)] := hl
  have hi7 : ∀ w ∈ u_ws RX7 TX7 31, w ∈ wsX7_rate := by decide +kernel
  refine lv_aload_n hx hb dX7_rate_0 rfl (lv_at hl 0 rfl) ?_
  refine lv_iload_n hx hb dX7_rate_1 rfl (lv_at hl 1 rfl) ?_
  refine lv_if_lt (tgt := 10) hx hb dX7_rate_2 (by decide) (fun c9 => absurd c9 (nI_pos (by omega))) (fun _ => ?_)
  refine lv_iload_n hx hb dX7_rate_5 rfl (lv_at hl 1 rfl) ?_
  refine lv_iconst (v := 4) hx hb dX7_rate_6 (by decide) ?_
  refine lv_icmp_lt (tgt := 14) hx hb dX7_rate_7 (by decide) (fun _ => ?_) (fun c9 => absurd (show nI kc < nI 4 from nI_lt hc (by decide)) c9)
  refine lv_dload_n hx hb dX7_rate_14 rfl (lv_at hl 2 rfl) ?_
  refine lv_dconst0 hx hb dX7_rate_15 ?_
  refine lv_ldc2d (v := 4620693217682128896) hx hb hown (hts (.constantDouble RX7 93 (4620693217682128896)) (by decide +kernel)) dX7_rate_16 ?_
  refine kS_I (As := [.double u, .double FP.dconst0, .double 4620693217682128896]) (rest := [.ref (ad 16)]) ⟨hx, hb, hml, hown, hts⟩ (c_X7_isIn l G dA L f u FP.dconst0 4620693217682128896) (va_cwS 3 hts gX7_rate_X7_isIn rfl rfl rfl (by decide +kernel) ⟨Nat.le_of_ble_eq_true rfl, Nat.le_of_ble_eq_true rfl⟩) hw hA rfl hl.1 rfl (Nat.le_of_ble_eq_true rfl) dX7_rate_19 ⟨Nat.zero_le _, Nat.zero_le _⟩ (fun r2 f1 H locs hp hw => ?_)
  obtain ⟨e1, e2⟩ := hp
  rw [e2] at hw
  rw [e1]
  refine lv_if_eq (tgt := 41) hx hb dX7_rate_22 (by decide) (fun _ => ?_) (fun c9 => absurd (by rw [hbad]; rfl) c9)
  refine lv_iconst (v := 2) hx hb dX7_rate_41 (by decide) ?_
  refine wp_ (C := RX7) (T := TX7) (N := 31) hx hb hts hi7 tyX7 tyX7_ok nmX7 hown hw (hC.m (by decide)) hX.o rfl 0 (by decide) (hts (.fieldLink RX7 78 "LayerMoistureModel" "thrown" "I") (by decide +kernel)) (fun _ h9 => h9) rfl (ty := .int) (v := .int 2) (by decide +kernel) rfl rfl (Nat.le_of_ble_eq_true rfl) dX7_rate_42 (fun H locs hw => ?_)
  obtain ⟨f3, ef3⟩ : ∃ z : Nat → va_E, z = va_up f (ad 16) (.inr (8, [.int 2, .int (nI n), .int (nI nb), .ref (ad 17), .ref (ad 18), .double kel, .double dmp, .double spd, .double ven, .double lef, .long gon, .int (nI hr), .ref (ad 19), .ref (ad 20), .ref (ad 21), .ref (ad 22), .ref (ad 23), .ref (ad 24), .ref (ad 25), .ref (ad 26), .ref (ad 27), .int (nI tl), .int (nI pa), .int bad, .int num, .ref (ad 28), .ref (ad 29), .ref (ad 30), .ref (ad 31), .int (nI st), .int (nI dn)])) := ⟨_, rfl⟩
  have hw : ww G dA A s L f3 H locs := by rw [ef3]; exact hw
  have hX4 : MX ad dA n nb kel dmp spd ven lef gon hr tl st dn 2 pa bad num RA RB TH DE KI WE NX LI LM KE TX BW TI KV DM f0 f3 := by rw [ef3]; exact hX.sO hC kel dmp spd ven lef gon hr tl st dn 2 pa bad num
  refine lv_aload_n hx hb dX7_rate_45 rfl (lv_at hl 0 rfl) ?_
  refine wg (C := RX7) (T := TX7) (N := 31) hx hb hts hi7 hown hw (hC.m (by decide)) hX4.o rfl 0 (by decide) (hts (.fieldLink RX7 78 "LayerMoistureModel" "thrown" "I") (by decide +kernel)) (fun _ h9 => h9) (v := .int 2) rfl dX7_rate_46 ?_
  refine lv_if_ne (tgt := 67) hx hb dX7_rate_49 (by decide) (fun _ => ?_) (fun c9 => absurd c9 (by decide))
  exact hret _ _ _ _ _ hw hX4 dX7_rate_67

set_option maxHeartbeats 4000000 in
set_option maxRecDepth 100000 in
theorem t3_X7_rate (l : Launch) (G : va_G) (dA : Nat → ClassId) (L : List Nat) (f : Nat → va_E) (ad : Nat → Nat) (n nb : Nat) (q qk : Nat → Option Nat) (kel : UInt64) (dmp : UInt64) (spd : UInt64) (ven : UInt64) (lef : UInt64) (gon : Int64) (hr : Nat) (tl : Nat) (st : Nat) (dn : Nat) (thr : Int32) (pa : Nat) (bad : Int32) (num : Int32) (RA : Nat → UInt64) (RB : Nat → UInt64) (TH : Nat → Int32) (DE : Nat → UInt64) (KI : Nat → Int32) (WE : Nat → UInt64) (NX : Nat → UInt64) (LI : Nat → Int32) (LM : Nat → UInt64) (KE : Nat → Int32) (TX : Nat → Int32) (BW : Nat → Int32) (TI : Nat → Int32) (KV : Nat → Int32) (DM : Nat → Int32) (f0 : Nat → va_E) (kc : Nat) (u v : UInt64)  (hC : Cx ad L n nb q qk) (hX : MX ad dA n nb kel dmp spd ven lef gon hr tl st dn thr pa bad num RA RB TH DE KI WE NX LI LM KE TX BW TI KV DM f0 f) (hc : kc < 4) (h1 : inB u FP.dconst0 4620693217682128896 = true) (hbad : inB v FP.dconst0 4620693217682128896 = false)  : mV l yX7_rate wsX7_rate ({ frames := 1, cells := 0, slots := 0, locals := 25 }) G dA [.ref (ad 16), .int (nI kc), .double u, .double v] L f (fun f2 => MX ad dA n nb kel dmp spd ven lef gon hr tl st dn 2 pa bad num RA RB TH DE KI WE NX LI LM KE TX BW TI KV DM f0 f2) := by
  refine mV_of (cc := cX7_rate) (maxL := 6) (by decide) rfl (Nat.le_of_ble_eq_true rfl) ?_
  intro p e s m below meth c A ls Q hx hb hml hown hts hlocks hA hin0 hw hl hret
  have hown : s.vm.findClass RX7 = some m.cls := hown
  have hl : lv_has ls 6 [(0, .ref (ad 16)), (1, .int (nI kc)), (2, .double u), (4, .double v)] := hl
  have hi7 : ∀ w ∈ u_ws RX7 TX7 31, w ∈ wsX7_rate := by decide +kernel
  refine lv_aload_n hx hb dX7_rate_0 rfl (lv_at hl 0 rfl) ?_
  refine lv_iload_n hx hb dX7_rate_1 rfl (lv_at hl 1 rfl) ?_
  refine lv_if_lt (tgt := 10) hx hb dX7_rate_2 (by decide) (fun c9 => absurd c9 (nI_pos (by omega))) (fun _ => ?_)
  refine lv_iload_n hx hb dX7_rate_5 rfl (lv_at hl 1 rfl) ?_
  refine lv_iconst (v := 4) hx hb dX7_rate_6 (by decide) ?_
  refine lv_icmp_lt (tgt := 14) hx hb dX7_rate_7 (by decide) (fun _ => ?_) (fun c9 => absurd (show nI kc < nI 4 from nI_lt hc (by decide)) c9)
  refine lv_dload_n hx hb dX7_rate_14 rfl (lv_at hl 2 rfl) ?_
  refine lv_dconst0 hx hb dX7_rate_15 ?_
  refine lv_ldc2d (v := 4620693217682128896) hx hb hown (hts (.constantDouble RX7 93 (4620693217682128896)) (by decide +kernel)) dX7_rate_16 ?_
  refine kS_I (As := [.double u, .double FP.dconst0, .double 4620693217682128896]) (rest := [.ref (ad 16)]) ⟨hx, hb, hml, hown, hts⟩ (c_X7_isIn l G dA L f u FP.dconst0 4620693217682128896) (va_cwS 3 hts gX7_rate_X7_isIn rfl rfl rfl (by decide +kernel) ⟨Nat.le_of_ble_eq_true rfl, Nat.le_of_ble_eq_true rfl⟩) hw hA rfl hl.1 rfl (Nat.le_of_ble_eq_true rfl) dX7_rate_19 ⟨Nat.zero_le _, Nat.zero_le _⟩ (fun r2 f1 H locs hp hw => ?_)
  obtain ⟨e1, e2⟩ := hp
  rw [e2] at hw
  rw [e1]
  refine lv_if_eq (tgt := 41) hx hb dX7_rate_22 (by decide) (fun c9 => absurd c9 (by rw [h1]; decide)) (fun _ => ?_)
  refine lv_dload hx hb dX7_rate_25 (lv_at hl 3 rfl) ?_
  refine lv_dconst0 hx hb dX7_rate_27 ?_
  refine lv_ldc2d (v := 4620693217682128896) hx hb hown (hts (.constantDouble RX7 93 (4620693217682128896)) (by decide +kernel)) dX7_rate_28 ?_
  refine kS_I (As := [.double v, .double FP.dconst0, .double 4620693217682128896]) (rest := [.ref (ad 16)]) ⟨hx, hb, hml, hown, hts⟩ (c_X7_isIn l G dA L f v FP.dconst0 4620693217682128896) (va_cwS 3 hts gX7_rate_X7_isIn rfl rfl rfl (by decide +kernel) ⟨Nat.le_of_ble_eq_true rfl, Nat.le_of_ble_eq_true rfl⟩) hw hA rfl hl.1 rfl (Nat.le_of_ble_eq_true rfl) dX7_rate_31 ⟨Nat.zero_le _, Nat.zero_le _⟩ (fun r4 f3 H locs hp hw => ?_)
  obtain ⟨e1, e2⟩ := hp
  rw [e2] at hw
  rw [e1]
  refine lv_if_eq (tgt := 41) hx hb dX7_rate_34 (by decide) (fun _ => ?_) (fun c9 => absurd (by rw [hbad]; rfl) c9)
  refine lv_iconst (v := 2) hx hb dX7_rate_41 (by decide) ?_
  refine wp_ (C := RX7) (T := TX7) (N := 31) hx hb hts hi7 tyX7 tyX7_ok nmX7 hown hw (hC.m (by decide)) hX.o rfl 0 (by decide) (hts (.fieldLink RX7 78 "LayerMoistureModel" "thrown" "I") (by decide +kernel)) (fun _ h9 => h9) rfl (ty := .int) (v := .int 2) (by decide +kernel) rfl rfl (Nat.le_of_ble_eq_true rfl) dX7_rate_42 (fun H locs hw => ?_)
  obtain ⟨f5, ef5⟩ : ∃ z : Nat → va_E, z = va_up f (ad 16) (.inr (8, [.int 2, .int (nI n), .int (nI nb), .ref (ad 17), .ref (ad 18), .double kel, .double dmp, .double spd, .double ven, .double lef, .long gon, .int (nI hr), .ref (ad 19), .ref (ad 20), .ref (ad 21), .ref (ad 22), .ref (ad 23), .ref (ad 24), .ref (ad 25), .ref (ad 26), .ref (ad 27), .int (nI tl), .int (nI pa), .int bad, .int num, .ref (ad 28), .ref (ad 29), .ref (ad 30), .ref (ad 31), .int (nI st), .int (nI dn)])) := ⟨_, rfl⟩
  have hw : ww G dA A s L f5 H locs := by rw [ef5]; exact hw
  have hX6 : MX ad dA n nb kel dmp spd ven lef gon hr tl st dn 2 pa bad num RA RB TH DE KI WE NX LI LM KE TX BW TI KV DM f0 f5 := by rw [ef5]; exact hX.sO hC kel dmp spd ven lef gon hr tl st dn 2 pa bad num
  refine lv_aload_n hx hb dX7_rate_45 rfl (lv_at hl 0 rfl) ?_
  refine wg (C := RX7) (T := TX7) (N := 31) hx hb hts hi7 hown hw (hC.m (by decide)) hX6.o rfl 0 (by decide) (hts (.fieldLink RX7 78 "LayerMoistureModel" "thrown" "I") (by decide +kernel)) (fun _ h9 => h9) (v := .int 2) rfl dX7_rate_46 ?_
  refine lv_if_ne (tgt := 67) hx hb dX7_rate_49 (by decide) (fun _ => ?_) (fun c9 => absurd c9 (by decide))
  exact hret _ _ _ _ _ hw hX6 dX7_rate_67

set_option maxHeartbeats 4000000 in
set_option maxRecDepth 100000 in
theorem c_X7_rate (l : Launch) (G : va_G) (dA : Nat → ClassId) (L : List Nat) (f : Nat → va_E) (ad : Nat → Nat) (n nb : Nat) (q qk : Nat → Option Nat) (kel : UInt64) (dmp : UInt64) (spd : UInt64) (ven : UInt64) (lef : UInt64) (gon : Int64) (hr : Nat) (tl : Nat) (st : Nat) (dn : Nat) (thr : Int32) (pa : Nat) (bad : Int32) (num : Int32) (RA : Nat → UInt64) (RB : Nat → UInt64) (TH : Nat → Int32) (DE : Nat → UInt64) (KI : Nat → Int32) (WE : Nat → UInt64) (NX : Nat → UInt64) (LI : Nat → Int32) (LM : Nat → UInt64) (KE : Nat → Int32) (TX : Nat → Int32) (BW : Nat → Int32) (TI : Nat → Int32) (KV : Nat → Int32) (DM : Nat → Int32) (f0 : Nat → va_E) (kc : Nat) (u v : UInt64)  (hC : Cx ad L n nb q qk) (hX : MX ad dA n nb kel dmp spd ven lef gon hr tl st dn thr pa bad num RA RB TH DE KI WE NX LI LM KE TX BW TI KV DM f0 f) (hc : kc < 4) (h1 : inB u FP.dconst0 4620693217682128896 = true) (h2 : inB v FP.dconst0 4620693217682128896 = true)  : mV l yX7_rate wsX7_rate ({ frames := 1, cells := 0, slots := 0, locals := 25 }) G dA [.ref (ad 16), .int (nI kc), .double u, .double v] L f (fun f2 => MX ad dA n nb kel dmp spd ven lef gon hr tl st dn 0 pa bad num (vf_upd RA kc u) (vf_upd RB kc v) TH DE KI WE NX LI LM KE TX BW TI KV DM f0 f2) := by
  refine mV_of (cc := cX7_rate) (maxL := 6) (by decide) rfl (Nat.le_of_ble_eq_true rfl) ?_
  intro p e s m below meth c A ls Q hx hb hml hown hts hlocks hA hin0 hw hl hret
  have hown : s.vm.findClass RX7 = some m.cls := hown
  have hl : lv_has ls 6 [(0, .ref (ad 16)), (1, .int (nI kc)), (2, .double u), (4, .double v)] := hl
  have hi7 : ∀ w ∈ u_ws RX7 TX7 31, w ∈ wsX7_rate := by decide +kernel
  refine lv_aload_n hx hb dX7_rate_0 rfl (lv_at hl 0 rfl) ?_
  refine lv_iload_n hx hb dX7_rate_1 rfl (lv_at hl 1 rfl) ?_
  refine lv_if_lt (tgt := 10) hx hb dX7_rate_2 (by decide) (fun c9 => absurd c9 (nI_pos (by omega))) (fun _ => ?_)
  refine lv_iload_n hx hb dX7_rate_5 rfl (lv_at hl 1 rfl) ?_
  refine lv_iconst (v := 4) hx hb dX7_rate_6 (by decide) ?_
  refine lv_icmp_lt (tgt := 14) hx hb dX7_rate_7 (by decide) (fun _ => ?_) (fun c9 => absurd (show nI kc < nI 4 from nI_lt hc (by decide)) c9)
  refine lv_dload_n hx hb dX7_rate_14 rfl (lv_at hl 2 rfl) ?_
  refine lv_dconst0 hx hb dX7_rate_15 ?_
  refine lv_ldc2d (v := 4620693217682128896) hx hb hown (hts (.constantDouble RX7 93 (4620693217682128896)) (by decide +kernel)) dX7_rate_16 ?_
  refine kS_I (As := [.double u, .double FP.dconst0, .double 4620693217682128896]) (rest := [.ref (ad 16)]) ⟨hx, hb, hml, hown, hts⟩ (c_X7_isIn l G dA L f u FP.dconst0 4620693217682128896) (va_cwS 3 hts gX7_rate_X7_isIn rfl rfl rfl (by decide +kernel) ⟨Nat.le_of_ble_eq_true rfl, Nat.le_of_ble_eq_true rfl⟩) hw hA rfl hl.1 rfl (Nat.le_of_ble_eq_true rfl) dX7_rate_19 ⟨Nat.zero_le _, Nat.zero_le _⟩ (fun r2 f1 H locs hp hw => ?_)
  obtain ⟨e1, e2⟩ := hp
  rw [e2] at hw
  rw [e1]
  refine lv_if_eq (tgt := 41) hx hb dX7_rate_22 (by decide) (fun c9 => absurd c9 (by rw [h1]; decide)) (fun _ => ?_)
  refine lv_dload hx hb dX7_rate_25 (lv_at hl 3 rfl) ?_
  refine lv_dconst0 hx hb dX7_rate_27 ?_
  refine lv_ldc2d (v := 4620693217682128896) hx hb hown (hts (.constantDouble RX7 93 (4620693217682128896)) (by decide +kernel)) dX7_rate_28 ?_
  refine kS_I (As := [.double v, .double FP.dconst0, .double 4620693217682128896]) (rest := [.ref (ad 16)]) ⟨hx, hb, hml, hown, hts⟩ (c_X7_isIn l G dA L f v FP.dconst0 4620693217682128896) (va_cwS 3 hts gX7_rate_X7_isIn rfl rfl rfl (by decide +kernel) ⟨Nat.le_of_ble_eq_true rfl, Nat.le_of_ble_eq_true rfl⟩) hw hA rfl hl.1 rfl (Nat.le_of_ble_eq_true rfl) dX7_rate_31 ⟨Nat.zero_le _, Nat.zero_le _⟩ (fun r4 f3 H locs hp hw => ?_)
  obtain ⟨e1, e2⟩ := hp
  rw [e2] at hw
  rw [e1]
  refine lv_if_eq (tgt := 41) hx hb dX7_rate_34 (by decide) (fun c9 => absurd c9 (by rw [h2]; decide)) (fun _ => ?_)
  refine lv_iconst (v := 0) hx hb dX7_rate_37 (by decide) ?_
  refine lv_goto (tgt := 42) hx hb dX7_rate_38 (by decide) ?_
  refine wp_ (C := RX7) (T := TX7) (N := 31) hx hb hts hi7 tyX7 tyX7_ok nmX7 hown hw (hC.m (by decide)) hX.o rfl 0 (by decide) (hts (.fieldLink RX7 78 "LayerMoistureModel" "thrown" "I") (by decide +kernel)) (fun _ h9 => h9) rfl (ty := .int) (v := .int 0) (by decide +kernel) rfl rfl (Nat.le_of_ble_eq_true rfl) dX7_rate_42 (fun H locs hw => ?_)
  obtain ⟨f5, ef5⟩ : ∃ z : Nat → va_E, z = va_up f (ad 16) (.inr (8, [.int 0, .int (nI n), .int (nI nb), .ref (ad 17), .ref (ad 18), .double kel, .double dmp, .double spd, .double ven, .double lef, .long gon, .int (nI hr), .ref (ad 19), .ref (ad 20), .ref (ad 21), .ref (ad 22), .ref (ad 23), .ref (ad 24), .ref (ad 25), .ref (ad 26), .ref (ad 27), .int (nI tl), .int (nI pa), .int bad, .int num, .ref (ad 28), .ref (ad 29), .ref (ad 30), .ref (ad 31), .int (nI st), .int (nI dn)])) := ⟨_, rfl⟩
  have hw : ww G dA A s L f5 H locs := by rw [ef5]; exact hw
  have hX6 : MX ad dA n nb kel dmp spd ven lef gon hr tl st dn 0 pa bad num RA RB TH DE KI WE NX LI LM KE TX BW TI KV DM f0 f5 := by rw [ef5]; exact hX.sO hC kel dmp spd ven lef gon hr tl st dn 0 pa bad num
  refine lv_aload_n hx hb dX7_rate_45 rfl (lv_at hl 0 rfl) ?_
  refine wg (C := RX7) (T := TX7) (N := 31) hx hb hts hi7 hown hw (hC.m (by decide)) hX6.o rfl 0 (by decide) (hts (.fieldLink RX7 78 "LayerMoistureModel" "thrown" "I") (by decide +kernel)) (fun _ h9 => h9) (v := .int 0) rfl dX7_rate_46 ?_
  refine lv_if_ne (tgt := 67) hx hb dX7_rate_49 (by decide) (fun c9 => absurd c9 (fun h7 => h7 rfl)) (fun _ => ?_)
  refine lv_aload_n hx hb dX7_rate_52 rfl (lv_at hl 0 rfl) ?_
  refine wg (C := RX7) (T := TX7) (N := 31) hx hb hts hi7 hown hw (hC.m (by decide)) hX6.o rfl 3 (by decide) (hts (.fieldLink RX7 7 "LayerMoistureModel" "rateA" "[D") (by decide +kernel)) (fun _ h9 => h9) (v := .ref (ad 17)) rfl dX7_rate_53 ?_
  refine lv_iload_n hx hb dX7_rate_56 rfl (lv_at hl 1 rfl) ?_
  refine lv_dload_n hx hb dX7_rate_57 rfl (lv_at hl 2 rfl) ?_
  refine wst_d hx hb hw (hC.m (by decide)) hX6.aRA kc hc (by decide) rfl dX7_rate_58 (fun H locs hw => ?_)
  obtain ⟨f7, ef7⟩ : ∃ z : Nat → va_E, z = va_up f5 (ad 17) (aD (dA 1) 4 (vf_upd RA kc u)) := ⟨_, rfl⟩
  have hw : ww G dA A s L f7 H locs := by rw [ef7]; exact hw
  have hX8 : MX ad dA n nb kel dmp spd ven lef gon hr tl st dn 0 pa bad num (vf_upd RA kc u) RB TH DE KI WE NX LI LM KE TX BW TI KV DM f0 f7 := by rw [ef7]; exact hX6.sRA hC _
  refine lv_aload_n hx hb dX7_rate_59 rfl (lv_at hl 0 rfl) ?_
  refine wg (C := RX7) (T := TX7) (N := 31) hx hb hts hi7 hown hw (hC.m (by decide)) hX8.o rfl 4 (by decide) (hts (.fieldLink RX7 13 "LayerMoistureModel" "rateB" "[D") (by decide +kernel)) (fun _ h9 => h9) (v := .ref (ad 18)) rfl dX7_rate_60 ?_
  refine lv_iload_n hx hb dX7_rate_63 rfl (lv_at hl 1 rfl) ?_
  refine lv_dload hx hb dX7_rate_64 (lv_at hl 3 rfl) ?_
  refine wst_d hx hb hw (hC.m (by decide)) hX8.aRB kc hc (by decide) rfl dX7_rate_66 (fun H locs hw => ?_)
  obtain ⟨f9, ef9⟩ : ∃ z : Nat → va_E, z = va_up f7 (ad 18) (aD (dA 1) 4 (vf_upd RB kc v)) := ⟨_, rfl⟩
  have hw : ww G dA A s L f9 H locs := by rw [ef9]; exact hw
  have hX10 : MX ad dA n nb kel dmp spd ven lef gon hr tl st dn 0 pa bad num (vf_upd RA kc u) (vf_upd RB kc v) TH DE KI WE NX LI LM KE TX BW TI KV DM f0 f9 := by rw [ef9]; exact hX8.sRB hC _
  exact hret _ _ _ _ _ hw hX10 dX7_rate_67

set_option maxHeartbeats 4000000 in
set_option maxRecDepth 100000 in
theorem t1_X7_air (l : Launch) (G : va_G) (dA : Nat → ClassId) (L : List Nat) (f : Nat → va_E) (ad : Nat → Nat) (n nb : Nat) (q qk : Nat → Option Nat) (kel : UInt64) (dmp : UInt64) (spd : UInt64) (ven : UInt64) (lef : UInt64) (gon : Int64) (hr : Nat) (tl : Nat) (st : Nat) (dn : Nat) (thr : Int32) (pa : Nat) (bad : Int32) (num : Int32) (RA : Nat → UInt64) (RB : Nat → UInt64) (TH : Nat → Int32) (DE : Nat → UInt64) (KI : Nat → Int32) (WE : Nat → UInt64) (NX : Nat → UInt64) (LI : Nat → Int32) (LM : Nat → UInt64) (KE : Nat → Int32) (TX : Nat → Int32) (BW : Nat → Int32) (TI : Nat → Int32) (KV : Nat → Int32) (DM : Nat → Int32) (f0 : Nat → va_E) (u v zs : UInt64)  (hC : Cx ad L n nb q qk) (hX : MX ad dA n nb kel dmp spd ven lef gon hr tl st dn thr pa bad num RA RB TH DE KI WE NX LI LM KE TX BW TI KV DM f0 f) (hbad : inB u 4643000109586448384 4645744490609377280 = false)  : mV l yX7_air wsX7_air ({ frames := 1, cells := 0, slots := 0, locals := 25 }) G dA [.ref (ad 16), .double u, .double v, .double zs] L f (fun f2 => MX ad dA n nb kel dmp spd ven lef gon hr tl st dn 1 pa bad num RA RB TH DE KI WE NX LI LM KE TX BW TI KV DM f0 f2) := by
  refine mV_of (cc := cX7_air) (maxL := 7) (by decide) rfl (Nat.le_of_ble_eq_true rfl) ?_
  intro p e s m below meth c A ls Q hx hb hml hown hts hlocks hA hin0 hw hl hret
  have hown : s.vm.findClass RX7 = some m.cls := hown
  have hl : lv_has ls 7 [(0, .ref (ad 16)), (1, .double u), (3, .double v), (5, .double zs)] := hl
  have hi7 : ∀ w ∈ u_ws RX7 TX7 31, w ∈ wsX7_air := by decide +kernel
  refine lv_aload_n hx hb dX7_air_0 rfl (lv_at hl 0 rfl) ?_
  refine lv_dload_n hx hb dX7_air_1 rfl (lv_at hl 1 rfl) ?_
  refine lv_ldc2d (v := 4643000109586448384) hx hb hown (hts (.constantDouble RX7 95 (4643000109586448384)) (by decide +kernel)) dX7_air_2 ?_
  refine lv_ldc2d (v := 4645744490609377280) hx hb hown (hts (.constantDouble RX7 85 (4645744490609377280)) (by decide +kernel)) dX7_air_5 ?_
  refine kS_I (As := [.double u, .double 4643000109586448384, .double 4645744490609377280]) (rest := [.ref (ad 16)]) ⟨hx, hb, hml, hown, hts⟩ (c_X7_isIn l G dA L f u 4643000109586448384 4645744490609377280) (va_cwS 3 hts gX7_air_X7_isIn rfl rfl rfl (by decide +kernel) ⟨Nat.le_of_ble_eq_true rfl, Nat.le_of_ble_eq_true rfl⟩) hw hA rfl hl.1 rfl (Nat.le_of_ble_eq_true rfl) dX7_air_8 ⟨Nat.zero_le _, Nat.zero_le _⟩ (fun r2 f1 H locs hp hw => ?_)
  obtain ⟨e1, e2⟩ := hp
  rw [e2] at hw
  rw [e1]
  refine lv_if_eq (tgt := 39) hx hb dX7_air_11 (by decide) (fun _ => ?_) (fun c9 => absurd (by rw [hbad]; rfl) c9)
  refine lv_iconst (v := 1) hx hb dX7_air_39 (by decide) ?_
  refine wp_ (C := RX7) (T := TX7) (N := 31) hx hb hts hi7 tyX7 tyX7_ok nmX7 hown hw (hC.m (by decide)) hX.o rfl 0 (by decide) (hts (.fieldLink RX7 78 "LayerMoistureModel" "thrown" "I") (by decide +kernel)) (fun _ h9 => h9) rfl (ty := .int) (v := .int 1) (by decide +kernel) rfl rfl (Nat.le_of_ble_eq_true rfl) dX7_air_40 (fun H locs hw => ?_)
  obtain ⟨f3, ef3⟩ : ∃ z : Nat → va_E, z = va_up f (ad 16) (.inr (8, [.int 1, .int (nI n), .int (nI nb), .ref (ad 17), .ref (ad 18), .double kel, .double dmp, .double spd, .double ven, .double lef, .long gon, .int (nI hr), .ref (ad 19), .ref (ad 20), .ref (ad 21), .ref (ad 22), .ref (ad 23), .ref (ad 24), .ref (ad 25), .ref (ad 26), .ref (ad 27), .int (nI tl), .int (nI pa), .int bad, .int num, .ref (ad 28), .ref (ad 29), .ref (ad 30), .ref (ad 31), .int (nI st), .int (nI dn)])) := ⟨_, rfl⟩
  have hw : ww G dA A s L f3 H locs := by rw [ef3]; exact hw
  have hX4 : MX ad dA n nb kel dmp spd ven lef gon hr tl st dn 1 pa bad num RA RB TH DE KI WE NX LI LM KE TX BW TI KV DM f0 f3 := by rw [ef3]; exact hX.sO hC kel dmp spd ven lef gon hr tl st dn 1 pa bad num
  refine lv_aload_n hx hb dX7_air_43 rfl (lv_at hl 0 rfl) ?_
  refine wg (C := RX7) (T := TX7) (N := 31) hx hb hts hi7 hown hw (hC.m (by decide)) hX4.o rfl 0 (by decide) (hts (.fieldLink RX7 78 "LayerMoistureModel" "thrown" "I") (by decide +kernel)) (fun _ h9 => h9) (v := .int 1) rfl dX7_air_44 ?_
  refine lv_if_ne (tgt := 66) hx hb dX7_air_47 (by decide) (fun _ => ?_) (fun c9 => absurd c9 (by decide))
  exact hret _ _ _ _ _ hw hX4 dX7_air_66

set_option maxHeartbeats 4000000 in
set_option maxRecDepth 100000 in
theorem t2_X7_air (l : Launch) (G : va_G) (dA : Nat → ClassId) (L : List Nat) (f : Nat → va_E) (ad : Nat → Nat) (n nb : Nat) (q qk : Nat → Option Nat) (kel : UInt64) (dmp : UInt64) (spd : UInt64) (ven : UInt64) (lef : UInt64) (gon : Int64) (hr : Nat) (tl : Nat) (st : Nat) (dn : Nat) (thr : Int32) (pa : Nat) (bad : Int32) (num : Int32) (RA : Nat → UInt64) (RB : Nat → UInt64) (TH : Nat → Int32) (DE : Nat → UInt64) (KI : Nat → Int32) (WE : Nat → UInt64) (NX : Nat → UInt64) (LI : Nat → Int32) (LM : Nat → UInt64) (KE : Nat → Int32) (TX : Nat → Int32) (BW : Nat → Int32) (TI : Nat → Int32) (KV : Nat → Int32) (DM : Nat → Int32) (f0 : Nat → va_E) (u v zs : UInt64)  (hC : Cx ad L n nb q qk) (hX : MX ad dA n nb kel dmp spd ven lef gon hr tl st dn thr pa bad num RA RB TH DE KI WE NX LI LM KE TX BW TI KV DM f0 f) (h1 : inB u 4643000109586448384 4645744490609377280 = true) (hbad : inB v FP.dconst0 FP.dconst1 = false)  : mV l yX7_air wsX7_air ({ frames := 1, cells := 0, slots := 0, locals := 25 }) G dA [.ref (ad 16), .double u, .double v, .double zs] L f (fun f2 => MX ad dA n nb kel dmp spd ven lef gon hr tl st dn 1 pa bad num RA RB TH DE KI WE NX LI LM KE TX BW TI KV DM f0 f2) := by
  refine mV_of (cc := cX7_air) (maxL := 7) (by decide) rfl (Nat.le_of_ble_eq_true rfl) ?_
  intro p e s m below meth c A ls Q hx hb hml hown hts hlocks hA hin0 hw hl hret
  have hown : s.vm.findClass RX7 = some m.cls := hown
  have hl : lv_has ls 7 [(0, .ref (ad 16)), (1, .double u), (3, .double v), (5, .double zs)] := hl
  have hi7 : ∀ w ∈ u_ws RX7 TX7 31, w ∈ wsX7_air := by decide +kernel
  refine lv_aload_n hx hb dX7_air_0 rfl (lv_at hl 0 rfl) ?_
  refine lv_dload_n hx hb dX7_air_1 rfl (lv_at hl 1 rfl) ?_
  refine lv_ldc2d (v := 4643000109586448384) hx hb hown (hts (.constantDouble RX7 95 (4643000109586448384)) (by decide +kernel)) dX7_air_2 ?_
  refine lv_ldc2d (v := 4645744490609377280) hx hb hown (hts (.constantDouble RX7 85 (4645744490609377280)) (by decide +kernel)) dX7_air_5 ?_
  refine kS_I (As := [.double u, .double 4643000109586448384, .double 4645744490609377280]) (rest := [.ref (ad 16)]) ⟨hx, hb, hml, hown, hts⟩ (c_X7_isIn l G dA L f u 4643000109586448384 4645744490609377280) (va_cwS 3 hts gX7_air_X7_isIn rfl rfl rfl (by decide +kernel) ⟨Nat.le_of_ble_eq_true rfl, Nat.le_of_ble_eq_true rfl⟩) hw hA rfl hl.1 rfl (Nat.le_of_ble_eq_true rfl) dX7_air_8 ⟨Nat.zero_le _, Nat.zero_le _⟩ (fun r2 f1 H locs hp hw => ?_)
  obtain ⟨e1, e2⟩ := hp
  rw [e2] at hw
  rw [e1]
  refine lv_if_eq (tgt := 39) hx hb dX7_air_11 (by decide) (fun c9 => absurd c9 (by rw [h1]; decide)) (fun _ => ?_)
  refine lv_dload_n hx hb dX7_air_14 rfl (lv_at hl 2 rfl) ?_
  refine lv_dconst0 hx hb dX7_air_15 ?_
  refine lv_dconst1 hx hb dX7_air_16 ?_
  refine kS_I (As := [.double v, .double FP.dconst0, .double FP.dconst1]) (rest := [.ref (ad 16)]) ⟨hx, hb, hml, hown, hts⟩ (c_X7_isIn l G dA L f v FP.dconst0 FP.dconst1) (va_cwS 3 hts gX7_air_X7_isIn rfl rfl rfl (by decide +kernel) ⟨Nat.le_of_ble_eq_true rfl, Nat.le_of_ble_eq_true rfl⟩) hw hA rfl hl.1 rfl (Nat.le_of_ble_eq_true rfl) dX7_air_17 ⟨Nat.zero_le _, Nat.zero_le _⟩ (fun r4 f3 H locs hp hw => ?_)
  obtain ⟨e1, e2⟩ := hp
  rw [e2] at hw
  rw [e1]
  refine lv_if_eq (tgt := 39) hx hb dX7_air_20 (by decide) (fun _ => ?_) (fun c9 => absurd (by rw [hbad]; rfl) c9)
  refine lv_iconst (v := 1) hx hb dX7_air_39 (by decide) ?_
  refine wp_ (C := RX7) (T := TX7) (N := 31) hx hb hts hi7 tyX7 tyX7_ok nmX7 hown hw (hC.m (by decide)) hX.o rfl 0 (by decide) (hts (.fieldLink RX7 78 "LayerMoistureModel" "thrown" "I") (by decide +kernel)) (fun _ h9 => h9) rfl (ty := .int) (v := .int 1) (by decide +kernel) rfl rfl (Nat.le_of_ble_eq_true rfl) dX7_air_40 (fun H locs hw => ?_)
  obtain ⟨f5, ef5⟩ : ∃ z : Nat → va_E, z = va_up f (ad 16) (.inr (8, [.int 1, .int (nI n), .int (nI nb), .ref (ad 17), .ref (ad 18), .double kel, .double dmp, .double spd, .double ven, .double lef, .long gon, .int (nI hr), .ref (ad 19), .ref (ad 20), .ref (ad 21), .ref (ad 22), .ref (ad 23), .ref (ad 24), .ref (ad 25), .ref (ad 26), .ref (ad 27), .int (nI tl), .int (nI pa), .int bad, .int num, .ref (ad 28), .ref (ad 29), .ref (ad 30), .ref (ad 31), .int (nI st), .int (nI dn)])) := ⟨_, rfl⟩
  have hw : ww G dA A s L f5 H locs := by rw [ef5]; exact hw
  have hX6 : MX ad dA n nb kel dmp spd ven lef gon hr tl st dn 1 pa bad num RA RB TH DE KI WE NX LI LM KE TX BW TI KV DM f0 f5 := by rw [ef5]; exact hX.sO hC kel dmp spd ven lef gon hr tl st dn 1 pa bad num
  refine lv_aload_n hx hb dX7_air_43 rfl (lv_at hl 0 rfl) ?_
  refine wg (C := RX7) (T := TX7) (N := 31) hx hb hts hi7 hown hw (hC.m (by decide)) hX6.o rfl 0 (by decide) (hts (.fieldLink RX7 78 "LayerMoistureModel" "thrown" "I") (by decide +kernel)) (fun _ h9 => h9) (v := .int 1) rfl dX7_air_44 ?_
  refine lv_if_ne (tgt := 66) hx hb dX7_air_47 (by decide) (fun _ => ?_) (fun c9 => absurd c9 (by decide))
  exact hret _ _ _ _ _ hw hX6 dX7_air_66

set_option maxHeartbeats 4000000 in
set_option maxRecDepth 100000 in
theorem t3_X7_air (l : Launch) (G : va_G) (dA : Nat → ClassId) (L : List Nat) (f : Nat → va_E) (ad : Nat → Nat) (n nb : Nat) (q qk : Nat → Option Nat) (kel : UInt64) (dmp : UInt64) (spd : UInt64) (ven : UInt64) (lef : UInt64) (gon : Int64) (hr : Nat) (tl : Nat) (st : Nat) (dn : Nat) (thr : Int32) (pa : Nat) (bad : Int32) (num : Int32) (RA : Nat → UInt64) (RB : Nat → UInt64) (TH : Nat → Int32) (DE : Nat → UInt64) (KI : Nat → Int32) (WE : Nat → UInt64) (NX : Nat → UInt64) (LI : Nat → Int32) (LM : Nat → UInt64) (KE : Nat → Int32) (TX : Nat → Int32) (BW : Nat → Int32) (TI : Nat → Int32) (KV : Nat → Int32) (DM : Nat → Int32) (f0 : Nat → va_E) (u v zs : UInt64)  (hC : Cx ad L n nb q qk) (hX : MX ad dA n nb kel dmp spd ven lef gon hr tl st dn thr pa bad num RA RB TH DE KI WE NX LI LM KE TX BW TI KV DM f0 f) (h1 : inB u 4643000109586448384 4645744490609377280 = true) (h2 : inB v FP.dconst0 FP.dconst1 = true) (hbad : inB zs FP.dconst0 4625196817309499392 = false)  : mV l yX7_air wsX7_air ({ frames := 1, cells := 0, slots := 0, locals := 25 }) G dA [.ref (ad 16), .double u, .double v, .double zs] L f (fun f2 => MX ad dA n nb kel dmp spd ven lef gon hr tl st dn 1 pa bad num RA RB TH DE KI WE NX LI LM KE TX BW TI KV DM f0 f2) := by
  refine mV_of (cc := cX7_air) (maxL := 7) (by decide) rfl (Nat.le_of_ble_eq_true rfl) ?_
  intro p e s m below meth c A ls Q hx hb hml hown hts hlocks hA hin0 hw hl hret
  have hown : s.vm.findClass RX7 = some m.cls := hown
  have hl : lv_has ls 7 [(0, .ref (ad 16)), (1, .double u), (3, .double v), (5, .double zs)] := hl
  have hi7 : ∀ w ∈ u_ws RX7 TX7 31, w ∈ wsX7_air := by decide +kernel
  refine lv_aload_n hx hb dX7_air_0 rfl (lv_at hl 0 rfl) ?_
  refine lv_dload_n hx hb dX7_air_1 rfl (lv_at hl 1 rfl) ?_
  refine lv_ldc2d (v := 4643000109586448384) hx hb hown (hts (.constantDouble RX7 95 (4643000109586448384)) (by decide +kernel)) dX7_air_2 ?_
  refine lv_ldc2d (v := 4645744490609377280) hx hb hown (hts (.constantDouble RX7 85 (4645744490609377280)) (by decide +kernel)) dX7_air_5 ?_
  refine kS_I (As := [.double u, .double 4643000109586448384, .double 4645744490609377280]) (rest := [.ref (ad 16)]) ⟨hx, hb, hml, hown, hts⟩ (c_X7_isIn l G dA L f u 4643000109586448384 4645744490609377280) (va_cwS 3 hts gX7_air_X7_isIn rfl rfl rfl (by decide +kernel) ⟨Nat.le_of_ble_eq_true rfl, Nat.le_of_ble_eq_true rfl⟩) hw hA rfl hl.1 rfl (Nat.le_of_ble_eq_true rfl) dX7_air_8 ⟨Nat.zero_le _, Nat.zero_le _⟩ (fun r2 f1 H locs hp hw => ?_)
  obtain ⟨e1, e2⟩ := hp
  rw [e2] at hw
  rw [e1]
  refine lv_if_eq (tgt := 39) hx hb dX7_air_11 (by decide) (fun c9 => absurd c9 (by rw [h1]; decide)) (fun _ => ?_)
  refine lv_dload_n hx hb dX7_air_14 rfl (lv_at hl 2 rfl) ?_
  refine lv_dconst0 hx hb dX7_air_15 ?_
  refine lv_dconst1 hx hb dX7_air_16 ?_
  refine kS_I (As := [.double v, .double FP.dconst0, .double FP.dconst1]) (rest := [.ref (ad 16)]) ⟨hx, hb, hml, hown, hts⟩ (c_X7_isIn l G dA L f v FP.dconst0 FP.dconst1) (va_cwS 3 hts gX7_air_X7_isIn rfl rfl rfl (by decide +kernel) ⟨Nat.le_of_ble_eq_true rfl, Nat.le_of_ble_eq_true rfl⟩) hw hA rfl hl.1 rfl (Nat.le_of_ble_eq_true rfl) dX7_air_17 ⟨Nat.zero_le _, Nat.zero_le _⟩ (fun r4 f3 H locs hp hw => ?_)
  obtain ⟨e1, e2⟩ := hp
  rw [e2] at hw
  rw [e1]
  refine lv_if_eq (tgt := 39) hx hb dX7_air_20 (by decide) (fun c9 => absurd c9 (by rw [h2]; decide)) (fun _ => ?_)
  refine lv_dload hx hb dX7_air_23 (lv_at hl 3 rfl) ?_
  refine lv_dconst0 hx hb dX7_air_25 ?_
  refine lv_ldc2d (v := 4625196817309499392) hx hb hown (hts (.constantDouble RX7 97 (4625196817309499392)) (by decide +kernel)) dX7_air_26 ?_
  refine kS_I (As := [.double zs, .double FP.dconst0, .double 4625196817309499392]) (rest := [.ref (ad 16)]) ⟨hx, hb, hml, hown, hts⟩ (c_X7_isIn l G dA L f zs FP.dconst0 4625196817309499392) (va_cwS 3 hts gX7_air_X7_isIn rfl rfl rfl (by decide +kernel) ⟨Nat.le_of_ble_eq_true rfl, Nat.le_of_ble_eq_true rfl⟩) hw hA rfl hl.1 rfl (Nat.le_of_ble_eq_true rfl) dX7_air_29 ⟨Nat.zero_le _, Nat.zero_le _⟩ (fun r6 f5 H locs hp hw => ?_)
  obtain ⟨e1, e2⟩ := hp
  rw [e2] at hw
  rw [e1]
  refine lv_if_eq (tgt := 39) hx hb dX7_air_32 (by decide) (fun _ => ?_) (fun c9 => absurd (by rw [hbad]; rfl) c9)
  refine lv_iconst (v := 1) hx hb dX7_air_39 (by decide) ?_
  refine wp_ (C := RX7) (T := TX7) (N := 31) hx hb hts hi7 tyX7 tyX7_ok nmX7 hown hw (hC.m (by decide)) hX.o rfl 0 (by decide) (hts (.fieldLink RX7 78 "LayerMoistureModel" "thrown" "I") (by decide +kernel)) (fun _ h9 => h9) rfl (ty := .int) (v := .int 1) (by decide +kernel) rfl rfl (Nat.le_of_ble_eq_true rfl) dX7_air_40 (fun H locs hw => ?_)
  obtain ⟨f7, ef7⟩ : ∃ z : Nat → va_E, z = va_up f (ad 16) (.inr (8, [.int 1, .int (nI n), .int (nI nb), .ref (ad 17), .ref (ad 18), .double kel, .double dmp, .double spd, .double ven, .double lef, .long gon, .int (nI hr), .ref (ad 19), .ref (ad 20), .ref (ad 21), .ref (ad 22), .ref (ad 23), .ref (ad 24), .ref (ad 25), .ref (ad 26), .ref (ad 27), .int (nI tl), .int (nI pa), .int bad, .int num, .ref (ad 28), .ref (ad 29), .ref (ad 30), .ref (ad 31), .int (nI st), .int (nI dn)])) := ⟨_, rfl⟩
  have hw : ww G dA A s L f7 H locs := by rw [ef7]; exact hw
  have hX8 : MX ad dA n nb kel dmp spd ven lef gon hr tl st dn 1 pa bad num RA RB TH DE KI WE NX LI LM KE TX BW TI KV DM f0 f7 := by rw [ef7]; exact hX.sO hC kel dmp spd ven lef gon hr tl st dn 1 pa bad num
  refine lv_aload_n hx hb dX7_air_43 rfl (lv_at hl 0 rfl) ?_
  refine wg (C := RX7) (T := TX7) (N := 31) hx hb hts hi7 hown hw (hC.m (by decide)) hX8.o rfl 0 (by decide) (hts (.fieldLink RX7 78 "LayerMoistureModel" "thrown" "I") (by decide +kernel)) (fun _ h9 => h9) (v := .int 1) rfl dX7_air_44 ?_
  refine lv_if_ne (tgt := 66) hx hb dX7_air_47 (by decide) (fun _ => ?_) (fun c9 => absurd c9 (by decide))
  exact hret _ _ _ _ _ hw hX8 dX7_air_66

set_option maxHeartbeats 4000000 in
set_option maxRecDepth 100000 in
theorem c_X7_air (l : Launch) (G : va_G) (dA : Nat → ClassId) (L : List Nat) (f : Nat → va_E) (ad : Nat → Nat) (n nb : Nat) (q qk : Nat → Option Nat) (kel : UInt64) (dmp : UInt64) (spd : UInt64) (ven : UInt64) (lef : UInt64) (gon : Int64) (hr : Nat) (tl : Nat) (st : Nat) (dn : Nat) (thr : Int32) (pa : Nat) (bad : Int32) (num : Int32) (RA : Nat → UInt64) (RB : Nat → UInt64) (TH : Nat → Int32) (DE : Nat → UInt64) (KI : Nat → Int32) (WE : Nat → UInt64) (NX : Nat → UInt64) (LI : Nat → Int32) (LM : Nat → UInt64) (KE : Nat → Int32) (TX : Nat → Int32) (BW : Nat → Int32) (TI : Nat → Int32) (KV : Nat → Int32) (DM : Nat → Int32) (f0 : Nat → va_E) (u v zs : UInt64)  (hC : Cx ad L n nb q qk) (hX : MX ad dA n nb kel dmp spd ven lef gon hr tl st dn thr pa bad num RA RB TH DE KI WE NX LI LM KE TX BW TI KV DM f0 f) (h1 : inB u 4643000109586448384 4645744490609377280 = true) (h2 : inB v FP.dconst0 FP.dconst1 = true) (h3 : inB zs FP.dconst0 4625196817309499392 = true)  : mV l yX7_air wsX7_air ({ frames := 1, cells := 0, slots := 0, locals := 25 }) G dA [.ref (ad 16), .double u, .double v, .double zs] L f (fun f2 => MX ad dA n nb u v zs ven lef gon hr tl st dn 0 pa bad num RA RB TH DE KI WE NX LI LM KE TX BW TI KV DM f0 f2) := by
  refine mV_of (cc := cX7_air) (maxL := 7) (by decide) rfl (Nat.le_of_ble_eq_true rfl) ?_
  intro p e s m below meth c A ls Q hx hb hml hown hts hlocks hA hin0 hw hl hret
  have hown : s.vm.findClass RX7 = some m.cls := hown
  have hl : lv_has ls 7 [(0, .ref (ad 16)), (1, .double u), (3, .double v), (5, .double zs)] := hl
  have hi7 : ∀ w ∈ u_ws RX7 TX7 31, w ∈ wsX7_air := by decide +kernel
  refine lv_aload_n hx hb dX7_air_0 rfl (lv_at hl 0 rfl) ?_
  refine lv_dload_n hx hb dX7_air_1 rfl (lv_at hl 1 rfl) ?_
  refine lv_ldc2d (v := 4643000109586448384) hx hb hown (hts (.constantDouble RX7 95 (4643000109586448384)) (by decide +kernel)) dX7_air_2 ?_
  refine lv_ldc2d (v := 4645744490609377280) hx hb hown (hts (.constantDouble RX7 85 (4645744490609377280)) (by decide +kernel)) dX7_air_5 ?_
  refine kS_I (As := [.double u, .double 4643000109586448384, .double 4645744490609377280]) (rest := [.ref (ad 16)]) ⟨hx, hb, hml, hown, hts⟩ (c_X7_isIn l G dA L f u 4643000109586448384 4645744490609377280) (va_cwS 3 hts gX7_air_X7_isIn rfl rfl rfl (by decide +kernel) ⟨Nat.le_of_ble_eq_true rfl, Nat.le_of_ble_eq_true rfl⟩) hw hA rfl hl.1 rfl (Nat.le_of_ble_eq_true rfl) dX7_air_8 ⟨Nat.zero_le _, Nat.zero_le _⟩ (fun r2 f1 H locs hp hw => ?_)
  obtain ⟨e1, e2⟩ := hp
  rw [e2] at hw
  rw [e1]
  refine lv_if_eq (tgt := 39) hx hb dX7_air_11 (by decide) (fun c9 => absurd c9 (by rw [h1]; decide)) (fun _ => ?_)
  refine lv_dload_n hx hb dX7_air_14 rfl (lv_at hl 2 rfl) ?_
  refine lv_dconst0 hx hb dX7_air_15 ?_
  refine lv_dconst1 hx hb dX7_air_16 ?_
  refine kS_I (As := [.double v, .double FP.dconst0, .double FP.dconst1]) (rest := [.ref (ad 16)]) ⟨hx, hb, hml, hown, hts⟩ (c_X7_isIn l G dA L f v FP.dconst0 FP.dconst1) (va_cwS 3 hts gX7_air_X7_isIn rfl rfl rfl (by decide +kernel) ⟨Nat.le_of_ble_eq_true rfl, Nat.le_of_ble_eq_true rfl⟩) hw hA rfl hl.1 rfl (Nat.le_of_ble_eq_true rfl) dX7_air_17 ⟨Nat.zero_le _, Nat.zero_le _⟩ (fun r4 f3 H locs hp hw => ?_)
  obtain ⟨e1, e2⟩ := hp
  rw [e2] at hw
  rw [e1]
  refine lv_if_eq (tgt := 39) hx hb dX7_air_20 (by decide) (fun c9 => absurd c9 (by rw [h2]; decide)) (fun _ => ?_)
  refine lv_dload hx hb dX7_air_23 (lv_at hl 3 rfl) ?_
  refine lv_dconst0 hx hb dX7_air_25 ?_
  refine lv_ldc2d (v := 4625196817309499392) hx hb hown (hts (.constantDouble RX7 97 (4625196817309499392)) (by decide +kernel)) dX7_air_26 ?_
  refine kS_I (As := [.double zs, .double FP.dconst0, .double 4625196817309499392]) (rest := [.ref (ad 16)]) ⟨hx, hb, hml, hown, hts⟩ (c_X7_isIn l G dA L f zs FP.dconst0 4625196817309499392) (va_cwS 3 hts gX7_air_X7_isIn rfl rfl rfl (by decide +kernel) ⟨Nat.le_of_ble_eq_true rfl, Nat.le_of_ble_eq_true rfl⟩) hw hA rfl hl.1 rfl (Nat.le_of_ble_eq_true rfl) dX7_air_29 ⟨Nat.zero_le _, Nat.zero_le _⟩ (fun r6 f5 H locs hp hw => ?_)
  obtain ⟨e1, e2⟩ := hp
  rw [e2] at hw
  rw [e1]
  refine lv_if_eq (tgt := 39) hx hb dX7_air_32 (by decide) (fun c9 => absurd c9 (by rw [h3]; decide)) (fun _ => ?_)
  refine lv_iconst (v := 0) hx hb dX7_air_35 (by decide) ?_
  refine lv_goto (tgt := 40) hx hb dX7_air_36 (by decide) ?_
  refine wp_ (C := RX7) (T := TX7) (N := 31) hx hb hts hi7 tyX7 tyX7_ok nmX7 hown hw (hC.m (by decide)) hX.o rfl 0 (by decide) (hts (.fieldLink RX7 78 "LayerMoistureModel" "thrown" "I") (by decide +kernel)) (fun _ h9 => h9) rfl (ty := .int) (v := .int 0) (by decide +kernel) rfl rfl (Nat.le_of_ble_eq_true rfl) dX7_air_40 (fun H locs hw => ?_)
  obtain ⟨f7, ef7⟩ : ∃ z : Nat → va_E, z = va_up f (ad 16) (.inr (8, [.int 0, .int (nI n), .int (nI nb), .ref (ad 17), .ref (ad 18), .double kel, .double dmp, .double spd, .double ven, .double lef, .long gon, .int (nI hr), .ref (ad 19), .ref (ad 20), .ref (ad 21), .ref (ad 22), .ref (ad 23), .ref (ad 24), .ref (ad 25), .ref (ad 26), .ref (ad 27), .int (nI tl), .int (nI pa), .int bad, .int num, .ref (ad 28), .ref (ad 29), .ref (ad 30), .ref (ad 31), .int (nI st), .int (nI dn)])) := ⟨_, rfl⟩
  have hw : ww G dA A s L f7 H locs := by rw [ef7]; exact hw
  have hX8 : MX ad dA n nb kel dmp spd ven lef gon hr tl st dn 0 pa bad num RA RB TH DE KI WE NX LI LM KE TX BW TI KV DM f0 f7 := by rw [ef7]; exact hX.sO hC kel dmp spd ven lef gon hr tl st dn 0 pa bad num
  refine lv_aload_n hx hb dX7_air_43 rfl (lv_at hl 0 rfl) ?_
  refine wg (C := RX7) (T := TX7) (N := 31) hx hb hts hi7 hown hw (hC.m (by decide)) hX8.o rfl 0 (by decide) (hts (.fieldLink RX7 78 "LayerMoistureModel" "thrown" "I") (by decide +kernel)) (fun _ h9 => h9) (v := .int 0) rfl dX7_air_44 ?_
  refine lv_if_ne (tgt := 66) hx hb dX7_air_47 (by decide) (fun c9 => absurd c9 (fun h7 => h7 rfl)) (fun _ => ?_)
  refine lv_aload_n hx hb dX7_air_50 rfl (lv_at hl 0 rfl) ?_
  refine lv_dload_n hx hb dX7_air_51 rfl (lv_at hl 1 rfl) ?_
  refine wp_ (C := RX7) (T := TX7) (N := 31) hx hb hts hi7 tyX7 tyX7_ok nmX7 hown hw (hC.m (by decide)) hX8.o rfl 5 (by decide) (hts (.fieldLink RX7 18 "LayerMoistureModel" "kelvin" "D") (by decide +kernel)) (fun _ h9 => h9) rfl (ty := .double) (v := .double u) (by decide +kernel) rfl rfl (Nat.le_of_ble_eq_true rfl) dX7_air_52 (fun H locs hw => ?_)
  obtain ⟨f9, ef9⟩ : ∃ z : Nat → va_E, z = va_up f7 (ad 16) (.inr (8, [.int 0, .int (nI n), .int (nI nb), .ref (ad 17), .ref (ad 18), .double u, .double dmp, .double spd, .double ven, .double lef, .long gon, .int (nI hr), .ref (ad 19), .ref (ad 20), .ref (ad 21), .ref (ad 22), .ref (ad 23), .ref (ad 24), .ref (ad 25), .ref (ad 26), .ref (ad 27), .int (nI tl), .int (nI pa), .int bad, .int num, .ref (ad 28), .ref (ad 29), .ref (ad 30), .ref (ad 31), .int (nI st), .int (nI dn)])) := ⟨_, rfl⟩
  have hw : ww G dA A s L f9 H locs := by rw [ef9]; exact hw
  have hX10 : MX ad dA n nb u dmp spd ven lef gon hr tl st dn 0 pa bad num RA RB TH DE KI WE NX LI LM KE TX BW TI KV DM f0 f9 := by rw [ef9]; exact hX8.sO hC u dmp spd ven lef gon hr tl st dn 0 pa bad num
  refine lv_aload_n hx hb dX7_air_55 rfl (lv_at hl 0 rfl) ?_
  refine lv_dload_n hx hb dX7_air_56 rfl (lv_at hl 2 rfl) ?_
  refine wp_ (C := RX7) (T := TX7) (N := 31) hx hb hts hi7 tyX7 tyX7_ok nmX7 hown hw (hC.m (by decide)) hX10.o rfl 6 (by decide) (hts (.fieldLink RX7 24 "LayerMoistureModel" "damp" "D") (by decide +kernel)) (fun _ h9 => h9) rfl (ty := .double) (v := .double v) (by decide +kernel) rfl rfl (Nat.le_of_ble_eq_true rfl) dX7_air_57 (fun H locs hw => ?_)
  obtain ⟨f11, ef11⟩ : ∃ z : Nat → va_E, z = va_up f9 (ad 16) (.inr (8, [.int 0, .int (nI n), .int (nI nb), .ref (ad 17), .ref (ad 18), .double u, .double v, .double spd, .double ven, .double lef, .long gon, .int (nI hr), .ref (ad 19), .ref (ad 20), .ref (ad 21), .ref (ad 22), .ref (ad 23), .ref (ad 24), .ref (ad 25), .ref (ad 26), .ref (ad 27), .int (nI tl), .int (nI pa), .int bad, .int num, .ref (ad 28), .ref (ad 29), .ref (ad 30), .ref (ad 31), .int (nI st), .int (nI dn)])) := ⟨_, rfl⟩
  have hw : ww G dA A s L f11 H locs := by rw [ef11]; exact hw
  have hX12 : MX ad dA n nb u v spd ven lef gon hr tl st dn 0 pa bad num RA RB TH DE KI WE NX LI LM KE TX BW TI KV DM f0 f11 := by rw [ef11]; exact hX10.sO hC u v spd ven lef gon hr tl st dn 0 pa bad num
  refine lv_aload_n hx hb dX7_air_60 rfl (lv_at hl 0 rfl) ?_
  refine lv_dload hx hb dX7_air_61 (lv_at hl 3 rfl) ?_
  refine wp_ (C := RX7) (T := TX7) (N := 31) hx hb hts hi7 tyX7 tyX7_ok nmX7 hown hw (hC.m (by decide)) hX12.o rfl 7 (by decide) (hts (.fieldLink RX7 27 "LayerMoistureModel" "speed" "D") (by decide +kernel)) (fun _ h9 => h9) rfl (ty := .double) (v := .double zs) (by decide +kernel) rfl rfl (Nat.le_of_ble_eq_true rfl) dX7_air_63 (fun H locs hw => ?_)
  obtain ⟨f13, ef13⟩ : ∃ z : Nat → va_E, z = va_up f11 (ad 16) (.inr (8, [.int 0, .int (nI n), .int (nI nb), .ref (ad 17), .ref (ad 18), .double u, .double v, .double zs, .double ven, .double lef, .long gon, .int (nI hr), .ref (ad 19), .ref (ad 20), .ref (ad 21), .ref (ad 22), .ref (ad 23), .ref (ad 24), .ref (ad 25), .ref (ad 26), .ref (ad 27), .int (nI tl), .int (nI pa), .int bad, .int num, .ref (ad 28), .ref (ad 29), .ref (ad 30), .ref (ad 31), .int (nI st), .int (nI dn)])) := ⟨_, rfl⟩
  have hw : ww G dA A s L f13 H locs := by rw [ef13]; exact hw
  have hX14 : MX ad dA n nb u v zs ven lef gon hr tl st dn 0 pa bad num RA RB TH DE KI WE NX LI LM KE TX BW TI KV DM f0 f13 := by rw [ef13]; exact hX12.sO hC u v zs ven lef gon hr tl st dn 0 pa bad num
  exact hret _ _ _ _ _ hw hX14 dX7_air_66

set_option maxHeartbeats 4000000 in
set_option maxRecDepth 100000 in
theorem t1_X7_vent (l : Launch) (G : va_G) (dA : Nat → ClassId) (L : List Nat) (f : Nat → va_E) (ad : Nat → Nat) (n nb : Nat) (q qk : Nat → Option Nat) (kel : UInt64) (dmp : UInt64) (spd : UInt64) (ven : UInt64) (lef : UInt64) (gon : Int64) (hr : Nat) (tl : Nat) (st : Nat) (dn : Nat) (thr : Int32) (pa : Nat) (bad : Int32) (num : Int32) (RA : Nat → UInt64) (RB : Nat → UInt64) (TH : Nat → Int32) (DE : Nat → UInt64) (KI : Nat → Int32) (WE : Nat → UInt64) (NX : Nat → UInt64) (LI : Nat → Int32) (LM : Nat → UInt64) (KE : Nat → Int32) (TX : Nat → Int32) (BW : Nat → Int32) (TI : Nat → Int32) (KV : Nat → Int32) (DM : Nat → Int32) (f0 : Nat → va_E) (u : UInt64)  (hC : Cx ad L n nb q qk) (hX : MX ad dA n nb kel dmp spd ven lef gon hr tl st dn thr pa bad num RA RB TH DE KI WE NX LI LM KE TX BW TI KV DM f0 f) (hbad : inB u FP.dconst0 FP.dconst1 = false)  : mV l yX7_vent wsX7_vent ({ frames := 1, cells := 0, slots := 0, locals := 25 }) G dA [.ref (ad 16), .double u] L f (fun f2 => MX ad dA n nb kel dmp spd ven lef gon hr tl st dn 1 pa bad num RA RB TH DE KI WE NX LI LM KE TX BW TI KV DM f0 f2) := by
  refine mV_of (cc := cX7_vent) (maxL := 3) (by decide) rfl (Nat.le_of_ble_eq_true rfl) ?_
  intro p e s m below meth c A ls Q hx hb hml hown hts hlocks hA hin0 hw hl hret
  have hown : s.vm.findClass RX7 = some m.cls := hown
  have hl : lv_has ls 3 [(0, .ref (ad 16)), (1, .double u)] := hl
  have hi7 : ∀ w ∈ u_ws RX7 TX7 31, w ∈ wsX7_vent := by decide +kernel
  refine lv_aload_n hx hb dX7_vent_0 rfl (lv_at hl 0 rfl) ?_
  refine lv_dload_n hx hb dX7_vent_1 rfl (lv_at hl 1 rfl) ?_
  refine lv_dconst0 hx hb dX7_vent_2 ?_
  refine lv_dconst1 hx hb dX7_vent_3 ?_
  refine kS_I (As := [.double u, .double FP.dconst0, .double FP.dconst1]) (rest := [.ref (ad 16)]) ⟨hx, hb, hml, hown, hts⟩ (c_X7_isIn l G dA L f u FP.dconst0 FP.dconst1) (va_cwS 3 hts gX7_vent_X7_isIn rfl rfl rfl (by decide +kernel) ⟨Nat.le_of_ble_eq_true rfl, Nat.le_of_ble_eq_true rfl⟩) hw hA rfl hl.1 rfl (Nat.le_of_ble_eq_true rfl) dX7_vent_4 ⟨Nat.zero_le _, Nat.zero_le _⟩ (fun r2 f1 H locs hp hw => ?_)
  obtain ⟨e1, e2⟩ := hp
  rw [e2] at hw
  rw [e1]
  refine lv_if_eq (tgt := 14) hx hb dX7_vent_7 (by decide) (fun _ => ?_) (fun c9 => absurd (by rw [hbad]; rfl) c9)
  refine lv_iconst (v := 1) hx hb dX7_vent_14 (by decide) ?_
  refine wp_ (C := RX7) (T := TX7) (N := 31) hx hb hts hi7 tyX7 tyX7_ok nmX7 hown hw (hC.m (by decide)) hX.o rfl 0 (by decide) (hts (.fieldLink RX7 78 "LayerMoistureModel" "thrown" "I") (by decide +kernel)) (fun _ h9 => h9) rfl (ty := .int) (v := .int 1) (by decide +kernel) rfl rfl (Nat.le_of_ble_eq_true rfl) dX7_vent_15 (fun H locs hw => ?_)
  obtain ⟨f3, ef3⟩ : ∃ z : Nat → va_E, z = va_up f (ad 16) (.inr (8, [.int 1, .int (nI n), .int (nI nb), .ref (ad 17), .ref (ad 18), .double kel, .double dmp, .double spd, .double ven, .double lef, .long gon, .int (nI hr), .ref (ad 19), .ref (ad 20), .ref (ad 21), .ref (ad 22), .ref (ad 23), .ref (ad 24), .ref (ad 25), .ref (ad 26), .ref (ad 27), .int (nI tl), .int (nI pa), .int bad, .int num, .ref (ad 28), .ref (ad 29), .ref (ad 30), .ref (ad 31), .int (nI st), .int (nI dn)])) := ⟨_, rfl⟩
  have hw : ww G dA A s L f3 H locs := by rw [ef3]; exact hw
  have hX4 : MX ad dA n nb kel dmp spd ven lef gon hr tl st dn 1 pa bad num RA RB TH DE KI WE NX LI LM KE TX BW TI KV DM f0 f3 := by rw [ef3]; exact hX.sO hC kel dmp spd ven lef gon hr tl st dn 1 pa bad num
  refine lv_aload_n hx hb dX7_vent_18 rfl (lv_at hl 0 rfl) ?_
  refine lv_aload_n hx hb dX7_vent_19 rfl (lv_at hl 0 rfl) ?_
  refine wg (C := RX7) (T := TX7) (N := 31) hx hb hts hi7 hown hw (hC.m (by decide)) hX4.o rfl 0 (by decide) (hts (.fieldLink RX7 78 "LayerMoistureModel" "thrown" "I") (by decide +kernel)) (fun _ h9 => h9) (v := .int 1) rfl dX7_vent_20 ?_
  refine lv_if_le (tgt := 33) hx hb dX7_vent_23 (by decide) (fun c9 => absurd c9 (by decide)) (fun _ => ?_)
  refine lv_aload_n hx hb dX7_vent_26 rfl (lv_at hl 0 rfl) ?_
  refine wg (C := RX7) (T := TX7) (N := 31) hx hb hts hi7 hown hw (hC.m (by decide)) hX4.o rfl 8 (by decide) (hts (.fieldLink RX7 99 "LayerMoistureModel" "vent" "D") (by decide +kernel)) (fun _ h9 => h9) (v := .double ven) rfl dX7_vent_27 ?_
  refine lv_goto (tgt := 34) hx hb dX7_vent_30 (by decide) ?_
  refine wp_ (C := RX7) (T := TX7) (N := 31) hx hb hts hi7 tyX7 tyX7_ok nmX7 hown hw (hC.m (by decide)) hX4.o rfl 8 (by decide) (hts (.fieldLink RX7 99 "LayerMoistureModel" "vent" "D") (by decide +kernel)) (fun _ h9 => h9) rfl (ty := .double) (v := .double ven) (by decide +kernel) rfl rfl (Nat.le_of_ble_eq_true rfl) dX7_vent_34 (fun H locs hw => ?_)
  obtain ⟨f5, ef5⟩ : ∃ z : Nat → va_E, z = va_up f3 (ad 16) (.inr (8, [.int 1, .int (nI n), .int (nI nb), .ref (ad 17), .ref (ad 18), .double kel, .double dmp, .double spd, .double ven, .double lef, .long gon, .int (nI hr), .ref (ad 19), .ref (ad 20), .ref (ad 21), .ref (ad 22), .ref (ad 23), .ref (ad 24), .ref (ad 25), .ref (ad 26), .ref (ad 27), .int (nI tl), .int (nI pa), .int bad, .int num, .ref (ad 28), .ref (ad 29), .ref (ad 30), .ref (ad 31), .int (nI st), .int (nI dn)])) := ⟨_, rfl⟩
  have hw : ww G dA A s L f5 H locs := by rw [ef5]; exact hw
  have hX6 : MX ad dA n nb kel dmp spd ven lef gon hr tl st dn 1 pa bad num RA RB TH DE KI WE NX LI LM KE TX BW TI KV DM f0 f5 := by rw [ef5]; exact hX4.sO hC kel dmp spd ven lef gon hr tl st dn 1 pa bad num
  exact hret _ _ _ _ _ hw hX6 dX7_vent_37

set_option maxHeartbeats 4000000 in
set_option maxRecDepth 100000 in
theorem c_X7_vent (l : Launch) (G : va_G) (dA : Nat → ClassId) (L : List Nat) (f : Nat → va_E) (ad : Nat → Nat) (n nb : Nat) (q qk : Nat → Option Nat) (kel : UInt64) (dmp : UInt64) (spd : UInt64) (ven : UInt64) (lef : UInt64) (gon : Int64) (hr : Nat) (tl : Nat) (st : Nat) (dn : Nat) (thr : Int32) (pa : Nat) (bad : Int32) (num : Int32) (RA : Nat → UInt64) (RB : Nat → UInt64) (TH : Nat → Int32) (DE : Nat → UInt64) (KI : Nat → Int32) (WE : Nat → UInt64) (NX : Nat → UInt64) (LI : Nat → Int32) (LM : Nat → UInt64) (KE : Nat → Int32) (TX : Nat → Int32) (BW : Nat → Int32) (TI : Nat → Int32) (KV : Nat → Int32) (DM : Nat → Int32) (f0 : Nat → va_E) (u : UInt64)  (hC : Cx ad L n nb q qk) (hX : MX ad dA n nb kel dmp spd ven lef gon hr tl st dn thr pa bad num RA RB TH DE KI WE NX LI LM KE TX BW TI KV DM f0 f) (h1 : inB u FP.dconst0 FP.dconst1 = true)  : mV l yX7_vent wsX7_vent ({ frames := 1, cells := 0, slots := 0, locals := 25 }) G dA [.ref (ad 16), .double u] L f (fun f2 => MX ad dA n nb kel dmp spd u lef gon hr tl st dn 0 pa bad num RA RB TH DE KI WE NX LI LM KE TX BW TI KV DM f0 f2) := by
  refine mV_of (cc := cX7_vent) (maxL := 3) (by decide) rfl (Nat.le_of_ble_eq_true rfl) ?_
  intro p e s m below meth c A ls Q hx hb hml hown hts hlocks hA hin0 hw hl hret
  have hown : s.vm.findClass RX7 = some m.cls := hown
  have hl : lv_has ls 3 [(0, .ref (ad 16)), (1, .double u)] := hl
  have hi7 : ∀ w ∈ u_ws RX7 TX7 31, w ∈ wsX7_vent := by decide +kernel
  refine lv_aload_n hx hb dX7_vent_0 rfl (lv_at hl 0 rfl) ?_
  refine lv_dload_n hx hb dX7_vent_1 rfl (lv_at hl 1 rfl) ?_
  refine lv_dconst0 hx hb dX7_vent_2 ?_
  refine lv_dconst1 hx hb dX7_vent_3 ?_
  refine kS_I (As := [.double u, .double FP.dconst0, .double FP.dconst1]) (rest := [.ref (ad 16)]) ⟨hx, hb, hml, hown, hts⟩ (c_X7_isIn l G dA L f u FP.dconst0 FP.dconst1) (va_cwS 3 hts gX7_vent_X7_isIn rfl rfl rfl (by decide +kernel) ⟨Nat.le_of_ble_eq_true rfl, Nat.le_of_ble_eq_true rfl⟩) hw hA rfl hl.1 rfl (Nat.le_of_ble_eq_true rfl) dX7_vent_4 ⟨Nat.zero_le _, Nat.zero_le _⟩ (fun r2 f1 H locs hp hw => ?_)
  obtain ⟨e1, e2⟩ := hp
  rw [e2] at hw
  rw [e1]
  refine lv_if_eq (tgt := 14) hx hb dX7_vent_7 (by decide) (fun c9 => absurd c9 (by rw [h1]; decide)) (fun _ => ?_)
  refine lv_iconst (v := 0) hx hb dX7_vent_10 (by decide) ?_
  refine lv_goto (tgt := 15) hx hb dX7_vent_11 (by decide) ?_
  refine wp_ (C := RX7) (T := TX7) (N := 31) hx hb hts hi7 tyX7 tyX7_ok nmX7 hown hw (hC.m (by decide)) hX.o rfl 0 (by decide) (hts (.fieldLink RX7 78 "LayerMoistureModel" "thrown" "I") (by decide +kernel)) (fun _ h9 => h9) rfl (ty := .int) (v := .int 0) (by decide +kernel) rfl rfl (Nat.le_of_ble_eq_true rfl) dX7_vent_15 (fun H locs hw => ?_)
  obtain ⟨f3, ef3⟩ : ∃ z : Nat → va_E, z = va_up f (ad 16) (.inr (8, [.int 0, .int (nI n), .int (nI nb), .ref (ad 17), .ref (ad 18), .double kel, .double dmp, .double spd, .double ven, .double lef, .long gon, .int (nI hr), .ref (ad 19), .ref (ad 20), .ref (ad 21), .ref (ad 22), .ref (ad 23), .ref (ad 24), .ref (ad 25), .ref (ad 26), .ref (ad 27), .int (nI tl), .int (nI pa), .int bad, .int num, .ref (ad 28), .ref (ad 29), .ref (ad 30), .ref (ad 31), .int (nI st), .int (nI dn)])) := ⟨_, rfl⟩
  have hw : ww G dA A s L f3 H locs := by rw [ef3]; exact hw
  have hX4 : MX ad dA n nb kel dmp spd ven lef gon hr tl st dn 0 pa bad num RA RB TH DE KI WE NX LI LM KE TX BW TI KV DM f0 f3 := by rw [ef3]; exact hX.sO hC kel dmp spd ven lef gon hr tl st dn 0 pa bad num
  refine lv_aload_n hx hb dX7_vent_18 rfl (lv_at hl 0 rfl) ?_
  refine lv_aload_n hx hb dX7_vent_19 rfl (lv_at hl 0 rfl) ?_
  refine wg (C := RX7) (T := TX7) (N := 31) hx hb hts hi7 hown hw (hC.m (by decide)) hX4.o rfl 0 (by decide) (hts (.fieldLink RX7 78 "LayerMoistureModel" "thrown" "I") (by decide +kernel)) (fun _ h9 => h9) (v := .int 0) rfl dX7_vent_20 ?_
  refine lv_if_le (tgt := 33) hx hb dX7_vent_23 (by decide) (fun _ => ?_) (fun c9 => absurd (by decide) c9)
  refine lv_dload_n hx hb dX7_vent_33 rfl (lv_at hl 1 rfl) ?_
  refine wp_ (C := RX7) (T := TX7) (N := 31) hx hb hts hi7 tyX7 tyX7_ok nmX7 hown hw (hC.m (by decide)) hX4.o rfl 8 (by decide) (hts (.fieldLink RX7 99 "LayerMoistureModel" "vent" "D") (by decide +kernel)) (fun _ h9 => h9) rfl (ty := .double) (v := .double u) (by decide +kernel) rfl rfl (Nat.le_of_ble_eq_true rfl) dX7_vent_34 (fun H locs hw => ?_)
  obtain ⟨f5, ef5⟩ : ∃ z : Nat → va_E, z = va_up f3 (ad 16) (.inr (8, [.int 0, .int (nI n), .int (nI nb), .ref (ad 17), .ref (ad 18), .double kel, .double dmp, .double spd, .double u, .double lef, .long gon, .int (nI hr), .ref (ad 19), .ref (ad 20), .ref (ad 21), .ref (ad 22), .ref (ad 23), .ref (ad 24), .ref (ad 25), .ref (ad 26), .ref (ad 27), .int (nI tl), .int (nI pa), .int bad, .int num, .ref (ad 28), .ref (ad 29), .ref (ad 30), .ref (ad 31), .int (nI st), .int (nI dn)])) := ⟨_, rfl⟩
  have hw : ww G dA A s L f5 H locs := by rw [ef5]; exact hw
  have hX6 : MX ad dA n nb kel dmp spd u lef gon hr tl st dn 0 pa bad num RA RB TH DE KI WE NX LI LM KE TX BW TI KV DM f0 f5 := by rw [ef5]; exact hX4.sO hC kel dmp spd u lef gon hr tl st dn 0 pa bad num
  exact hret _ _ _ _ _ hw hX6 dX7_vent_37

set_option maxHeartbeats 4000000 in
set_option maxRecDepth 100000 in
theorem t1_X7_soak (l : Launch) (G : va_G) (dA : Nat → ClassId) (L : List Nat) (f : Nat → va_E) (ad : Nat → Nat) (n nb : Nat) (q qk : Nat → Option Nat) (kel : UInt64) (dmp : UInt64) (spd : UInt64) (ven : UInt64) (lef : UInt64) (gon : Int64) (hr : Nat) (tl : Nat) (st : Nat) (dn : Nat) (thr : Int32) (pa : Nat) (bad : Int32) (num : Int32) (RA : Nat → UInt64) (RB : Nat → UInt64) (TH : Nat → Int32) (DE : Nat → UInt64) (KI : Nat → Int32) (WE : Nat → UInt64) (NX : Nat → UInt64) (LI : Nat → Int32) (LM : Nat → UInt64) (KE : Nat → Int32) (TX : Nat → Int32) (BW : Nat → Int32) (TI : Nat → Int32) (KV : Nat → Int32) (DM : Nat → Int32) (f0 : Nat → va_E) (k i : Int32) (u : UInt64)  (hC : Cx ad L n nb q qk) (hX : MX ad dA n nb kel dmp spd ven lef gon hr tl st dn thr pa bad num RA RB TH DE KI WE NX LI LM KE TX BW TI KV DM f0 f) (hbad : noL n nb k i = true)  : mV l yX7_soak wsX7_soak ({ frames := 2, cells := 0, slots := 0, locals := 43 }) G dA [.ref (ad 16), .int k, .int i, .double u] L f (fun f2 => MX ad dA n nb kel dmp spd ven lef gon hr tl st dn 1 pa bad num RA RB TH DE KI WE NX LI LM KE TX BW TI KV DM f0 f2) := by
  refine mV_of (cc := cX7_soak) (maxL := 5) (by decide) rfl (Nat.le_of_ble_eq_true rfl) ?_
  intro p e s m below meth c A ls Q hx hb hml hown hts hlocks hA hin0 hw hl hret
  have hown : s.vm.findClass RX7 = some m.cls := hown
  have hl : lv_has ls 5 [(0, .ref (ad 16)), (1, .int k), (2, .int i), (3, .double u)] := hl
  have hi7 : ∀ w ∈ u_ws RX7 TX7 31, w ∈ wsX7_soak := by decide +kernel
  refine lv_aload_n hx hb dX7_soak_0 rfl (lv_at hl 0 rfl) ?_
  refine lv_aload_n hx hb dX7_soak_1 rfl (lv_at hl 0 rfl) ?_
  refine lv_iload_n hx hb dX7_soak_2 rfl (lv_at hl 1 rfl) ?_
  refine lv_iload_n hx hb dX7_soak_3 rfl (lv_at hl 2 rfl) ?_
  refine kV_I (C := RX7) (T := TX7) (N := 31) (As := [.int k, .int i]) (rest := [.ref (ad 16)]) ⟨hx, hb, hml, hown, hts⟩ (c_X7_noLayer l G dA L f ad n nb q qk kel dmp spd ven lef gon hr tl st dn thr pa bad num RA RB TH DE KI WE NX LI LM KE TX BW TI KV DM f0 k i hC hX) (cwV 2 hts gX7_soak_X7_noLayer rfl rfl rfl (by decide +kernel) ⟨Nat.le_of_ble_eq_true rfl, Nat.le_of_ble_eq_true rfl⟩) hw hA (hC.m (by decide)) hX.o rfl rfl hl.1 rfl (Nat.le_of_ble_eq_true rfl) dX7_soak_4 ⟨Nat.zero_le _, Nat.zero_le _⟩ (fun r2 f1 H locs hp hw => ?_)
  obtain ⟨e1, e2⟩ := hp
  rw [e2] at hw
  rw [e1]
  refine lv_if_eq (tgt := 14) hx hb dX7_soak_7 (by decide) (fun c9 => absurd c9 (by rw [hbad]; decide)) (fun _ => ?_)
  refine lv_iconst (v := 1) hx hb dX7_soak_10 (by decide) ?_
  refine lv_goto (tgt := 43) hx hb dX7_soak_11 (by decide) ?_
  refine wp_ (C := RX7) (T := TX7) (N := 31) hx hb hts hi7 tyX7 tyX7_ok nmX7 hown hw (hC.m (by decide)) hX.o rfl 0 (by decide) (hts (.fieldLink RX7 78 "LayerMoistureModel" "thrown" "I") (by decide +kernel)) (fun _ h9 => h9) rfl (ty := .int) (v := .int 1) (by decide +kernel) rfl rfl (Nat.le_of_ble_eq_true rfl) dX7_soak_43 (fun H locs hw => ?_)
  obtain ⟨f3, ef3⟩ : ∃ z : Nat → va_E, z = va_up f (ad 16) (.inr (8, [.int 1, .int (nI n), .int (nI nb), .ref (ad 17), .ref (ad 18), .double kel, .double dmp, .double spd, .double ven, .double lef, .long gon, .int (nI hr), .ref (ad 19), .ref (ad 20), .ref (ad 21), .ref (ad 22), .ref (ad 23), .ref (ad 24), .ref (ad 25), .ref (ad 26), .ref (ad 27), .int (nI tl), .int (nI pa), .int bad, .int num, .ref (ad 28), .ref (ad 29), .ref (ad 30), .ref (ad 31), .int (nI st), .int (nI dn)])) := ⟨_, rfl⟩
  have hw : ww G dA A s L f3 H locs := by rw [ef3]; exact hw
  have hX4 : MX ad dA n nb kel dmp spd ven lef gon hr tl st dn 1 pa bad num RA RB TH DE KI WE NX LI LM KE TX BW TI KV DM f0 f3 := by rw [ef3]; exact hX.sO hC kel dmp spd ven lef gon hr tl st dn 1 pa bad num
  refine lv_aload_n hx hb dX7_soak_46 rfl (lv_at hl 0 rfl) ?_
  refine wg (C := RX7) (T := TX7) (N := 31) hx hb hts hi7 hown hw (hC.m (by decide)) hX4.o rfl 0 (by decide) (hts (.fieldLink RX7 78 "LayerMoistureModel" "thrown" "I") (by decide +kernel)) (fun _ h9 => h9) (v := .int 1) rfl dX7_soak_47 ?_
  refine lv_if_ne (tgt := 65) hx hb dX7_soak_50 (by decide) (fun _ => ?_) (fun c9 => absurd c9 (by decide))
  exact hret _ _ _ _ _ hw hX4 dX7_soak_65

set_option maxHeartbeats 4000000 in
set_option maxRecDepth 100000 in
theorem t2_X7_soak (l : Launch) (G : va_G) (dA : Nat → ClassId) (L : List Nat) (f : Nat → va_E) (ad : Nat → Nat) (n nb : Nat) (q qk : Nat → Option Nat) (kel : UInt64) (dmp : UInt64) (spd : UInt64) (ven : UInt64) (lef : UInt64) (gon : Int64) (hr : Nat) (tl : Nat) (st : Nat) (dn : Nat) (thr : Int32) (pa : Nat) (bad : Int32) (num : Int32) (RA : Nat → UInt64) (RB : Nat → UInt64) (TH : Nat → Int32) (DE : Nat → UInt64) (KI : Nat → Int32) (WE : Nat → UInt64) (NX : Nat → UInt64) (LI : Nat → Int32) (LM : Nat → UInt64) (KE : Nat → Int32) (TX : Nat → Int32) (BW : Nat → Int32) (TI : Nat → Int32) (KV : Nat → Int32) (DM : Nat → Int32) (f0 : Nat → va_E) (k i : Int32) (u : UInt64)  (hC : Cx ad L n nb q qk) (hX : MX ad dA n nb kel dmp spd ven lef gon hr tl st dn thr pa bad num RA RB TH DE KI WE NX LI LM KE TX BW TI KV DM f0 f) (h0 : noL n nb k i = false) (hbad : inB u FP.dconst0 4613937818241073152 = false)  : mV l yX7_soak wsX7_soak ({ frames := 2, cells := 0, slots := 0, locals := 43 }) G dA [.ref (ad 16), .int k, .int i, .double u] L f (fun f2 => MX ad dA n nb kel dmp spd ven lef gon hr tl st dn 2 pa bad num RA RB TH DE KI WE NX LI LM KE TX BW TI KV DM f0 f2) := by
  refine mV_of (cc := cX7_soak) (maxL := 5) (by decide) rfl (Nat.le_of_ble_eq_true rfl) ?_
  intro p e s m below meth c A ls Q hx hb hml hown hts hlocks hA hin0 hw hl hret
  have hown : s.vm.findClass RX7 = some m.cls := hown
  have hl : lv_has ls 5 [(0, .ref (ad 16)), (1, .int k), (2, .int i), (3, .double u)] := hl
  have hi7 : ∀ w ∈ u_ws RX7 TX7 31, w ∈ wsX7_soak := by decide +kernel
  refine lv_aload_n hx hb dX7_soak_0 rfl (lv_at hl 0 rfl) ?_
  refine lv_aload_n hx hb dX7_soak_1 rfl (lv_at hl 0 rfl) ?_
  refine lv_iload_n hx hb dX7_soak_2 rfl (lv_at hl 1 rfl) ?_
  refine lv_iload_n hx hb dX7_soak_3 rfl (lv_at hl 2 rfl) ?_
  refine kV_I (C := RX7) (T := TX7) (N := 31) (As := [.int k, .int i]) (rest := [.ref (ad 16)]) ⟨hx, hb, hml, hown, hts⟩ (c_X7_noLayer l G dA L f ad n nb q qk kel dmp spd ven lef gon hr tl st dn thr pa bad num RA RB TH DE KI WE NX LI LM KE TX BW TI KV DM f0 k i hC hX) (cwV 2 hts gX7_soak_X7_noLayer rfl rfl rfl (by decide +kernel) ⟨Nat.le_of_ble_eq_true rfl, Nat.le_of_ble_eq_true rfl⟩) hw hA (hC.m (by decide)) hX.o rfl rfl hl.1 rfl (Nat.le_of_ble_eq_true rfl) dX7_soak_4 ⟨Nat.zero_le _, Nat.zero_le _⟩ (fun r2 f1 H locs hp hw => ?_)
  obtain ⟨e1, e2⟩ := hp
  rw [e2] at hw
  rw [e1]
  refine lv_if_eq (tgt := 14) hx hb dX7_soak_7 (by decide) (fun _ => ?_) (fun c9 => absurd (by rw [h0]; rfl) c9)
  refine lv_dload_n hx hb dX7_soak_14 rfl (lv_at hl 3 rfl) ?_
  refine lv_dconst0 hx hb dX7_soak_15 ?_
  refine lv_ldc2d (v := 4613937818241073152) hx hb hown (hts (.constantDouble RX7 91 (4613937818241073152)) (by decide +kernel)) dX7_soak_16 ?_
  refine kS_I (As := [.double u, .double FP.dconst0, .double 4613937818241073152]) (rest := [.ref (ad 16)]) ⟨hx, hb, hml, hown, hts⟩ (c_X7_isIn l G dA L f u FP.dconst0 4613937818241073152) (va_cwS 3 hts gX7_soak_X7_isIn rfl rfl rfl (by decide +kernel) ⟨Nat.le_of_ble_eq_true rfl, Nat.le_of_ble_eq_true rfl⟩) hw hA rfl hl.1 rfl (Nat.le_of_ble_eq_true rfl) dX7_soak_19 ⟨Nat.zero_le _, Nat.zero_le _⟩ (fun r4 f3 H locs hp hw => ?_)
  obtain ⟨e1, e2⟩ := hp
  rw [e2] at hw
  rw [e1]
  refine lv_if_ne (tgt := 29) hx hb dX7_soak_22 (by decide) (fun c9 => absurd c9 (fun h7 => h7 (by rw [hbad]; rfl))) (fun _ => ?_)
  refine lv_iconst (v := 2) hx hb dX7_soak_25 (by decide) ?_
  refine lv_goto (tgt := 43) hx hb dX7_soak_26 (by decide) ?_
  refine wp_ (C := RX7) (T := TX7) (N := 31) hx hb hts hi7 tyX7 tyX7_ok nmX7 hown hw (hC.m (by decide)) hX.o rfl 0 (by decide) (hts (.fieldLink RX7 78 "LayerMoistureModel" "thrown" "I") (by decide +kernel)) (fun _ h9 => h9) rfl (ty := .int) (v := .int 2) (by decide +kernel) rfl rfl (Nat.le_of_ble_eq_true rfl) dX7_soak_43 (fun H locs hw => ?_)
  obtain ⟨f5, ef5⟩ : ∃ z : Nat → va_E, z = va_up f (ad 16) (.inr (8, [.int 2, .int (nI n), .int (nI nb), .ref (ad 17), .ref (ad 18), .double kel, .double dmp, .double spd, .double ven, .double lef, .long gon, .int (nI hr), .ref (ad 19), .ref (ad 20), .ref (ad 21), .ref (ad 22), .ref (ad 23), .ref (ad 24), .ref (ad 25), .ref (ad 26), .ref (ad 27), .int (nI tl), .int (nI pa), .int bad, .int num, .ref (ad 28), .ref (ad 29), .ref (ad 30), .ref (ad 31), .int (nI st), .int (nI dn)])) := ⟨_, rfl⟩
  have hw : ww G dA A s L f5 H locs := by rw [ef5]; exact hw
  have hX6 : MX ad dA n nb kel dmp spd ven lef gon hr tl st dn 2 pa bad num RA RB TH DE KI WE NX LI LM KE TX BW TI KV DM f0 f5 := by rw [ef5]; exact hX.sO hC kel dmp spd ven lef gon hr tl st dn 2 pa bad num
  refine lv_aload_n hx hb dX7_soak_46 rfl (lv_at hl 0 rfl) ?_
  refine wg (C := RX7) (T := TX7) (N := 31) hx hb hts hi7 hown hw (hC.m (by decide)) hX6.o rfl 0 (by decide) (hts (.fieldLink RX7 78 "LayerMoistureModel" "thrown" "I") (by decide +kernel)) (fun _ h9 => h9) (v := .int 2) rfl dX7_soak_47 ?_
  refine lv_if_ne (tgt := 65) hx hb dX7_soak_50 (by decide) (fun _ => ?_) (fun c9 => absurd c9 (by decide))
  exact hret _ _ _ _ _ hw hX6 dX7_soak_65

set_option maxHeartbeats 4000000 in
set_option maxRecDepth 100000 in
theorem t3_X7_soak (l : Launch) (G : va_G) (dA : Nat → ClassId) (L : List Nat) (f : Nat → va_E) (ad : Nat → Nat) (n nb : Nat) (q qk : Nat → Option Nat) (kel : UInt64) (dmp : UInt64) (spd : UInt64) (ven : UInt64) (lef : UInt64) (gon : Int64) (hr : Nat) (tl : Nat) (st : Nat) (dn : Nat) (thr : Int32) (pa : Nat) (bad : Int32) (num : Int32) (RA : Nat → UInt64) (RB : Nat → UInt64) (TH : Nat → Int32) (DE : Nat → UInt64) (KI : Nat → Int32) (WE : Nat → UInt64) (NX : Nat → UInt64) (LI : Nat → Int32) (LM : Nat → UInt64) (KE : Nat → Int32) (TX : Nat → Int32) (BW : Nat → Int32) (TI : Nat → Int32) (KV : Nat → Int32) (DM : Nat → Int32) (f0 : Nat → va_E) (j i : Nat) (u : UInt64)  (hC : Cx ad L n nb q qk) (hX : MX ad dA n nb kel dmp spd ven lef gon hr tl st dn thr pa bad num RA RB TH DE KI WE NX LI LM KE TX BW TI KV DM f0 f) (hj : j < nb) (hi : i < n) (h1 : inB u FP.dconst0 4613937818241073152 = true) (hbad : TH j = 0)  : mV l yX7_soak wsX7_soak ({ frames := 2, cells := 0, slots := 0, locals := 43 }) G dA [.ref (ad 16), .int (nI j), .int (nI i), .double u] L f (fun f2 => MX ad dA n nb kel dmp spd ven lef gon hr tl st dn 3 pa bad num RA RB TH DE KI WE NX LI LM KE TX BW TI KV DM f0 f2) := by
  refine mV_of (cc := cX7_soak) (maxL := 5) (by decide) rfl (Nat.le_of_ble_eq_true rfl) ?_
  intro p e s m below meth c A ls Q hx hb hml hown hts hlocks hA hin0 hw hl hret
  have hown : s.vm.findClass RX7 = some m.cls := hown
  have hl : lv_has ls 5 [(0, .ref (ad 16)), (1, .int (nI j)), (2, .int (nI i)), (3, .double u)] := hl
  have hi7 : ∀ w ∈ u_ws RX7 TX7 31, w ∈ wsX7_soak := by decide +kernel
  refine lv_aload_n hx hb dX7_soak_0 rfl (lv_at hl 0 rfl) ?_
  refine lv_aload_n hx hb dX7_soak_1 rfl (lv_at hl 0 rfl) ?_
  refine lv_iload_n hx hb dX7_soak_2 rfl (lv_at hl 1 rfl) ?_
  refine lv_iload_n hx hb dX7_soak_3 rfl (lv_at hl 2 rfl) ?_
  refine kV_I (C := RX7) (T := TX7) (N := 31) (As := [.int (nI j), .int (nI i)]) (rest := [.ref (ad 16)]) ⟨hx, hb, hml, hown, hts⟩ (c_X7_noLayer l G dA L f ad n nb q qk kel dmp spd ven lef gon hr tl st dn thr pa bad num RA RB TH DE KI WE NX LI LM KE TX BW TI KV DM f0 (nI j) (nI i) hC hX) (cwV 2 hts gX7_soak_X7_noLayer rfl rfl rfl (by decide +kernel) ⟨Nat.le_of_ble_eq_true rfl, Nat.le_of_ble_eq_true rfl⟩) hw hA (hC.m (by decide)) hX.o rfl rfl hl.1 rfl (Nat.le_of_ble_eq_true rfl) dX7_soak_4 ⟨Nat.zero_le _, Nat.zero_le _⟩ (fun r2 f1 H locs hp hw => ?_)
  obtain ⟨e1, e2⟩ := hp
  rw [e2] at hw
  rw [e1]
  refine lv_if_eq (tgt := 14) hx hb dX7_soak_7 (by decide) (fun _ => ?_) (fun c9 => absurd (by rw [(noL_f hC.nb31 hC.n31 hj hi)]; rfl) c9)
  refine lv_dload_n hx hb dX7_soak_14 rfl (lv_at hl 3 rfl) ?_
  refine lv_dconst0 hx hb dX7_soak_15 ?_
  refine lv_ldc2d (v := 4613937818241073152) hx hb hown (hts (.constantDouble RX7 91 (4613937818241073152)) (by decide +kernel)) dX7_soak_16 ?_
  refine kS_I (As := [.double u, .double FP.dconst0, .double 4613937818241073152]) (rest := [.ref (ad 16)]) ⟨hx, hb, hml, hown, hts⟩ (c_X7_isIn l G dA L f u FP.dconst0 4613937818241073152) (va_cwS 3 hts gX7_soak_X7_isIn rfl rfl rfl (by decide +kernel) ⟨Nat.le_of_ble_eq_true rfl, Nat.le_of_ble_eq_true rfl⟩) hw hA rfl hl.1 rfl (Nat.le_of_ble_eq_true rfl) dX7_soak_19 ⟨Nat.zero_le _, Nat.zero_le _⟩ (fun r4 f3 H locs hp hw => ?_)
  obtain ⟨e1, e2⟩ := hp
  rw [e2] at hw
  rw [e1]
  refine lv_if_ne (tgt := 29) hx hb dX7_soak_22 (by decide) (fun _ => ?_) (fun c9 => absurd c9 (by rw [h1]; decide))
  refine lv_aload_n hx hb dX7_soak_29 rfl (lv_at hl 0 rfl) ?_
  refine wg (C := RX7) (T := TX7) (N := 31) hx hb hts hi7 hown hw (hC.m (by decide)) hX.o rfl 12 (by decide) (hts (.fieldLink RX7 30 "LayerMoistureModel" "there" "[Z") (by decide +kernel)) (fun _ h9 => h9) (v := .ref (ad 19)) rfl dX7_soak_30 ?_
  refine lv_iload_n hx hb dX7_soak_33 rfl (lv_at hl 1 rfl) ?_
  refine wld_z hx hb hw (hC.m (by decide)) hX.aTH j (by have := hC.2.2.2.1; omega) (by decide) rfl dX7_soak_34 ?_
  refine lv_if_eq (tgt := 42) hx hb dX7_soak_35 (by decide) (fun _ => ?_) (fun c9 => absurd hbad c9)
  refine lv_iconst (v := 3) hx hb dX7_soak_42 (by decide) ?_
  refine wp_ (C := RX7) (T := TX7) (N := 31) hx hb hts hi7 tyX7 tyX7_ok nmX7 hown hw (hC.m (by decide)) hX.o rfl 0 (by decide) (hts (.fieldLink RX7 78 "LayerMoistureModel" "thrown" "I") (by decide +kernel)) (fun _ h9 => h9) rfl (ty := .int) (v := .int 3) (by decide +kernel) rfl rfl (Nat.le_of_ble_eq_true rfl) dX7_soak_43 (fun H locs hw => ?_)
  obtain ⟨f5, ef5⟩ : ∃ z : Nat → va_E, z = va_up f (ad 16) (.inr (8, [.int 3, .int (nI n), .int (nI nb), .ref (ad 17), .ref (ad 18), .double kel, .double dmp, .double spd, .double ven, .double lef, .long gon, .int (nI hr), .ref (ad 19), .ref (ad 20), .ref (ad 21), .ref (ad 22), .ref (ad 23), .ref (ad 24), .ref (ad 25), .ref (ad 26), .ref (ad 27), .int (nI tl), .int (nI pa), .int bad, .int num, .ref (ad 28), .ref (ad 29), .ref (ad 30), .ref (ad 31), .int (nI st), .int (nI dn)])) := ⟨_, rfl⟩
  have hw : ww G dA A s L f5 H locs := by rw [ef5]; exact hw
  have hX6 : MX ad dA n nb kel dmp spd ven lef gon hr tl st dn 3 pa bad num RA RB TH DE KI WE NX LI LM KE TX BW TI KV DM f0 f5 := by rw [ef5]; exact hX.sO hC kel dmp spd ven lef gon hr tl st dn 3 pa bad num
  refine lv_aload_n hx hb dX7_soak_46 rfl (lv_at hl 0 rfl) ?_
  refine wg (C := RX7) (T := TX7) (N := 31) hx hb hts hi7 hown hw (hC.m (by decide)) hX6.o rfl 0 (by decide) (hts (.fieldLink RX7 78 "LayerMoistureModel" "thrown" "I") (by decide +kernel)) (fun _ h9 => h9) (v := .int 3) rfl dX7_soak_47 ?_
  refine lv_if_ne (tgt := 65) hx hb dX7_soak_50 (by decide) (fun _ => ?_) (fun c9 => absurd c9 (by decide))
  exact hret _ _ _ _ _ hw hX6 dX7_soak_65

set_option maxHeartbeats 4000000 in
set_option maxRecDepth 100000 in
theorem c_X7_soak (l : Launch) (G : va_G) (dA : Nat → ClassId) (L : List Nat) (f : Nat → va_E) (ad : Nat → Nat) (n nb : Nat) (q qk : Nat → Option Nat) (kel : UInt64) (dmp : UInt64) (spd : UInt64) (ven : UInt64) (lef : UInt64) (gon : Int64) (hr : Nat) (tl : Nat) (st : Nat) (dn : Nat) (thr : Int32) (pa : Nat) (bad : Int32) (num : Int32) (RA : Nat → UInt64) (RB : Nat → UInt64) (TH : Nat → Int32) (DE : Nat → UInt64) (KI : Nat → Int32) (WE : Nat → UInt64) (NX : Nat → UInt64) (LI : Nat → Int32) (LM : Nat → UInt64) (KE : Nat → Int32) (TX : Nat → Int32) (BW : Nat → Int32) (TI : Nat → Int32) (KV : Nat → Int32) (DM : Nat → Int32) (f0 : Nat → va_E) (j i : Nat) (u : UInt64)  (hC : Cx ad L n nb q qk) (hX : MX ad dA n nb kel dmp spd ven lef gon hr tl st dn thr pa bad num RA RB TH DE KI WE NX LI LM KE TX BW TI KV DM f0 f) (hj : j < nb) (hi : i < n) (h1 : inB u FP.dconst0 4613937818241073152 = true) (hth : ¬ TH j = 0)  : mV l yX7_soak wsX7_soak ({ frames := 2, cells := 0, slots := 0, locals := 43 }) G dA [.ref (ad 16), .int (nI j), .int (nI i), .double u] L f (fun f2 => MX ad dA n nb kel dmp spd ven lef gon hr tl st dn 0 pa bad num RA RB TH DE KI (vf_upd WE (16 * j + i) u) NX LI LM KE TX BW TI KV DM f0 f2) := by
  refine mV_of (cc := cX7_soak) (maxL := 5) (by decide) rfl (Nat.le_of_ble_eq_true rfl) ?_
  intro p e s m below meth c A ls Q hx hb hml hown hts hlocks hA hin0 hw hl hret
  have hown : s.vm.findClass RX7 = some m.cls := hown
  have hl : lv_has ls 5 [(0, .ref (ad 16)), (1, .int (nI j)), (2, .int (nI i)), (3, .double u)] := hl
  have hi7 : ∀ w ∈ u_ws RX7 TX7 31, w ∈ wsX7_soak := by decide +kernel
  refine lv_aload_n hx hb dX7_soak_0 rfl (lv_at hl 0 rfl) ?_
  refine lv_aload_n hx hb dX7_soak_1 rfl (lv_at hl 0 rfl) ?_
  refine lv_iload_n hx hb dX7_soak_2 rfl (lv_at hl 1 rfl) ?_
  refine lv_iload_n hx hb dX7_soak_3 rfl (lv_at hl 2 rfl) ?_
  refine kV_I (C := RX7) (T := TX7) (N := 31) (As := [.int (nI j), .int (nI i)]) (rest := [.ref (ad 16)]) ⟨hx, hb, hml, hown, hts⟩ (c_X7_noLayer l G dA L f ad n nb q qk kel dmp spd ven lef gon hr tl st dn thr pa bad num RA RB TH DE KI WE NX LI LM KE TX BW TI KV DM f0 (nI j) (nI i) hC hX) (cwV 2 hts gX7_soak_X7_noLayer rfl rfl rfl (by decide +kernel) ⟨Nat.le_of_ble_eq_true rfl, Nat.le_of_ble_eq_true rfl⟩) hw hA (hC.m (by decide)) hX.o rfl rfl hl.1 rfl (Nat.le_of_ble_eq_true rfl) dX7_soak_4 ⟨Nat.zero_le _, Nat.zero_le _⟩ (fun r2 f1 H locs hp hw => ?_)
  obtain ⟨e1, e2⟩ := hp
  rw [e2] at hw
  rw [e1]
  refine lv_if_eq (tgt := 14) hx hb dX7_soak_7 (by decide) (fun _ => ?_) (fun c9 => absurd (by rw [(noL_f hC.nb31 hC.n31 hj hi)]; rfl) c9)
  refine lv_dload_n hx hb dX7_soak_14 rfl (lv_at hl 3 rfl) ?_
  refine lv_dconst0 hx hb dX7_soak_15 ?_
  refine lv_ldc2d (v := 4613937818241073152) hx hb hown (hts (.constantDouble RX7 91 (4613937818241073152)) (by decide +kernel)) dX7_soak_16 ?_
  refine kS_I (As := [.double u, .double FP.dconst0, .double 4613937818241073152]) (rest := [.ref (ad 16)]) ⟨hx, hb, hml, hown, hts⟩ (c_X7_isIn l G dA L f u FP.dconst0 4613937818241073152) (va_cwS 3 hts gX7_soak_X7_isIn rfl rfl rfl (by decide +kernel) ⟨Nat.le_of_ble_eq_true rfl, Nat.le_of_ble_eq_true rfl⟩) hw hA rfl hl.1 rfl (Nat.le_of_ble_eq_true rfl) dX7_soak_19 ⟨Nat.zero_le _, Nat.zero_le _⟩ (fun r4 f3 H locs hp hw => ?_)
  obtain ⟨e1, e2⟩ := hp
  rw [e2] at hw
  rw [e1]
  refine lv_if_ne (tgt := 29) hx hb dX7_soak_22 (by decide) (fun _ => ?_) (fun c9 => absurd c9 (by rw [h1]; decide))
  refine lv_aload_n hx hb dX7_soak_29 rfl (lv_at hl 0 rfl) ?_
  refine wg (C := RX7) (T := TX7) (N := 31) hx hb hts hi7 hown hw (hC.m (by decide)) hX.o rfl 12 (by decide) (hts (.fieldLink RX7 30 "LayerMoistureModel" "there" "[Z") (by decide +kernel)) (fun _ h9 => h9) (v := .ref (ad 19)) rfl dX7_soak_30 ?_
  refine lv_iload_n hx hb dX7_soak_33 rfl (lv_at hl 1 rfl) ?_
  refine wld_z hx hb hw (hC.m (by decide)) hX.aTH j (by have := hC.2.2.2.1; omega) (by decide) rfl dX7_soak_34 ?_
  refine lv_if_eq (tgt := 42) hx hb dX7_soak_35 (by decide) (fun c9 => absurd c9 hth) (fun _ => ?_)
  refine lv_iconst (v := 0) hx hb dX7_soak_38 (by decide) ?_
  refine lv_goto (tgt := 43) hx hb dX7_soak_39 (by decide) ?_
  refine wp_ (C := RX7) (T := TX7) (N := 31) hx hb hts hi7 tyX7 tyX7_ok nmX7 hown hw (hC.m (by decide)) hX.o rfl 0 (by decide) (hts (.fieldLink RX7 78 "LayerMoistureModel" "thrown" "I") (by decide +kernel)) (fun _ h9 => h9) rfl (ty := .int) (v := .int 0) (by decide +kernel) rfl rfl (Nat.le_of_ble_eq_true rfl) dX7_soak_43 (fun H locs hw => ?_)
  obtain ⟨f5, ef5⟩ : ∃ z : Nat → va_E, z = va_up f (ad 16) (.inr (8, [.int 0, .int (nI n), .int (nI nb), .ref (ad 17), .ref (ad 18), .double kel, .double dmp, .double spd, .double ven, .double lef, .long gon, .int (nI hr), .ref (ad 19), .ref (ad 20), .ref (ad 21), .ref (ad 22), .ref (ad 23), .ref (ad 24), .ref (ad 25), .ref (ad 26), .ref (ad 27), .int (nI tl), .int (nI pa), .int bad, .int num, .ref (ad 28), .ref (ad 29), .ref (ad 30), .ref (ad 31), .int (nI st), .int (nI dn)])) := ⟨_, rfl⟩
  have hw : ww G dA A s L f5 H locs := by rw [ef5]; exact hw
  have hX6 : MX ad dA n nb kel dmp spd ven lef gon hr tl st dn 0 pa bad num RA RB TH DE KI WE NX LI LM KE TX BW TI KV DM f0 f5 := by rw [ef5]; exact hX.sO hC kel dmp spd ven lef gon hr tl st dn 0 pa bad num
  refine lv_aload_n hx hb dX7_soak_46 rfl (lv_at hl 0 rfl) ?_
  refine wg (C := RX7) (T := TX7) (N := 31) hx hb hts hi7 hown hw (hC.m (by decide)) hX6.o rfl 0 (by decide) (hts (.fieldLink RX7 78 "LayerMoistureModel" "thrown" "I") (by decide +kernel)) (fun _ h9 => h9) (v := .int 0) rfl dX7_soak_47 ?_
  refine lv_if_ne (tgt := 65) hx hb dX7_soak_50 (by decide) (fun c9 => absurd c9 (fun h7 => h7 rfl)) (fun _ => ?_)
  refine lv_aload_n hx hb dX7_soak_53 rfl (lv_at hl 0 rfl) ?_
  refine wg (C := RX7) (T := TX7) (N := 31) hx hb hts hi7 hown hw (hC.m (by decide)) hX6.o rfl 15 (by decide) (hts (.fieldLink RX7 41 "LayerMoistureModel" "wets" "[D") (by decide +kernel)) (fun _ h9 => h9) (v := .ref (ad 22)) rfl dX7_soak_54 ?_
  refine lv_bipush (v := 16) hx hb dX7_soak_57 (by decide) ?_
  refine lv_iload_n hx hb dX7_soak_59 rfl (lv_at hl 1 rfl) ?_
  refine lv_imul hx hb dX7_soak_60 ?_
  rw [show 16 * (nI j) = nI (16 * j) from nI_m16 j]
  refine lv_iload_n hx hb dX7_soak_61 rfl (lv_at hl 2 rfl) ?_
  refine lv_iadd hx hb dX7_soak_62 ?_
  rw [show (nI (16 * j)) + (nI i) = nI (16 * j + i) from nI_add _ _]
  refine lv_dload_n hx hb dX7_soak_63 rfl (lv_at hl 3 rfl) ?_
  refine wst_d hx hb hw (hC.m (by decide)) hX6.aWE (16 * j + i) (by have := hC.2.2.2.1; have := hC.2.2.1; omega) (by decide) rfl dX7_soak_64 (fun H locs hw => ?_)
  obtain ⟨f7, ef7⟩ : ∃ z : Nat → va_E, z = va_up f5 (ad 22) (aD (dA 1) 128 (vf_upd WE (16 * j + i) u)) := ⟨_, rfl⟩
  have hw : ww G dA A s L f7 H locs := by rw [ef7]; exact hw
  have hX8 : MX ad dA n nb kel dmp spd ven lef gon hr tl st dn 0 pa bad num RA RB TH DE KI (vf_upd WE (16 * j + i) u) NX LI LM KE TX BW TI KV DM f0 f7 := by rw [ef7]; exact hX6.sWE hC _
  exact hret _ _ _ _ _ hw hX8 dX7_soak_65

set_option maxHeartbeats 4000000 in
set_option maxRecDepth 100000 in
theorem c_X7_unit (l : Launch) (G : va_G) (dA : Nat → ClassId) (L : List Nat) (f : Nat → va_E) (ad : Nat → Nat) (n nb : Nat) (q qk : Nat → Option Nat) (kel : UInt64) (dmp : UInt64) (spd : UInt64) (ven : UInt64) (lef : UInt64) (gon : Int64) (hr : Nat) (tl : Nat) (st : Nat) (dn : Nat) (thr : Int32) (pa : Nat) (bad : Int32) (num : Int32) (RA : Nat → UInt64) (RB : Nat → UInt64) (TH : Nat → Int32) (DE : Nat → UInt64) (KI : Nat → Int32) (WE : Nat → UInt64) (NX : Nat → UInt64) (LI : Nat → Int32) (LM : Nat → UInt64) (KE : Nat → Int32) (TX : Nat → Int32) (BW : Nat → Int32) (TI : Nat → Int32) (KV : Nat → Int32) (DM : Nat → Int32) (f0 : Nat → va_E) (u : Int32)  (hC : Cx ad L n nb q qk) (hX : MX ad dA n nb kel dmp spd ven lef gon hr tl st dn thr pa bad num RA RB TH DE KI WE NX LI LM KE TX BW TI KV DM f0 f) (htl : tl ≤ 200)  : mI l yX7_unit wsX7_unit ({ frames := 0, cells := 0, slots := 0, locals := 0 }) G dA [.ref (ad 16), .int u] L f (fun r f2 => r = b2i (sp_app tl u) ∧ MX ad dA n nb kel dmp spd ven lef gon hr (if sp_app tl u = true then tl + 1 else tl) st dn 0 pa bad num RA RB TH DE KI WE NX LI LM KE (if sp_app tl u = true then upd TX tl u else TX) BW TI KV DM f0 f2) := by
  refine mI_of (cc := cX7_unit) (maxL := 2) (by decide) rfl (Nat.le_of_ble_eq_true rfl) ?_
  intro p e s m below meth c A ls Q hx hb hml hown hts hlocks hA hin0 hw hl hret
  have hown : s.vm.findClass RX7 = some m.cls := hown
  have hl : lv_has ls 2 [(0, .ref (ad 16)), (1, .int u)] := hl
  have hi7 : ∀ w ∈ u_ws RX7 TX7 31, w ∈ wsX7_unit := by decide +kernel
  refine lv_aload_n hx hb dX7_unit_0 rfl (lv_at hl 0 rfl) ?_
  refine lv_iconst (v := 0) hx hb dX7_unit_1 (by decide) ?_
  refine wp_ (C := RX7) (T := TX7) (N := 31) hx hb hts hi7 tyX7 tyX7_ok nmX7 hown hw (hC.m (by decide)) hX.o rfl 0 (by decide) (hts (.fieldLink RX7 78 "LayerMoistureModel" "thrown" "I") (by decide +kernel)) (fun _ h9 => h9) rfl (ty := .int) (v := .int 0) (by decide +kernel) rfl rfl (Nat.le_of_ble_eq_true rfl) dX7_unit_2 (fun H locs hw => ?_)
  obtain ⟨f1, ef1⟩ : ∃ z : Nat → va_E, z = va_up f (ad 16) (.inr (8, [.int 0, .int (nI n), .int (nI nb), .ref (ad 17), .ref (ad 18), .double kel, .double dmp, .double spd, .double ven, .double lef, .long gon, .int (nI hr), .ref (ad 19), .ref (ad 20), .ref (ad 21), .ref (ad 22), .ref (ad 23), .ref (ad 24), .ref (ad 25), .ref (ad 26), .ref (ad 27), .int (nI tl), .int (nI pa), .int bad, .int num, .ref (ad 28), .ref (ad 29), .ref (ad 30), .ref (ad 31), .int (nI st), .int (nI dn)])) := ⟨_, rfl⟩
  have hw : ww G dA A s L f1 H locs := by rw [ef1]; exact hw
  have hX2 : MX ad dA n nb kel dmp spd ven lef gon hr tl st dn 0 pa bad num RA RB TH DE KI WE NX LI LM KE TX BW TI KV DM f0 f1 := by rw [ef1]; exact hX.sO hC kel dmp spd ven lef gon hr tl st dn 0 pa bad num
  refine lv_iload_n hx hb dX7_unit_5 rfl (lv_at hl 1 rfl) ?_
  refine lv_bipush (v := 32) hx hb dX7_unit_6 (by decide) ?_
  refine lv_icmp_lt (tgt := 27) hx hb dX7_unit_8 (by decide) (fun c8 => ?_) (fun c8 => ?_)
  · have e9 : sp_app tl u = false := by simp [sp_app, c8]
    refine lv_iconst (v := 0) hx hb dX7_unit_27 (by decide) ?_
    exact hret _ _ _ _ _ _ hw ⟨by rw [e9]; rfl, by rw [e9]; exact hX2⟩ (by decide) dX7_unit_28
  · refine lv_iload_n hx hb dX7_unit_11 rfl (lv_at hl 1 rfl) ?_
    refine lv_bipush (v := 126) hx hb dX7_unit_12 (by decide) ?_
    refine lv_icmp_gt (tgt := 27) hx hb dX7_unit_14 (by decide) (fun c14 => ?_) (fun c14 => ?_)
    · have e9 : sp_app tl u = false := by simp [sp_app, c14]
      refine lv_iconst (v := 0) hx hb dX7_unit_27 (by decide) ?_
      exact hret _ _ _ _ _ _ hw ⟨by rw [e9]; rfl, by rw [e9]; exact hX2⟩ (by decide) dX7_unit_28
    · refine lv_aload_n hx hb dX7_unit_17 rfl (lv_at hl 0 rfl) ?_
      refine wg (C := RX7) (T := TX7) (N := 31) hx hb hts hi7 hown hw (hC.m (by decide)) hX2.o rfl 21 (by decide) (hts (.fieldLink RX7 106 "LayerMoistureModel" "typed" "I") (by decide +kernel)) (fun _ h9 => h9) (v := .int (nI tl)) rfl dX7_unit_18 ?_
      refine lv_sipush (v := 200) hx hb dX7_unit_21 (by decide) ?_
      refine lv_icmp_ne (tgt := 29) hx hb dX7_unit_24 (by decide) (fun c24 => ?_) (fun c24 => ?_)
      · have h200 : tl < 200 := Nat.lt_of_le_of_ne htl (fun h8 => c24 (show nI tl = nI 200 by rw [h8]))
        have e9 : sp_app tl u = true := by simp [sp_app, h200, c8, c14]
        refine lv_aload_n hx hb dX7_unit_29 rfl (lv_at hl 0 rfl) ?_
        refine wg (C := RX7) (T := TX7) (N := 31) hx hb hts hi7 hown hw (hC.m (by decide)) hX2.o rfl 20 (by decide) (hts (.fieldLink RX7 56 "LayerMoistureModel" "text" "[I") (by decide +kernel)) (fun _ h9 => h9) (v := .ref (ad 27)) rfl dX7_unit_30 ?_
        refine lv_aload_n hx hb dX7_unit_33 rfl (lv_at hl 0 rfl) ?_
        refine wg (C := RX7) (T := TX7) (N := 31) hx hb hts hi7 hown hw (hC.m (by decide)) hX2.o rfl 21 (by decide) (hts (.fieldLink RX7 106 "LayerMoistureModel" "typed" "I") (by decide +kernel)) (fun _ h9 => h9) (v := .int (nI tl)) rfl dX7_unit_34 ?_
        refine lv_iload_n hx hb dX7_unit_37 rfl (lv_at hl 1 rfl) ?_
        refine wst_i hx hb hw (hC.m (by decide)) hX2.aTX tl h200 (by decide) rfl dX7_unit_38 (fun H locs hw => ?_)
        obtain ⟨f3, ef3⟩ : ∃ z : Nat → va_E, z = va_up f1 (ad 27) (aI (dA 2) 200 (upd TX tl u)) := ⟨_, rfl⟩
        have hw : ww G dA A s L f3 H locs := by rw [ef3]; exact hw
        have hX4 : MX ad dA n nb kel dmp spd ven lef gon hr tl st dn 0 pa bad num RA RB TH DE KI WE NX LI LM KE (upd TX tl u) BW TI KV DM f0 f3 := by rw [ef3]; exact hX2.sTX hC _
        refine lv_aload_n hx hb dX7_unit_39 rfl (lv_at hl 0 rfl) ?_
        refine lv_dup hx hb dX7_unit_40 rfl ?_
        refine wg (C := RX7) (T := TX7) (N := 31) hx hb hts hi7 hown hw (hC.m (by decide)) hX4.o rfl 21 (by decide) (hts (.fieldLink RX7 106 "LayerMoistureModel" "typed" "I") (by decide +kernel)) (fun _ h9 => h9) (v := .int (nI tl)) rfl dX7_unit_41 ?_
        refine lv_iconst (v := 1) hx hb dX7_unit_44 (by decide) ?_
        refine lv_iadd hx hb dX7_unit_45 ?_
        rw [show (nI tl) + 1 = nI (tl + 1) from nI_1 tl]
        refine wp_ (C := RX7) (T := TX7) (N := 31) hx hb hts hi7 tyX7 tyX7_ok nmX7 hown hw (hC.m (by decide)) hX4.o rfl 21 (by decide) (hts (.fieldLink RX7 106 "LayerMoistureModel" "typed" "I") (by decide +kernel)) (fun _ h9 => h9) rfl (ty := .int) (v := .int (nI (tl + 1))) (by decide +kernel) rfl rfl (Nat.le_of_ble_eq_true rfl) dX7_unit_46 (fun H locs hw => ?_)
        obtain ⟨f5, ef5⟩ : ∃ z : Nat → va_E, z = va_up f3 (ad 16) (.inr (8, [.int 0, .int (nI n), .int (nI nb), .ref (ad 17), .ref (ad 18), .double kel, .double dmp, .double spd, .double ven, .double lef, .long gon, .int (nI hr), .ref (ad 19), .ref (ad 20), .ref (ad 21), .ref (ad 22), .ref (ad 23), .ref (ad 24), .ref (ad 25), .ref (ad 26), .ref (ad 27), .int (nI (tl + 1)), .int (nI pa), .int bad, .int num, .ref (ad 28), .ref (ad 29), .ref (ad 30), .ref (ad 31), .int (nI st), .int (nI dn)])) := ⟨_, rfl⟩
        have hw : ww G dA A s L f5 H locs := by rw [ef5]; exact hw
        have hX6 : MX ad dA n nb kel dmp spd ven lef gon hr (tl + 1) st dn 0 pa bad num RA RB TH DE KI WE NX LI LM KE (upd TX tl u) BW TI KV DM f0 f5 := by rw [ef5]; exact hX4.sO hC kel dmp spd ven lef gon hr (tl + 1) st dn 0 pa bad num
        refine lv_iconst (v := 1) hx hb dX7_unit_49 (by decide) ?_
        exact hret _ _ _ _ _ _ hw ⟨by rw [e9]; rfl, by rw [e9]; exact hX6⟩ (by decide) dX7_unit_50
      · have e9 : sp_app tl u = false := by have h7 : tl = 200 := (nI_eq (by omega) (by decide)).mp (show nI tl = nI 200 from c24); simp [sp_app, h7]
        refine lv_iconst (v := 0) hx hb dX7_unit_27 (by decide) ?_
        exact hret _ _ _ _ _ _ hw ⟨by rw [e9]; rfl, by rw [e9]; exact hX2⟩ (by decide) dX7_unit_28

set_option maxHeartbeats 4000000 in
set_option maxRecDepth 100000 in
theorem t1_X7_limit (l : Launch) (G : va_G) (dA : Nat → ClassId) (L : List Nat) (f : Nat → va_E) (ad : Nat → Nat) (n nb : Nat) (q qk : Nat → Option Nat) (kel : UInt64) (dmp : UInt64) (spd : UInt64) (ven : UInt64) (lef : UInt64) (gon : Int64) (hr : Nat) (tl : Nat) (st : Nat) (dn : Nat) (thr : Int32) (pa : Nat) (bad : Int32) (num : Int32) (RA : Nat → UInt64) (RB : Nat → UInt64) (TH : Nat → Int32) (DE : Nat → UInt64) (KI : Nat → Int32) (WE : Nat → UInt64) (NX : Nat → UInt64) (LI : Nat → Int32) (LM : Nat → UInt64) (KE : Nat → Int32) (TX : Nat → Int32) (BW : Nat → Int32) (TI : Nat → Int32) (KV : Nat → Int32) (DM : Nat → Int32) (f0 : Nat → va_E) (k : Int32) (u : UInt64)  (hC : Cx ad L n nb q qk) (hX : MX ad dA n nb kel dmp spd ven lef gon hr tl st dn thr pa bad num RA RB TH DE KI WE NX LI LM KE TX BW TI KV DM f0 f) (hbad : noB nb k = true)  : mV l yX7_limit wsX7_limit ({ frames := 1, cells := 0, slots := 0, locals := 21 }) G dA [.ref (ad 16), .int k, .double u] L f (fun f2 => MX ad dA n nb kel dmp spd ven lef gon hr tl st dn 1 pa bad num RA RB TH DE KI WE NX LI LM KE TX BW TI KV DM f0 f2) := by
  refine mV_of (cc := cX7_limit) (maxL := 4) (by decide) rfl (Nat.le_of_ble_eq_true rfl) ?_
  intro p e s m below meth c A ls Q hx hb hml hown hts hlocks hA hin0 hw hl hret
  have hown : s.vm.findClass RX7 = some m.cls := hown
  have hl : lv_has ls 4 [(0, .ref (ad 16)), (1, .int k), (2, .double u)] := hl
  have hi7 : ∀ w ∈ u_ws RX7 TX7 31, w ∈ wsX7_limit := by decide +kernel
  refine lv_aload_n hx hb dX7_limit_0 rfl (lv_at hl 0 rfl) ?_
  refine lv_aload_n hx hb dX7_limit_1 rfl (lv_at hl 0 rfl) ?_
  refine lv_iload_n hx hb dX7_limit_2 rfl (lv_at hl 1 rfl) ?_
  refine kV_I (C := RX7) (T := TX7) (N := 31) (As := [.int k]) (rest := [.ref (ad 16)]) ⟨hx, hb, hml, hown, hts⟩ (c_X7_noBoard l G dA L f ad n nb q qk kel dmp spd ven lef gon hr tl st dn thr pa bad num RA RB TH DE KI WE NX LI LM KE TX BW TI KV DM f0 k hC hX) (cwV 1 hts gX7_limit_X7_noBoard rfl rfl rfl (by decide +kernel) ⟨Nat.le_of_ble_eq_true rfl, Nat.le_of_ble_eq_true rfl⟩) hw hA (hC.m (by decide)) hX.o rfl rfl hl.1 rfl (Nat.le_of_ble_eq_true rfl) dX7_limit_3 ⟨Nat.zero_le _, Nat.zero_le _⟩ (fun r2 f1 H locs hp hw => ?_)
  obtain ⟨e1, e2⟩ := hp
  rw [e2] at hw
  rw [e1]
  refine lv_if_eq (tgt := 13) hx hb dX7_limit_6 (by decide) (fun c9 => absurd c9 (by rw [hbad]; decide)) (fun _ => ?_)
  refine lv_iconst (v := 1) hx hb dX7_limit_9 (by decide) ?_
  refine lv_goto (tgt := 37) hx hb dX7_limit_10 (by decide) ?_
  refine wp_ (C := RX7) (T := TX7) (N := 31) hx hb hts hi7 tyX7 tyX7_ok nmX7 hown hw (hC.m (by decide)) hX.o rfl 0 (by decide) (hts (.fieldLink RX7 78 "LayerMoistureModel" "thrown" "I") (by decide +kernel)) (fun _ h9 => h9) rfl (ty := .int) (v := .int 1) (by decide +kernel) rfl rfl (Nat.le_of_ble_eq_true rfl) dX7_limit_37 (fun H locs hw => ?_)
  obtain ⟨f3, ef3⟩ : ∃ z : Nat → va_E, z = va_up f (ad 16) (.inr (8, [.int 1, .int (nI n), .int (nI nb), .ref (ad 17), .ref (ad 18), .double kel, .double dmp, .double spd, .double ven, .double lef, .long gon, .int (nI hr), .ref (ad 19), .ref (ad 20), .ref (ad 21), .ref (ad 22), .ref (ad 23), .ref (ad 24), .ref (ad 25), .ref (ad 26), .ref (ad 27), .int (nI tl), .int (nI pa), .int bad, .int num, .ref (ad 28), .ref (ad 29), .ref (ad 30), .ref (ad 31), .int (nI st), .int (nI dn)])) := ⟨_, rfl⟩
  have hw : ww G dA A s L f3 H locs := by rw [ef3]; exact hw
  have hX4 : MX ad dA n nb kel dmp spd ven lef gon hr tl st dn 1 pa bad num RA RB TH DE KI WE NX LI LM KE TX BW TI KV DM f0 f3 := by rw [ef3]; exact hX.sO hC kel dmp spd ven lef gon hr tl st dn 1 pa bad num
  refine lv_aload_n hx hb dX7_limit_40 rfl (lv_at hl 0 rfl) ?_
  refine wg (C := RX7) (T := TX7) (N := 31) hx hb hts hi7 hown hw (hC.m (by decide)) hX4.o rfl 0 (by decide) (hts (.fieldLink RX7 78 "LayerMoistureModel" "thrown" "I") (by decide +kernel)) (fun _ h9 => h9) (v := .int 1) rfl dX7_limit_41 ?_
  refine lv_if_ne (tgt := 68) hx hb dX7_limit_44 (by decide) (fun _ => ?_) (fun c9 => absurd c9 (by decide))
  exact hret _ _ _ _ _ hw hX4 dX7_limit_68

set_option maxHeartbeats 4000000 in
set_option maxRecDepth 100000 in
theorem t2_X7_limit (l : Launch) (G : va_G) (dA : Nat → ClassId) (L : List Nat) (f : Nat → va_E) (ad : Nat → Nat) (n nb : Nat) (q qk : Nat → Option Nat) (kel : UInt64) (dmp : UInt64) (spd : UInt64) (ven : UInt64) (lef : UInt64) (gon : Int64) (hr : Nat) (tl : Nat) (st : Nat) (dn : Nat) (thr : Int32) (pa : Nat) (bad : Int32) (num : Int32) (RA : Nat → UInt64) (RB : Nat → UInt64) (TH : Nat → Int32) (DE : Nat → UInt64) (KI : Nat → Int32) (WE : Nat → UInt64) (NX : Nat → UInt64) (LI : Nat → Int32) (LM : Nat → UInt64) (KE : Nat → Int32) (TX : Nat → Int32) (BW : Nat → Int32) (TI : Nat → Int32) (KV : Nat → Int32) (DM : Nat → Int32) (f0 : Nat → va_E) (k : Int32) (u : UInt64)  (hC : Cx ad L n nb q qk) (hX : MX ad dA n nb kel dmp spd ven lef gon hr tl st dn thr pa bad num RA RB TH DE KI WE NX LI LM KE TX BW TI KV DM f0 f) (h0 : noB nb k = false) (hbad : ¬ (FP.dcmp u FP.dconst0 = some .gt ∨ FP.dcmp u FP.dconst0 = some .eq))  : mV l yX7_limit wsX7_limit ({ frames := 1, cells := 0, slots := 0, locals := 21 }) G dA [.ref (ad 16), .int k, .double u] L f (fun f2 => MX ad dA n nb kel dmp spd ven lef gon hr tl st dn 2 pa bad num RA RB TH DE KI WE NX LI LM KE TX BW TI KV DM f0 f2) := by
  refine mV_of (cc := cX7_limit) (maxL := 4) (by decide) rfl (Nat.le_of_ble_eq_true rfl) ?_
  intro p e s m below meth c A ls Q hx hb hml hown hts hlocks hA hin0 hw hl hret
  have hown : s.vm.findClass RX7 = some m.cls := hown
  have hl : lv_has ls 4 [(0, .ref (ad 16)), (1, .int k), (2, .double u)] := hl
  have hi7 : ∀ w ∈ u_ws RX7 TX7 31, w ∈ wsX7_limit := by decide +kernel
  refine lv_aload_n hx hb dX7_limit_0 rfl (lv_at hl 0 rfl) ?_
  refine lv_aload_n hx hb dX7_limit_1 rfl (lv_at hl 0 rfl) ?_
  refine lv_iload_n hx hb dX7_limit_2 rfl (lv_at hl 1 rfl) ?_
  refine kV_I (C := RX7) (T := TX7) (N := 31) (As := [.int k]) (rest := [.ref (ad 16)]) ⟨hx, hb, hml, hown, hts⟩ (c_X7_noBoard l G dA L f ad n nb q qk kel dmp spd ven lef gon hr tl st dn thr pa bad num RA RB TH DE KI WE NX LI LM KE TX BW TI KV DM f0 k hC hX) (cwV 1 hts gX7_limit_X7_noBoard rfl rfl rfl (by decide +kernel) ⟨Nat.le_of_ble_eq_true rfl, Nat.le_of_ble_eq_true rfl⟩) hw hA (hC.m (by decide)) hX.o rfl rfl hl.1 rfl (Nat.le_of_ble_eq_true rfl) dX7_limit_3 ⟨Nat.zero_le _, Nat.zero_le _⟩ (fun r2 f1 H locs hp hw => ?_)
  obtain ⟨e1, e2⟩ := hp
  rw [e2] at hw
  rw [e1]
  refine lv_if_eq (tgt := 13) hx hb dX7_limit_6 (by decide) (fun _ => ?_) (fun c9 => absurd (by rw [h0]; rfl) c9)
  refine lv_dload_n hx hb dX7_limit_13 rfl (lv_at hl 2 rfl) ?_
  refine lv_dconst0 hx hb dX7_limit_14 ?_
  refine lv_dcmp hx hb dX7_limit_15 ?_
  refine lv_if_ge (tgt := 23) hx hb dX7_limit_16 (by decide) (fun c9 => absurd c9 (fun h7 => hbad (cmp_lge h7))) (fun _ => ?_)
  refine lv_iconst (v := 2) hx hb dX7_limit_19 (by decide) ?_
  refine lv_goto (tgt := 37) hx hb dX7_limit_20 (by decide) ?_
  refine wp_ (C := RX7) (T := TX7) (N := 31) hx hb hts hi7 tyX7 tyX7_ok nmX7 hown hw (hC.m (by decide)) hX.o rfl 0 (by decide) (hts (.fieldLink RX7 78 "LayerMoistureModel" "thrown" "I") (by decide +kernel)) (fun _ h9 => h9) rfl (ty := .int) (v := .int 2) (by decide +kernel) rfl rfl (Nat.le_of_ble_eq_true rfl) dX7_limit_37 (fun H locs hw => ?_)
  obtain ⟨f3, ef3⟩ : ∃ z : Nat → va_E, z = va_up f (ad 16) (.inr (8, [.int 2, .int (nI n), .int (nI nb), .ref (ad 17), .ref (ad 18), .double kel, .double dmp, .double spd, .double ven, .double lef, .long gon, .int (nI hr), .ref (ad 19), .ref (ad 20), .ref (ad 21), .ref (ad 22), .ref (ad 23), .ref (ad 24), .ref (ad 25), .ref (ad 26), .ref (ad 27), .int (nI tl), .int (nI pa), .int bad, .int num, .ref (ad 28), .ref (ad 29), .ref (ad 30), .ref (ad 31), .int (nI st), .int (nI dn)])) := ⟨_, rfl⟩
  have hw : ww G dA A s L f3 H locs := by rw [ef3]; exact hw
  have hX4 : MX ad dA n nb kel dmp spd ven lef gon hr tl st dn 2 pa bad num RA RB TH DE KI WE NX LI LM KE TX BW TI KV DM f0 f3 := by rw [ef3]; exact hX.sO hC kel dmp spd ven lef gon hr tl st dn 2 pa bad num
  refine lv_aload_n hx hb dX7_limit_40 rfl (lv_at hl 0 rfl) ?_
  refine wg (C := RX7) (T := TX7) (N := 31) hx hb hts hi7 hown hw (hC.m (by decide)) hX4.o rfl 0 (by decide) (hts (.fieldLink RX7 78 "LayerMoistureModel" "thrown" "I") (by decide +kernel)) (fun _ h9 => h9) (v := .int 2) rfl dX7_limit_41 ?_
  refine lv_if_ne (tgt := 68) hx hb dX7_limit_44 (by decide) (fun _ => ?_) (fun c9 => absurd c9 (by decide))
  exact hret _ _ _ _ _ hw hX4 dX7_limit_68

set_option maxHeartbeats 4000000 in
set_option maxRecDepth 100000 in
theorem t3_X7_limit (l : Launch) (G : va_G) (dA : Nat → ClassId) (L : List Nat) (f : Nat → va_E) (ad : Nat → Nat) (n nb : Nat) (q qk : Nat → Option Nat) (kel : UInt64) (dmp : UInt64) (spd : UInt64) (ven : UInt64) (lef : UInt64) (gon : Int64) (hr : Nat) (tl : Nat) (st : Nat) (dn : Nat) (thr : Int32) (pa : Nat) (bad : Int32) (num : Int32) (RA : Nat → UInt64) (RB : Nat → UInt64) (TH : Nat → Int32) (DE : Nat → UInt64) (KI : Nat → Int32) (WE : Nat → UInt64) (NX : Nat → UInt64) (LI : Nat → Int32) (LM : Nat → UInt64) (KE : Nat → Int32) (TX : Nat → Int32) (BW : Nat → Int32) (TI : Nat → Int32) (KV : Nat → Int32) (DM : Nat → Int32) (f0 : Nat → va_E) (j : Nat) (u : UInt64)  (hC : Cx ad L n nb q qk) (hX : MX ad dA n nb kel dmp spd ven lef gon hr tl st dn thr pa bad num RA RB TH DE KI WE NX LI LM KE TX BW TI KV DM f0 f) (hj : j < nb) (h1 : FP.dcmp u FP.dconst0 = some .gt ∨ FP.dcmp u FP.dconst0 = some .eq) (hbad : TH j = 0)  : mV l yX7_limit wsX7_limit ({ frames := 1, cells := 0, slots := 0, locals := 21 }) G dA [.ref (ad 16), .int (nI j), .double u] L f (fun f2 => MX ad dA n nb kel dmp spd ven lef gon hr tl st dn 3 pa bad num RA RB TH DE KI WE NX LI LM KE TX BW TI KV DM f0 f2) := by
  refine mV_of (cc := cX7_limit) (maxL := 4) (by decide) rfl (Nat.le_of_ble_eq_true rfl) ?_
  intro p e s m below meth c A ls Q hx hb hml hown hts hlocks hA hin0 hw hl hret
  have hown : s.vm.findClass RX7 = some m.cls := hown
  have hl : lv_has ls 4 [(0, .ref (ad 16)), (1, .int (nI j)), (2, .double u)] := hl
  have hi7 : ∀ w ∈ u_ws RX7 TX7 31, w ∈ wsX7_limit := by decide +kernel
  refine lv_aload_n hx hb dX7_limit_0 rfl (lv_at hl 0 rfl) ?_
  refine lv_aload_n hx hb dX7_limit_1 rfl (lv_at hl 0 rfl) ?_
  refine lv_iload_n hx hb dX7_limit_2 rfl (lv_at hl 1 rfl) ?_
  refine kV_I (C := RX7) (T := TX7) (N := 31) (As := [.int (nI j)]) (rest := [.ref (ad 16)]) ⟨hx, hb, hml, hown, hts⟩ (c_X7_noBoard l G dA L f ad n nb q qk kel dmp spd ven lef gon hr tl st dn thr pa bad num RA RB TH DE KI WE NX LI LM KE TX BW TI KV DM f0 (nI j) hC hX) (cwV 1 hts gX7_limit_X7_noBoard rfl rfl rfl (by decide +kernel) ⟨Nat.le_of_ble_eq_true rfl, Nat.le_of_ble_eq_true rfl⟩) hw hA (hC.m (by decide)) hX.o rfl rfl hl.1 rfl (Nat.le_of_ble_eq_true rfl) dX7_limit_3 ⟨Nat.zero_le _, Nat.zero_le _⟩ (fun r2 f1 H locs hp hw => ?_)
  obtain ⟨e1, e2⟩ := hp
  rw [e2] at hw
  rw [e1]
  refine lv_if_eq (tgt := 13) hx hb dX7_limit_6 (by decide) (fun _ => ?_) (fun c9 => absurd (by rw [(noB_f hC.nb31 hj)]; rfl) c9)
  refine lv_dload_n hx hb dX7_limit_13 rfl (lv_at hl 2 rfl) ?_
  refine lv_dconst0 hx hb dX7_limit_14 ?_
  refine lv_dcmp hx hb dX7_limit_15 ?_
  refine lv_if_ge (tgt := 23) hx hb dX7_limit_16 (by decide) (fun _ => ?_) (fun c9 => absurd (Classical.byContradiction fun h7 => cmp_nlge h7 h1) c9)
  refine lv_aload_n hx hb dX7_limit_23 rfl (lv_at hl 0 rfl) ?_
  refine wg (C := RX7) (T := TX7) (N := 31) hx hb hts hi7 hown hw (hC.m (by decide)) hX.o rfl 12 (by decide) (hts (.fieldLink RX7 30 "LayerMoistureModel" "there" "[Z") (by decide +kernel)) (fun _ h9 => h9) (v := .ref (ad 19)) rfl dX7_limit_24 ?_
  refine lv_iload_n hx hb dX7_limit_27 rfl (lv_at hl 1 rfl) ?_
  refine wld_z hx hb hw (hC.m (by decide)) hX.aTH j (by have := hC.2.2.2.1; omega) (by decide) rfl dX7_limit_28 ?_
  refine lv_if_eq (tgt := 36) hx hb dX7_limit_29 (by decide) (fun _ => ?_) (fun c9 => absurd hbad c9)
  refine lv_iconst (v := 3) hx hb dX7_limit_36 (by decide) ?_
  refine wp_ (C := RX7) (T := TX7) (N := 31) hx hb hts hi7 tyX7 tyX7_ok nmX7 hown hw (hC.m (by decide)) hX.o rfl 0 (by decide) (hts (.fieldLink RX7 78 "LayerMoistureModel" "thrown" "I") (by decide +kernel)) (fun _ h9 => h9) rfl (ty := .int) (v := .int 3) (by decide +kernel) rfl rfl (Nat.le_of_ble_eq_true rfl) dX7_limit_37 (fun H locs hw => ?_)
  obtain ⟨f3, ef3⟩ : ∃ z : Nat → va_E, z = va_up f (ad 16) (.inr (8, [.int 3, .int (nI n), .int (nI nb), .ref (ad 17), .ref (ad 18), .double kel, .double dmp, .double spd, .double ven, .double lef, .long gon, .int (nI hr), .ref (ad 19), .ref (ad 20), .ref (ad 21), .ref (ad 22), .ref (ad 23), .ref (ad 24), .ref (ad 25), .ref (ad 26), .ref (ad 27), .int (nI tl), .int (nI pa), .int bad, .int num, .ref (ad 28), .ref (ad 29), .ref (ad 30), .ref (ad 31), .int (nI st), .int (nI dn)])) := ⟨_, rfl⟩
  have hw : ww G dA A s L f3 H locs := by rw [ef3]; exact hw
  have hX4 : MX ad dA n nb kel dmp spd ven lef gon hr tl st dn 3 pa bad num RA RB TH DE KI WE NX LI LM KE TX BW TI KV DM f0 f3 := by rw [ef3]; exact hX.sO hC kel dmp spd ven lef gon hr tl st dn 3 pa bad num
  refine lv_aload_n hx hb dX7_limit_40 rfl (lv_at hl 0 rfl) ?_
  refine wg (C := RX7) (T := TX7) (N := 31) hx hb hts hi7 hown hw (hC.m (by decide)) hX4.o rfl 0 (by decide) (hts (.fieldLink RX7 78 "LayerMoistureModel" "thrown" "I") (by decide +kernel)) (fun _ h9 => h9) (v := .int 3) rfl dX7_limit_41 ?_
  refine lv_if_ne (tgt := 68) hx hb dX7_limit_44 (by decide) (fun _ => ?_) (fun c9 => absurd c9 (by decide))
  exact hret _ _ _ _ _ hw hX4 dX7_limit_68

set_option maxHeartbeats 4000000 in
set_option maxRecDepth 100000 in
theorem c_X7_limit (l : Launch) (G : va_G) (dA : Nat → ClassId) (L : List Nat) (f : Nat → va_E) (ad : Nat → Nat) (n nb : Nat) (q qk : Nat → Option Nat) (kel : UInt64) (dmp : UInt64) (spd : UInt64) (ven : UInt64) (lef : UInt64) (gon : Int64) (hr : Nat) (tl : Nat) (st : Nat) (dn : Nat) (thr : Int32) (pa : Nat) (bad : Int32) (num : Int32) (RA : Nat → UInt64) (RB : Nat → UInt64) (TH : Nat → Int32) (DE : Nat → UInt64) (KI : Nat → Int32) (WE : Nat → UInt64) (NX : Nat → UInt64) (LI : Nat → Int32) (LM : Nat → UInt64) (KE : Nat → Int32) (TX : Nat → Int32) (BW : Nat → Int32) (TI : Nat → Int32) (KV : Nat → Int32) (DM : Nat → Int32) (f0 : Nat → va_E) (j : Nat) (u : UInt64)  (hC : Cx ad L n nb q qk) (hX : MX ad dA n nb kel dmp spd ven lef gon hr tl st dn thr pa bad num RA RB TH DE KI WE NX LI LM KE TX BW TI KV DM f0 f) (hj : j < nb) (h1 : FP.dcmp u FP.dconst0 = some .gt ∨ FP.dcmp u FP.dconst0 = some .eq) (hth : ¬ TH j = 0)  : mV l yX7_limit wsX7_limit ({ frames := 1, cells := 0, slots := 0, locals := 21 }) G dA [.ref (ad 16), .int (nI j), .double u] L f (fun f2 => MX ad dA n nb kel dmp spd ven lef gon hr tl st dn 0 pa bad num RA RB TH DE KI WE NX (upd LI j 1) (vf_upd LM j u) (upd KE j (-1)) TX BW TI KV DM f0 f2) := by
  refine mV_of (cc := cX7_limit) (maxL := 4) (by decide) rfl (Nat.le_of_ble_eq_true rfl) ?_
  intro p e s m below meth c A ls Q hx hb hml hown hts hlocks hA hin0 hw hl hret
  have hown : s.vm.findClass RX7 = some m.cls := hown
  have hl : lv_has ls 4 [(0, .ref (ad 16)), (1, .int (nI j)), (2, .double u)] := hl
  have hi7 : ∀ w ∈ u_ws RX7 TX7 31, w ∈ wsX7_limit := by decide +kernel
  refine lv_aload_n hx hb dX7_limit_0 rfl (lv_at hl 0 rfl) ?_
  refine lv_aload_n hx hb dX7_limit_1 rfl (lv_at hl 0 rfl) ?_
  refine lv_iload_n hx hb dX7_limit_2 rfl (lv_at hl 1 rfl) ?_
  refine kV_I (C := RX7) (T := TX7) (N := 31) (As := [.int (nI j)]) (rest := [.ref (ad 16)]) ⟨hx, hb, hml, hown, hts⟩ (c_X7_noBoard l G dA L f ad n nb q qk kel dmp spd ven lef gon hr tl st dn thr pa bad num RA RB TH DE KI WE NX LI LM KE TX BW TI KV DM f0 (nI j) hC hX) (cwV 1 hts gX7_limit_X7_noBoard rfl rfl rfl (by decide +kernel) ⟨Nat.le_of_ble_eq_true rfl, Nat.le_of_ble_eq_true rfl⟩) hw hA (hC.m (by decide)) hX.o rfl rfl hl.1 rfl (Nat.le_of_ble_eq_true rfl) dX7_limit_3 ⟨Nat.zero_le _, Nat.zero_le _⟩ (fun r2 f1 H locs hp hw => ?_)
  obtain ⟨e1, e2⟩ := hp
  rw [e2] at hw
  rw [e1]
  refine lv_if_eq (tgt := 13) hx hb dX7_limit_6 (by decide) (fun _ => ?_) (fun c9 => absurd (by rw [(noB_f hC.nb31 hj)]; rfl) c9)
  refine lv_dload_n hx hb dX7_limit_13 rfl (lv_at hl 2 rfl) ?_
  refine lv_dconst0 hx hb dX7_limit_14 ?_
  refine lv_dcmp hx hb dX7_limit_15 ?_
  refine lv_if_ge (tgt := 23) hx hb dX7_limit_16 (by decide) (fun _ => ?_) (fun c9 => absurd (Classical.byContradiction fun h7 => cmp_nlge h7 h1) c9)
  refine lv_aload_n hx hb dX7_limit_23 rfl (lv_at hl 0 rfl) ?_
  refine wg (C := RX7) (T := TX7) (N := 31) hx hb hts hi7 hown hw (hC.m (by decide)) hX.o rfl 12 (by decide) (hts (.fieldLink RX7 30 "LayerMoistureModel" "there" "[Z") (by decide +kernel)) (fun _ h9 => h9) (v := .ref (ad 19)) rfl dX7_limit_24 ?_
  refine lv_iload_n hx hb dX7_limit_27 rfl (lv_at hl 1 rfl) ?_
  refine wld_z hx hb hw (hC.m (by decide)) hX.aTH j (by have := hC.2.2.2.1; omega) (by decide) rfl dX7_limit_28 ?_
  refine lv_if_eq (tgt := 36) hx hb dX7_limit_29 (by decide) (fun c9 => absurd c9 hth) (fun _ => ?_)
  refine lv_iconst (v := 0) hx hb dX7_limit_32 (by decide) ?_
  refine lv_goto (tgt := 37) hx hb dX7_limit_33 (by decide) ?_
  refine wp_ (C := RX7) (T := TX7) (N := 31) hx hb hts hi7 tyX7 tyX7_ok nmX7 hown hw (hC.m (by decide)) hX.o rfl 0 (by decide) (hts (.fieldLink RX7 78 "LayerMoistureModel" "thrown" "I") (by decide +kernel)) (fun _ h9 => h9) rfl (ty := .int) (v := .int 0) (by decide +kernel) rfl rfl (Nat.le_of_ble_eq_true rfl) dX7_limit_37 (fun H locs hw => ?_)
  obtain ⟨f3, ef3⟩ : ∃ z : Nat → va_E, z = va_up f (ad 16) (.inr (8, [.int 0, .int (nI n), .int (nI nb), .ref (ad 17), .ref (ad 18), .double kel, .double dmp, .double spd, .double ven, .double lef, .long gon, .int (nI hr), .ref (ad 19), .ref (ad 20), .ref (ad 21), .ref (ad 22), .ref (ad 23), .ref (ad 24), .ref (ad 25), .ref (ad 26), .ref (ad 27), .int (nI tl), .int (nI pa), .int bad, .int num, .ref (ad 28), .ref (ad 29), .ref (ad 30), .ref (ad 31), .int (nI st), .int (nI dn)])) := ⟨_, rfl⟩
  have hw : ww G dA A s L f3 H locs := by rw [ef3]; exact hw
  have hX4 : MX ad dA n nb kel dmp spd ven lef gon hr tl st dn 0 pa bad num RA RB TH DE KI WE NX LI LM KE TX BW TI KV DM f0 f3 := by rw [ef3]; exact hX.sO hC kel dmp spd ven lef gon hr tl st dn 0 pa bad num
  refine lv_aload_n hx hb dX7_limit_40 rfl (lv_at hl 0 rfl) ?_
  refine wg (C := RX7) (T := TX7) (N := 31) hx hb hts hi7 hown hw (hC.m (by decide)) hX4.o rfl 0 (by decide) (hts (.fieldLink RX7 78 "LayerMoistureModel" "thrown" "I") (by decide +kernel)) (fun _ h9 => h9) (v := .int 0) rfl dX7_limit_41 ?_
  refine lv_if_ne (tgt := 68) hx hb dX7_limit_44 (by decide) (fun c9 => absurd c9 (fun h7 => h7 rfl)) (fun _ => ?_)
  refine lv_aload_n hx hb dX7_limit_47 rfl (lv_at hl 0 rfl) ?_
  refine wg (C := RX7) (T := TX7) (N := 31) hx hb hts hi7 hown hw (hC.m (by decide)) hX4.o rfl 17 (by decide) (hts (.fieldLink RX7 47 "LayerMoistureModel" "limited" "[Z") (by decide +kernel)) (fun _ h9 => h9) (v := .ref (ad 24)) rfl dX7_limit_48 ?_
  refine lv_iload_n hx hb dX7_limit_51 rfl (lv_at hl 1 rfl) ?_
  refine lv_iconst (v := 1) hx hb dX7_limit_52 (by decide) ?_
  refine wst_z hx hb hw (hC.m (by decide)) hX4.aLI j (by have := hC.2.2.2.1; omega) (by decide) rfl dX7_limit_53 (fun H locs hw => ?_)
  obtain ⟨f5, ef5⟩ : ∃ z : Nat → va_E, z = va_up f3 (ad 24) (aI (dA 3) 8 (upd LI j (vp_nar .boolean 1))) := ⟨_, rfl⟩
  have hw : ww G dA A s L f5 H locs := by rw [ef5]; exact hw
  have hX6 : MX ad dA n nb kel dmp spd ven lef gon hr tl st dn 0 pa bad num RA RB TH DE KI WE NX (upd LI j (vp_nar .boolean 1)) LM KE TX BW TI KV DM f0 f5 := by rw [ef5]; exact hX4.sLI hC _
  refine lv_aload_n hx hb dX7_limit_54 rfl (lv_at hl 0 rfl) ?_
  refine wg (C := RX7) (T := TX7) (N := 31) hx hb hts hi7 hown hw (hC.m (by decide)) hX6.o rfl 18 (by decide) (hts (.fieldLink RX7 50 "LayerMoistureModel" "limits" "[D") (by decide +kernel)) (fun _ h9 => h9) (v := .ref (ad 25)) rfl dX7_limit_55 ?_
  refine lv_iload_n hx hb dX7_limit_58 rfl (lv_at hl 1 rfl) ?_
  refine lv_dload_n hx hb dX7_limit_59 rfl (lv_at hl 2 rfl) ?_
  refine wst_d hx hb hw (hC.m (by decide)) hX6.aLM j (by have := hC.2.2.2.1; omega) (by decide) rfl dX7_limit_60 (fun H locs hw => ?_)
  obtain ⟨f7, ef7⟩ : ∃ z : Nat → va_E, z = va_up f5 (ad 25) (aD (dA 1) 8 (vf_upd LM j u)) := ⟨_, rfl⟩
  have hw : ww G dA A s L f7 H locs := by rw [ef7]; exact hw
  have hX8 : MX ad dA n nb kel dmp spd ven lef gon hr tl st dn 0 pa bad num RA RB TH DE KI WE NX (upd LI j (vp_nar .boolean 1)) (vf_upd LM j u) KE TX BW TI KV DM f0 f7 := by rw [ef7]; exact hX6.sLM hC _
  refine lv_aload_n hx hb dX7_limit_61 rfl (lv_at hl 0 rfl) ?_
  refine wg (C := RX7) (T := TX7) (N := 31) hx hb hts hi7 hown hw (hC.m (by decide)) hX8.o rfl 19 (by decide) (hts (.fieldLink RX7 53 "LayerMoistureModel" "kept" "[I") (by decide +kernel)) (fun _ h9 => h9) (v := .ref (ad 26)) rfl dX7_limit_62 ?_
  refine lv_iload_n hx hb dX7_limit_65 rfl (lv_at hl 1 rfl) ?_
  refine lv_iconst (v := (-1)) hx hb dX7_limit_66 (by decide) ?_
  refine wst_i hx hb hw (hC.m (by decide)) hX8.aKE j (by have := hC.2.2.2.1; omega) (by decide) rfl dX7_limit_67 (fun H locs hw => ?_)
  obtain ⟨f9, ef9⟩ : ∃ z : Nat → va_E, z = va_up f7 (ad 26) (aI (dA 2) 8 (upd KE j (-1))) := ⟨_, rfl⟩
  have hw : ww G dA A s L f9 H locs := by rw [ef9]; exact hw
  have hX10 : MX ad dA n nb kel dmp spd ven lef gon hr tl st dn 0 pa bad num RA RB TH DE KI WE NX (upd LI j (vp_nar .boolean 1)) (vf_upd LM j u) (upd KE j (-1)) TX BW TI KV DM f0 f9 := by rw [ef9]; exact hX8.sKE hC _
  exact hret _ _ _ _ _ hw hX10 dX7_limit_68

set_option maxHeartbeats 4000000 in
set_option maxRecDepth 100000 in
theorem t1_X7_isMissing (l : Launch) (G : va_G) (dA : Nat → ClassId) (L : List Nat) (f : Nat → va_E) (ad : Nat → Nat) (n nb : Nat) (q qk : Nat → Option Nat) (kel : UInt64) (dmp : UInt64) (spd : UInt64) (ven : UInt64) (lef : UInt64) (gon : Int64) (hr : Nat) (tl : Nat) (st : Nat) (dn : Nat) (thr : Int32) (pa : Nat) (bad : Int32) (num : Int32) (RA : Nat → UInt64) (RB : Nat → UInt64) (TH : Nat → Int32) (DE : Nat → UInt64) (KI : Nat → Int32) (WE : Nat → UInt64) (NX : Nat → UInt64) (LI : Nat → Int32) (LM : Nat → UInt64) (KE : Nat → Int32) (TX : Nat → Int32) (BW : Nat → Int32) (TI : Nat → Int32) (KV : Nat → Int32) (DM : Nat → Int32) (f0 : Nat → va_E) (k : Int32)  (hC : Cx ad L n nb q qk) (hX : MX ad dA n nb kel dmp spd ven lef gon hr tl st dn thr pa bad num RA RB TH DE KI WE NX LI LM KE TX BW TI KV DM f0 f)   : mI l yX7_isMissing wsX7_isMissing ({ frames := 0, cells := 0, slots := 0, locals := 0 }) G dA [.ref (ad 16), .int k, .int 1] L f (fun r f2 => r = 1 ∧ MX ad dA n nb kel dmp spd ven lef gon hr tl st dn 1 pa bad num RA RB TH DE KI WE NX LI LM KE TX BW TI KV DM f0 f2) := by
  refine mI_of (cc := cX7_isMissing) (maxL := 3) (by decide) rfl (Nat.le_of_ble_eq_true rfl) ?_
  intro p e s m below meth c A ls Q hx hb hml hown hts hlocks hA hin0 hw hl hret
  have hown : s.vm.findClass RX7 = some m.cls := hown
  have hl : lv_has ls 3 [(0, .ref (ad 16)), (1, .int k), (2, .int 1)] := hl
  have hi7 : ∀ w ∈ u_ws RX7 TX7 31, w ∈ wsX7_isMissing := by decide +kernel
  refine lv_aload_n hx hb dX7_isMissing_0 rfl (lv_at hl 0 rfl) ?_
  refine lv_iload_n hx hb dX7_isMissing_1 rfl (lv_at hl 2 rfl) ?_
  refine lv_if_eq (tgt := 9) hx hb dX7_isMissing_2 (by decide) (fun c9 => absurd c9 (by decide)) (fun _ => ?_)
  refine lv_iconst (v := 1) hx hb dX7_isMissing_5 (by decide) ?_
  refine lv_goto (tgt := 23) hx hb dX7_isMissing_6 (by decide) ?_
  refine wp_ (C := RX7) (T := TX7) (N := 31) hx hb hts hi7 tyX7 tyX7_ok nmX7 hown hw (hC.m (by decide)) hX.o rfl 0 (by decide) (hts (.fieldLink RX7 78 "LayerMoistureModel" "thrown" "I") (by decide +kernel)) (fun _ h9 => h9) rfl (ty := .int) (v := .int 1) (by decide +kernel) rfl rfl (Nat.le_of_ble_eq_true rfl) dX7_isMissing_23 (fun H locs hw => ?_)
  obtain ⟨f1, ef1⟩ : ∃ z : Nat → va_E, z = va_up f (ad 16) (.inr (8, [.int 1, .int (nI n), .int (nI nb), .ref (ad 17), .ref (ad 18), .double kel, .double dmp, .double spd, .double ven, .double lef, .long gon, .int (nI hr), .ref (ad 19), .ref (ad 20), .ref (ad 21), .ref (ad 22), .ref (ad 23), .ref (ad 24), .ref (ad 25), .ref (ad 26), .ref (ad 27), .int (nI tl), .int (nI pa), .int bad, .int num, .ref (ad 28), .ref (ad 29), .ref (ad 30), .ref (ad 31), .int (nI st), .int (nI dn)])) := ⟨_, rfl⟩
  have hw : ww G dA A s L f1 H locs := by rw [ef1]; exact hw
  have hX2 : MX ad dA n nb kel dmp spd ven lef gon hr tl st dn 1 pa bad num RA RB TH DE KI WE NX LI LM KE TX BW TI KV DM f0 f1 := by rw [ef1]; exact hX.sO hC kel dmp spd ven lef gon hr tl st dn 1 pa bad num
  refine lv_aload_n hx hb dX7_isMissing_26 rfl (lv_at hl 0 rfl) ?_
  refine wg (C := RX7) (T := TX7) (N := 31) hx hb hts hi7 hown hw (hC.m (by decide)) hX2.o rfl 0 (by decide) (hts (.fieldLink RX7 78 "LayerMoistureModel" "thrown" "I") (by decide +kernel)) (fun _ h9 => h9) (v := .int 1) rfl dX7_isMissing_27 ?_
  refine lv_if_le (tgt := 37) hx hb dX7_isMissing_30 (by decide) (fun c9 => absurd c9 (by decide)) (fun _ => ?_)
  refine lv_iconst (v := 1) hx hb dX7_isMissing_33 (by decide) ?_
  refine lv_goto (tgt := 38) hx hb dX7_isMissing_34 (by decide) ?_
  exact hret _ _ _ _ _ _ hw ⟨rfl, hX2⟩ (by decide) dX7_isMissing_38

set_option maxHeartbeats 4000000 in
set_option maxRecDepth 100000 in
theorem t2_X7_isMissing (l : Launch) (G : va_G) (dA : Nat → ClassId) (L : List Nat) (f : Nat → va_E) (ad : Nat → Nat) (n nb : Nat) (q qk : Nat → Option Nat) (kel : UInt64) (dmp : UInt64) (spd : UInt64) (ven : UInt64) (lef : UInt64) (gon : Int64) (hr : Nat) (tl : Nat) (st : Nat) (dn : Nat) (thr : Int32) (pa : Nat) (bad : Int32) (num : Int32) (RA : Nat → UInt64) (RB : Nat → UInt64) (TH : Nat → Int32) (DE : Nat → UInt64) (KI : Nat → Int32) (WE : Nat → UInt64) (NX : Nat → UInt64) (LI : Nat → Int32) (LM : Nat → UInt64) (KE : Nat → Int32) (TX : Nat → Int32) (BW : Nat → Int32) (TI : Nat → Int32) (KV : Nat → Int32) (DM : Nat → Int32) (f0 : Nat → va_E) (j : Nat)  (hC : Cx ad L n nb q qk) (hX : MX ad dA n nb kel dmp spd ven lef gon hr tl st dn thr pa bad num RA RB TH DE KI WE NX LI LM KE TX BW TI KV DM f0 f) (hj : j < nb) (hbad : TH j = 0)  : mI l yX7_isMissing wsX7_isMissing ({ frames := 0, cells := 0, slots := 0, locals := 0 }) G dA [.ref (ad 16), .int (nI j), .int 0] L f (fun r f2 => r = 1 ∧ MX ad dA n nb kel dmp spd ven lef gon hr tl st dn 2 pa bad num RA RB TH DE KI WE NX LI LM KE TX BW TI KV DM f0 f2) := by
  refine mI_of (cc := cX7_isMissing) (maxL := 3) (by decide) rfl (Nat.le_of_ble_eq_true rfl) ?_
  intro p e s m below meth c A ls Q hx hb hml hown hts hlocks hA hin0 hw hl hret
  have hown : s.vm.findClass RX7 = some m.cls := hown
  have hl : lv_has ls 3 [(0, .ref (ad 16)), (1, .int (nI j)), (2, .int 0)] := hl
  have hi7 : ∀ w ∈ u_ws RX7 TX7 31, w ∈ wsX7_isMissing := by decide +kernel
  refine lv_aload_n hx hb dX7_isMissing_0 rfl (lv_at hl 0 rfl) ?_
  refine lv_iload_n hx hb dX7_isMissing_1 rfl (lv_at hl 2 rfl) ?_
  refine lv_if_eq (tgt := 9) hx hb dX7_isMissing_2 (by decide) (fun _ => ?_) (fun c9 => absurd rfl c9)
  refine lv_aload_n hx hb dX7_isMissing_9 rfl (lv_at hl 0 rfl) ?_
  refine wg (C := RX7) (T := TX7) (N := 31) hx hb hts hi7 hown hw (hC.m (by decide)) hX.o rfl 12 (by decide) (hts (.fieldLink RX7 30 "LayerMoistureModel" "there" "[Z") (by decide +kernel)) (fun _ h9 => h9) (v := .ref (ad 19)) rfl dX7_isMissing_10 ?_
  refine lv_iload_n hx hb dX7_isMissing_13 rfl (lv_at hl 1 rfl) ?_
  refine wld_z hx hb hw (hC.m (by decide)) hX.aTH j (by have := hC.2.2.2.1; omega) (by decide) rfl dX7_isMissing_14 ?_
  refine lv_if_eq (tgt := 22) hx hb dX7_isMissing_15 (by decide) (fun _ => ?_) (fun c9 => absurd hbad c9)
  refine lv_iconst (v := 2) hx hb dX7_isMissing_22 (by decide) ?_
  refine wp_ (C := RX7) (T := TX7) (N := 31) hx hb hts hi7 tyX7 tyX7_ok nmX7 hown hw (hC.m (by decide)) hX.o rfl 0 (by decide) (hts (.fieldLink RX7 78 "LayerMoistureModel" "thrown" "I") (by decide +kernel)) (fun _ h9 => h9) rfl (ty := .int) (v := .int 2) (by decide +kernel) rfl rfl (Nat.le_of_ble_eq_true rfl) dX7_isMissing_23 (fun H locs hw => ?_)
  obtain ⟨f1, ef1⟩ : ∃ z : Nat → va_E, z = va_up f (ad 16) (.inr (8, [.int 2, .int (nI n), .int (nI nb), .ref (ad 17), .ref (ad 18), .double kel, .double dmp, .double spd, .double ven, .double lef, .long gon, .int (nI hr), .ref (ad 19), .ref (ad 20), .ref (ad 21), .ref (ad 22), .ref (ad 23), .ref (ad 24), .ref (ad 25), .ref (ad 26), .ref (ad 27), .int (nI tl), .int (nI pa), .int bad, .int num, .ref (ad 28), .ref (ad 29), .ref (ad 30), .ref (ad 31), .int (nI st), .int (nI dn)])) := ⟨_, rfl⟩
  have hw : ww G dA A s L f1 H locs := by rw [ef1]; exact hw
  have hX2 : MX ad dA n nb kel dmp spd ven lef gon hr tl st dn 2 pa bad num RA RB TH DE KI WE NX LI LM KE TX BW TI KV DM f0 f1 := by rw [ef1]; exact hX.sO hC kel dmp spd ven lef gon hr tl st dn 2 pa bad num
  refine lv_aload_n hx hb dX7_isMissing_26 rfl (lv_at hl 0 rfl) ?_
  refine wg (C := RX7) (T := TX7) (N := 31) hx hb hts hi7 hown hw (hC.m (by decide)) hX2.o rfl 0 (by decide) (hts (.fieldLink RX7 78 "LayerMoistureModel" "thrown" "I") (by decide +kernel)) (fun _ h9 => h9) (v := .int 2) rfl dX7_isMissing_27 ?_
  refine lv_if_le (tgt := 37) hx hb dX7_isMissing_30 (by decide) (fun c9 => absurd c9 (by decide)) (fun _ => ?_)
  refine lv_iconst (v := 1) hx hb dX7_isMissing_33 (by decide) ?_
  refine lv_goto (tgt := 38) hx hb dX7_isMissing_34 (by decide) ?_
  exact hret _ _ _ _ _ _ hw ⟨rfl, hX2⟩ (by decide) dX7_isMissing_38

set_option maxHeartbeats 4000000 in
set_option maxRecDepth 100000 in
theorem c_X7_isMissing (l : Launch) (G : va_G) (dA : Nat → ClassId) (L : List Nat) (f : Nat → va_E) (ad : Nat → Nat) (n nb : Nat) (q qk : Nat → Option Nat) (kel : UInt64) (dmp : UInt64) (spd : UInt64) (ven : UInt64) (lef : UInt64) (gon : Int64) (hr : Nat) (tl : Nat) (st : Nat) (dn : Nat) (thr : Int32) (pa : Nat) (bad : Int32) (num : Int32) (RA : Nat → UInt64) (RB : Nat → UInt64) (TH : Nat → Int32) (DE : Nat → UInt64) (KI : Nat → Int32) (WE : Nat → UInt64) (NX : Nat → UInt64) (LI : Nat → Int32) (LM : Nat → UInt64) (KE : Nat → Int32) (TX : Nat → Int32) (BW : Nat → Int32) (TI : Nat → Int32) (KV : Nat → Int32) (DM : Nat → Int32) (f0 : Nat → va_E) (j : Nat)  (hC : Cx ad L n nb q qk) (hX : MX ad dA n nb kel dmp spd ven lef gon hr tl st dn thr pa bad num RA RB TH DE KI WE NX LI LM KE TX BW TI KV DM f0 f) (hj : j < nb) (hth : ¬ TH j = 0)  : mI l yX7_isMissing wsX7_isMissing ({ frames := 0, cells := 0, slots := 0, locals := 0 }) G dA [.ref (ad 16), .int (nI j), .int 0] L f (fun r f2 => r = 0 ∧ MX ad dA n nb kel dmp spd ven lef gon hr tl st dn 0 pa bad num RA RB TH DE KI WE NX LI LM KE TX BW TI KV DM f0 f2) := by
  refine mI_of (cc := cX7_isMissing) (maxL := 3) (by decide) rfl (Nat.le_of_ble_eq_true rfl) ?_
  intro p e s m below meth c A ls Q hx hb hml hown hts hlocks hA hin0 hw hl hret
  have hown : s.vm.findClass RX7 = some m.cls := hown
  have hl : lv_has ls 3 [(0, .ref (ad 16)), (1, .int (nI j)), (2, .int 0)] := hl
  have hi7 : ∀ w ∈ u_ws RX7 TX7 31, w ∈ wsX7_isMissing := by decide +kernel
  refine lv_aload_n hx hb dX7_isMissing_0 rfl (lv_at hl 0 rfl) ?_
  refine lv_iload_n hx hb dX7_isMissing_1 rfl (lv_at hl 2 rfl) ?_
  refine lv_if_eq (tgt := 9) hx hb dX7_isMissing_2 (by decide) (fun _ => ?_) (fun c9 => absurd rfl c9)
  refine lv_aload_n hx hb dX7_isMissing_9 rfl (lv_at hl 0 rfl) ?_
  refine wg (C := RX7) (T := TX7) (N := 31) hx hb hts hi7 hown hw (hC.m (by decide)) hX.o rfl 12 (by decide) (hts (.fieldLink RX7 30 "LayerMoistureModel" "there" "[Z") (by decide +kernel)) (fun _ h9 => h9) (v := .ref (ad 19)) rfl dX7_isMissing_10 ?_
  refine lv_iload_n hx hb dX7_isMissing_13 rfl (lv_at hl 1 rfl) ?_
  refine wld_z hx hb hw (hC.m (by decide)) hX.aTH j (by have := hC.2.2.2.1; omega) (by decide) rfl dX7_isMissing_14 ?_
  refine lv_if_eq (tgt := 22) hx hb dX7_isMissing_15 (by decide) (fun c9 => absurd c9 hth) (fun _ => ?_)
  refine lv_iconst (v := 0) hx hb dX7_isMissing_18 (by decide) ?_
  refine lv_goto (tgt := 23) hx hb dX7_isMissing_19 (by decide) ?_
  refine wp_ (C := RX7) (T := TX7) (N := 31) hx hb hts hi7 tyX7 tyX7_ok nmX7 hown hw (hC.m (by decide)) hX.o rfl 0 (by decide) (hts (.fieldLink RX7 78 "LayerMoistureModel" "thrown" "I") (by decide +kernel)) (fun _ h9 => h9) rfl (ty := .int) (v := .int 0) (by decide +kernel) rfl rfl (Nat.le_of_ble_eq_true rfl) dX7_isMissing_23 (fun H locs hw => ?_)
  obtain ⟨f1, ef1⟩ : ∃ z : Nat → va_E, z = va_up f (ad 16) (.inr (8, [.int 0, .int (nI n), .int (nI nb), .ref (ad 17), .ref (ad 18), .double kel, .double dmp, .double spd, .double ven, .double lef, .long gon, .int (nI hr), .ref (ad 19), .ref (ad 20), .ref (ad 21), .ref (ad 22), .ref (ad 23), .ref (ad 24), .ref (ad 25), .ref (ad 26), .ref (ad 27), .int (nI tl), .int (nI pa), .int bad, .int num, .ref (ad 28), .ref (ad 29), .ref (ad 30), .ref (ad 31), .int (nI st), .int (nI dn)])) := ⟨_, rfl⟩
  have hw : ww G dA A s L f1 H locs := by rw [ef1]; exact hw
  have hX2 : MX ad dA n nb kel dmp spd ven lef gon hr tl st dn 0 pa bad num RA RB TH DE KI WE NX LI LM KE TX BW TI KV DM f0 f1 := by rw [ef1]; exact hX.sO hC kel dmp spd ven lef gon hr tl st dn 0 pa bad num
  refine lv_aload_n hx hb dX7_isMissing_26 rfl (lv_at hl 0 rfl) ?_
  refine wg (C := RX7) (T := TX7) (N := 31) hx hb hts hi7 hown hw (hC.m (by decide)) hX2.o rfl 0 (by decide) (hts (.fieldLink RX7 78 "LayerMoistureModel" "thrown" "I") (by decide +kernel)) (fun _ h9 => h9) (v := .int 0) rfl dX7_isMissing_27 ?_
  refine lv_if_le (tgt := 37) hx hb dX7_isMissing_30 (by decide) (fun _ => ?_) (fun c9 => absurd (by decide) c9)
  refine lv_iconst (v := 0) hx hb dX7_isMissing_37 (by decide) ?_
  exact hret _ _ _ _ _ _ hw ⟨rfl, hX2⟩ (by decide) dX7_isMissing_38

set_option maxHeartbeats 4000000 in
set_option maxRecDepth 100000 in
theorem t1_X7_check (l : Launch) (G : va_G) (dA : Nat → ClassId) (L : List Nat) (f : Nat → va_E) (ad : Nat → Nat) (n nb : Nat) (q qk : Nat → Option Nat) (kel : UInt64) (dmp : UInt64) (spd : UInt64) (ven : UInt64) (lef : UInt64) (gon : Int64) (hr : Nat) (tl : Nat) (st : Nat) (dn : Nat) (thr : Int32) (pa : Nat) (bad : Int32) (num : Int32) (RA : Nat → UInt64) (RB : Nat → UInt64) (TH : Nat → Int32) (DE : Nat → UInt64) (KI : Nat → Int32) (WE : Nat → UInt64) (NX : Nat → UInt64) (LI : Nat → Int32) (LM : Nat → UInt64) (KE : Nat → Int32) (TX : Nat → Int32) (BW : Nat → Int32) (TI : Nat → Int32) (KV : Nat → Int32) (DM : Nat → Int32) (f0 : Nat → va_E) (k : Int32)  (hC : Cx ad L n nb q qk) (hX : MX ad dA n nb kel dmp spd ven lef gon hr tl st dn thr pa bad num RA RB TH DE KI WE NX LI LM KE TX BW TI KV DM f0 f) (hbad : noB nb k = true)  : mI l yX7_check wsX7_check ({ frames := 1, cells := 0, slots := 0, locals := 22 }) G dA [.ref (ad 16), .int k] L f (fun r f2 => MX ad dA n nb kel dmp spd ven lef gon hr tl st dn 1 pa bad num RA RB TH DE KI WE NX LI LM KE TX BW TI KV DM f0 f2) := by
  refine mI_of (cc := cX7_check) (maxL := 2) (by decide) rfl (Nat.le_of_ble_eq_true rfl) ?_
  intro p e s m below meth c A ls Q hx hb hml hown hts hlocks hA hin0 hw hl hret
  have hown : s.vm.findClass RX7 = some m.cls := hown
  have hl : lv_has ls 2 [(0, .ref (ad 16)), (1, .int k)] := hl
  refine lv_aload_n hx hb dX7_check_0 rfl (lv_at hl 0 rfl) ?_
  refine lv_iload_n hx hb dX7_check_1 rfl (lv_at hl 1 rfl) ?_
  refine lv_aload_n hx hb dX7_check_2 rfl (lv_at hl 0 rfl) ?_
  refine lv_iload_n hx hb dX7_check_3 rfl (lv_at hl 1 rfl) ?_
  refine kV_I (C := RX7) (T := TX7) (N := 31) (As := [.int k]) (rest := [.int k, .ref (ad 16)]) ⟨hx, hb, hml, hown, hts⟩ (c_X7_noBoard l G dA L f ad n nb q qk kel dmp spd ven lef gon hr tl st dn thr pa bad num RA RB TH DE KI WE NX LI LM KE TX BW TI KV DM f0 k hC hX) (cwV 1 hts gX7_check_X7_noBoard rfl rfl rfl (by decide +kernel) ⟨Nat.le_of_ble_eq_true rfl, Nat.le_of_ble_eq_true rfl⟩) hw hA (hC.m (by decide)) hX.o rfl rfl hl.1 rfl (Nat.le_of_ble_eq_true rfl) dX7_check_4 ⟨Nat.zero_le _, Nat.zero_le _⟩ (fun r2 f1 H locs hp hw => ?_)
  obtain ⟨e1, e2⟩ := hp
  rw [e2] at hw
  rw [e1]
  rw [show b2i (noB nb k) = 1 from (by rw [hbad]; rfl)]
  refine kV_I (C := RX7) (T := TX7) (N := 31) (As := [.int k, .int 1]) (rest := []) ⟨hx, hb, hml, hown, hts⟩ (t1_X7_isMissing l G dA L f ad n nb q qk kel dmp spd ven lef gon hr tl st dn thr pa bad num RA RB TH DE KI WE NX LI LM KE TX BW TI KV DM f0 k hC hX) (cwV 2 hts gX7_check_X7_isMissing rfl rfl rfl (by decide +kernel) ⟨Nat.le_of_ble_eq_true rfl, Nat.le_of_ble_eq_true rfl⟩) hw hA (hC.m (by decide)) hX.o rfl rfl hl.1 rfl (Nat.le_of_ble_eq_true rfl) dX7_check_7 ⟨Nat.zero_le _, Nat.zero_le _⟩ (fun r4 f3 H locs hp hw => ?_)
  obtain ⟨e1, e2⟩ := hp
  rw [e1]
  have hX5 : MX ad dA n nb kel dmp spd ven lef gon hr tl st dn 1 pa bad num RA RB TH DE KI WE NX LI LM KE TX BW TI KV DM f0 f3 := e2
  refine lv_if_eq (tgt := 17) hx hb dX7_check_10 (by decide) (fun c9 => absurd c9 (by decide)) (fun _ => ?_)
  refine lv_iconst (v := 0) hx hb dX7_check_13 (by decide) ?_
  refine lv_goto (tgt := 23) hx hb dX7_check_14 (by decide) ?_
  exact hret _ _ _ _ _ _ hw hX5 rfl dX7_check_23

set_option maxHeartbeats 4000000 in
set_option maxRecDepth 100000 in
theorem t2_X7_check (l : Launch) (G : va_G) (dA : Nat → ClassId) (L : List Nat) (f : Nat → va_E) (ad : Nat → Nat) (n nb : Nat) (q qk : Nat → Option Nat) (kel : UInt64) (dmp : UInt64) (spd : UInt64) (ven : UInt64) (lef : UInt64) (gon : Int64) (hr : Nat) (tl : Nat) (st : Nat) (dn : Nat) (thr : Int32) (pa : Nat) (bad : Int32) (num : Int32) (RA : Nat → UInt64) (RB : Nat → UInt64) (TH : Nat → Int32) (DE : Nat → UInt64) (KI : Nat → Int32) (WE : Nat → UInt64) (NX : Nat → UInt64) (LI : Nat → Int32) (LM : Nat → UInt64) (KE : Nat → Int32) (TX : Nat → Int32) (BW : Nat → Int32) (TI : Nat → Int32) (KV : Nat → Int32) (DM : Nat → Int32) (f0 : Nat → va_E) (j : Nat)  (hC : Cx ad L n nb q qk) (hX : MX ad dA n nb kel dmp spd ven lef gon hr tl st dn thr pa bad num RA RB TH DE KI WE NX LI LM KE TX BW TI KV DM f0 f) (hj : j < nb) (hbad : TH j = 0)  : mI l yX7_check wsX7_check ({ frames := 1, cells := 0, slots := 0, locals := 22 }) G dA [.ref (ad 16), .int (nI j)] L f (fun r f2 => MX ad dA n nb kel dmp spd ven lef gon hr tl st dn 2 pa bad num RA RB TH DE KI WE NX LI LM KE TX BW TI KV DM f0 f2) := by
  refine mI_of (cc := cX7_check) (maxL := 2) (by decide) rfl (Nat.le_of_ble_eq_true rfl) ?_
  intro p e s m below meth c A ls Q hx hb hml hown hts hlocks hA hin0 hw hl hret
  have hown : s.vm.findClass RX7 = some m.cls := hown
  have hl : lv_has ls 2 [(0, .ref (ad 16)), (1, .int (nI j))] := hl
  refine lv_aload_n hx hb dX7_check_0 rfl (lv_at hl 0 rfl) ?_
  refine lv_iload_n hx hb dX7_check_1 rfl (lv_at hl 1 rfl) ?_
  refine lv_aload_n hx hb dX7_check_2 rfl (lv_at hl 0 rfl) ?_
  refine lv_iload_n hx hb dX7_check_3 rfl (lv_at hl 1 rfl) ?_
  refine kV_I (C := RX7) (T := TX7) (N := 31) (As := [.int (nI j)]) (rest := [.int (nI j), .ref (ad 16)]) ⟨hx, hb, hml, hown, hts⟩ (c_X7_noBoard l G dA L f ad n nb q qk kel dmp spd ven lef gon hr tl st dn thr pa bad num RA RB TH DE KI WE NX LI LM KE TX BW TI KV DM f0 (nI j) hC hX) (cwV 1 hts gX7_check_X7_noBoard rfl rfl rfl (by decide +kernel) ⟨Nat.le_of_ble_eq_true rfl, Nat.le_of_ble_eq_true rfl⟩) hw hA (hC.m (by decide)) hX.o rfl rfl hl.1 rfl (Nat.le_of_ble_eq_true rfl) dX7_check_4 ⟨Nat.zero_le _, Nat.zero_le _⟩ (fun r2 f1 H locs hp hw => ?_)
  obtain ⟨e1, e2⟩ := hp
  rw [e2] at hw
  rw [e1]
  rw [show b2i (noB nb (nI j)) = 0 from (by rw [(noB_f hC.nb31 hj)]; rfl)]
  refine kV_I (C := RX7) (T := TX7) (N := 31) (As := [.int (nI j), .int 0]) (rest := []) ⟨hx, hb, hml, hown, hts⟩ (t2_X7_isMissing l G dA L f ad n nb q qk kel dmp spd ven lef gon hr tl st dn thr pa bad num RA RB TH DE KI WE NX LI LM KE TX BW TI KV DM f0 j hC hX hj hbad) (cwV 2 hts gX7_check_X7_isMissing rfl rfl rfl (by decide +kernel) ⟨Nat.le_of_ble_eq_true rfl, Nat.le_of_ble_eq_true rfl⟩) hw hA (hC.m (by decide)) hX.o rfl rfl hl.1 rfl (Nat.le_of_ble_eq_true rfl) dX7_check_7 ⟨Nat.zero_le _, Nat.zero_le _⟩ (fun r4 f3 H locs hp hw => ?_)
  obtain ⟨e1, e2⟩ := hp
  rw [e1]
  have hX5 : MX ad dA n nb kel dmp spd ven lef gon hr tl st dn 2 pa bad num RA RB TH DE KI WE NX LI LM KE TX BW TI KV DM f0 f3 := e2
  refine lv_if_eq (tgt := 17) hx hb dX7_check_10 (by decide) (fun c9 => absurd c9 (by decide)) (fun _ => ?_)
  refine lv_iconst (v := 0) hx hb dX7_check_13 (by decide) ?_
  refine lv_goto (tgt := 23) hx hb dX7_check_14 (by decide) ?_
  exact hret _ _ _ _ _ _ hw hX5 rfl dX7_check_23

set_option maxHeartbeats 4000000 in
set_option maxRecDepth 100000 in
theorem c_X7_check (l : Launch) (G : va_G) (dA : Nat → ClassId) (L : List Nat) (f : Nat → va_E) (ad : Nat → Nat) (n nb : Nat) (q qk : Nat → Option Nat) (kel : UInt64) (dmp : UInt64) (spd : UInt64) (ven : UInt64) (lef : UInt64) (gon : Int64) (hr : Nat) (tl : Nat) (st : Nat) (dn : Nat) (thr : Int32) (pa : Nat) (bad : Int32) (num : Int32) (RA : Nat → UInt64) (RB : Nat → UInt64) (TH : Nat → Int32) (DE : Nat → UInt64) (KI : Nat → Int32) (WE : Nat → UInt64) (NX : Nat → UInt64) (LI : Nat → Int32) (LM : Nat → UInt64) (KE : Nat → Int32) (TX : Nat → Int32) (BW : Nat → Int32) (TI : Nat → Int32) (KV : Nat → Int32) (DM : Nat → Int32) (f0 : Nat → va_E) (j : Nat)  (hC : Cx ad L n nb q qk) (hX : MX ad dA n nb kel dmp spd ven lef gon hr tl st dn thr pa bad num RA RB TH DE KI WE NX LI LM KE TX BW TI KV DM f0 f) (hj : j < nb) (hth : ¬ TH j = 0)  : mI l yX7_check wsX7_check ({ frames := 1, cells := 0, slots := 0, locals := 22 }) G dA [.ref (ad 16), .int (nI j)] L f (fun r f2 => r = KE j ∧ MX ad dA n nb kel dmp spd ven lef gon hr tl st dn 0 pa bad num RA RB TH DE KI WE NX LI LM KE TX BW TI KV DM f0 f2) := by
  refine mI_of (cc := cX7_check) (maxL := 2) (by decide) rfl (Nat.le_of_ble_eq_true rfl) ?_
  intro p e s m below meth c A ls Q hx hb hml hown hts hlocks hA hin0 hw hl hret
  have hown : s.vm.findClass RX7 = some m.cls := hown
  have hl : lv_has ls 2 [(0, .ref (ad 16)), (1, .int (nI j))] := hl
  have hi7 : ∀ w ∈ u_ws RX7 TX7 31, w ∈ wsX7_check := by decide +kernel
  refine lv_aload_n hx hb dX7_check_0 rfl (lv_at hl 0 rfl) ?_
  refine lv_iload_n hx hb dX7_check_1 rfl (lv_at hl 1 rfl) ?_
  refine lv_aload_n hx hb dX7_check_2 rfl (lv_at hl 0 rfl) ?_
  refine lv_iload_n hx hb dX7_check_3 rfl (lv_at hl 1 rfl) ?_
  refine kV_I (C := RX7) (T := TX7) (N := 31) (As := [.int (nI j)]) (rest := [.int (nI j), .ref (ad 16)]) ⟨hx, hb, hml, hown, hts⟩ (c_X7_noBoard l G dA L f ad n nb q qk kel dmp spd ven lef gon hr tl st dn thr pa bad num RA RB TH DE KI WE NX LI LM KE TX BW TI KV DM f0 (nI j) hC hX) (cwV 1 hts gX7_check_X7_noBoard rfl rfl rfl (by decide +kernel) ⟨Nat.le_of_ble_eq_true rfl, Nat.le_of_ble_eq_true rfl⟩) hw hA (hC.m (by decide)) hX.o rfl rfl hl.1 rfl (Nat.le_of_ble_eq_true rfl) dX7_check_4 ⟨Nat.zero_le _, Nat.zero_le _⟩ (fun r2 f1 H locs hp hw => ?_)
  obtain ⟨e1, e2⟩ := hp
  rw [e2] at hw
  rw [e1]
  rw [show b2i (noB nb (nI j)) = 0 from (by rw [(noB_f hC.nb31 hj)]; rfl)]
  refine kV_I (C := RX7) (T := TX7) (N := 31) (As := [.int (nI j), .int 0]) (rest := []) ⟨hx, hb, hml, hown, hts⟩ (c_X7_isMissing l G dA L f ad n nb q qk kel dmp spd ven lef gon hr tl st dn thr pa bad num RA RB TH DE KI WE NX LI LM KE TX BW TI KV DM f0 j hC hX hj hth) (cwV 2 hts gX7_check_X7_isMissing rfl rfl rfl (by decide +kernel) ⟨Nat.le_of_ble_eq_true rfl, Nat.le_of_ble_eq_true rfl⟩) hw hA (hC.m (by decide)) hX.o rfl rfl hl.1 rfl (Nat.le_of_ble_eq_true rfl) dX7_check_7 ⟨Nat.zero_le _, Nat.zero_le _⟩ (fun r4 f3 H locs hp hw => ?_)
  obtain ⟨e1, e2⟩ := hp
  rw [e1]
  have hX5 : MX ad dA n nb kel dmp spd ven lef gon hr tl st dn 0 pa bad num RA RB TH DE KI WE NX LI LM KE TX BW TI KV DM f0 f3 := e2
  refine lv_if_eq (tgt := 17) hx hb dX7_check_10 (by decide) (fun _ => ?_) (fun c9 => absurd rfl c9)
  refine lv_aload_n hx hb dX7_check_17 rfl (lv_at hl 0 rfl) ?_
  refine wg (C := RX7) (T := TX7) (N := 31) hx hb hts hi7 hown hw (hC.m (by decide)) hX5.o rfl 19 (by decide) (hts (.fieldLink RX7 53 "LayerMoistureModel" "kept" "[I") (by decide +kernel)) (fun _ h9 => h9) (v := .ref (ad 26)) rfl dX7_check_18 ?_
  refine lv_iload_n hx hb dX7_check_21 rfl (lv_at hl 1 rfl) ?_
  refine wld_i hx hb hw (hC.m (by decide)) hX5.aKE j (by have := hC.2.2.2.1; omega) (by decide) rfl dX7_check_22 ?_
  exact hret _ _ _ _ _ _ hw ⟨rfl, hX5⟩ rfl dX7_check_23

set_option maxHeartbeats 4000000 in
set_option maxRecDepth 100000 in
theorem t1_X7_wet (l : Launch) (G : va_G) (dA : Nat → ClassId) (L : List Nat) (f : Nat → va_E) (ad : Nat → Nat) (n nb : Nat) (q qk : Nat → Option Nat) (kel : UInt64) (dmp : UInt64) (spd : UInt64) (ven : UInt64) (lef : UInt64) (gon : Int64) (hr : Nat) (tl : Nat) (st : Nat) (dn : Nat) (thr : Int32) (pa : Nat) (bad : Int32) (num : Int32) (RA : Nat → UInt64) (RB : Nat → UInt64) (TH : Nat → Int32) (DE : Nat → UInt64) (KI : Nat → Int32) (WE : Nat → UInt64) (NX : Nat → UInt64) (LI : Nat → Int32) (LM : Nat → UInt64) (KE : Nat → Int32) (TX : Nat → Int32) (BW : Nat → Int32) (TI : Nat → Int32) (KV : Nat → Int32) (DM : Nat → Int32) (f0 : Nat → va_E) (k i : Int32)  (hC : Cx ad L n nb q qk) (hX : MX ad dA n nb kel dmp spd ven lef gon hr tl st dn thr pa bad num RA RB TH DE KI WE NX LI LM KE TX BW TI KV DM f0 f) (hbad : noL n nb k i = true)  : mD l yX7_wet wsX7_wet ({ frames := 2, cells := 0, slots := 0, locals := 43 }) G dA [.ref (ad 16), .int k, .int i] L f (fun r f2 => MX ad dA n nb kel dmp spd ven lef gon hr tl st dn 1 pa bad num RA RB TH DE KI WE NX LI LM KE TX BW TI KV DM f0 f2) := by
  refine mD_of (cc := cX7_wet) (maxL := 3) (by decide) rfl (Nat.le_of_ble_eq_true rfl) ?_
  intro p e s m below meth c A ls Q hx hb hml hown hts hlocks hA hin0 hw hl hret
  have hown : s.vm.findClass RX7 = some m.cls := hown
  have hl : lv_has ls 3 [(0, .ref (ad 16)), (1, .int k), (2, .int i)] := hl
  refine lv_aload_n hx hb dX7_wet_0 rfl (lv_at hl 0 rfl) ?_
  refine lv_iload_n hx hb dX7_wet_1 rfl (lv_at hl 1 rfl) ?_
  refine lv_aload_n hx hb dX7_wet_2 rfl (lv_at hl 0 rfl) ?_
  refine lv_iload_n hx hb dX7_wet_3 rfl (lv_at hl 1 rfl) ?_
  refine lv_iload_n hx hb dX7_wet_4 rfl (lv_at hl 2 rfl) ?_
  refine kV_I (C := RX7) (T := TX7) (N := 31) (As := [.int k, .int i]) (rest := [.int k, .ref (ad 16)]) ⟨hx, hb, hml, hown, hts⟩ (c_X7_noLayer l G dA L f ad n nb q qk kel dmp spd ven lef gon hr tl st dn thr pa bad num RA RB TH DE KI WE NX LI LM KE TX BW TI KV DM f0 k i hC hX) (cwV 2 hts gX7_wet_X7_noLayer rfl rfl rfl (by decide +kernel) ⟨Nat.le_of_ble_eq_true rfl, Nat.le_of_ble_eq_true rfl⟩) hw hA (hC.m (by decide)) hX.o rfl rfl hl.1 rfl (Nat.le_of_ble_eq_true rfl) dX7_wet_5 ⟨Nat.zero_le _, Nat.zero_le _⟩ (fun r2 f1 H locs hp hw => ?_)
  obtain ⟨e1, e2⟩ := hp
  rw [e2] at hw
  rw [e1]
  rw [show b2i (noL n nb k i) = 1 from (by rw [hbad]; rfl)]
  refine kV_I (C := RX7) (T := TX7) (N := 31) (As := [.int k, .int 1]) (rest := []) ⟨hx, hb, hml, hown, hts⟩ (t1_X7_isMissing l G dA L f ad n nb q qk kel dmp spd ven lef gon hr tl st dn thr pa bad num RA RB TH DE KI WE NX LI LM KE TX BW TI KV DM f0 k hC hX) (cwV 2 hts gX7_wet_X7_isMissing rfl rfl rfl (by decide +kernel) ⟨Nat.le_of_ble_eq_true rfl, Nat.le_of_ble_eq_true rfl⟩) hw hA (hC.m (by decide)) hX.o rfl rfl hl.1 rfl (Nat.le_of_ble_eq_true rfl) dX7_wet_8 ⟨Nat.zero_le _, Nat.zero_le _⟩ (fun r4 f3 H locs hp hw => ?_)
  obtain ⟨e1, e2⟩ := hp
  rw [e1]
  have hX5 : MX ad dA n nb kel dmp spd ven lef gon hr tl st dn 1 pa bad num RA RB TH DE KI WE NX LI LM KE TX BW TI KV DM f0 f3 := e2
  refine lv_if_eq (tgt := 18) hx hb dX7_wet_11 (by decide) (fun c9 => absurd c9 (by decide)) (fun _ => ?_)
  refine lv_dconst0 hx hb dX7_wet_14 ?_
  refine lv_goto (tgt := 29) hx hb dX7_wet_15 (by decide) ?_
  exact hret _ _ _ _ _ _ hw hX5 dX7_wet_29

set_option maxHeartbeats 4000000 in
set_option maxRecDepth 100000 in
theorem t2_X7_wet (l : Launch) (G : va_G) (dA : Nat → ClassId) (L : List Nat) (f : Nat → va_E) (ad : Nat → Nat) (n nb : Nat) (q qk : Nat → Option Nat) (kel : UInt64) (dmp : UInt64) (spd : UInt64) (ven : UInt64) (lef : UInt64) (gon : Int64) (hr : Nat) (tl : Nat) (st : Nat) (dn : Nat) (thr : Int32) (pa : Nat) (bad : Int32) (num : Int32) (RA : Nat → UInt64) (RB : Nat → UInt64) (TH : Nat → Int32) (DE : Nat → UInt64) (KI : Nat → Int32) (WE : Nat → UInt64) (NX : Nat → UInt64) (LI : Nat → Int32) (LM : Nat → UInt64) (KE : Nat → Int32) (TX : Nat → Int32) (BW : Nat → Int32) (TI : Nat → Int32) (KV : Nat → Int32) (DM : Nat → Int32) (f0 : Nat → va_E) (j i : Nat)  (hC : Cx ad L n nb q qk) (hX : MX ad dA n nb kel dmp spd ven lef gon hr tl st dn thr pa bad num RA RB TH DE KI WE NX LI LM KE TX BW TI KV DM f0 f) (hj : j < nb) (hi : i < n) (hbad : TH j = 0)  : mD l yX7_wet wsX7_wet ({ frames := 2, cells := 0, slots := 0, locals := 43 }) G dA [.ref (ad 16), .int (nI j), .int (nI i)] L f (fun r f2 => MX ad dA n nb kel dmp spd ven lef gon hr tl st dn 2 pa bad num RA RB TH DE KI WE NX LI LM KE TX BW TI KV DM f0 f2) := by
  refine mD_of (cc := cX7_wet) (maxL := 3) (by decide) rfl (Nat.le_of_ble_eq_true rfl) ?_
  intro p e s m below meth c A ls Q hx hb hml hown hts hlocks hA hin0 hw hl hret
  have hown : s.vm.findClass RX7 = some m.cls := hown
  have hl : lv_has ls 3 [(0, .ref (ad 16)), (1, .int (nI j)), (2, .int (nI i))] := hl
  refine lv_aload_n hx hb dX7_wet_0 rfl (lv_at hl 0 rfl) ?_
  refine lv_iload_n hx hb dX7_wet_1 rfl (lv_at hl 1 rfl) ?_
  refine lv_aload_n hx hb dX7_wet_2 rfl (lv_at hl 0 rfl) ?_
  refine lv_iload_n hx hb dX7_wet_3 rfl (lv_at hl 1 rfl) ?_
  refine lv_iload_n hx hb dX7_wet_4 rfl (lv_at hl 2 rfl) ?_
  refine kV_I (C := RX7) (T := TX7) (N := 31) (As := [.int (nI j), .int (nI i)]) (rest := [.int (nI j), .ref (ad 16)]) ⟨hx, hb, hml, hown, hts⟩ (c_X7_noLayer l G dA L f ad n nb q qk kel dmp spd ven lef gon hr tl st dn thr pa bad num RA RB TH DE KI WE NX LI LM KE TX BW TI KV DM f0 (nI j) (nI i) hC hX) (cwV 2 hts gX7_wet_X7_noLayer rfl rfl rfl (by decide +kernel) ⟨Nat.le_of_ble_eq_true rfl, Nat.le_of_ble_eq_true rfl⟩) hw hA (hC.m (by decide)) hX.o rfl rfl hl.1 rfl (Nat.le_of_ble_eq_true rfl) dX7_wet_5 ⟨Nat.zero_le _, Nat.zero_le _⟩ (fun r2 f1 H locs hp hw => ?_)
  obtain ⟨e1, e2⟩ := hp
  rw [e2] at hw
  rw [e1]
  rw [show b2i (noL n nb (nI j) (nI i)) = 0 from (by rw [(noL_f hC.nb31 hC.n31 hj hi)]; rfl)]
  refine kV_I (C := RX7) (T := TX7) (N := 31) (As := [.int (nI j), .int 0]) (rest := []) ⟨hx, hb, hml, hown, hts⟩ (t2_X7_isMissing l G dA L f ad n nb q qk kel dmp spd ven lef gon hr tl st dn thr pa bad num RA RB TH DE KI WE NX LI LM KE TX BW TI KV DM f0 j hC hX hj hbad) (cwV 2 hts gX7_wet_X7_isMissing rfl rfl rfl (by decide +kernel) ⟨Nat.le_of_ble_eq_true rfl, Nat.le_of_ble_eq_true rfl⟩) hw hA (hC.m (by decide)) hX.o rfl rfl hl.1 rfl (Nat.le_of_ble_eq_true rfl) dX7_wet_8 ⟨Nat.zero_le _, Nat.zero_le _⟩ (fun r4 f3 H locs hp hw => ?_)
  obtain ⟨e1, e2⟩ := hp
  rw [e1]
  have hX5 : MX ad dA n nb kel dmp spd ven lef gon hr tl st dn 2 pa bad num RA RB TH DE KI WE NX LI LM KE TX BW TI KV DM f0 f3 := e2
  refine lv_if_eq (tgt := 18) hx hb dX7_wet_11 (by decide) (fun c9 => absurd c9 (by decide)) (fun _ => ?_)
  refine lv_dconst0 hx hb dX7_wet_14 ?_
  refine lv_goto (tgt := 29) hx hb dX7_wet_15 (by decide) ?_
  exact hret _ _ _ _ _ _ hw hX5 dX7_wet_29

set_option maxHeartbeats 4000000 in
set_option maxRecDepth 100000 in
theorem c_X7_wet (l : Launch) (G : va_G) (dA : Nat → ClassId) (L : List Nat) (f : Nat → va_E) (ad : Nat → Nat) (n nb : Nat) (q qk : Nat → Option Nat) (kel : UInt64) (dmp : UInt64) (spd : UInt64) (ven : UInt64) (lef : UInt64) (gon : Int64) (hr : Nat) (tl : Nat) (st : Nat) (dn : Nat) (thr : Int32) (pa : Nat) (bad : Int32) (num : Int32) (RA : Nat → UInt64) (RB : Nat → UInt64) (TH : Nat → Int32) (DE : Nat → UInt64) (KI : Nat → Int32) (WE : Nat → UInt64) (NX : Nat → UInt64) (LI : Nat → Int32) (LM : Nat → UInt64) (KE : Nat → Int32) (TX : Nat → Int32) (BW : Nat → Int32) (TI : Nat → Int32) (KV : Nat → Int32) (DM : Nat → Int32) (f0 : Nat → va_E) (j i : Nat)  (hC : Cx ad L n nb q qk) (hX : MX ad dA n nb kel dmp spd ven lef gon hr tl st dn thr pa bad num RA RB TH DE KI WE NX LI LM KE TX BW TI KV DM f0 f) (hj : j < nb) (hi : i < n) (hth : ¬ TH j = 0)  : mD l yX7_wet wsX7_wet ({ frames := 2, cells := 0, slots := 0, locals := 43 }) G dA [.ref (ad 16), .int (nI j), .int (nI i)] L f (fun r f2 => r = WE (16 * j + i) ∧ MX ad dA n nb kel dmp spd ven lef gon hr tl st dn 0 pa bad num RA RB TH DE KI WE NX LI LM KE TX BW TI KV DM f0 f2) := by
  refine mD_of (cc := cX7_wet) (maxL := 3) (by decide) rfl (Nat.le_of_ble_eq_true rfl) ?_
  intro p e s m below meth c A ls Q hx hb hml hown hts hlocks hA hin0 hw hl hret
  have hown : s.vm.findClass RX7 = some m.cls := hown
  have hl : lv_has ls 3 [(0, .ref (ad 16)), (1, .int (nI j)), (2, .int (nI i))] := hl
  have hi7 : ∀ w ∈ u_ws RX7 TX7 31, w ∈ wsX7_wet := by decide +kernel
  refine lv_aload_n hx hb dX7_wet_0 rfl (lv_at hl 0 rfl) ?_
  refine lv_iload_n hx hb dX7_wet_1 rfl (lv_at hl 1 rfl) ?_
  refine lv_aload_n hx hb dX7_wet_2 rfl (lv_at hl 0 rfl) ?_
  refine lv_iload_n hx hb dX7_wet_3 rfl (lv_at hl 1 rfl) ?_
  refine lv_iload_n hx hb dX7_wet_4 rfl (lv_at hl 2 rfl) ?_
  refine kV_I (C := RX7) (T := TX7) (N := 31) (As := [.int (nI j), .int (nI i)]) (rest := [.int (nI j), .ref (ad 16)]) ⟨hx, hb, hml, hown, hts⟩ (c_X7_noLayer l G dA L f ad n nb q qk kel dmp spd ven lef gon hr tl st dn thr pa bad num RA RB TH DE KI WE NX LI LM KE TX BW TI KV DM f0 (nI j) (nI i) hC hX) (cwV 2 hts gX7_wet_X7_noLayer rfl rfl rfl (by decide +kernel) ⟨Nat.le_of_ble_eq_true rfl, Nat.le_of_ble_eq_true rfl⟩) hw hA (hC.m (by decide)) hX.o rfl rfl hl.1 rfl (Nat.le_of_ble_eq_true rfl) dX7_wet_5 ⟨Nat.zero_le _, Nat.zero_le _⟩ (fun r2 f1 H locs hp hw => ?_)
  obtain ⟨e1, e2⟩ := hp
  rw [e2] at hw
  rw [e1]
  rw [show b2i (noL n nb (nI j) (nI i)) = 0 from (by rw [(noL_f hC.nb31 hC.n31 hj hi)]; rfl)]
  refine kV_I (C := RX7) (T := TX7) (N := 31) (As := [.int (nI j), .int 0]) (rest := []) ⟨hx, hb, hml, hown, hts⟩ (c_X7_isMissing l G dA L f ad n nb q qk kel dmp spd ven lef gon hr tl st dn thr pa bad num RA RB TH DE KI WE NX LI LM KE TX BW TI KV DM f0 j hC hX hj hth) (cwV 2 hts gX7_wet_X7_isMissing rfl rfl rfl (by decide +kernel) ⟨Nat.le_of_ble_eq_true rfl, Nat.le_of_ble_eq_true rfl⟩) hw hA (hC.m (by decide)) hX.o rfl rfl hl.1 rfl (Nat.le_of_ble_eq_true rfl) dX7_wet_8 ⟨Nat.zero_le _, Nat.zero_le _⟩ (fun r4 f3 H locs hp hw => ?_)
  obtain ⟨e1, e2⟩ := hp
  rw [e1]
  have hX5 : MX ad dA n nb kel dmp spd ven lef gon hr tl st dn 0 pa bad num RA RB TH DE KI WE NX LI LM KE TX BW TI KV DM f0 f3 := e2
  refine lv_if_eq (tgt := 18) hx hb dX7_wet_11 (by decide) (fun _ => ?_) (fun c9 => absurd rfl c9)
  refine lv_aload_n hx hb dX7_wet_18 rfl (lv_at hl 0 rfl) ?_
  refine wg (C := RX7) (T := TX7) (N := 31) hx hb hts hi7 hown hw (hC.m (by decide)) hX5.o rfl 15 (by decide) (hts (.fieldLink RX7 41 "LayerMoistureModel" "wets" "[D") (by decide +kernel)) (fun _ h9 => h9) (v := .ref (ad 22)) rfl dX7_wet_19 ?_
  refine lv_bipush (v := 16) hx hb dX7_wet_22 (by decide) ?_
  refine lv_iload_n hx hb dX7_wet_24 rfl (lv_at hl 1 rfl) ?_
  refine lv_imul hx hb dX7_wet_25 ?_
  rw [show 16 * (nI j) = nI (16 * j) from nI_m16 j]
  refine lv_iload_n hx hb dX7_wet_26 rfl (lv_at hl 2 rfl) ?_
  refine lv_iadd hx hb dX7_wet_27 ?_
  rw [show (nI (16 * j)) + (nI i) = nI (16 * j + i) from nI_add _ _]
  refine wld_d hx hb hw (hC.m (by decide)) hX5.aWE (16 * j + i) (by have := hC.2.2.2.1; have := hC.2.2.1; omega) (by decide) rfl dX7_wet_28 ?_
  exact hret _ _ _ _ _ _ hw ⟨rfl, hX5⟩ dX7_wet_29
