set_option maxHeartbeats 4000000 in
set_option maxRecDepth 100000 in
theorem c_X7_passStep (l : Launch) (G : va_G) (dA : Nat → ClassId) (L : List Nat) (f : Nat → va_E) (ad : Nat → Nat) (n nb : Nat) (q qk : Nat → Option Nat) (kel : UInt64) (dmp : UInt64) (spd : UInt64) (ven : UInt64) (lef : UInt64) (gon : Int64) (hr : Nat) (tl : Nat) (st : Nat) (dn : Nat) (thr : Int32) (pa : Nat) (bad : Int32) (num : Int32) (RA : Nat → UInt64) (RB : Nat → UInt64) (TH : Nat → Int32) (DE : Nat → UInt64) (KI : Nat → Int32) (WE : Nat → UInt64) (NX : Nat → UInt64) (LI : Nat → Int32) (LM : Nat → UInt64) (KE : Nat → Int32) (TX : Nat → Int32) (BW : Nat → Int32) (TI : Nat → Int32) (KV : Nat → Int32) (DM : Nat → Int32) (f0 : Nat → va_E)   (hC : Cx ad L n nb q qk) (hX : MX ad dA n nb kel dmp spd ven lef gon hr tl st dn thr pa bad num RA RB TH DE KI WE NX LI LM KE TX BW TI KV DM f0 f) (htl : tl ≤ 200) (hpa : pa ≤ tl) (hst : st < 12)  : mI l yX7_passStep wsX7_passStep ({ frames := 2, cells := 0, slots := 0, locals := 44 }) G dA [.ref (ad 16)] L f (fun r f2 => ∃ (pa2 : Nat) (bad2 num2 : Int32) (st2 : Nat) (BW2 TI2 KV2 DM2 : Nat → Int32), MX ad dA n nb kel dmp spd ven lef gon hr tl st2 dn thr pa2 bad2 num2 RA RB TH DE KI WE NX LI LM KE TX BW2 TI2 KV2 DM2 f0 f2 ∧ (∀ j, j ≠ st → BW2 j = BW j ∧ TI2 j = TI j ∧ KV2 j = KV j ∧ DM2 j = DM j) ∧ pa2 ≤ tl ∧ (match stepP TX tl pa with | .inl q => r = 0 ∧ bad2 = nI q ∧ st2 = st | .inr x => r = 1 ∧ pa2 = x.1 ∧ st2 = st + 1 ∧ BW2 st = b2i (!x.2.1) ∧ TI2 st = x.2.2.1 ∧ KV2 st = x.2.2.2.1 ∧ DM2 st = x.2.2.2.2)) := by
  refine mI_of (cc := cX7_passStep) (maxL := 2) (by decide) rfl (Nat.le_of_ble_eq_true rfl) ?_
  intro p e s m below meth c A ls Q hx hb hml hown hts hlocks hA hin0 hw hl hret
  have hown : s.vm.findClass RX7 = some m.cls := hown
  have hl : lv_has ls 2 [(0, .ref (ad 16))] := hl
  have hi7 : ∀ w ∈ u_ws RX7 TX7 31, w ∈ wsX7_passStep := by decide +kernel
  refine lv_aload_n hx hb dX7_passStep_0 rfl (lv_at hl 0 rfl) ?_
  refine wg (C := RX7) (T := TX7) (N := 31) hx hb hts hi7 hown hw (hC.m (by decide)) hX.o rfl 22 (by decide) (hts (.fieldLink RX7 112 "LayerMoistureModel" "at" "I") (by decide +kernel)) (fun _ h9 => h9) (v := .int (nI pa)) rfl dX7_passStep_1 ?_
  refine lv_aload_n hx hb dX7_passStep_4 rfl (lv_at hl 0 rfl) ?_
  refine wg (C := RX7) (T := TX7) (N := 31) hx hb hts hi7 hown hw (hC.m (by decide)) hX.o rfl 21 (by decide) (hts (.fieldLink RX7 106 "LayerMoistureModel" "typed" "I") (by decide +kernel)) (fun _ h9 => h9) (v := .int (nI tl)) rfl dX7_passStep_5 ?_
  refine lv_icmp_ge (tgt := 29) hx hb dX7_passStep_8 (by decide) (fun c8 => ?_) (fun c8 => ?_)
  · have hge : tl ≤ pa := (nI_leI (by omega) (by omega)).mp c8
    have hnx : nxt TX tl pa = 0 := if_neg (Nat.not_lt.mpr hge)
    refine lv_iconst (v := 0) hx hb dX7_passStep_29 (by decide) ?_
    refine lv_istore_n (lv' := [(1, .int 0), (0, .ref (ad 16))]) hx hb dX7_passStep_30 rfl hl (by decide) rfl (fun ls hl => ?_)
    refine lv_iload_n hx hb dX7_passStep_31 rfl (lv_at hl 0 rfl) ?_
    refine lv_if_ne (tgt := 69) hx hb dX7_passStep_32 (by decide) (fun c9 => absurd c9 (fun h7 => h7 rfl)) (fun _ => ?_)
    refine lv_aload_n hx hb dX7_passStep_35 rfl (lv_at hl 1 rfl) ?_
    refine wg (C := RX7) (T := TX7) (N := 31) hx hb hts hi7 hown hw (hC.m (by decide)) hX.o rfl 22 (by decide) (hts (.fieldLink RX7 112 "LayerMoistureModel" "at" "I") (by decide +kernel)) (fun _ h9 => h9) (v := .int (nI pa)) rfl dX7_passStep_36 ?_
    refine lv_aload_n hx hb dX7_passStep_39 rfl (lv_at hl 1 rfl) ?_
    refine wg (C := RX7) (T := TX7) (N := 31) hx hb hts hi7 hown hw (hC.m (by decide)) hX.o rfl 21 (by decide) (hts (.fieldLink RX7 106 "LayerMoistureModel" "typed" "I") (by decide +kernel)) (fun _ h9 => h9) (v := .int (nI tl)) rfl dX7_passStep_40 ?_
    refine lv_icmp_ge (tgt := 60) hx hb dX7_passStep_43 (by decide) (fun _ => ?_) (fun c9 => absurd (nI_le hge (by omega)) c9)
    refine lv_aload_n hx hb dX7_passStep_60 rfl (lv_at hl 1 rfl) ?_
    refine lv_aload_n hx hb dX7_passStep_61 rfl (lv_at hl 1 rfl) ?_
    refine wg (C := RX7) (T := TX7) (N := 31) hx hb hts hi7 hown hw (hC.m (by decide)) hX.o rfl 22 (by decide) (hts (.fieldLink RX7 112 "LayerMoistureModel" "at" "I") (by decide +kernel)) (fun _ h9 => h9) (v := .int (nI pa)) rfl dX7_passStep_62 ?_
    have eS : stepP TX tl pa = .inl pa := by rw [stepP, if_neg]; rw [hnx]; decide
    refine kV_I (C := RX7) (T := TX7) (N := 31) (As := [.int (nI pa)]) (rest := []) ⟨hx, hb, hml, hown, hts⟩ (c_X7_fail l G dA L f ad n nb q qk kel dmp spd ven lef gon hr tl st dn thr pa bad num RA RB TH DE KI WE NX LI LM KE TX BW TI KV DM f0 (nI pa) hC hX) (cwV 1 hts gX7_passStep_X7_fail rfl rfl rfl (by decide +kernel) ⟨Nat.le_of_ble_eq_true rfl, Nat.le_of_ble_eq_true rfl⟩) hw hA (hC.m (by decide)) hX.o rfl rfl hl.1 rfl (Nat.le_of_ble_eq_true rfl) dX7_passStep_65 ⟨Nat.zero_le _, Nat.zero_le _⟩ (fun r2 f1 H locs hp hw => ?_)
    obtain ⟨e1, e2⟩ := hp
    rw [e1]
    have hX3 : MX ad dA n nb kel dmp spd ven lef gon hr tl st dn thr pa (nI pa) num RA RB TH DE KI WE NX LI LM KE TX BW TI KV DM f0 f1 := e2
    exact hret _ _ _ _ _ _ hw ⟨pa, nI pa, num, st, BW, TI, KV, DM, hX3, fun j hj => ⟨rfl, rfl, rfl, rfl⟩, hpa, by rw [eS]; exact ⟨rfl, rfl, rfl⟩⟩ (by decide) dX7_passStep_68
  · have hpt : pa < tl := Nat.lt_of_not_le fun h8 => c8 ((nI_leI (by omega) (by omega)).mpr h8)
    have hnx : nxt TX tl pa = TX pa := if_pos hpt
    refine lv_aload_n hx hb dX7_passStep_11 rfl (lv_at hl 0 rfl) ?_
    refine wg (C := RX7) (T := TX7) (N := 31) hx hb hts hi7 hown hw (hC.m (by decide)) hX.o rfl 20 (by decide) (hts (.fieldLink RX7 56 "LayerMoistureModel" "text" "[I") (by decide +kernel)) (fun _ h9 => h9) (v := .ref (ad 27)) rfl dX7_passStep_12 ?_
    refine lv_aload_n hx hb dX7_passStep_15 rfl (lv_at hl 0 rfl) ?_
    refine wg (C := RX7) (T := TX7) (N := 31) hx hb hts hi7 hown hw (hC.m (by decide)) hX.o rfl 22 (by decide) (hts (.fieldLink RX7 112 "LayerMoistureModel" "at" "I") (by decide +kernel)) (fun _ h9 => h9) (v := .int (nI pa)) rfl dX7_passStep_16 ?_
    refine wld_i hx hb hw (hC.m (by decide)) hX.aTX pa (by omega) (by decide) rfl dX7_passStep_19 ?_
    rw [show TX pa = nxt TX tl pa from hnx.symm]
    refine lv_bipush (v := 119) hx hb dX7_passStep_20 (by decide) ?_
    refine lv_icmp_ne (tgt := 29) hx hb dX7_passStep_22 (by decide) (fun c22 => ?_) (fun c22 => ?_)
    · have q119 : ¬ nxt TX tl pa = 119 := c22
      refine lv_iconst (v := 0) hx hb dX7_passStep_29 (by decide) ?_
      refine lv_istore_n (lv' := [(1, .int 0), (0, .ref (ad 16))]) hx hb dX7_passStep_30 rfl hl (by decide) rfl (fun ls hl => ?_)
      refine lv_iload_n hx hb dX7_passStep_31 rfl (lv_at hl 0 rfl) ?_
      refine lv_if_ne (tgt := 69) hx hb dX7_passStep_32 (by decide) (fun c9 => absurd c9 (fun h7 => h7 rfl)) (fun _ => ?_)
      refine lv_aload_n hx hb dX7_passStep_35 rfl (lv_at hl 1 rfl) ?_
      refine wg (C := RX7) (T := TX7) (N := 31) hx hb hts hi7 hown hw (hC.m (by decide)) hX.o rfl 22 (by decide) (hts (.fieldLink RX7 112 "LayerMoistureModel" "at" "I") (by decide +kernel)) (fun _ h9 => h9) (v := .int (nI pa)) rfl dX7_passStep_36 ?_
      refine lv_aload_n hx hb dX7_passStep_39 rfl (lv_at hl 1 rfl) ?_
      refine wg (C := RX7) (T := TX7) (N := 31) hx hb hts hi7 hown hw (hC.m (by decide)) hX.o rfl 21 (by decide) (hts (.fieldLink RX7 106 "LayerMoistureModel" "typed" "I") (by decide +kernel)) (fun _ h9 => h9) (v := .int (nI tl)) rfl dX7_passStep_40 ?_
      refine lv_icmp_ge (tgt := 60) hx hb dX7_passStep_43 (by decide) (fun c9 => absurd c9 (nI_ge hpt (by omega))) (fun _ => ?_)
      refine lv_aload_n hx hb dX7_passStep_46 rfl (lv_at hl 1 rfl) ?_
      refine wg (C := RX7) (T := TX7) (N := 31) hx hb hts hi7 hown hw (hC.m (by decide)) hX.o rfl 20 (by decide) (hts (.fieldLink RX7 56 "LayerMoistureModel" "text" "[I") (by decide +kernel)) (fun _ h9 => h9) (v := .ref (ad 27)) rfl dX7_passStep_47 ?_
      refine lv_aload_n hx hb dX7_passStep_50 rfl (lv_at hl 1 rfl) ?_
      refine wg (C := RX7) (T := TX7) (N := 31) hx hb hts hi7 hown hw (hC.m (by decide)) hX.o rfl 22 (by decide) (hts (.fieldLink RX7 112 "LayerMoistureModel" "at" "I") (by decide +kernel)) (fun _ h9 => h9) (v := .int (nI pa)) rfl dX7_passStep_51 ?_
      refine wld_i hx hb hw (hC.m (by decide)) hX.aTX pa (by omega) (by decide) rfl dX7_passStep_54 ?_
      rw [show TX pa = nxt TX tl pa from hnx.symm]
      refine lv_bipush (v := 104) hx hb dX7_passStep_55 (by decide) ?_
      refine lv_icmp_eq (tgt := 69) hx hb dX7_passStep_57 (by decide) (fun c57 => ?_) (fun c57 => ?_)
      · have q104 : nxt TX tl pa = 104 := c57
        refine lv_aload_n hx hb dX7_passStep_69 rfl (lv_at hl 1 rfl) ?_
        refine lv_dup hx hb dX7_passStep_70 rfl ?_
        refine wg (C := RX7) (T := TX7) (N := 31) hx hb hts hi7 hown hw (hC.m (by decide)) hX.o rfl 22 (by decide) (hts (.fieldLink RX7 112 "LayerMoistureModel" "at" "I") (by decide +kernel)) (fun _ h9 => h9) (v := .int (nI pa)) rfl dX7_passStep_71 ?_
        refine lv_iconst (v := 1) hx hb dX7_passStep_74 (by decide) ?_
        refine lv_iadd hx hb dX7_passStep_75 ?_
        rw [show (nI pa) + 1 = nI (pa + 1) from nI_1 _]
        refine wp_ (C := RX7) (T := TX7) (N := 31) hx hb hts hi7 tyX7 tyX7_ok nmX7 hown hw (hC.m (by decide)) hX.o rfl 22 (by decide) (hts (.fieldLink RX7 112 "LayerMoistureModel" "at" "I") (by decide +kernel)) (fun _ h9 => h9) rfl (ty := .int) (v := .int (nI (pa + 1))) (by decide +kernel) rfl rfl (Nat.le_of_ble_eq_true rfl) dX7_passStep_76 (fun H locs hw => ?_)
        obtain ⟨f4, ef4⟩ : ∃ z : Nat → va_E, z = va_up f (ad 16) (.inr (8, [.int thr, .int (nI n), .int (nI nb), .ref (ad 17), .ref (ad 18), .double kel, .double dmp, .double spd, .double ven, .double lef, .long gon, .int (nI hr), .ref (ad 19), .ref (ad 20), .ref (ad 21), .ref (ad 22), .ref (ad 23), .ref (ad 24), .ref (ad 25), .ref (ad 26), .ref (ad 27), .int (nI tl), .int (nI (pa + 1)), .int bad, .int num, .ref (ad 28), .ref (ad 29), .ref (ad 30), .ref (ad 31), .int (nI st), .int (nI dn)])) := ⟨_, rfl⟩
        have hw : ww G dA A s L f4 H locs := by rw [ef4]; exact hw
        have hX5 : MX ad dA n nb kel dmp spd ven lef gon hr tl st dn thr (pa + 1) bad num RA RB TH DE KI WE NX LI LM KE TX BW TI KV DM f0 f4 := by rw [ef4]; exact hX.sO hC kel dmp spd ven lef gon hr tl st dn thr (pa + 1) bad num
        refine lv_aload_n hx hb dX7_passStep_79 rfl (lv_at hl 1 rfl) ?_
        refine wg (C := RX7) (T := TX7) (N := 31) hx hb hts hi7 hown hw (hC.m (by decide)) hX5.o rfl 25 (by decide) (hts (.fieldLink RX7 59 "LayerMoistureModel" "byWet" "[Z") (by decide +kernel)) (fun _ h9 => h9) (v := .ref (ad 28)) rfl dX7_passStep_80 ?_
        refine lv_aload_n hx hb dX7_passStep_83 rfl (lv_at hl 1 rfl) ?_
        refine wg (C := RX7) (T := TX7) (N := 31) hx hb hts hi7 hown hw (hC.m (by decide)) hX5.o rfl 29 (by decide) (hts (.fieldLink RX7 125 "LayerMoistureModel" "steps" "I") (by decide +kernel)) (fun _ h9 => h9) (v := .int (nI st)) rfl dX7_passStep_84 ?_
        refine lv_iload_n hx hb dX7_passStep_87 rfl (lv_at hl 0 rfl) ?_
        refine wst_z hx hb hw (hC.m (by decide)) hX5.aBW st hst (by decide) rfl dX7_passStep_88 (fun H locs hw => ?_)
        obtain ⟨f6, ef6⟩ : ∃ z : Nat → va_E, z = va_up f4 (ad 28) (aI (dA 3) 12 (upd BW st (vp_nar .boolean 0))) := ⟨_, rfl⟩
        have hw : ww G dA A s L f6 H locs := by rw [ef6]; exact hw
        have hX7 : MX ad dA n nb kel dmp spd ven lef gon hr tl st dn thr (pa + 1) bad num RA RB TH DE KI WE NX LI LM KE TX (upd BW st (vp_nar .boolean 0)) TI KV DM f0 f6 := by rw [ef6]; exact hX5.sBW hC _
        refine lv_aload_n hx hb dX7_passStep_89 rfl (lv_at hl 1 rfl) ?_
        refine lv_iconst (v := 0) hx hb dX7_passStep_90 (by decide) ?_
        refine lv_sipush (v := 999) hx hb dX7_passStep_91 (by decide) ?_
        have s40 : nxt TX tl pa = (if nxt TX tl pa = 104 then 104 else 119) := by rw [q104]; decide
        have l40 : pa < tl := nxt_lt q104 (by decide)
        refine kV_I (C := RX7) (T := TX7) (N := 31) (As := [.int 0, .int 999]) (rest := []) ⟨hx, hb, hml, hown, hts⟩ (c_X7_passNumber l G dA L f6 ad n nb q qk kel dmp spd ven lef gon hr tl st dn thr (pa + 1) bad num RA RB TH DE KI WE NX LI LM KE TX (upd BW st (vp_nar .boolean 0)) TI KV DM f0 0 999 hC hX7 htl (by omega)) (cwV 2 hts gX7_passStep_X7_passNumber rfl rfl rfl (by decide +kernel) ⟨Nat.le_of_ble_eq_true rfl, Nat.le_of_ble_eq_true rfl⟩) hw hA (hC.m (by decide)) hX7.o rfl rfl hl.1 rfl (Nat.le_of_ble_eq_true rfl) dX7_passStep_94 ⟨Nat.zero_le _, Nat.zero_le _⟩ (fun r9 f8 H locs hp hw => ?_)
        obtain ⟨e1, e2⟩ := hp
        rw [e1]
        cases hq1 : numP TX tl (pa + 1) 0 999 with
        | none =>
          rw [hq1] at e2
          have hX10 : MX ad dA n nb kel dmp spd ven lef gon hr tl st dn thr ((scanN TX tl 3 (pa + 1) 0).1) (nI (pa + 1)) ((scanN TX tl 3 (pa + 1) 0).2) RA RB TH DE KI WE NX LI LM KE TX (upd BW st (vp_nar .boolean 0)) TI KV DM f0 f8 := e2
          have hpb := (scanN_le (tx := TX) (tl := tl) 3 (pa + 1) 0 (by omega)).2
          have eS : stepP TX tl pa = .inl (pa + 1) := by rw [stepP, if_pos s40, hq1]
          refine lv_if_ne (tgt := 102) hx hb dX7_passStep_97 (by decide) (fun c9 => absurd c9 (fun h7 => h7 rfl)) (fun _ => ?_)
          refine lv_iconst (v := 0) hx hb dX7_passStep_100 (by decide) ?_
          exact hret _ _ _ _ _ _ hw ⟨(scanN TX tl 3 (pa + 1) 0).1, nI (pa + 1), (scanN TX tl 3 (pa + 1) 0).2, st, upd BW st (vp_nar .boolean 0), TI, KV, DM, hX10, fun j hj => ⟨pk_un hj, rfl, rfl, rfl⟩, hpb, by rw [eS]; exact ⟨rfl, rfl, rfl⟩⟩ (by decide) dX7_passStep_101
        | some x1 =>
          rw [hq1, numP_sc hq1] at e2
          have ln1 := numP_le (by omega) hq1
          have hX11 : MX ad dA n nb kel dmp spd ven lef gon hr tl st dn thr x1.1 bad x1.2 RA RB TH DE KI WE NX LI LM KE TX (upd BW st (vp_nar .boolean 0)) TI KV DM f0 f8 := e2
          refine lv_if_ne (tgt := 102) hx hb dX7_passStep_97 (by decide) (fun _ => ?_) (fun c9 => absurd c9 (show ¬ b2i true = 0 by decide))
          refine lv_aload_n hx hb dX7_passStep_102 rfl (lv_at hl 1 rfl) ?_
          refine wg (C := RX7) (T := TX7) (N := 31) hx hb hts hi7 hown hw (hC.m (by decide)) hX11.o rfl 26 (by decide) (hts (.fieldLink RX7 62 "LayerMoistureModel" "times" "[I") (by decide +kernel)) (fun _ h9 => h9) (v := .ref (ad 29)) rfl dX7_passStep_103 ?_
          refine lv_aload_n hx hb dX7_passStep_106 rfl (lv_at hl 1 rfl) ?_
          refine wg (C := RX7) (T := TX7) (N := 31) hx hb hts hi7 hown hw (hC.m (by decide)) hX11.o rfl 29 (by decide) (hts (.fieldLink RX7 125 "LayerMoistureModel" "steps" "I") (by decide +kernel)) (fun _ h9 => h9) (v := .int (nI st)) rfl dX7_passStep_107 ?_
          refine lv_aload_n hx hb dX7_passStep_110 rfl (lv_at hl 1 rfl) ?_
          refine wg (C := RX7) (T := TX7) (N := 31) hx hb hts hi7 hown hw (hC.m (by decide)) hX11.o rfl 24 (by decide) (hts (.fieldLink RX7 118 "LayerMoistureModel" "number" "I") (by decide +kernel)) (fun _ h9 => h9) (v := .int x1.2) rfl dX7_passStep_111 ?_
          refine wst_i hx hb hw (hC.m (by decide)) hX11.aTI st hst (by decide) rfl dX7_passStep_114 (fun H locs hw => ?_)
          obtain ⟨f12, ef12⟩ : ∃ z : Nat → va_E, z = va_up f8 (ad 29) (aI (dA 2) 12 (upd TI st x1.2)) := ⟨_, rfl⟩
          have hw : ww G dA A s L f12 H locs := by rw [ef12]; exact hw
          have hX13 : MX ad dA n nb kel dmp spd ven lef gon hr tl st dn thr x1.1 bad x1.2 RA RB TH DE KI WE NX LI LM KE TX (upd BW st (vp_nar .boolean 0)) (upd TI st x1.2) KV DM f0 f12 := by rw [ef12]; exact hX11.sTI hC _
          refine lv_aload_n hx hb dX7_passStep_115 rfl (lv_at hl 1 rfl) ?_
          refine lv_bipush (v := 58) hx hb dX7_passStep_116 (by decide) ?_
          refine kV_I (C := RX7) (T := TX7) (N := 31) (As := [.int 58]) (rest := []) ⟨hx, hb, hml, hown, hts⟩ (c_X7_pass l G dA L f12 ad n nb q qk kel dmp spd ven lef gon hr tl st dn thr x1.1 bad x1.2 RA RB TH DE KI WE NX LI LM KE TX (upd BW st (vp_nar .boolean 0)) (upd TI st x1.2) KV DM f0 58 hC hX13 htl (by omega) (by decide)) (cwV 1 hts gX7_passStep_X7_pass rfl rfl rfl (by decide +kernel) ⟨Nat.le_of_ble_eq_true rfl, Nat.le_of_ble_eq_true rfl⟩) hw hA (hC.m (by decide)) hX13.o rfl rfl hl.1 rfl (Nat.le_of_ble_eq_true rfl) dX7_passStep_118 ⟨Nat.zero_le _, Nat.zero_le _⟩ (fun r15 f14 H locs hp hw => ?_)
          obtain ⟨e1, e2⟩ := hp
          rw [e1]
          by_cases q58 : nxt TX tl x1.1 = 58
          · rw [if_pos q58, if_pos q58] at e2
            rw [decide_eq_true q58]
            have lp1 := nxt_lt q58 (by decide)
            have hX16 : MX ad dA n nb kel dmp spd ven lef gon hr tl st dn thr (x1.1 + 1) bad x1.2 RA RB TH DE KI WE NX LI LM KE TX (upd BW st (vp_nar .boolean 0)) (upd TI st x1.2) KV DM f0 f14 := e2
            refine lv_if_eq (tgt := 137) hx hb dX7_passStep_121 (by decide) (fun c9 => absurd c9 (by decide)) (fun _ => ?_)
            refine lv_aload_n hx hb dX7_passStep_124 rfl (lv_at hl 1 rfl) ?_
            refine lv_sipush (v := 250) hx hb dX7_passStep_125 (by decide) ?_
            refine lv_sipush (v := 400) hx hb dX7_passStep_128 (by decide) ?_
            refine kV_I (C := RX7) (T := TX7) (N := 31) (As := [.int 250, .int 400]) (rest := []) ⟨hx, hb, hml, hown, hts⟩ (c_X7_passNumber l G dA L f14 ad n nb q qk kel dmp spd ven lef gon hr tl st dn thr (x1.1 + 1) bad x1.2 RA RB TH DE KI WE NX LI LM KE TX (upd BW st (vp_nar .boolean 0)) (upd TI st x1.2) KV DM f0 250 400 hC hX16 htl (by omega)) (cwV 2 hts gX7_passStep_X7_passNumber rfl rfl rfl (by decide +kernel) ⟨Nat.le_of_ble_eq_true rfl, Nat.le_of_ble_eq_true rfl⟩) hw hA (hC.m (by decide)) hX16.o rfl rfl hl.1 rfl (Nat.le_of_ble_eq_true rfl) dX7_passStep_131 ⟨Nat.zero_le _, Nat.zero_le _⟩ (fun r18 f17 H locs hp hw => ?_)
            obtain ⟨e1, e2⟩ := hp
            rw [e1]
            cases hq2 : numP TX tl (x1.1 + 1) 250 400 with
            | none =>
              rw [hq2] at e2
              have hX19 : MX ad dA n nb kel dmp spd ven lef gon hr tl st dn thr ((scanN TX tl 3 (x1.1 + 1) 0).1) (nI (x1.1 + 1)) ((scanN TX tl 3 (x1.1 + 1) 0).2) RA RB TH DE KI WE NX LI LM KE TX (upd BW st (vp_nar .boolean 0)) (upd TI st x1.2) KV DM f0 f17 := e2
              have hpb := (scanN_le (tx := TX) (tl := tl) 3 (x1.1 + 1) 0 (by omega)).2
              have eS : stepP TX tl pa = .inl (x1.1 + 1) := by rw [stepP, if_pos s40, hq1]; exact (if_pos q58).trans (by rw [hq2])
              refine lv_if_ne (tgt := 139) hx hb dX7_passStep_134 (by decide) (fun c9 => absurd c9 (fun h7 => h7 rfl)) (fun _ => ?_)
              refine lv_iconst (v := 0) hx hb dX7_passStep_137 (by decide) ?_
              exact hret _ _ _ _ _ _ hw ⟨(scanN TX tl 3 (x1.1 + 1) 0).1, nI (x1.1 + 1), (scanN TX tl 3 (x1.1 + 1) 0).2, st, upd BW st (vp_nar .boolean 0), upd TI st x1.2, KV, DM, hX19, fun j hj => ⟨pk_un hj, pk_un hj, rfl, rfl⟩, hpb, by rw [eS]; exact ⟨rfl, rfl, rfl⟩⟩ (by decide) dX7_passStep_138
            | some x2 =>
              rw [hq2, numP_sc hq2] at e2
              have ln2 := numP_le (by omega) hq2
              have hX20 : MX ad dA n nb kel dmp spd ven lef gon hr tl st dn thr x2.1 bad x2.2 RA RB TH DE KI WE NX LI LM KE TX (upd BW st (vp_nar .boolean 0)) (upd TI st x1.2) KV DM f0 f17 := e2
              refine lv_if_ne (tgt := 139) hx hb dX7_passStep_134 (by decide) (fun _ => ?_) (fun c9 => absurd c9 (show ¬ b2i true = 0 by decide))
              refine lv_aload_n hx hb dX7_passStep_139 rfl (lv_at hl 1 rfl) ?_
              refine wg (C := RX7) (T := TX7) (N := 31) hx hb hts hi7 hown hw (hC.m (by decide)) hX20.o rfl 27 (by decide) (hts (.fieldLink RX7 65 "LayerMoistureModel" "kelvins" "[I") (by decide +kernel)) (fun _ h9 => h9) (v := .ref (ad 30)) rfl dX7_passStep_140 ?_
              refine lv_aload_n hx hb dX7_passStep_143 rfl (lv_at hl 1 rfl) ?_
              refine wg (C := RX7) (T := TX7) (N := 31) hx hb hts hi7 hown hw (hC.m (by decide)) hX20.o rfl 29 (by decide) (hts (.fieldLink RX7 125 "LayerMoistureModel" "steps" "I") (by decide +kernel)) (fun _ h9 => h9) (v := .int (nI st)) rfl dX7_passStep_144 ?_
              refine lv_aload_n hx hb dX7_passStep_147 rfl (lv_at hl 1 rfl) ?_
              refine wg (C := RX7) (T := TX7) (N := 31) hx hb hts hi7 hown hw (hC.m (by decide)) hX20.o rfl 24 (by decide) (hts (.fieldLink RX7 118 "LayerMoistureModel" "number" "I") (by decide +kernel)) (fun _ h9 => h9) (v := .int x2.2) rfl dX7_passStep_148 ?_
              refine wst_i hx hb hw (hC.m (by decide)) hX20.aKV st hst (by decide) rfl dX7_passStep_151 (fun H locs hw => ?_)
              obtain ⟨f21, ef21⟩ : ∃ z : Nat → va_E, z = va_up f17 (ad 30) (aI (dA 2) 12 (upd KV st x2.2)) := ⟨_, rfl⟩
              have hw : ww G dA A s L f21 H locs := by rw [ef21]; exact hw
              have hX22 : MX ad dA n nb kel dmp spd ven lef gon hr tl st dn thr x2.1 bad x2.2 RA RB TH DE KI WE NX LI LM KE TX (upd BW st (vp_nar .boolean 0)) (upd TI st x1.2) (upd KV st x2.2) DM f0 f21 := by rw [ef21]; exact hX20.sKV hC _
              refine lv_aload_n hx hb dX7_passStep_152 rfl (lv_at hl 1 rfl) ?_
              refine lv_bipush (v := 44) hx hb dX7_passStep_153 (by decide) ?_
              refine kV_I (C := RX7) (T := TX7) (N := 31) (As := [.int 44]) (rest := []) ⟨hx, hb, hml, hown, hts⟩ (c_X7_pass l G dA L f21 ad n nb q qk kel dmp spd ven lef gon hr tl st dn thr x2.1 bad x2.2 RA RB TH DE KI WE NX LI LM KE TX (upd BW st (vp_nar .boolean 0)) (upd TI st x1.2) (upd KV st x2.2) DM f0 44 hC hX22 htl (by omega) (by decide)) (cwV 1 hts gX7_passStep_X7_pass rfl rfl rfl (by decide +kernel) ⟨Nat.le_of_ble_eq_true rfl, Nat.le_of_ble_eq_true rfl⟩) hw hA (hC.m (by decide)) hX22.o rfl rfl hl.1 rfl (Nat.le_of_ble_eq_true rfl) dX7_passStep_155 ⟨Nat.zero_le _, Nat.zero_le _⟩ (fun r24 f23 H locs hp hw => ?_)
              obtain ⟨e1, e2⟩ := hp
              rw [e1]
              by_cases q44 : nxt TX tl x2.1 = 44
              · rw [if_pos q44, if_pos q44] at e2
                rw [decide_eq_true q44]
                have lp2 := nxt_lt q44 (by decide)
                have hX25 : MX ad dA n nb kel dmp spd ven lef gon hr tl st dn thr (x2.1 + 1) bad x2.2 RA RB TH DE KI WE NX LI LM KE TX (upd BW st (vp_nar .boolean 0)) (upd TI st x1.2) (upd KV st x2.2) DM f0 f23 := e2
                refine lv_if_eq (tgt := 171) hx hb dX7_passStep_158 (by decide) (fun c9 => absurd c9 (by decide)) (fun _ => ?_)
                refine lv_aload_n hx hb dX7_passStep_161 rfl (lv_at hl 1 rfl) ?_
                refine lv_iconst (v := 0) hx hb dX7_passStep_162 (by decide) ?_
                refine lv_bipush (v := 100) hx hb dX7_passStep_163 (by decide) ?_
                refine kV_I (C := RX7) (T := TX7) (N := 31) (As := [.int 0, .int 100]) (rest := []) ⟨hx, hb, hml, hown, hts⟩ (c_X7_passNumber l G dA L f23 ad n nb q qk kel dmp spd ven lef gon hr tl st dn thr (x2.1 + 1) bad x2.2 RA RB TH DE KI WE NX LI LM KE TX (upd BW st (vp_nar .boolean 0)) (upd TI st x1.2) (upd KV st x2.2) DM f0 0 100 hC hX25 htl (by omega)) (cwV 2 hts gX7_passStep_X7_passNumber rfl rfl rfl (by decide +kernel) ⟨Nat.le_of_ble_eq_true rfl, Nat.le_of_ble_eq_true rfl⟩) hw hA (hC.m (by decide)) hX25.o rfl rfl hl.1 rfl (Nat.le_of_ble_eq_true rfl) dX7_passStep_165 ⟨Nat.zero_le _, Nat.zero_le _⟩ (fun r27 f26 H locs hp hw => ?_)
                obtain ⟨e1, e2⟩ := hp
                rw [e1]
                cases hq3 : numP TX tl (x2.1 + 1) 0 100 with
                | none =>
                  rw [hq3] at e2
                  have hX28 : MX ad dA n nb kel dmp spd ven lef gon hr tl st dn thr ((scanN TX tl 3 (x2.1 + 1) 0).1) (nI (x2.1 + 1)) ((scanN TX tl 3 (x2.1 + 1) 0).2) RA RB TH DE KI WE NX LI LM KE TX (upd BW st (vp_nar .boolean 0)) (upd TI st x1.2) (upd KV st x2.2) DM f0 f26 := e2
                  have hpb := (scanN_le (tx := TX) (tl := tl) 3 (x2.1 + 1) 0 (by omega)).2
                  have eS : stepP TX tl pa = .inl (x2.1 + 1) := by rw [stepP, if_pos s40, hq1]; exact (if_pos q58).trans (by rw [hq2]; exact (if_pos q44).trans (by rw [hq3]))
                  refine lv_if_ne (tgt := 173) hx hb dX7_passStep_168 (by decide) (fun c9 => absurd c9 (fun h7 => h7 rfl)) (fun _ => ?_)
                  refine lv_iconst (v := 0) hx hb dX7_passStep_171 (by decide) ?_
                  exact hret _ _ _ _ _ _ hw ⟨(scanN TX tl 3 (x2.1 + 1) 0).1, nI (x2.1 + 1), (scanN TX tl 3 (x2.1 + 1) 0).2, st, upd BW st (vp_nar .boolean 0), upd TI st x1.2, upd KV st x2.2, DM, hX28, fun j hj => ⟨pk_un hj, pk_un hj, pk_un hj, rfl⟩, hpb, by rw [eS]; exact ⟨rfl, rfl, rfl⟩⟩ (by decide) dX7_passStep_172
                | some x3 =>
                  rw [hq3, numP_sc hq3] at e2
                  have ln3 := numP_le (by omega) hq3
                  have hX29 : MX ad dA n nb kel dmp spd ven lef gon hr tl st dn thr x3.1 bad x3.2 RA RB TH DE KI WE NX LI LM KE TX (upd BW st (vp_nar .boolean 0)) (upd TI st x1.2) (upd KV st x2.2) DM f0 f26 := e2
                  refine lv_if_ne (tgt := 173) hx hb dX7_passStep_168 (by decide) (fun _ => ?_) (fun c9 => absurd c9 (show ¬ b2i true = 0 by decide))
                  refine lv_aload_n hx hb dX7_passStep_173 rfl (lv_at hl 1 rfl) ?_
                  refine wg (C := RX7) (T := TX7) (N := 31) hx hb hts hi7 hown hw (hC.m (by decide)) hX29.o rfl 28 (by decide) (hts (.fieldLink RX7 68 "LayerMoistureModel" "damps" "[I") (by decide +kernel)) (fun _ h9 => h9) (v := .ref (ad 31)) rfl dX7_passStep_174 ?_
                  refine lv_aload_n hx hb dX7_passStep_177 rfl (lv_at hl 1 rfl) ?_
                  refine wg (C := RX7) (T := TX7) (N := 31) hx hb hts hi7 hown hw (hC.m (by decide)) hX29.o rfl 29 (by decide) (hts (.fieldLink RX7 125 "LayerMoistureModel" "steps" "I") (by decide +kernel)) (fun _ h9 => h9) (v := .int (nI st)) rfl dX7_passStep_178 ?_
                  refine lv_aload_n hx hb dX7_passStep_181 rfl (lv_at hl 1 rfl) ?_
                  refine wg (C := RX7) (T := TX7) (N := 31) hx hb hts hi7 hown hw (hC.m (by decide)) hX29.o rfl 24 (by decide) (hts (.fieldLink RX7 118 "LayerMoistureModel" "number" "I") (by decide +kernel)) (fun _ h9 => h9) (v := .int x3.2) rfl dX7_passStep_182 ?_
                  refine wst_i hx hb hw (hC.m (by decide)) hX29.aDM st hst (by decide) rfl dX7_passStep_185 (fun H locs hw => ?_)
                  obtain ⟨f30, ef30⟩ : ∃ z : Nat → va_E, z = va_up f26 (ad 31) (aI (dA 2) 12 (upd DM st x3.2)) := ⟨_, rfl⟩
                  have hw : ww G dA A s L f30 H locs := by rw [ef30]; exact hw
                  have hX31 : MX ad dA n nb kel dmp spd ven lef gon hr tl st dn thr x3.1 bad x3.2 RA RB TH DE KI WE NX LI LM KE TX (upd BW st (vp_nar .boolean 0)) (upd TI st x1.2) (upd KV st x2.2) (upd DM st x3.2) f0 f30 := by rw [ef30]; exact hX29.sDM hC _
                  refine lv_aload_n hx hb dX7_passStep_186 rfl (lv_at hl 1 rfl) ?_
                  refine lv_dup hx hb dX7_passStep_187 rfl ?_
                  refine wg (C := RX7) (T := TX7) (N := 31) hx hb hts hi7 hown hw (hC.m (by decide)) hX31.o rfl 29 (by decide) (hts (.fieldLink RX7 125 "LayerMoistureModel" "steps" "I") (by decide +kernel)) (fun _ h9 => h9) (v := .int (nI st)) rfl dX7_passStep_188 ?_
                  refine lv_iconst (v := 1) hx hb dX7_passStep_191 (by decide) ?_
                  refine lv_iadd hx hb dX7_passStep_192 ?_
                  rw [show (nI st) + 1 = nI (st + 1) from nI_1 _]
                  refine wp_ (C := RX7) (T := TX7) (N := 31) hx hb hts hi7 tyX7 tyX7_ok nmX7 hown hw (hC.m (by decide)) hX31.o rfl 29 (by decide) (hts (.fieldLink RX7 125 "LayerMoistureModel" "steps" "I") (by decide +kernel)) (fun _ h9 => h9) rfl (ty := .int) (v := .int (nI (st + 1))) (by decide +kernel) rfl rfl (Nat.le_of_ble_eq_true rfl) dX7_passStep_193 (fun H locs hw => ?_)
                  obtain ⟨f32, ef32⟩ : ∃ z : Nat → va_E, z = va_up f30 (ad 16) (.inr (8, [.int thr, .int (nI n), .int (nI nb), .ref (ad 17), .ref (ad 18), .double kel, .double dmp, .double spd, .double ven, .double lef, .long gon, .int (nI hr), .ref (ad 19), .ref (ad 20), .ref (ad 21), .ref (ad 22), .ref (ad 23), .ref (ad 24), .ref (ad 25), .ref (ad 26), .ref (ad 27), .int (nI tl), .int (nI x3.1), .int bad, .int x3.2, .ref (ad 28), .ref (ad 29), .ref (ad 30), .ref (ad 31), .int (nI (st + 1)), .int (nI dn)])) := ⟨_, rfl⟩
                  have hw : ww G dA A s L f32 H locs := by rw [ef32]; exact hw
                  have hX33 : MX ad dA n nb kel dmp spd ven lef gon hr tl (st + 1) dn thr x3.1 bad x3.2 RA RB TH DE KI WE NX LI LM KE TX (upd BW st (vp_nar .boolean 0)) (upd TI st x1.2) (upd KV st x2.2) (upd DM st x3.2) f0 f32 := by rw [ef32]; exact hX31.sO hC kel dmp spd ven lef gon hr tl (st + 1) dn thr x3.1 bad x3.2
                  refine lv_iconst (v := 1) hx hb dX7_passStep_196 (by decide) ?_
                  exact hret _ _ _ _ _ _ hw ⟨x3.1, bad, x3.2, st + 1, upd BW st (vp_nar .boolean 0), upd TI st x1.2, upd KV st x2.2, upd DM st x3.2, hX33, fun j hj => ⟨pk_un hj, pk_un hj, pk_un hj, pk_un hj⟩, by show x3.1 ≤ tl; omega, by rw [show stepP TX tl pa = .inr (x3.1, decide (nxt TX tl pa = 104), x1.2, x2.2, x3.2) from (by rw [stepP, if_pos s40, hq1]; exact (if_pos q58).trans (by rw [hq2]; exact (if_pos q44).trans (by rw [hq3])))]; exact ⟨rfl, rfl, rfl, pk_us.trans (by rw [q104]; rfl), pk_us, pk_us, pk_us⟩⟩ (by decide) dX7_passStep_197
              · rw [if_neg q44, if_neg q44] at e2
                rw [decide_eq_false q44]
                have hX34 : MX ad dA n nb kel dmp spd ven lef gon hr tl st dn thr x2.1 (nI x2.1) x2.2 RA RB TH DE KI WE NX LI LM KE TX (upd BW st (vp_nar .boolean 0)) (upd TI st x1.2) (upd KV st x2.2) DM f0 f23 := e2
                have hpb : x2.1 ≤ tl := by omega
                have eS : stepP TX tl pa = .inl x2.1 := by rw [stepP, if_pos s40, hq1]; exact (if_pos q58).trans (by rw [hq2]; exact if_neg q44)
                refine lv_if_eq (tgt := 171) hx hb dX7_passStep_158 (by decide) (fun _ => ?_) (fun c9 => absurd rfl c9)
                refine lv_iconst (v := 0) hx hb dX7_passStep_171 (by decide) ?_
                exact hret _ _ _ _ _ _ hw ⟨x2.1, nI x2.1, x2.2, st, upd BW st (vp_nar .boolean 0), upd TI st x1.2, upd KV st x2.2, DM, hX34, fun j hj => ⟨pk_un hj, pk_un hj, pk_un hj, rfl⟩, hpb, by rw [eS]; exact ⟨rfl, rfl, rfl⟩⟩ (by decide) dX7_passStep_172
          · rw [if_neg q58, if_neg q58] at e2
            rw [decide_eq_false q58]
            have hX35 : MX ad dA n nb kel dmp spd ven lef gon hr tl st dn thr x1.1 (nI x1.1) x1.2 RA RB TH DE KI WE NX LI LM KE TX (upd BW st (vp_nar .boolean 0)) (upd TI st x1.2) KV DM f0 f14 := e2
            have hpb : x1.1 ≤ tl := by omega
            have eS : stepP TX tl pa = .inl x1.1 := by rw [stepP, if_pos s40, hq1]; exact if_neg q58
            refine lv_if_eq (tgt := 137) hx hb dX7_passStep_121 (by decide) (fun _ => ?_) (fun c9 => absurd rfl c9)
            refine lv_iconst (v := 0) hx hb dX7_passStep_137 (by decide) ?_
            exact hret _ _ _ _ _ _ hw ⟨x1.1, nI x1.1, x1.2, st, upd BW st (vp_nar .boolean 0), upd TI st x1.2, KV, DM, hX35, fun j hj => ⟨pk_un hj, pk_un hj, rfl, rfl⟩, hpb, by rw [eS]; exact ⟨rfl, rfl, rfl⟩⟩ (by decide) dX7_passStep_138
      · have q104 : ¬ nxt TX tl pa = 104 := c57
        refine lv_aload_n hx hb dX7_passStep_60 rfl (lv_at hl 1 rfl) ?_
        refine lv_aload_n hx hb dX7_passStep_61 rfl (lv_at hl 1 rfl) ?_
        refine wg (C := RX7) (T := TX7) (N := 31) hx hb hts hi7 hown hw (hC.m (by decide)) hX.o rfl 22 (by decide) (hts (.fieldLink RX7 112 "LayerMoistureModel" "at" "I") (by decide +kernel)) (fun _ h9 => h9) (v := .int (nI pa)) rfl dX7_passStep_62 ?_
        have eS : stepP TX tl pa = .inl pa := by rw [stepP, if_neg (by rw [if_neg q104]; exact q119)]
        refine kV_I (C := RX7) (T := TX7) (N := 31) (As := [.int (nI pa)]) (rest := []) ⟨hx, hb, hml, hown, hts⟩ (c_X7_fail l G dA L f ad n nb q qk kel dmp spd ven lef gon hr tl st dn thr pa bad num RA RB TH DE KI WE NX LI LM KE TX BW TI KV DM f0 (nI pa) hC hX) (cwV 1 hts gX7_passStep_X7_fail rfl rfl rfl (by decide +kernel) ⟨Nat.le_of_ble_eq_true rfl, Nat.le_of_ble_eq_true rfl⟩) hw hA (hC.m (by decide)) hX.o rfl rfl hl.1 rfl (Nat.le_of_ble_eq_true rfl) dX7_passStep_65 ⟨Nat.zero_le _, Nat.zero_le _⟩ (fun r37 f36 H locs hp hw => ?_)
        obtain ⟨e1, e2⟩ := hp
        rw [e1]
        have hX38 : MX ad dA n nb kel dmp spd ven lef gon hr tl st dn thr pa (nI pa) num RA RB TH DE KI WE NX LI LM KE TX BW TI KV DM f0 f36 := e2
        exact hret _ _ _ _ _ _ hw ⟨pa, nI pa, num, st, BW, TI, KV, DM, hX38, fun j hj => ⟨rfl, rfl, rfl, rfl⟩, hpa, by rw [eS]; exact ⟨rfl, rfl, rfl⟩⟩ (by decide) dX7_passStep_68
    · have q119 : nxt TX tl pa = 119 := c22
      refine lv_iconst (v := 1) hx hb dX7_passStep_25 (by decide) ?_
      refine lv_goto (tgt := 30) hx hb dX7_passStep_26 (by decide) ?_
      refine lv_istore_n (lv' := [(1, .int 1), (0, .ref (ad 16))]) hx hb dX7_passStep_30 rfl hl (by decide) rfl (fun ls hl => ?_)
      refine lv_iload_n hx hb dX7_passStep_31 rfl (lv_at hl 0 rfl) ?_
      refine lv_if_ne (tgt := 69) hx hb dX7_passStep_32 (by decide) (fun _ => ?_) (fun c9 => absurd c9 (by decide))
      refine lv_aload_n hx hb dX7_passStep_69 rfl (lv_at hl 1 rfl) ?_
      refine lv_dup hx hb dX7_passStep_70 rfl ?_
      refine wg (C := RX7) (T := TX7) (N := 31) hx hb hts hi7 hown hw (hC.m (by decide)) hX.o rfl 22 (by decide) (hts (.fieldLink RX7 112 "LayerMoistureModel" "at" "I") (by decide +kernel)) (fun _ h9 => h9) (v := .int (nI pa)) rfl dX7_passStep_71 ?_
      refine lv_iconst (v := 1) hx hb dX7_passStep_74 (by decide) ?_
      refine lv_iadd hx hb dX7_passStep_75 ?_
      rw [show (nI pa) + 1 = nI (pa + 1) from nI_1 _]
      refine wp_ (C := RX7) (T := TX7) (N := 31) hx hb hts hi7 tyX7 tyX7_ok nmX7 hown hw (hC.m (by decide)) hX.o rfl 22 (by decide) (hts (.fieldLink RX7 112 "LayerMoistureModel" "at" "I") (by decide +kernel)) (fun _ h9 => h9) rfl (ty := .int) (v := .int (nI (pa + 1))) (by decide +kernel) rfl rfl (Nat.le_of_ble_eq_true rfl) dX7_passStep_76 (fun H locs hw => ?_)
      obtain ⟨f39, ef39⟩ : ∃ z : Nat → va_E, z = va_up f (ad 16) (.inr (8, [.int thr, .int (nI n), .int (nI nb), .ref (ad 17), .ref (ad 18), .double kel, .double dmp, .double spd, .double ven, .double lef, .long gon, .int (nI hr), .ref (ad 19), .ref (ad 20), .ref (ad 21), .ref (ad 22), .ref (ad 23), .ref (ad 24), .ref (ad 25), .ref (ad 26), .ref (ad 27), .int (nI tl), .int (nI (pa + 1)), .int bad, .int num, .ref (ad 28), .ref (ad 29), .ref (ad 30), .ref (ad 31), .int (nI st), .int (nI dn)])) := ⟨_, rfl⟩
      have hw : ww G dA A s L f39 H locs := by rw [ef39]; exact hw
      have hX40 : MX ad dA n nb kel dmp spd ven lef gon hr tl st dn thr (pa + 1) bad num RA RB TH DE KI WE NX LI LM KE TX BW TI KV DM f0 f39 := by rw [ef39]; exact hX.sO hC kel dmp spd ven lef gon hr tl st dn thr (pa + 1) bad num
      refine lv_aload_n hx hb dX7_passStep_79 rfl (lv_at hl 1 rfl) ?_
      refine wg (C := RX7) (T := TX7) (N := 31) hx hb hts hi7 hown hw (hC.m (by decide)) hX40.o rfl 25 (by decide) (hts (.fieldLink RX7 59 "LayerMoistureModel" "byWet" "[Z") (by decide +kernel)) (fun _ h9 => h9) (v := .ref (ad 28)) rfl dX7_passStep_80 ?_
      refine lv_aload_n hx hb dX7_passStep_83 rfl (lv_at hl 1 rfl) ?_
      refine wg (C := RX7) (T := TX7) (N := 31) hx hb hts hi7 hown hw (hC.m (by decide)) hX40.o rfl 29 (by decide) (hts (.fieldLink RX7 125 "LayerMoistureModel" "steps" "I") (by decide +kernel)) (fun _ h9 => h9) (v := .int (nI st)) rfl dX7_passStep_84 ?_
      refine lv_iload_n hx hb dX7_passStep_87 rfl (lv_at hl 0 rfl) ?_
      refine wst_z hx hb hw (hC.m (by decide)) hX40.aBW st hst (by decide) rfl dX7_passStep_88 (fun H locs hw => ?_)
      obtain ⟨f41, ef41⟩ : ∃ z : Nat → va_E, z = va_up f39 (ad 28) (aI (dA 3) 12 (upd BW st (vp_nar .boolean 1))) := ⟨_, rfl⟩
      have hw : ww G dA A s L f41 H locs := by rw [ef41]; exact hw
      have hX42 : MX ad dA n nb kel dmp spd ven lef gon hr tl st dn thr (pa + 1) bad num RA RB TH DE KI WE NX LI LM KE TX (upd BW st (vp_nar .boolean 1)) TI KV DM f0 f41 := by rw [ef41]; exact hX40.sBW hC _
      refine lv_aload_n hx hb dX7_passStep_89 rfl (lv_at hl 1 rfl) ?_
      refine lv_iconst (v := 0) hx hb dX7_passStep_90 (by decide) ?_
      refine lv_sipush (v := 999) hx hb dX7_passStep_91 (by decide) ?_
      have s40 : nxt TX tl pa = (if nxt TX tl pa = 104 then 104 else 119) := by rw [q119]; decide
      have l40 : pa < tl := nxt_lt q119 (by decide)
      refine kV_I (C := RX7) (T := TX7) (N := 31) (As := [.int 0, .int 999]) (rest := []) ⟨hx, hb, hml, hown, hts⟩ (c_X7_passNumber l G dA L f41 ad n nb q qk kel dmp spd ven lef gon hr tl st dn thr (pa + 1) bad num RA RB TH DE KI WE NX LI LM KE TX (upd BW st (vp_nar .boolean 1)) TI KV DM f0 0 999 hC hX42 htl (by omega)) (cwV 2 hts gX7_passStep_X7_passNumber rfl rfl rfl (by decide +kernel) ⟨Nat.le_of_ble_eq_true rfl, Nat.le_of_ble_eq_true rfl⟩) hw hA (hC.m (by decide)) hX42.o rfl rfl hl.1 rfl (Nat.le_of_ble_eq_true rfl) dX7_passStep_94 ⟨Nat.zero_le _, Nat.zero_le _⟩ (fun r44 f43 H locs hp hw => ?_)
      obtain ⟨e1, e2⟩ := hp
      rw [e1]
      cases hq1 : numP TX tl (pa + 1) 0 999 with
      | none =>
        rw [hq1] at e2
        have hX45 : MX ad dA n nb kel dmp spd ven lef gon hr tl st dn thr ((scanN TX tl 3 (pa + 1) 0).1) (nI (pa + 1)) ((scanN TX tl 3 (pa + 1) 0).2) RA RB TH DE KI WE NX LI LM KE TX (upd BW st (vp_nar .boolean 1)) TI KV DM f0 f43 := e2
        have hpb := (scanN_le (tx := TX) (tl := tl) 3 (pa + 1) 0 (by omega)).2
        have eS : stepP TX tl pa = .inl (pa + 1) := by rw [stepP, if_pos s40, hq1]
        refine lv_if_ne (tgt := 102) hx hb dX7_passStep_97 (by decide) (fun c9 => absurd c9 (fun h7 => h7 rfl)) (fun _ => ?_)
        refine lv_iconst (v := 0) hx hb dX7_passStep_100 (by decide) ?_
        exact hret _ _ _ _ _ _ hw ⟨(scanN TX tl 3 (pa + 1) 0).1, nI (pa + 1), (scanN TX tl 3 (pa + 1) 0).2, st, upd BW st (vp_nar .boolean 1), TI, KV, DM, hX45, fun j hj => ⟨pk_un hj, rfl, rfl, rfl⟩, hpb, by rw [eS]; exact ⟨rfl, rfl, rfl⟩⟩ (by decide) dX7_passStep_101
      | some x1 =>
        rw [hq1, numP_sc hq1] at e2
        have ln1 := numP_le (by omega) hq1
        have hX46 : MX ad dA n nb kel dmp spd ven lef gon hr tl st dn thr x1.1 bad x1.2 RA RB TH DE KI WE NX LI LM KE TX (upd BW st (vp_nar .boolean 1)) TI KV DM f0 f43 := e2
        refine lv_if_ne (tgt := 102) hx hb dX7_passStep_97 (by decide) (fun _ => ?_) (fun c9 => absurd c9 (show ¬ b2i true = 0 by decide))
        refine lv_aload_n hx hb dX7_passStep_102 rfl (lv_at hl 1 rfl) ?_
        refine wg (C := RX7) (T := TX7) (N := 31) hx hb hts hi7 hown hw (hC.m (by decide)) hX46.o rfl 26 (by decide) (hts (.fieldLink RX7 62 "LayerMoistureModel" "times" "[I") (by decide +kernel)) (fun _ h9 => h9) (v := .ref (ad 29)) rfl dX7_passStep_103 ?_
        refine lv_aload_n hx hb dX7_passStep_106 rfl (lv_at hl 1 rfl) ?_
        refine wg (C := RX7) (T := TX7) (N := 31) hx hb hts hi7 hown hw (hC.m (by decide)) hX46.o rfl 29 (by decide) (hts (.fieldLink RX7 125 "LayerMoistureModel" "steps" "I") (by decide +kernel)) (fun _ h9 => h9) (v := .int (nI st)) rfl dX7_passStep_107 ?_
        refine lv_aload_n hx hb dX7_passStep_110 rfl (lv_at hl 1 rfl) ?_
        refine wg (C := RX7) (T := TX7) (N := 31) hx hb hts hi7 hown hw (hC.m (by decide)) hX46.o rfl 24 (by decide) (hts (.fieldLink RX7 118 "LayerMoistureModel" "number" "I") (by decide +kernel)) (fun _ h9 => h9) (v := .int x1.2) rfl dX7_passStep_111 ?_
        refine wst_i hx hb hw (hC.m (by decide)) hX46.aTI st hst (by decide) rfl dX7_passStep_114 (fun H locs hw => ?_)
        obtain ⟨f47, ef47⟩ : ∃ z : Nat → va_E, z = va_up f43 (ad 29) (aI (dA 2) 12 (upd TI st x1.2)) := ⟨_, rfl⟩
        have hw : ww G dA A s L f47 H locs := by rw [ef47]; exact hw
        have hX48 : MX ad dA n nb kel dmp spd ven lef gon hr tl st dn thr x1.1 bad x1.2 RA RB TH DE KI WE NX LI LM KE TX (upd BW st (vp_nar .boolean 1)) (upd TI st x1.2) KV DM f0 f47 := by rw [ef47]; exact hX46.sTI hC _
        refine lv_aload_n hx hb dX7_passStep_115 rfl (lv_at hl 1 rfl) ?_
        refine lv_bipush (v := 58) hx hb dX7_passStep_116 (by decide) ?_
        refine kV_I (C := RX7) (T := TX7) (N := 31) (As := [.int 58]) (rest := []) ⟨hx, hb, hml, hown, hts⟩ (c_X7_pass l G dA L f47 ad n nb q qk kel dmp spd ven lef gon hr tl st dn thr x1.1 bad x1.2 RA RB TH DE KI WE NX LI LM KE TX (upd BW st (vp_nar .boolean 1)) (upd TI st x1.2) KV DM f0 58 hC hX48 htl (by omega) (by decide)) (cwV 1 hts gX7_passStep_X7_pass rfl rfl rfl (by decide +kernel) ⟨Nat.le_of_ble_eq_true rfl, Nat.le_of_ble_eq_true rfl⟩) hw hA (hC.m (by decide)) hX48.o rfl rfl hl.1 rfl (Nat.le_of_ble_eq_true rfl) dX7_passStep_118 ⟨Nat.zero_le _, Nat.zero_le _⟩ (fun r50 f49 H locs hp hw => ?_)
        obtain ⟨e1, e2⟩ := hp
        rw [e1]
        by_cases q58 : nxt TX tl x1.1 = 58
        · rw [if_pos q58, if_pos q58] at e2
          rw [decide_eq_true q58]
          have lp1 := nxt_lt q58 (by decide)
          have hX51 : MX ad dA n nb kel dmp spd ven lef gon hr tl st dn thr (x1.1 + 1) bad x1.2 RA RB TH DE KI WE NX LI LM KE TX (upd BW st (vp_nar .boolean 1)) (upd TI st x1.2) KV DM f0 f49 := e2
          refine lv_if_eq (tgt := 137) hx hb dX7_passStep_121 (by decide) (fun c9 => absurd c9 (by decide)) (fun _ => ?_)
          refine lv_aload_n hx hb dX7_passStep_124 rfl (lv_at hl 1 rfl) ?_
          refine lv_sipush (v := 250) hx hb dX7_passStep_125 (by decide) ?_
          refine lv_sipush (v := 400) hx hb dX7_passStep_128 (by decide) ?_
          refine kV_I (C := RX7) (T := TX7) (N := 31) (As := [.int 250, .int 400]) (rest := []) ⟨hx, hb, hml, hown, hts⟩ (c_X7_passNumber l G dA L f49 ad n nb q qk kel dmp spd ven lef gon hr tl st dn thr (x1.1 + 1) bad x1.2 RA RB TH DE KI WE NX LI LM KE TX (upd BW st (vp_nar .boolean 1)) (upd TI st x1.2) KV DM f0 250 400 hC hX51 htl (by omega)) (cwV 2 hts gX7_passStep_X7_passNumber rfl rfl rfl (by decide +kernel) ⟨Nat.le_of_ble_eq_true rfl, Nat.le_of_ble_eq_true rfl⟩) hw hA (hC.m (by decide)) hX51.o rfl rfl hl.1 rfl (Nat.le_of_ble_eq_true rfl) dX7_passStep_131 ⟨Nat.zero_le _, Nat.zero_le _⟩ (fun r53 f52 H locs hp hw => ?_)
          obtain ⟨e1, e2⟩ := hp
          rw [e1]
          cases hq2 : numP TX tl (x1.1 + 1) 250 400 with
          | none =>
            rw [hq2] at e2
            have hX54 : MX ad dA n nb kel dmp spd ven lef gon hr tl st dn thr ((scanN TX tl 3 (x1.1 + 1) 0).1) (nI (x1.1 + 1)) ((scanN TX tl 3 (x1.1 + 1) 0).2) RA RB TH DE KI WE NX LI LM KE TX (upd BW st (vp_nar .boolean 1)) (upd TI st x1.2) KV DM f0 f52 := e2
            have hpb := (scanN_le (tx := TX) (tl := tl) 3 (x1.1 + 1) 0 (by omega)).2
            have eS : stepP TX tl pa = .inl (x1.1 + 1) := by rw [stepP, if_pos s40, hq1]; exact (if_pos q58).trans (by rw [hq2])
            refine lv_if_ne (tgt := 139) hx hb dX7_passStep_134 (by decide) (fun c9 => absurd c9 (fun h7 => h7 rfl)) (fun _ => ?_)
            refine lv_iconst (v := 0) hx hb dX7_passStep_137 (by decide) ?_
            exact hret _ _ _ _ _ _ hw ⟨(scanN TX tl 3 (x1.1 + 1) 0).1, nI (x1.1 + 1), (scanN TX tl 3 (x1.1 + 1) 0).2, st, upd BW st (vp_nar .boolean 1), upd TI st x1.2, KV, DM, hX54, fun j hj => ⟨pk_un hj, pk_un hj, rfl, rfl⟩, hpb, by rw [eS]; exact ⟨rfl, rfl, rfl⟩⟩ (by decide) dX7_passStep_138
          | some x2 =>
            rw [hq2, numP_sc hq2] at e2
            have ln2 := numP_le (by omega) hq2
            have hX55 : MX ad dA n nb kel dmp spd ven lef gon hr tl st dn thr x2.1 bad x2.2 RA RB TH DE KI WE NX LI LM KE TX (upd BW st (vp_nar .boolean 1)) (upd TI st x1.2) KV DM f0 f52 := e2
            refine lv_if_ne (tgt := 139) hx hb dX7_passStep_134 (by decide) (fun _ => ?_) (fun c9 => absurd c9 (show ¬ b2i true = 0 by decide))
            refine lv_aload_n hx hb dX7_passStep_139 rfl (lv_at hl 1 rfl) ?_
            refine wg (C := RX7) (T := TX7) (N := 31) hx hb hts hi7 hown hw (hC.m (by decide)) hX55.o rfl 27 (by decide) (hts (.fieldLink RX7 65 "LayerMoistureModel" "kelvins" "[I") (by decide +kernel)) (fun _ h9 => h9) (v := .ref (ad 30)) rfl dX7_passStep_140 ?_
            refine lv_aload_n hx hb dX7_passStep_143 rfl (lv_at hl 1 rfl) ?_
            refine wg (C := RX7) (T := TX7) (N := 31) hx hb hts hi7 hown hw (hC.m (by decide)) hX55.o rfl 29 (by decide) (hts (.fieldLink RX7 125 "LayerMoistureModel" "steps" "I") (by decide +kernel)) (fun _ h9 => h9) (v := .int (nI st)) rfl dX7_passStep_144 ?_
            refine lv_aload_n hx hb dX7_passStep_147 rfl (lv_at hl 1 rfl) ?_
            refine wg (C := RX7) (T := TX7) (N := 31) hx hb hts hi7 hown hw (hC.m (by decide)) hX55.o rfl 24 (by decide) (hts (.fieldLink RX7 118 "LayerMoistureModel" "number" "I") (by decide +kernel)) (fun _ h9 => h9) (v := .int x2.2) rfl dX7_passStep_148 ?_
            refine wst_i hx hb hw (hC.m (by decide)) hX55.aKV st hst (by decide) rfl dX7_passStep_151 (fun H locs hw => ?_)
            obtain ⟨f56, ef56⟩ : ∃ z : Nat → va_E, z = va_up f52 (ad 30) (aI (dA 2) 12 (upd KV st x2.2)) := ⟨_, rfl⟩
            have hw : ww G dA A s L f56 H locs := by rw [ef56]; exact hw
            have hX57 : MX ad dA n nb kel dmp spd ven lef gon hr tl st dn thr x2.1 bad x2.2 RA RB TH DE KI WE NX LI LM KE TX (upd BW st (vp_nar .boolean 1)) (upd TI st x1.2) (upd KV st x2.2) DM f0 f56 := by rw [ef56]; exact hX55.sKV hC _
            refine lv_aload_n hx hb dX7_passStep_152 rfl (lv_at hl 1 rfl) ?_
            refine lv_bipush (v := 44) hx hb dX7_passStep_153 (by decide) ?_
            refine kV_I (C := RX7) (T := TX7) (N := 31) (As := [.int 44]) (rest := []) ⟨hx, hb, hml, hown, hts⟩ (c_X7_pass l G dA L f56 ad n nb q qk kel dmp spd ven lef gon hr tl st dn thr x2.1 bad x2.2 RA RB TH DE KI WE NX LI LM KE TX (upd BW st (vp_nar .boolean 1)) (upd TI st x1.2) (upd KV st x2.2) DM f0 44 hC hX57 htl (by omega) (by decide)) (cwV 1 hts gX7_passStep_X7_pass rfl rfl rfl (by decide +kernel) ⟨Nat.le_of_ble_eq_true rfl, Nat.le_of_ble_eq_true rfl⟩) hw hA (hC.m (by decide)) hX57.o rfl rfl hl.1 rfl (Nat.le_of_ble_eq_true rfl) dX7_passStep_155 ⟨Nat.zero_le _, Nat.zero_le _⟩ (fun r59 f58 H locs hp hw => ?_)
            obtain ⟨e1, e2⟩ := hp
            rw [e1]
            by_cases q44 : nxt TX tl x2.1 = 44
            · rw [if_pos q44, if_pos q44] at e2
              rw [decide_eq_true q44]
              have lp2 := nxt_lt q44 (by decide)
              have hX60 : MX ad dA n nb kel dmp spd ven lef gon hr tl st dn thr (x2.1 + 1) bad x2.2 RA RB TH DE KI WE NX LI LM KE TX (upd BW st (vp_nar .boolean 1)) (upd TI st x1.2) (upd KV st x2.2) DM f0 f58 := e2
              refine lv_if_eq (tgt := 171) hx hb dX7_passStep_158 (by decide) (fun c9 => absurd c9 (by decide)) (fun _ => ?_)
              refine lv_aload_n hx hb dX7_passStep_161 rfl (lv_at hl 1 rfl) ?_
              refine lv_iconst (v := 0) hx hb dX7_passStep_162 (by decide) ?_
              refine lv_bipush (v := 100) hx hb dX7_passStep_163 (by decide) ?_
              refine kV_I (C := RX7) (T := TX7) (N := 31) (As := [.int 0, .int 100]) (rest := []) ⟨hx, hb, hml, hown, hts⟩ (c_X7_passNumber l G dA L f58 ad n nb q qk kel dmp spd ven lef gon hr tl st dn thr (x2.1 + 1) bad x2.2 RA RB TH DE KI WE NX LI LM KE TX (upd BW st (vp_nar .boolean 1)) (upd TI st x1.2) (upd KV st x2.2) DM f0 0 100 hC hX60 htl (by omega)) (cwV 2 hts gX7_passStep_X7_passNumber rfl rfl rfl (by decide +kernel) ⟨Nat.le_of_ble_eq_true rfl, Nat.le_of_ble_eq_true rfl⟩) hw hA (hC.m (by decide)) hX60.o rfl rfl hl.1 rfl (Nat.le_of_ble_eq_true rfl) dX7_passStep_165 ⟨Nat.zero_le _, Nat.zero_le _⟩ (fun r62 f61 H locs hp hw => ?_)
              obtain ⟨e1, e2⟩ := hp
              rw [e1]
              cases hq3 : numP TX tl (x2.1 + 1) 0 100 with
              | none =>
                rw [hq3] at e2
                have hX63 : MX ad dA n nb kel dmp spd ven lef gon hr tl st dn thr ((scanN TX tl 3 (x2.1 + 1) 0).1) (nI (x2.1 + 1)) ((scanN TX tl 3 (x2.1 + 1) 0).2) RA RB TH DE KI WE NX LI LM KE TX (upd BW st (vp_nar .boolean 1)) (upd TI st x1.2) (upd KV st x2.2) DM f0 f61 := e2
                have hpb := (scanN_le (tx := TX) (tl := tl) 3 (x2.1 + 1) 0 (by omega)).2
                have eS : stepP TX tl pa = .inl (x2.1 + 1) := by rw [stepP, if_pos s40, hq1]; exact (if_pos q58).trans (by rw [hq2]; exact (if_pos q44).trans (by rw [hq3]))
                refine lv_if_ne (tgt := 173) hx hb dX7_passStep_168 (by decide) (fun c9 => absurd c9 (fun h7 => h7 rfl)) (fun _ => ?_)
                refine lv_iconst (v := 0) hx hb dX7_passStep_171 (by decide) ?_
                exact hret _ _ _ _ _ _ hw ⟨(scanN TX tl 3 (x2.1 + 1) 0).1, nI (x2.1 + 1), (scanN TX tl 3 (x2.1 + 1) 0).2, st, upd BW st (vp_nar .boolean 1), upd TI st x1.2, upd KV st x2.2, DM, hX63, fun j hj => ⟨pk_un hj, pk_un hj, pk_un hj, rfl⟩, hpb, by rw [eS]; exact ⟨rfl, rfl, rfl⟩⟩ (by decide) dX7_passStep_172
              | some x3 =>
                rw [hq3, numP_sc hq3] at e2
                have ln3 := numP_le (by omega) hq3
                have hX64 : MX ad dA n nb kel dmp spd ven lef gon hr tl st dn thr x3.1 bad x3.2 RA RB TH DE KI WE NX LI LM KE TX (upd BW st (vp_nar .boolean 1)) (upd TI st x1.2) (upd KV st x2.2) DM f0 f61 := e2
                refine lv_if_ne (tgt := 173) hx hb dX7_passStep_168 (by decide) (fun _ => ?_) (fun c9 => absurd c9 (show ¬ b2i true = 0 by decide))
                refine lv_aload_n hx hb dX7_passStep_173 rfl (lv_at hl 1 rfl) ?_
                refine wg (C := RX7) (T := TX7) (N := 31) hx hb hts hi7 hown hw (hC.m (by decide)) hX64.o rfl 28 (by decide) (hts (.fieldLink RX7 68 "LayerMoistureModel" "damps" "[I") (by decide +kernel)) (fun _ h9 => h9) (v := .ref (ad 31)) rfl dX7_passStep_174 ?_
                refine lv_aload_n hx hb dX7_passStep_177 rfl (lv_at hl 1 rfl) ?_
                refine wg (C := RX7) (T := TX7) (N := 31) hx hb hts hi7 hown hw (hC.m (by decide)) hX64.o rfl 29 (by decide) (hts (.fieldLink RX7 125 "LayerMoistureModel" "steps" "I") (by decide +kernel)) (fun _ h9 => h9) (v := .int (nI st)) rfl dX7_passStep_178 ?_
                refine lv_aload_n hx hb dX7_passStep_181 rfl (lv_at hl 1 rfl) ?_
                refine wg (C := RX7) (T := TX7) (N := 31) hx hb hts hi7 hown hw (hC.m (by decide)) hX64.o rfl 24 (by decide) (hts (.fieldLink RX7 118 "LayerMoistureModel" "number" "I") (by decide +kernel)) (fun _ h9 => h9) (v := .int x3.2) rfl dX7_passStep_182 ?_
                refine wst_i hx hb hw (hC.m (by decide)) hX64.aDM st hst (by decide) rfl dX7_passStep_185 (fun H locs hw => ?_)
                obtain ⟨f65, ef65⟩ : ∃ z : Nat → va_E, z = va_up f61 (ad 31) (aI (dA 2) 12 (upd DM st x3.2)) := ⟨_, rfl⟩
                have hw : ww G dA A s L f65 H locs := by rw [ef65]; exact hw
                have hX66 : MX ad dA n nb kel dmp spd ven lef gon hr tl st dn thr x3.1 bad x3.2 RA RB TH DE KI WE NX LI LM KE TX (upd BW st (vp_nar .boolean 1)) (upd TI st x1.2) (upd KV st x2.2) (upd DM st x3.2) f0 f65 := by rw [ef65]; exact hX64.sDM hC _
                refine lv_aload_n hx hb dX7_passStep_186 rfl (lv_at hl 1 rfl) ?_
                refine lv_dup hx hb dX7_passStep_187 rfl ?_
                refine wg (C := RX7) (T := TX7) (N := 31) hx hb hts hi7 hown hw (hC.m (by decide)) hX66.o rfl 29 (by decide) (hts (.fieldLink RX7 125 "LayerMoistureModel" "steps" "I") (by decide +kernel)) (fun _ h9 => h9) (v := .int (nI st)) rfl dX7_passStep_188 ?_
                refine lv_iconst (v := 1) hx hb dX7_passStep_191 (by decide) ?_
                refine lv_iadd hx hb dX7_passStep_192 ?_
                rw [show (nI st) + 1 = nI (st + 1) from nI_1 _]
                refine wp_ (C := RX7) (T := TX7) (N := 31) hx hb hts hi7 tyX7 tyX7_ok nmX7 hown hw (hC.m (by decide)) hX66.o rfl 29 (by decide) (hts (.fieldLink RX7 125 "LayerMoistureModel" "steps" "I") (by decide +kernel)) (fun _ h9 => h9) rfl (ty := .int) (v := .int (nI (st + 1))) (by decide +kernel) rfl rfl (Nat.le_of_ble_eq_true rfl) dX7_passStep_193 (fun H locs hw => ?_)
                obtain ⟨f67, ef67⟩ : ∃ z : Nat → va_E, z = va_up f65 (ad 16) (.inr (8, [.int thr, .int (nI n), .int (nI nb), .ref (ad 17), .ref (ad 18), .double kel, .double dmp, .double spd, .double ven, .double lef, .long gon, .int (nI hr), .ref (ad 19), .ref (ad 20), .ref (ad 21), .ref (ad 22), .ref (ad 23), .ref (ad 24), .ref (ad 25), .ref (ad 26), .ref (ad 27), .int (nI tl), .int (nI x3.1), .int bad, .int x3.2, .ref (ad 28), .ref (ad 29), .ref (ad 30), .ref (ad 31), .int (nI (st + 1)), .int (nI dn)])) := ⟨_, rfl⟩
                have hw : ww G dA A s L f67 H locs := by rw [ef67]; exact hw
                have hX68 : MX ad dA n nb kel dmp spd ven lef gon hr tl (st + 1) dn thr x3.1 bad x3.2 RA RB TH DE KI WE NX LI LM KE TX (upd BW st (vp_nar .boolean 1)) (upd TI st x1.2) (upd KV st x2.2) (upd DM st x3.2) f0 f67 := by rw [ef67]; exact hX66.sO hC kel dmp spd ven lef gon hr tl (st + 1) dn thr x3.1 bad x3.2
                refine lv_iconst (v := 1) hx hb dX7_passStep_196 (by decide) ?_
                exact hret _ _ _ _ _ _ hw ⟨x3.1, bad, x3.2, st + 1, upd BW st (vp_nar .boolean 1), upd TI st x1.2, upd KV st x2.2, upd DM st x3.2, hX68, fun j hj => ⟨pk_un hj, pk_un hj, pk_un hj, pk_un hj⟩, by show x3.1 ≤ tl; omega, by rw [show stepP TX tl pa = .inr (x3.1, decide (nxt TX tl pa = 104), x1.2, x2.2, x3.2) from (by rw [stepP, if_pos s40, hq1]; exact (if_pos q58).trans (by rw [hq2]; exact (if_pos q44).trans (by rw [hq3])))]; exact ⟨rfl, rfl, rfl, pk_us.trans (by rw [q119]; rfl), pk_us, pk_us, pk_us⟩⟩ (by decide) dX7_passStep_197
            · rw [if_neg q44, if_neg q44] at e2
              rw [decide_eq_false q44]
              have hX69 : MX ad dA n nb kel dmp spd ven lef gon hr tl st dn thr x2.1 (nI x2.1) x2.2 RA RB TH DE KI WE NX LI LM KE TX (upd BW st (vp_nar .boolean 1)) (upd TI st x1.2) (upd KV st x2.2) DM f0 f58 := e2
              have hpb : x2.1 ≤ tl := by omega
              have eS : stepP TX tl pa = .inl x2.1 := by rw [stepP, if_pos s40, hq1]; exact (if_pos q58).trans (by rw [hq2]; exact if_neg q44)
              refine lv_if_eq (tgt := 171) hx hb dX7_passStep_158 (by decide) (fun _ => ?_) (fun c9 => absurd rfl c9)
              refine lv_iconst (v := 0) hx hb dX7_passStep_171 (by decide) ?_
              exact hret _ _ _ _ _ _ hw ⟨x2.1, nI x2.1, x2.2, st, upd BW st (vp_nar .boolean 1), upd TI st x1.2, upd KV st x2.2, DM, hX69, fun j hj => ⟨pk_un hj, pk_un hj, pk_un hj, rfl⟩, hpb, by rw [eS]; exact ⟨rfl, rfl, rfl⟩⟩ (by decide) dX7_passStep_172
        · rw [if_neg q58, if_neg q58] at e2
          rw [decide_eq_false q58]
          have hX70 : MX ad dA n nb kel dmp spd ven lef gon hr tl st dn thr x1.1 (nI x1.1) x1.2 RA RB TH DE KI WE NX LI LM KE TX (upd BW st (vp_nar .boolean 1)) (upd TI st x1.2) KV DM f0 f49 := e2
          have hpb : x1.1 ≤ tl := by omega
          have eS : stepP TX tl pa = .inl x1.1 := by rw [stepP, if_pos s40, hq1]; exact if_neg q58
          refine lv_if_eq (tgt := 137) hx hb dX7_passStep_121 (by decide) (fun _ => ?_) (fun c9 => absurd rfl c9)
          refine lv_iconst (v := 0) hx hb dX7_passStep_137 (by decide) ?_
          exact hret _ _ _ _ _ _ hw ⟨x1.1, nI x1.1, x1.2, st, upd BW st (vp_nar .boolean 1), upd TI st x1.2, KV, DM, hX70, fun j hj => ⟨pk_un hj, pk_un hj, rfl, rfl⟩, hpb, by rw [eS]; exact ⟨rfl, rfl, rfl⟩⟩ (by decide) dX7_passStep_138
