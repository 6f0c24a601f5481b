set_option maxHeartbeats 4000000 in
set_option maxRecDepth 100000 in
theorem c_X7_schedule (l : Launch) (G : va_G) (dA : Nat → ClassId) (L : List Nat) (f : Nat → va_E) (ad : Nat → Nat) (n nb : Nat) (q qk : Nat → Option Nat) (kel : UInt64) (dmp : UInt64) (spd : UInt64) (ven : UInt64) (lef : UInt64) (gon : Int64) (hr : Nat) (tl : Nat) (st : Nat) (dn : Nat) (thr : Int32) (pa : Nat) (bad : Int32) (num : Int32) (RA : Nat → UInt64) (RB : Nat → UInt64) (TH : Nat → Int32) (DE : Nat → UInt64) (KI : Nat → Int32) (WE : Nat → UInt64) (NX : Nat → UInt64) (LI : Nat → Int32) (LM : Nat → UInt64) (KE : Nat → Int32) (TX : Nat → Int32) (BW : Nat → Int32) (TI : Nat → Int32) (KV : Nat → Int32) (DM : Nat → Int32) (f0 : Nat → va_E)   (hC : Cx ad L n nb q qk) (hX : MX ad dA n nb kel dmp spd ven lef gon hr tl st dn thr pa bad num RA RB TH DE KI WE NX LI LM KE TX BW TI KV DM f0 f) (htl : tl ≤ 200)  : mI l yX7_schedule wsX7_schedule ({ frames := 3, cells := 0, slots := 0, locals := 65 }) G dA [.ref (ad 16)] L f (fun r f2 => ∃ (pa2 : Nat) (bad2 num2 : Int32) (st2 : Nat) (BW2 TI2 KV2 DM2 : Nat → Int32), MX ad dA n nb kel dmp spd ven lef gon hr 0 st2 0 0 pa2 bad2 num2 RA RB TH DE KI WE NX LI LM KE TX BW2 TI2 KV2 DM2 f0 f2 ∧ (match stepsP TX tl 12 true 0 with | .inl p => r = -1 - nI p ∧ st2 = 0 | .inr l => r = nI l.length ∧ st2 = l.length ∧ MR BW2 TI2 KV2 DM2 l)) := by
  refine mI_of (cc := cX7_schedule) (maxL := 2) (by decide) rfl (Nat.le_of_ble_eq_true rfl) ?_
  intro p e s m below meth c A ls Q hx hb hml hown hts hlocks hA hin0 hw hl hret
  have hown : s.vm.findClass RX7 = some m.cls := hown
  have hl : lv_has ls 2 [(0, .ref (ad 16))] := hl
  have hi7 : ∀ w ∈ u_ws RX7 TX7 31, w ∈ wsX7_schedule := by decide +kernel
  have loop : ∀ (kf : Nat) (l0 : List St4) (pp : Nat), l0.length + kf = 12 → stepsP TX tl 12 true 0 = appR l0 (resP TX tl kf pp) → ∀ {BW9 TI9 KV9 DM9 : Nat → Int32}, MR BW9 TI9 KV9 DM9 l0 → pp ≤ tl → ∀ (bd9 nm9 : Int32) (fa : Nat → va_E) (H : Heap) (locs : List Loc), MX ad dA n nb kel dmp spd ven lef gon hr tl l0.length 0 0 pp bd9 nm9 RA RB TH DE KI WE NX LI LM KE TX BW9 TI9 KV9 DM9 f0 fa → ww G dA A s L fa H locs → ∀ (ls : Array Slot), lv_has ls 2 [(0, .ref (ad 16)), (1, .int 1)] → W p l e ({ frames := 3, cells := 0, slots := 0, locals := 65 } : Room) s m ([.ref (ad 16)] : List Value).toArray below meth c H locs 0 0 Q (F0 m 25 ls []) := by
    intro kf
    induction kf with
    | zero =>
      intro l0 pp hl0 hT BW9 TI9 KV9 DM9 hR hp9 bd9 nm9 fa H locs hXa hw ls hl
      refine lv_iload_n hx hb dX7_schedule_25 rfl (lv_at hl 1 rfl) ?_
      refine lv_if_eq (tgt := 81) hx hb dX7_schedule_26 (by decide) (fun c9 => absurd c9 (by decide)) (fun _ => ?_)
      refine lv_aload_n hx hb dX7_schedule_29 rfl (lv_at hl 0 rfl) ?_
      refine wg (C := RX7) (T := TX7) (N := 31) hx hb hts hi7 hown hw (hC.m (by decide)) hXa.o rfl 22 (by decide) (hts (.fieldLink RX7 112 "LayerMoistureModel" "at" "I") (by decide +kernel)) (fun _ h9 => h9) (v := .int (nI pp)) rfl dX7_schedule_30 ?_
      refine lv_aload_n hx hb dX7_schedule_33 rfl (lv_at hl 0 rfl) ?_
      refine wg (C := RX7) (T := TX7) (N := 31) hx hb hts hi7 hown hw (hC.m (by decide)) hXa.o rfl 21 (by decide) (hts (.fieldLink RX7 106 "LayerMoistureModel" "typed" "I") (by decide +kernel)) (fun _ h9 => h9) (v := .int (nI tl)) rfl dX7_schedule_34 ?_
      refine lv_icmp_ge (tgt := 81) hx hb dX7_schedule_37 (by decide) (fun c37 => ?_) (fun c37 => ?_)
      · have hge : tl ≤ pp := (nI_leI (by omega) (by omega)).mp c37
        have eT : stepsP TX tl 12 true 0 = .inr l0 := by rw [hT, resP, if_pos hge, appR, List.append_nil]
        refine lv_iload_n hx hb dX7_schedule_81 rfl (lv_at hl 1 rfl) ?_
        refine lv_if_eq (tgt := 105) hx hb dX7_schedule_82 (by decide) (fun c9 => absurd c9 (by decide)) (fun _ => ?_)
        refine lv_aload_n hx hb dX7_schedule_85 rfl (lv_at hl 0 rfl) ?_
        refine wg (C := RX7) (T := TX7) (N := 31) hx hb hts hi7 hown hw (hC.m (by decide)) hXa.o rfl 22 (by decide) (hts (.fieldLink RX7 112 "LayerMoistureModel" "at" "I") (by decide +kernel)) (fun _ h9 => h9) (v := .int (nI pp)) rfl dX7_schedule_86 ?_
        refine lv_aload_n hx hb dX7_schedule_89 rfl (lv_at hl 0 rfl) ?_
        refine wg (C := RX7) (T := TX7) (N := 31) hx hb hts hi7 hown hw (hC.m (by decide)) hXa.o rfl 21 (by decide) (hts (.fieldLink RX7 106 "LayerMoistureModel" "typed" "I") (by decide +kernel)) (fun _ h9 => h9) (v := .int (nI tl)) rfl dX7_schedule_90 ?_
        refine lv_icmp_ge (tgt := 105) hx hb dX7_schedule_93 (by decide) (fun _ => ?_) (fun c9 => absurd (nI_le hge (by omega)) c9)
        refine lv_aload_n hx hb dX7_schedule_105 rfl (lv_at hl 0 rfl) ?_
        refine lv_iconst (v := 0) hx hb dX7_schedule_106 (by decide) ?_
        refine wp_ (C := RX7) (T := TX7) (N := 31) hx hb hts hi7 tyX7 tyX7_ok nmX7 hown hw (hC.m (by decide)) hXa.o rfl 21 (by decide) (hts (.fieldLink RX7 106 "LayerMoistureModel" "typed" "I") (by decide +kernel)) (fun _ h9 => h9) rfl (ty := .int) (v := .int 0) (by decide +kernel) rfl rfl (Nat.le_of_ble_eq_true rfl) dX7_schedule_107 (fun H locs hw => ?_)
        obtain ⟨f1, ef1⟩ : ∃ z : Nat → va_E, z = va_up fa (ad 16) (.inr (8, [.int 0, .int (nI n), .int (nI nb), .ref (ad 17), .ref (ad 18), .double kel, .double dmp, .double spd, .double ven, .double lef, .long gon, .int (nI hr), .ref (ad 19), .ref (ad 20), .ref (ad 21), .ref (ad 22), .ref (ad 23), .ref (ad 24), .ref (ad 25), .ref (ad 26), .ref (ad 27), .int 0, .int (nI pp), .int bd9, .int nm9, .ref (ad 28), .ref (ad 29), .ref (ad 30), .ref (ad 31), .int (nI l0.length), .int (nI 0)])) := ⟨_, rfl⟩
        have hw : ww G dA A s L f1 H locs := by rw [ef1]; exact hw
        have hX2 : MX ad dA n nb kel dmp spd ven lef gon hr 0 l0.length 0 0 pp bd9 nm9 RA RB TH DE KI WE NX LI LM KE TX BW9 TI9 KV9 DM9 f0 f1 := by rw [ef1]; exact hXa.sO hC kel dmp spd ven lef gon hr 0 l0.length 0 0 pp bd9 nm9
        refine lv_aload_n hx hb dX7_schedule_110 rfl (lv_at hl 0 rfl) ?_
        refine lv_iload_n hx hb dX7_schedule_111 rfl (lv_at hl 1 rfl) ?_
        refine lv_if_eq (tgt := 122) hx hb dX7_schedule_112 (by decide) (fun c9 => absurd c9 (by decide)) (fun _ => ?_)
        refine lv_aload_n hx hb dX7_schedule_115 rfl (lv_at hl 0 rfl) ?_
        refine wg (C := RX7) (T := TX7) (N := 31) hx hb hts hi7 hown hw (hC.m (by decide)) hX2.o rfl 29 (by decide) (hts (.fieldLink RX7 125 "LayerMoistureModel" "steps" "I") (by decide +kernel)) (fun _ h9 => h9) (v := .int (nI l0.length)) rfl dX7_schedule_116 ?_
        refine lv_goto (tgt := 123) hx hb dX7_schedule_119 (by decide) ?_
        refine wp_ (C := RX7) (T := TX7) (N := 31) hx hb hts hi7 tyX7 tyX7_ok nmX7 hown hw (hC.m (by decide)) hX2.o rfl 29 (by decide) (hts (.fieldLink RX7 125 "LayerMoistureModel" "steps" "I") (by decide +kernel)) (fun _ h9 => h9) rfl (ty := .int) (v := .int (nI l0.length)) (by decide +kernel) rfl rfl (Nat.le_of_ble_eq_true rfl) dX7_schedule_123 (fun H locs hw => ?_)
        obtain ⟨f3, ef3⟩ : ∃ z : Nat → va_E, z = va_up f1 (ad 16) (.inr (8, [.int 0, .int (nI n), .int (nI nb), .ref (ad 17), .ref (ad 18), .double kel, .double dmp, .double spd, .double ven, .double lef, .long gon, .int (nI hr), .ref (ad 19), .ref (ad 20), .ref (ad 21), .ref (ad 22), .ref (ad 23), .ref (ad 24), .ref (ad 25), .ref (ad 26), .ref (ad 27), .int (nI 0), .int (nI pp), .int bd9, .int nm9, .ref (ad 28), .ref (ad 29), .ref (ad 30), .ref (ad 31), .int (nI l0.length), .int (nI 0)])) := ⟨_, rfl⟩
        have hw : ww G dA A s L f3 H locs := by rw [ef3]; exact hw
        have hX4 : MX ad dA n nb kel dmp spd ven lef gon hr 0 l0.length 0 0 pp bd9 nm9 RA RB TH DE KI WE NX LI LM KE TX BW9 TI9 KV9 DM9 f0 f3 := by rw [ef3]; exact hX2.sO hC kel dmp spd ven lef gon hr 0 l0.length 0 0 pp bd9 nm9
        refine lv_iload_n hx hb dX7_schedule_126 rfl (lv_at hl 1 rfl) ?_
        refine lv_if_eq (tgt := 137) hx hb dX7_schedule_127 (by decide) (fun c9 => absurd c9 (by decide)) (fun _ => ?_)
        refine lv_aload_n hx hb dX7_schedule_130 rfl (lv_at hl 0 rfl) ?_
        refine wg (C := RX7) (T := TX7) (N := 31) hx hb hts hi7 hown hw (hC.m (by decide)) hX4.o rfl 29 (by decide) (hts (.fieldLink RX7 125 "LayerMoistureModel" "steps" "I") (by decide +kernel)) (fun _ h9 => h9) (v := .int (nI l0.length)) rfl dX7_schedule_131 ?_
        refine lv_goto (tgt := 143) hx hb dX7_schedule_134 (by decide) ?_
        exact hret _ _ _ _ _ _ hw ⟨pp, bd9, nm9, l0.length, BW9, TI9, KV9, DM9, hX4, by rw [eT]; exact ⟨rfl, rfl, hR⟩⟩ rfl dX7_schedule_143
      · have hpt : pp < tl := Nat.lt_of_not_le fun h8 => c37 ((nI_leI (by omega) (by omega)).mpr h8)
        have hnx : nxt TX tl pp = TX pp := if_pos hpt
        refine lv_aload_n hx hb dX7_schedule_40 rfl (lv_at hl 0 rfl) ?_
        refine wg (C := RX7) (T := TX7) (N := 31) hx hb hts hi7 hown hw (hC.m (by decide)) hXa.o rfl 20 (by decide) (hts (.fieldLink RX7 56 "LayerMoistureModel" "text" "[I") (by decide +kernel)) (fun _ h9 => h9) (v := .ref (ad 27)) rfl dX7_schedule_41 ?_
        refine lv_aload_n hx hb dX7_schedule_44 rfl (lv_at hl 0 rfl) ?_
        refine wg (C := RX7) (T := TX7) (N := 31) hx hb hts hi7 hown hw (hC.m (by decide)) hXa.o rfl 22 (by decide) (hts (.fieldLink RX7 112 "LayerMoistureModel" "at" "I") (by decide +kernel)) (fun _ h9 => h9) (v := .int (nI pp)) rfl dX7_schedule_45 ?_
        refine wld_i hx hb hw (hC.m (by decide)) hXa.aTX pp (by omega) (by decide) rfl dX7_schedule_48 ?_
        rw [show TX pp = nxt TX tl pp from hnx.symm]
        refine lv_bipush (v := 59) hx hb dX7_schedule_49 (by decide) ?_
        refine lv_icmp_ne (tgt := 81) hx hb dX7_schedule_51 (by decide) (fun c51 => ?_) (fun c51 => ?_)
        · have eT : stepsP TX tl 12 true 0 = .inl pp := by rw [hT, resP, if_neg (by omega)]; rfl
          refine lv_iload_n hx hb dX7_schedule_81 rfl (lv_at hl 1 rfl) ?_
          refine lv_if_eq (tgt := 105) hx hb dX7_schedule_82 (by decide) (fun c9 => absurd c9 (by decide)) (fun _ => ?_)
          refine lv_aload_n hx hb dX7_schedule_85 rfl (lv_at hl 0 rfl) ?_
          refine wg (C := RX7) (T := TX7) (N := 31) hx hb hts hi7 hown hw (hC.m (by decide)) hXa.o rfl 22 (by decide) (hts (.fieldLink RX7 112 "LayerMoistureModel" "at" "I") (by decide +kernel)) (fun _ h9 => h9) (v := .int (nI pp)) rfl dX7_schedule_86 ?_
          refine lv_aload_n hx hb dX7_schedule_89 rfl (lv_at hl 0 rfl) ?_
          refine wg (C := RX7) (T := TX7) (N := 31) hx hb hts hi7 hown hw (hC.m (by decide)) hXa.o rfl 21 (by decide) (hts (.fieldLink RX7 106 "LayerMoistureModel" "typed" "I") (by decide +kernel)) (fun _ h9 => h9) (v := .int (nI tl)) rfl dX7_schedule_90 ?_
          refine lv_icmp_ge (tgt := 105) hx hb dX7_schedule_93 (by decide) (fun c9 => absurd c9 (nI_ge hpt (by omega))) (fun _ => ?_)
          refine lv_aload_n hx hb dX7_schedule_96 rfl (lv_at hl 0 rfl) ?_
          refine lv_aload_n hx hb dX7_schedule_97 rfl (lv_at hl 0 rfl) ?_
          refine wg (C := RX7) (T := TX7) (N := 31) hx hb hts hi7 hown hw (hC.m (by decide)) hXa.o rfl 22 (by decide) (hts (.fieldLink RX7 112 "LayerMoistureModel" "at" "I") (by decide +kernel)) (fun _ h9 => h9) (v := .int (nI pp)) rfl dX7_schedule_98 ?_
          refine kV_I (C := RX7) (T := TX7) (N := 31) (As := [.int (nI pp)]) (rest := []) ⟨hx, hb, hml, hown, hts⟩ (c_X7_fail l G dA L fa ad n nb q qk kel dmp spd ven lef gon hr tl l0.length 0 0 pp bd9 nm9 RA RB TH DE KI WE NX LI LM KE TX BW9 TI9 KV9 DM9 f0 (nI pp) hC hXa) (cwV 1 hts gX7_schedule_X7_fail rfl rfl rfl (by decide +kernel) ⟨Nat.le_of_ble_eq_true rfl, Nat.le_of_ble_eq_true rfl⟩) hw hA (hC.m (by decide)) hXa.o rfl rfl hl.1 rfl (Nat.le_of_ble_eq_true rfl) dX7_schedule_101 ⟨Nat.zero_le _, Nat.zero_le _⟩ (fun r6 f5 H locs hp hw => ?_)
          obtain ⟨e1, e2⟩ := hp
          rw [e1]
          have hX7 : MX ad dA n nb kel dmp spd ven lef gon hr tl l0.length 0 0 pp (nI pp) nm9 RA RB TH DE KI WE NX LI LM KE TX BW9 TI9 KV9 DM9 f0 f5 := e2
          refine lv_istore_n (lv' := [(1, .int 0), (0, .ref (ad 16))]) hx hb dX7_schedule_104 rfl hl (by decide) rfl (fun ls hl => ?_)
          refine lv_aload_n hx hb dX7_schedule_105 rfl (lv_at hl 1 rfl) ?_
          refine lv_iconst (v := 0) hx hb dX7_schedule_106 (by decide) ?_
          refine wp_ (C := RX7) (T := TX7) (N := 31) hx hb hts hi7 tyX7 tyX7_ok nmX7 hown hw (hC.m (by decide)) hX7.o rfl 21 (by decide) (hts (.fieldLink RX7 106 "LayerMoistureModel" "typed" "I") (by decide +kernel)) (fun _ h9 => h9) rfl (ty := .int) (v := .int 0) (by decide +kernel) rfl rfl (Nat.le_of_ble_eq_true rfl) dX7_schedule_107 (fun H locs hw => ?_)
          obtain ⟨f8, ef8⟩ : ∃ z : Nat → va_E, z = va_up f5 (ad 16) (.inr (8, [.int 0, .int (nI n), .int (nI nb), .ref (ad 17), .ref (ad 18), .double kel, .double dmp, .double spd, .double ven, .double lef, .long gon, .int (nI hr), .ref (ad 19), .ref (ad 20), .ref (ad 21), .ref (ad 22), .ref (ad 23), .ref (ad 24), .ref (ad 25), .ref (ad 26), .ref (ad 27), .int 0, .int (nI pp), .int (nI pp), .int nm9, .ref (ad 28), .ref (ad 29), .ref (ad 30), .ref (ad 31), .int (nI l0.length), .int (nI 0)])) := ⟨_, rfl⟩
          have hw : ww G dA A s L f8 H locs := by rw [ef8]; exact hw
          have hX9 : MX ad dA n nb kel dmp spd ven lef gon hr 0 l0.length 0 0 pp (nI pp) nm9 RA RB TH DE KI WE NX LI LM KE TX BW9 TI9 KV9 DM9 f0 f8 := by rw [ef8]; exact hX7.sO hC kel dmp spd ven lef gon hr 0 l0.length 0 0 pp (nI pp) nm9
          refine lv_aload_n hx hb dX7_schedule_110 rfl (lv_at hl 1 rfl) ?_
          refine lv_iload_n hx hb dX7_schedule_111 rfl (lv_at hl 0 rfl) ?_
          refine lv_if_eq (tgt := 122) hx hb dX7_schedule_112 (by decide) (fun _ => ?_) (fun c9 => absurd rfl c9)
          refine lv_iconst (v := 0) hx hb dX7_schedule_122 (by decide) ?_
          refine wp_ (C := RX7) (T := TX7) (N := 31) hx hb hts hi7 tyX7 tyX7_ok nmX7 hown hw (hC.m (by decide)) hX9.o rfl 29 (by decide) (hts (.fieldLink RX7 125 "LayerMoistureModel" "steps" "I") (by decide +kernel)) (fun _ h9 => h9) rfl (ty := .int) (v := .int 0) (by decide +kernel) rfl rfl (Nat.le_of_ble_eq_true rfl) dX7_schedule_123 (fun H locs hw => ?_)
          obtain ⟨f10, ef10⟩ : ∃ z : Nat → va_E, z = va_up f8 (ad 16) (.inr (8, [.int 0, .int (nI n), .int (nI nb), .ref (ad 17), .ref (ad 18), .double kel, .double dmp, .double spd, .double ven, .double lef, .long gon, .int (nI hr), .ref (ad 19), .ref (ad 20), .ref (ad 21), .ref (ad 22), .ref (ad 23), .ref (ad 24), .ref (ad 25), .ref (ad 26), .ref (ad 27), .int (nI 0), .int (nI pp), .int (nI pp), .int nm9, .ref (ad 28), .ref (ad 29), .ref (ad 30), .ref (ad 31), .int 0, .int (nI 0)])) := ⟨_, rfl⟩
          have hw : ww G dA A s L f10 H locs := by rw [ef10]; exact hw
          have hX11 : MX ad dA n nb kel dmp spd ven lef gon hr 0 0 0 0 pp (nI pp) nm9 RA RB TH DE KI WE NX LI LM KE TX BW9 TI9 KV9 DM9 f0 f10 := by rw [ef10]; exact hX9.sO hC kel dmp spd ven lef gon hr 0 0 0 0 pp (nI pp) nm9
          refine lv_iload_n hx hb dX7_schedule_126 rfl (lv_at hl 0 rfl) ?_
          refine lv_if_eq (tgt := 137) hx hb dX7_schedule_127 (by decide) (fun _ => ?_) (fun c9 => absurd rfl c9)
          refine lv_iconst (v := (-1)) hx hb dX7_schedule_137 (by decide) ?_
          refine lv_aload_n hx hb dX7_schedule_138 rfl (lv_at hl 1 rfl) ?_
          refine wg (C := RX7) (T := TX7) (N := 31) hx hb hts hi7 hown hw (hC.m (by decide)) hX11.o rfl 23 (by decide) (hts (.fieldLink RX7 109 "LayerMoistureModel" "bad" "I") (by decide +kernel)) (fun _ h9 => h9) (v := .int (nI pp)) rfl dX7_schedule_139 ?_
          refine lv_isub hx hb dX7_schedule_142 ?_
          exact hret _ _ _ _ _ _ hw ⟨pp, nI pp, nm9, 0, BW9, TI9, KV9, DM9, hX11, by rw [eT]; exact ⟨rfl, rfl⟩⟩ rfl dX7_schedule_143
        · have eT : stepsP TX tl 12 true 0 = .inl pp := by rw [hT, resP, if_neg (by omega)]; rfl
          refine lv_aload_n hx hb dX7_schedule_54 rfl (lv_at hl 0 rfl) ?_
          refine wg (C := RX7) (T := TX7) (N := 31) hx hb hts hi7 hown hw (hC.m (by decide)) hXa.o rfl 29 (by decide) (hts (.fieldLink RX7 125 "LayerMoistureModel" "steps" "I") (by decide +kernel)) (fun _ h9 => h9) (v := .int (nI l0.length)) rfl dX7_schedule_55 ?_
          refine lv_bipush (v := 12) hx hb dX7_schedule_58 (by decide) ?_
          refine lv_icmp_ge (tgt := 81) hx hb dX7_schedule_60 (by decide) (fun _ => ?_) (fun c9 => absurd (nI_le (a := 12) (by omega) (by omega)) c9)
          refine lv_iload_n hx hb dX7_schedule_81 rfl (lv_at hl 1 rfl) ?_
          refine lv_if_eq (tgt := 105) hx hb dX7_schedule_82 (by decide) (fun c9 => absurd c9 (by decide)) (fun _ => ?_)
          refine lv_aload_n hx hb dX7_schedule_85 rfl (lv_at hl 0 rfl) ?_
          refine wg (C := RX7) (T := TX7) (N := 31) hx hb hts hi7 hown hw (hC.m (by decide)) hXa.o rfl 22 (by decide) (hts (.fieldLink RX7 112 "LayerMoistureModel" "at" "I") (by decide +kernel)) (fun _ h9 => h9) (v := .int (nI pp)) rfl dX7_schedule_86 ?_
          refine lv_aload_n hx hb dX7_schedule_89 rfl (lv_at hl 0 rfl) ?_
          refine wg (C := RX7) (T := TX7) (N := 31) hx hb hts hi7 hown hw (hC.m (by decide)) hXa.o rfl 21 (by decide) (hts (.fieldLink RX7 106 "LayerMoistureModel" "typed" "I") (by decide +kernel)) (fun _ h9 => h9) (v := .int (nI tl)) rfl dX7_schedule_90 ?_
          refine lv_icmp_ge (tgt := 105) hx hb dX7_schedule_93 (by decide) (fun c9 => absurd c9 (nI_ge hpt (by omega))) (fun _ => ?_)
          refine lv_aload_n hx hb dX7_schedule_96 rfl (lv_at hl 0 rfl) ?_
          refine lv_aload_n hx hb dX7_schedule_97 rfl (lv_at hl 0 rfl) ?_
          refine wg (C := RX7) (T := TX7) (N := 31) hx hb hts hi7 hown hw (hC.m (by decide)) hXa.o rfl 22 (by decide) (hts (.fieldLink RX7 112 "LayerMoistureModel" "at" "I") (by decide +kernel)) (fun _ h9 => h9) (v := .int (nI pp)) rfl dX7_schedule_98 ?_
          refine kV_I (C := RX7) (T := TX7) (N := 31) (As := [.int (nI pp)]) (rest := []) ⟨hx, hb, hml, hown, hts⟩ (c_X7_fail l G dA L fa ad n nb q qk kel dmp spd ven lef gon hr tl l0.length 0 0 pp bd9 nm9 RA RB TH DE KI WE NX LI LM KE TX BW9 TI9 KV9 DM9 f0 (nI pp) hC hXa) (cwV 1 hts gX7_schedule_X7_fail rfl rfl rfl (by decide +kernel) ⟨Nat.le_of_ble_eq_true rfl, Nat.le_of_ble_eq_true rfl⟩) hw hA (hC.m (by decide)) hXa.o rfl rfl hl.1 rfl (Nat.le_of_ble_eq_true rfl) dX7_schedule_101 ⟨Nat.zero_le _, Nat.zero_le _⟩ (fun r13 f12 H locs hp hw => ?_)
          obtain ⟨e1, e2⟩ := hp
          rw [e1]
          have hX14 : MX ad dA n nb kel dmp spd ven lef gon hr tl l0.length 0 0 pp (nI pp) nm9 RA RB TH DE KI WE NX LI LM KE TX BW9 TI9 KV9 DM9 f0 f12 := e2
          refine lv_istore_n (lv' := [(1, .int 0), (0, .ref (ad 16))]) hx hb dX7_schedule_104 rfl hl (by decide) rfl (fun ls hl => ?_)
          refine lv_aload_n hx hb dX7_schedule_105 rfl (lv_at hl 1 rfl) ?_
          refine lv_iconst (v := 0) hx hb dX7_schedule_106 (by decide) ?_
          refine wp_ (C := RX7) (T := TX7) (N := 31) hx hb hts hi7 tyX7 tyX7_ok nmX7 hown hw (hC.m (by decide)) hX14.o rfl 21 (by decide) (hts (.fieldLink RX7 106 "LayerMoistureModel" "typed" "I") (by decide +kernel)) (fun _ h9 => h9) rfl (ty := .int) (v := .int 0) (by decide +kernel) rfl rfl (Nat.le_of_ble_eq_true rfl) dX7_schedule_107 (fun H locs hw => ?_)
          obtain ⟨f15, ef15⟩ : ∃ z : Nat → va_E, z = va_up f12 (ad 16) (.inr (8, [.int 0, .int (nI n), .int (nI nb), .ref (ad 17), .ref (ad 18), .double kel, .double dmp, .double spd, .double ven, .double lef, .long gon, .int (nI hr), .ref (ad 19), .ref (ad 20), .ref (ad 21), .ref (ad 22), .ref (ad 23), .ref (ad 24), .ref (ad 25), .ref (ad 26), .ref (ad 27), .int 0, .int (nI pp), .int (nI pp), .int nm9, .ref (ad 28), .ref (ad 29), .ref (ad 30), .ref (ad 31), .int (nI l0.length), .int (nI 0)])) := ⟨_, rfl⟩
          have hw : ww G dA A s L f15 H locs := by rw [ef15]; exact hw
          have hX16 : MX ad dA n nb kel dmp spd ven lef gon hr 0 l0.length 0 0 pp (nI pp) nm9 RA RB TH DE KI WE NX LI LM KE TX BW9 TI9 KV9 DM9 f0 f15 := by rw [ef15]; exact hX14.sO hC kel dmp spd ven lef gon hr 0 l0.length 0 0 pp (nI pp) nm9
          refine lv_aload_n hx hb dX7_schedule_110 rfl (lv_at hl 1 rfl) ?_
          refine lv_iload_n hx hb dX7_schedule_111 rfl (lv_at hl 0 rfl) ?_
          refine lv_if_eq (tgt := 122) hx hb dX7_schedule_112 (by decide) (fun _ => ?_) (fun c9 => absurd rfl c9)
          refine lv_iconst (v := 0) hx hb dX7_schedule_122 (by decide) ?_
          refine wp_ (C := RX7) (T := TX7) (N := 31) hx hb hts hi7 tyX7 tyX7_ok nmX7 hown hw (hC.m (by decide)) hX16.o rfl 29 (by decide) (hts (.fieldLink RX7 125 "LayerMoistureModel" "steps" "I") (by decide +kernel)) (fun _ h9 => h9) rfl (ty := .int) (v := .int 0) (by decide +kernel) rfl rfl (Nat.le_of_ble_eq_true rfl) dX7_schedule_123 (fun H locs hw => ?_)
          obtain ⟨f17, ef17⟩ : ∃ z : Nat → va_E, z = va_up f15 (ad 16) (.inr (8, [.int 0, .int (nI n), .int (nI nb), .ref (ad 17), .ref (ad 18), .double kel, .double dmp, .double spd, .double ven, .double lef, .long gon, .int (nI hr), .ref (ad 19), .ref (ad 20), .ref (ad 21), .ref (ad 22), .ref (ad 23), .ref (ad 24), .ref (ad 25), .ref (ad 26), .ref (ad 27), .int (nI 0), .int (nI pp), .int (nI pp), .int nm9, .ref (ad 28), .ref (ad 29), .ref (ad 30), .ref (ad 31), .int 0, .int (nI 0)])) := ⟨_, rfl⟩
          have hw : ww G dA A s L f17 H locs := by rw [ef17]; exact hw
          have hX18 : MX ad dA n nb kel dmp spd ven lef gon hr 0 0 0 0 pp (nI pp) nm9 RA RB TH DE KI WE NX LI LM KE TX BW9 TI9 KV9 DM9 f0 f17 := by rw [ef17]; exact hX16.sO hC kel dmp spd ven lef gon hr 0 0 0 0 pp (nI pp) nm9
          refine lv_iload_n hx hb dX7_schedule_126 rfl (lv_at hl 0 rfl) ?_
          refine lv_if_eq (tgt := 137) hx hb dX7_schedule_127 (by decide) (fun _ => ?_) (fun c9 => absurd rfl c9)
          refine lv_iconst (v := (-1)) hx hb dX7_schedule_137 (by decide) ?_
          refine lv_aload_n hx hb dX7_schedule_138 rfl (lv_at hl 1 rfl) ?_
          refine wg (C := RX7) (T := TX7) (N := 31) hx hb hts hi7 hown hw (hC.m (by decide)) hX18.o rfl 23 (by decide) (hts (.fieldLink RX7 109 "LayerMoistureModel" "bad" "I") (by decide +kernel)) (fun _ h9 => h9) (v := .int (nI pp)) rfl dX7_schedule_139 ?_
          refine lv_isub hx hb dX7_schedule_142 ?_
          exact hret _ _ _ _ _ _ hw ⟨pp, nI pp, nm9, 0, BW9, TI9, KV9, DM9, hX18, by rw [eT]; exact ⟨rfl, rfl⟩⟩ rfl dX7_schedule_143
    | succ kf ih =>
      intro l0 pp hl0 hT BW9 TI9 KV9 DM9 hR hp9 bd9 nm9 fa H locs hXa hw ls hl
      have hk9 : kf + 1 = kf + 1 := rfl
      refine lv_iload_n hx hb dX7_schedule_25 rfl (lv_at hl 1 rfl) ?_
      refine lv_if_eq (tgt := 81) hx hb dX7_schedule_26 (by decide) (fun c9 => absurd c9 (by decide)) (fun _ => ?_)
      refine lv_aload_n hx hb dX7_schedule_29 rfl (lv_at hl 0 rfl) ?_
      refine wg (C := RX7) (T := TX7) (N := 31) hx hb hts hi7 hown hw (hC.m (by decide)) hXa.o rfl 22 (by decide) (hts (.fieldLink RX7 112 "LayerMoistureModel" "at" "I") (by decide +kernel)) (fun _ h9 => h9) (v := .int (nI pp)) rfl dX7_schedule_30 ?_
      refine lv_aload_n hx hb dX7_schedule_33 rfl (lv_at hl 0 rfl) ?_
      refine wg (C := RX7) (T := TX7) (N := 31) hx hb hts hi7 hown hw (hC.m (by decide)) hXa.o rfl 21 (by decide) (hts (.fieldLink RX7 106 "LayerMoistureModel" "typed" "I") (by decide +kernel)) (fun _ h9 => h9) (v := .int (nI tl)) rfl dX7_schedule_34 ?_
      refine lv_icmp_ge (tgt := 81) hx hb dX7_schedule_37 (by decide) (fun c37 => ?_) (fun c37 => ?_)
      · have hge : tl ≤ pp := (nI_leI (by omega) (by omega)).mp c37
        have eT : stepsP TX tl 12 true 0 = .inr l0 := by rw [hT, resP, if_pos hge, appR, List.append_nil]
        refine lv_iload_n hx hb dX7_schedule_81 rfl (lv_at hl 1 rfl) ?_
        refine lv_if_eq (tgt := 105) hx hb dX7_schedule_82 (by decide) (fun c9 => absurd c9 (by decide)) (fun _ => ?_)
        refine lv_aload_n hx hb dX7_schedule_85 rfl (lv_at hl 0 rfl) ?_
        refine wg (C := RX7) (T := TX7) (N := 31) hx hb hts hi7 hown hw (hC.m (by decide)) hXa.o rfl 22 (by decide) (hts (.fieldLink RX7 112 "LayerMoistureModel" "at" "I") (by decide +kernel)) (fun _ h9 => h9) (v := .int (nI pp)) rfl dX7_schedule_86 ?_
        refine lv_aload_n hx hb dX7_schedule_89 rfl (lv_at hl 0 rfl) ?_
        refine wg (C := RX7) (T := TX7) (N := 31) hx hb hts hi7 hown hw (hC.m (by decide)) hXa.o rfl 21 (by decide) (hts (.fieldLink RX7 106 "LayerMoistureModel" "typed" "I") (by decide +kernel)) (fun _ h9 => h9) (v := .int (nI tl)) rfl dX7_schedule_90 ?_
        refine lv_icmp_ge (tgt := 105) hx hb dX7_schedule_93 (by decide) (fun _ => ?_) (fun c9 => absurd (nI_le hge (by omega)) c9)
        refine lv_aload_n hx hb dX7_schedule_105 rfl (lv_at hl 0 rfl) ?_
        refine lv_iconst (v := 0) hx hb dX7_schedule_106 (by decide) ?_
        refine wp_ (C := RX7) (T := TX7) (N := 31) hx hb hts hi7 tyX7 tyX7_ok nmX7 hown hw (hC.m (by decide)) hXa.o rfl 21 (by decide) (hts (.fieldLink RX7 106 "LayerMoistureModel" "typed" "I") (by decide +kernel)) (fun _ h9 => h9) rfl (ty := .int) (v := .int 0) (by decide +kernel) rfl rfl (Nat.le_of_ble_eq_true rfl) dX7_schedule_107 (fun H locs hw => ?_)
        obtain ⟨f19, ef19⟩ : ∃ z : Nat → va_E, z = va_up fa (ad 16) (.inr (8, [.int 0, .int (nI n), .int (nI nb), .ref (ad 17), .ref (ad 18), .double kel, .double dmp, .double spd, .double ven, .double lef, .long gon, .int (nI hr), .ref (ad 19), .ref (ad 20), .ref (ad 21), .ref (ad 22), .ref (ad 23), .ref (ad 24), .ref (ad 25), .ref (ad 26), .ref (ad 27), .int 0, .int (nI pp), .int bd9, .int nm9, .ref (ad 28), .ref (ad 29), .ref (ad 30), .ref (ad 31), .int (nI l0.length), .int (nI 0)])) := ⟨_, rfl⟩
        have hw : ww G dA A s L f19 H locs := by rw [ef19]; exact hw
        have hX20 : MX ad dA n nb kel dmp spd ven lef gon hr 0 l0.length 0 0 pp bd9 nm9 RA RB TH DE KI WE NX LI LM KE TX BW9 TI9 KV9 DM9 f0 f19 := by rw [ef19]; exact hXa.sO hC kel dmp spd ven lef gon hr 0 l0.length 0 0 pp bd9 nm9
        refine lv_aload_n hx hb dX7_schedule_110 rfl (lv_at hl 0 rfl) ?_
        refine lv_iload_n hx hb dX7_schedule_111 rfl (lv_at hl 1 rfl) ?_
        refine lv_if_eq (tgt := 122) hx hb dX7_schedule_112 (by decide) (fun c9 => absurd c9 (by decide)) (fun _ => ?_)
        refine lv_aload_n hx hb dX7_schedule_115 rfl (lv_at hl 0 rfl) ?_
        refine wg (C := RX7) (T := TX7) (N := 31) hx hb hts hi7 hown hw (hC.m (by decide)) hX20.o rfl 29 (by decide) (hts (.fieldLink RX7 125 "LayerMoistureModel" "steps" "I") (by decide +kernel)) (fun _ h9 => h9) (v := .int (nI l0.length)) rfl dX7_schedule_116 ?_
        refine lv_goto (tgt := 123) hx hb dX7_schedule_119 (by decide) ?_
        refine wp_ (C := RX7) (T := TX7) (N := 31) hx hb hts hi7 tyX7 tyX7_ok nmX7 hown hw (hC.m (by decide)) hX20.o rfl 29 (by decide) (hts (.fieldLink RX7 125 "LayerMoistureModel" "steps" "I") (by decide +kernel)) (fun _ h9 => h9) rfl (ty := .int) (v := .int (nI l0.length)) (by decide +kernel) rfl rfl (Nat.le_of_ble_eq_true rfl) dX7_schedule_123 (fun H locs hw => ?_)
        obtain ⟨f21, ef21⟩ : ∃ z : Nat → va_E, z = va_up f19 (ad 16) (.inr (8, [.int 0, .int (nI n), .int (nI nb), .ref (ad 17), .ref (ad 18), .double kel, .double dmp, .double spd, .double ven, .double lef, .long gon, .int (nI hr), .ref (ad 19), .ref (ad 20), .ref (ad 21), .ref (ad 22), .ref (ad 23), .ref (ad 24), .ref (ad 25), .ref (ad 26), .ref (ad 27), .int (nI 0), .int (nI pp), .int bd9, .int nm9, .ref (ad 28), .ref (ad 29), .ref (ad 30), .ref (ad 31), .int (nI l0.length), .int (nI 0)])) := ⟨_, rfl⟩
        have hw : ww G dA A s L f21 H locs := by rw [ef21]; exact hw
        have hX22 : MX ad dA n nb kel dmp spd ven lef gon hr 0 l0.length 0 0 pp bd9 nm9 RA RB TH DE KI WE NX LI LM KE TX BW9 TI9 KV9 DM9 f0 f21 := by rw [ef21]; exact hX20.sO hC kel dmp spd ven lef gon hr 0 l0.length 0 0 pp bd9 nm9
        refine lv_iload_n hx hb dX7_schedule_126 rfl (lv_at hl 1 rfl) ?_
        refine lv_if_eq (tgt := 137) hx hb dX7_schedule_127 (by decide) (fun c9 => absurd c9 (by decide)) (fun _ => ?_)
        refine lv_aload_n hx hb dX7_schedule_130 rfl (lv_at hl 0 rfl) ?_
        refine wg (C := RX7) (T := TX7) (N := 31) hx hb hts hi7 hown hw (hC.m (by decide)) hX22.o rfl 29 (by decide) (hts (.fieldLink RX7 125 "LayerMoistureModel" "steps" "I") (by decide +kernel)) (fun _ h9 => h9) (v := .int (nI l0.length)) rfl dX7_schedule_131 ?_
        refine lv_goto (tgt := 143) hx hb dX7_schedule_134 (by decide) ?_
        exact hret _ _ _ _ _ _ hw ⟨pp, bd9, nm9, l0.length, BW9, TI9, KV9, DM9, hX22, by rw [eT]; exact ⟨rfl, rfl, hR⟩⟩ rfl dX7_schedule_143
      · have hpt : pp < tl := Nat.lt_of_not_le fun h8 => c37 ((nI_leI (by omega) (by omega)).mpr h8)
        have hnx : nxt TX tl pp = TX pp := if_pos hpt
        refine lv_aload_n hx hb dX7_schedule_40 rfl (lv_at hl 0 rfl) ?_
        refine wg (C := RX7) (T := TX7) (N := 31) hx hb hts hi7 hown hw (hC.m (by decide)) hXa.o rfl 20 (by decide) (hts (.fieldLink RX7 56 "LayerMoistureModel" "text" "[I") (by decide +kernel)) (fun _ h9 => h9) (v := .ref (ad 27)) rfl dX7_schedule_41 ?_
        refine lv_aload_n hx hb dX7_schedule_44 rfl (lv_at hl 0 rfl) ?_
        refine wg (C := RX7) (T := TX7) (N := 31) hx hb hts hi7 hown hw (hC.m (by decide)) hXa.o rfl 22 (by decide) (hts (.fieldLink RX7 112 "LayerMoistureModel" "at" "I") (by decide +kernel)) (fun _ h9 => h9) (v := .int (nI pp)) rfl dX7_schedule_45 ?_
        refine wld_i hx hb hw (hC.m (by decide)) hXa.aTX pp (by omega) (by decide) rfl dX7_schedule_48 ?_
        rw [show TX pp = nxt TX tl pp from hnx.symm]
        refine lv_bipush (v := 59) hx hb dX7_schedule_49 (by decide) ?_
        refine lv_icmp_ne (tgt := 81) hx hb dX7_schedule_51 (by decide) (fun c51 => ?_) (fun c51 => ?_)
        · have q59 : ¬ nxt TX tl pp = 59 := c51
          have eT : stepsP TX tl 12 true 0 = .inl pp := by rw [hT, resP, if_neg (by omega), stepsP, if_pos ⟨rfl, q59⟩]; rfl
          refine lv_iload_n hx hb dX7_schedule_81 rfl (lv_at hl 1 rfl) ?_
          refine lv_if_eq (tgt := 105) hx hb dX7_schedule_82 (by decide) (fun c9 => absurd c9 (by decide)) (fun _ => ?_)
          refine lv_aload_n hx hb dX7_schedule_85 rfl (lv_at hl 0 rfl) ?_
          refine wg (C := RX7) (T := TX7) (N := 31) hx hb hts hi7 hown hw (hC.m (by decide)) hXa.o rfl 22 (by decide) (hts (.fieldLink RX7 112 "LayerMoistureModel" "at" "I") (by decide +kernel)) (fun _ h9 => h9) (v := .int (nI pp)) rfl dX7_schedule_86 ?_
          refine lv_aload_n hx hb dX7_schedule_89 rfl (lv_at hl 0 rfl) ?_
          refine wg (C := RX7) (T := TX7) (N := 31) hx hb hts hi7 hown hw (hC.m (by decide)) hXa.o rfl 21 (by decide) (hts (.fieldLink RX7 106 "LayerMoistureModel" "typed" "I") (by decide +kernel)) (fun _ h9 => h9) (v := .int (nI tl)) rfl dX7_schedule_90 ?_
          refine lv_icmp_ge (tgt := 105) hx hb dX7_schedule_93 (by decide) (fun c9 => absurd c9 (nI_ge hpt (by omega))) (fun _ => ?_)
          refine lv_aload_n hx hb dX7_schedule_96 rfl (lv_at hl 0 rfl) ?_
          refine lv_aload_n hx hb dX7_schedule_97 rfl (lv_at hl 0 rfl) ?_
          refine wg (C := RX7) (T := TX7) (N := 31) hx hb hts hi7 hown hw (hC.m (by decide)) hXa.o rfl 22 (by decide) (hts (.fieldLink RX7 112 "LayerMoistureModel" "at" "I") (by decide +kernel)) (fun _ h9 => h9) (v := .int (nI pp)) rfl dX7_schedule_98 ?_
          refine kV_I (C := RX7) (T := TX7) (N := 31) (As := [.int (nI pp)]) (rest := []) ⟨hx, hb, hml, hown, hts⟩ (c_X7_fail l G dA L fa ad n nb q qk kel dmp spd ven lef gon hr tl l0.length 0 0 pp bd9 nm9 RA RB TH DE KI WE NX LI LM KE TX BW9 TI9 KV9 DM9 f0 (nI pp) hC hXa) (cwV 1 hts gX7_schedule_X7_fail rfl rfl rfl (by decide +kernel) ⟨Nat.le_of_ble_eq_true rfl, Nat.le_of_ble_eq_true rfl⟩) hw hA (hC.m (by decide)) hXa.o rfl rfl hl.1 rfl (Nat.le_of_ble_eq_true rfl) dX7_schedule_101 ⟨Nat.zero_le _, Nat.zero_le _⟩ (fun r24 f23 H locs hp hw => ?_)
          obtain ⟨e1, e2⟩ := hp
          rw [e1]
          have hX25 : MX ad dA n nb kel dmp spd ven lef gon hr tl l0.length 0 0 pp (nI pp) nm9 RA RB TH DE KI WE NX LI LM KE TX BW9 TI9 KV9 DM9 f0 f23 := e2
          refine lv_istore_n (lv' := [(1, .int 0), (0, .ref (ad 16))]) hx hb dX7_schedule_104 rfl hl (by decide) rfl (fun ls hl => ?_)
          refine lv_aload_n hx hb dX7_schedule_105 rfl (lv_at hl 1 rfl) ?_
          refine lv_iconst (v := 0) hx hb dX7_schedule_106 (by decide) ?_
          refine wp_ (C := RX7) (T := TX7) (N := 31) hx hb hts hi7 tyX7 tyX7_ok nmX7 hown hw (hC.m (by decide)) hX25.o rfl 21 (by decide) (hts (.fieldLink RX7 106 "LayerMoistureModel" "typed" "I") (by decide +kernel)) (fun _ h9 => h9) rfl (ty := .int) (v := .int 0) (by decide +kernel) rfl rfl (Nat.le_of_ble_eq_true rfl) dX7_schedule_107 (fun H locs hw => ?_)
          obtain ⟨f26, ef26⟩ : ∃ z : Nat → va_E, z = va_up f23 (ad 16) (.inr (8, [.int 0, .int (nI n), .int (nI nb), .ref (ad 17), .ref (ad 18), .double kel, .double dmp, .double spd, .double ven, .double lef, .long gon, .int (nI hr), .ref (ad 19), .ref (ad 20), .ref (ad 21), .ref (ad 22), .ref (ad 23), .ref (ad 24), .ref (ad 25), .ref (ad 26), .ref (ad 27), .int 0, .int (nI pp), .int (nI pp), .int nm9, .ref (ad 28), .ref (ad 29), .ref (ad 30), .ref (ad 31), .int (nI l0.length), .int (nI 0)])) := ⟨_, rfl⟩
          have hw : ww G dA A s L f26 H locs := by rw [ef26]; exact hw
          have hX27 : MX ad dA n nb kel dmp spd ven lef gon hr 0 l0.length 0 0 pp (nI pp) nm9 RA RB TH DE KI WE NX LI LM KE TX BW9 TI9 KV9 DM9 f0 f26 := by rw [ef26]; exact hX25.sO hC kel dmp spd ven lef gon hr 0 l0.length 0 0 pp (nI pp) nm9
          refine lv_aload_n hx hb dX7_schedule_110 rfl (lv_at hl 1 rfl) ?_
          refine lv_iload_n hx hb dX7_schedule_111 rfl (lv_at hl 0 rfl) ?_
          refine lv_if_eq (tgt := 122) hx hb dX7_schedule_112 (by decide) (fun _ => ?_) (fun c9 => absurd rfl c9)
          refine lv_iconst (v := 0) hx hb dX7_schedule_122 (by decide) ?_
          refine wp_ (C := RX7) (T := TX7) (N := 31) hx hb hts hi7 tyX7 tyX7_ok nmX7 hown hw (hC.m (by decide)) hX27.o rfl 29 (by decide) (hts (.fieldLink RX7 125 "LayerMoistureModel" "steps" "I") (by decide +kernel)) (fun _ h9 => h9) rfl (ty := .int) (v := .int 0) (by decide +kernel) rfl rfl (Nat.le_of_ble_eq_true rfl) dX7_schedule_123 (fun H locs hw => ?_)
          obtain ⟨f28, ef28⟩ : ∃ z : Nat → va_E, z = va_up f26 (ad 16) (.inr (8, [.int 0, .int (nI n), .int (nI nb), .ref (ad 17), .ref (ad 18), .double kel, .double dmp, .double spd, .double ven, .double lef, .long gon, .int (nI hr), .ref (ad 19), .ref (ad 20), .ref (ad 21), .ref (ad 22), .ref (ad 23), .ref (ad 24), .ref (ad 25), .ref (ad 26), .ref (ad 27), .int (nI 0), .int (nI pp), .int (nI pp), .int nm9, .ref (ad 28), .ref (ad 29), .ref (ad 30), .ref (ad 31), .int 0, .int (nI 0)])) := ⟨_, rfl⟩
          have hw : ww G dA A s L f28 H locs := by rw [ef28]; exact hw
          have hX29 : MX ad dA n nb kel dmp spd ven lef gon hr 0 0 0 0 pp (nI pp) nm9 RA RB TH DE KI WE NX LI LM KE TX BW9 TI9 KV9 DM9 f0 f28 := by rw [ef28]; exact hX27.sO hC kel dmp spd ven lef gon hr 0 0 0 0 pp (nI pp) nm9
          refine lv_iload_n hx hb dX7_schedule_126 rfl (lv_at hl 0 rfl) ?_
          refine lv_if_eq (tgt := 137) hx hb dX7_schedule_127 (by decide) (fun _ => ?_) (fun c9 => absurd rfl c9)
          refine lv_iconst (v := (-1)) hx hb dX7_schedule_137 (by decide) ?_
          refine lv_aload_n hx hb dX7_schedule_138 rfl (lv_at hl 1 rfl) ?_
          refine wg (C := RX7) (T := TX7) (N := 31) hx hb hts hi7 hown hw (hC.m (by decide)) hX29.o rfl 23 (by decide) (hts (.fieldLink RX7 109 "LayerMoistureModel" "bad" "I") (by decide +kernel)) (fun _ h9 => h9) (v := .int (nI pp)) rfl dX7_schedule_139 ?_
          refine lv_isub hx hb dX7_schedule_142 ?_
          exact hret _ _ _ _ _ _ hw ⟨pp, nI pp, nm9, 0, BW9, TI9, KV9, DM9, hX29, by rw [eT]; exact ⟨rfl, rfl⟩⟩ rfl dX7_schedule_143
        · have q59 : nxt TX tl pp = 59 := c51
          refine lv_aload_n hx hb dX7_schedule_54 rfl (lv_at hl 0 rfl) ?_
          refine wg (C := RX7) (T := TX7) (N := 31) hx hb hts hi7 hown hw (hC.m (by decide)) hXa.o rfl 29 (by decide) (hts (.fieldLink RX7 125 "LayerMoistureModel" "steps" "I") (by decide +kernel)) (fun _ h9 => h9) (v := .int (nI l0.length)) rfl dX7_schedule_55 ?_
          refine lv_bipush (v := 12) hx hb dX7_schedule_58 (by decide) ?_
          refine lv_icmp_ge (tgt := 81) hx hb dX7_schedule_60 (by decide) (fun c9 => absurd c9 (nI_ge (b := 12) (by omega) (by decide))) (fun _ => ?_)
          refine lv_aload_n hx hb dX7_schedule_63 rfl (lv_at hl 0 rfl) ?_
          refine lv_dup hx hb dX7_schedule_64 rfl ?_
          refine wg (C := RX7) (T := TX7) (N := 31) hx hb hts hi7 hown hw (hC.m (by decide)) hXa.o rfl 22 (by decide) (hts (.fieldLink RX7 112 "LayerMoistureModel" "at" "I") (by decide +kernel)) (fun _ h9 => h9) (v := .int (nI pp)) rfl dX7_schedule_65 ?_
          refine lv_iconst (v := 1) hx hb dX7_schedule_68 (by decide) ?_
          refine lv_iadd hx hb dX7_schedule_69 ?_
          rw [show (nI pp) + 1 = nI (pp + 1) from nI_1 _]
          refine wp_ (C := RX7) (T := TX7) (N := 31) hx hb hts hi7 tyX7 tyX7_ok nmX7 hown hw (hC.m (by decide)) hXa.o rfl 22 (by decide) (hts (.fieldLink RX7 112 "LayerMoistureModel" "at" "I") (by decide +kernel)) (fun _ h9 => h9) rfl (ty := .int) (v := .int (nI (pp + 1))) (by decide +kernel) rfl rfl (Nat.le_of_ble_eq_true rfl) dX7_schedule_70 (fun H locs hw => ?_)
          obtain ⟨f30, ef30⟩ : ∃ z : Nat → va_E, z = va_up fa (ad 16) (.inr (8, [.int 0, .int (nI n), .int (nI nb), .ref (ad 17), .ref (ad 18), .double kel, .double dmp, .double spd, .double ven, .double lef, .long gon, .int (nI hr), .ref (ad 19), .ref (ad 20), .ref (ad 21), .ref (ad 22), .ref (ad 23), .ref (ad 24), .ref (ad 25), .ref (ad 26), .ref (ad 27), .int (nI tl), .int (nI (pp + 1)), .int bd9, .int nm9, .ref (ad 28), .ref (ad 29), .ref (ad 30), .ref (ad 31), .int (nI l0.length), .int (nI 0)])) := ⟨_, rfl⟩
          have hw : ww G dA A s L f30 H locs := by rw [ef30]; exact hw
          have hX31 : MX ad dA n nb kel dmp spd ven lef gon hr tl l0.length 0 0 (pp + 1) bd9 nm9 RA RB TH DE KI WE NX LI LM KE TX BW9 TI9 KV9 DM9 f0 f30 := by rw [ef30]; exact hXa.sO hC kel dmp spd ven lef gon hr tl l0.length 0 0 (pp + 1) bd9 nm9
          refine lv_aload_n hx hb dX7_schedule_73 rfl (lv_at hl 0 rfl) ?_
          refine kV_I (C := RX7) (T := TX7) (N := 31) (As := []) (rest := []) ⟨hx, hb, hml, hown, hts⟩ (c_X7_passStep l G dA L f30 ad n nb q qk kel dmp spd ven lef gon hr tl l0.length 0 0 (pp + 1) bd9 nm9 RA RB TH DE KI WE NX LI LM KE TX BW9 TI9 KV9 DM9 f0 hC hX31 htl (by omega) (by omega)) (cwV 0 hts gX7_schedule_X7_passStep rfl rfl rfl (by decide +kernel) ⟨Nat.le_of_ble_eq_true rfl, Nat.le_of_ble_eq_true rfl⟩) hw hA (hC.m (by decide)) hX31.o rfl rfl hl.1 rfl (Nat.le_of_ble_eq_true rfl) dX7_schedule_74 ⟨Nat.zero_le _, Nat.zero_le _⟩ (fun r33 f32 H locs hp hw => ?_)
          obtain ⟨pa2, bad2, num2, st2, BW2, TI2, KV2, DM2, hXs, hoff, hp2, hm⟩ := hp
          cases hs : stepP TX tl (pp + 1) with
          | inl q9 =>
            rw [hs] at hm
            obtain ⟨hra, hb9, hst9⟩ := hm
            subst hb9
            subst hst9
            rw [hra]
            have eT : stepsP TX tl 12 true 0 = .inl q9 := by rw [hT, resP, if_neg (by omega), hk9, stepsP_res TX tl kf pp false (by simp [q59]), if_neg (by decide), hs]; rfl
            refine lv_istore_n (lv' := [(1, .int 0), (0, .ref (ad 16))]) hx hb dX7_schedule_77 rfl hl (by decide) rfl (fun ls hl => ?_)
            refine lv_goto (tgt := 25) hx hb dX7_schedule_78 (by decide) ?_
            refine lv_iload_n hx hb dX7_schedule_25 rfl (lv_at hl 0 rfl) ?_
            refine lv_if_eq (tgt := 81) hx hb dX7_schedule_26 (by decide) (fun _ => ?_) (fun c9 => absurd rfl c9)
            refine lv_iload_n hx hb dX7_schedule_81 rfl (lv_at hl 0 rfl) ?_
            refine lv_if_eq (tgt := 105) hx hb dX7_schedule_82 (by decide) (fun _ => ?_) (fun c9 => absurd rfl c9)
            refine lv_aload_n hx hb dX7_schedule_105 rfl (lv_at hl 1 rfl) ?_
            refine lv_iconst (v := 0) hx hb dX7_schedule_106 (by decide) ?_
            refine wp_ (C := RX7) (T := TX7) (N := 31) hx hb hts hi7 tyX7 tyX7_ok nmX7 hown hw (hC.m (by decide)) hXs.o rfl 21 (by decide) (hts (.fieldLink RX7 106 "LayerMoistureModel" "typed" "I") (by decide +kernel)) (fun _ h9 => h9) rfl (ty := .int) (v := .int 0) (by decide +kernel) rfl rfl (Nat.le_of_ble_eq_true rfl) dX7_schedule_107 (fun H locs hw => ?_)
            obtain ⟨f34, ef34⟩ : ∃ z : Nat → va_E, z = va_up f32 (ad 16) (.inr (8, [.int 0, .int (nI n), .int (nI nb), .ref (ad 17), .ref (ad 18), .double kel, .double dmp, .double spd, .double ven, .double lef, .long gon, .int (nI hr), .ref (ad 19), .ref (ad 20), .ref (ad 21), .ref (ad 22), .ref (ad 23), .ref (ad 24), .ref (ad 25), .ref (ad 26), .ref (ad 27), .int 0, .int (nI pa2), .int (nI q9), .int num2, .ref (ad 28), .ref (ad 29), .ref (ad 30), .ref (ad 31), .int (nI l0.length), .int (nI 0)])) := ⟨_, rfl⟩
            have hw : ww G dA A s L f34 H locs := by rw [ef34]; exact hw
            have hX35 : MX ad dA n nb kel dmp spd ven lef gon hr 0 l0.length 0 0 pa2 (nI q9) num2 RA RB TH DE KI WE NX LI LM KE TX BW2 TI2 KV2 DM2 f0 f34 := by rw [ef34]; exact hXs.sO hC kel dmp spd ven lef gon hr 0 l0.length 0 0 pa2 (nI q9) num2
            refine lv_aload_n hx hb dX7_schedule_110 rfl (lv_at hl 1 rfl) ?_
            refine lv_iload_n hx hb dX7_schedule_111 rfl (lv_at hl 0 rfl) ?_
            refine lv_if_eq (tgt := 122) hx hb dX7_schedule_112 (by decide) (fun _ => ?_) (fun c9 => absurd rfl c9)
            refine lv_iconst (v := 0) hx hb dX7_schedule_122 (by decide) ?_
            refine wp_ (C := RX7) (T := TX7) (N := 31) hx hb hts hi7 tyX7 tyX7_ok nmX7 hown hw (hC.m (by decide)) hX35.o rfl 29 (by decide) (hts (.fieldLink RX7 125 "LayerMoistureModel" "steps" "I") (by decide +kernel)) (fun _ h9 => h9) rfl (ty := .int) (v := .int 0) (by decide +kernel) rfl rfl (Nat.le_of_ble_eq_true rfl) dX7_schedule_123 (fun H locs hw => ?_)
            obtain ⟨f36, ef36⟩ : ∃ z : Nat → va_E, z = va_up f34 (ad 16) (.inr (8, [.int 0, .int (nI n), .int (nI nb), .ref (ad 17), .ref (ad 18), .double kel, .double dmp, .double spd, .double ven, .double lef, .long gon, .int (nI hr), .ref (ad 19), .ref (ad 20), .ref (ad 21), .ref (ad 22), .ref (ad 23), .ref (ad 24), .ref (ad 25), .ref (ad 26), .ref (ad 27), .int (nI 0), .int (nI pa2), .int (nI q9), .int num2, .ref (ad 28), .ref (ad 29), .ref (ad 30), .ref (ad 31), .int 0, .int (nI 0)])) := ⟨_, rfl⟩
            have hw : ww G dA A s L f36 H locs := by rw [ef36]; exact hw
            have hX37 : MX ad dA n nb kel dmp spd ven lef gon hr 0 0 0 0 pa2 (nI q9) num2 RA RB TH DE KI WE NX LI LM KE TX BW2 TI2 KV2 DM2 f0 f36 := by rw [ef36]; exact hX35.sO hC kel dmp spd ven lef gon hr 0 0 0 0 pa2 (nI q9) num2
            refine lv_iload_n hx hb dX7_schedule_126 rfl (lv_at hl 0 rfl) ?_
            refine lv_if_eq (tgt := 137) hx hb dX7_schedule_127 (by decide) (fun _ => ?_) (fun c9 => absurd rfl c9)
            refine lv_iconst (v := (-1)) hx hb dX7_schedule_137 (by decide) ?_
            refine lv_aload_n hx hb dX7_schedule_138 rfl (lv_at hl 1 rfl) ?_
            refine wg (C := RX7) (T := TX7) (N := 31) hx hb hts hi7 hown hw (hC.m (by decide)) hX37.o rfl 23 (by decide) (hts (.fieldLink RX7 109 "LayerMoistureModel" "bad" "I") (by decide +kernel)) (fun _ h9 => h9) (v := .int (nI q9)) rfl dX7_schedule_139 ?_
            refine lv_isub hx hb dX7_schedule_142 ?_
            exact hret _ _ _ _ _ _ hw ⟨pa2, nI q9, num2, 0, BW2, TI2, KV2, DM2, hX37, by rw [eT]; exact ⟨rfl, rfl⟩⟩ rfl dX7_schedule_143
          | inr x =>
            rw [hs] at hm
            obtain ⟨hra, he, hst9, hB, hT9, hK9, hD9⟩ := hm
            subst hst9
            rw [hra]
            have hT2 : stepsP TX tl 12 true 0 = appR (l0 ++ [x.2]) (resP TX tl kf pa2) := by rw [hT, resP, if_neg (by omega), hk9, stepsP_res TX tl kf pp false (by simp [q59]), if_neg (by decide), hs]; show appR l0 (appR [x.2] _) = _; rw [appR_app, he]
            have hR2 : MR BW2 TI2 KV2 DM2 (l0 ++ [x.2]) := MR.app hR hoff hB hT9 hK9 hD9
            refine lv_istore_n (lv' := [(1, .int 1), (0, .ref (ad 16))]) hx hb dX7_schedule_77 rfl hl (by decide) rfl (fun ls hl => ?_)
            refine lv_goto (tgt := 25) hx hb dX7_schedule_78 (by decide) ?_
            exact ih (l0 ++ [x.2]) pa2 (by rw [List.length_append]; show l0.length + 1 + kf = 12; omega) hT2 hR2 hp2 _ _ _ _ _ (by rw [List.length_append]; exact hXs) hw ls (lv_sub hl [1, 0] rfl)
  refine lv_aload_n hx hb dX7_schedule_0 rfl (lv_at hl 0 rfl) ?_
  refine lv_iconst (v := 0) hx hb dX7_schedule_1 (by decide) ?_
  refine wp_ (C := RX7) (T := TX7) (N := 31) hx hb hts hi7 tyX7 tyX7_ok nmX7 hown hw (hC.m (by decide)) hX.o rfl 0 (by decide) (hts (.fieldLink RX7 78 "LayerMoistureModel" "thrown" "I") (by decide +kernel)) (fun _ h9 => h9) rfl (ty := .int) (v := .int 0) (by decide +kernel) rfl rfl (Nat.le_of_ble_eq_true rfl) dX7_schedule_2 (fun H locs hw => ?_)
  obtain ⟨f38, ef38⟩ : ∃ z : Nat → va_E, z = va_up f (ad 16) (.inr (8, [.int 0, .int (nI n), .int (nI nb), .ref (ad 17), .ref (ad 18), .double kel, .double dmp, .double spd, .double ven, .double lef, .long gon, .int (nI hr), .ref (ad 19), .ref (ad 20), .ref (ad 21), .ref (ad 22), .ref (ad 23), .ref (ad 24), .ref (ad 25), .ref (ad 26), .ref (ad 27), .int (nI tl), .int (nI pa), .int bad, .int num, .ref (ad 28), .ref (ad 29), .ref (ad 30), .ref (ad 31), .int (nI st), .int (nI dn)])) := ⟨_, rfl⟩
  have hw : ww G dA A s L f38 H locs := by rw [ef38]; exact hw
  have hX39 : MX ad dA n nb kel dmp spd ven lef gon hr tl st dn 0 pa bad num RA RB TH DE KI WE NX LI LM KE TX BW TI KV DM f0 f38 := by rw [ef38]; exact hX.sO hC kel dmp spd ven lef gon hr tl st dn 0 pa bad num
  refine lv_aload_n hx hb dX7_schedule_5 rfl (lv_at hl 0 rfl) ?_
  refine lv_iconst (v := 0) hx hb dX7_schedule_6 (by decide) ?_
  refine wp_ (C := RX7) (T := TX7) (N := 31) hx hb hts hi7 tyX7 tyX7_ok nmX7 hown hw (hC.m (by decide)) hX39.o rfl 22 (by decide) (hts (.fieldLink RX7 112 "LayerMoistureModel" "at" "I") (by decide +kernel)) (fun _ h9 => h9) rfl (ty := .int) (v := .int 0) (by decide +kernel) rfl rfl (Nat.le_of_ble_eq_true rfl) dX7_schedule_7 (fun H locs hw => ?_)
  obtain ⟨f40, ef40⟩ : ∃ z : Nat → va_E, z = va_up f38 (ad 16) (.inr (8, [.int 0, .int (nI n), .int (nI nb), .ref (ad 17), .ref (ad 18), .double kel, .double dmp, .double spd, .double ven, .double lef, .long gon, .int (nI hr), .ref (ad 19), .ref (ad 20), .ref (ad 21), .ref (ad 22), .ref (ad 23), .ref (ad 24), .ref (ad 25), .ref (ad 26), .ref (ad 27), .int (nI tl), .int 0, .int bad, .int num, .ref (ad 28), .ref (ad 29), .ref (ad 30), .ref (ad 31), .int (nI st), .int (nI dn)])) := ⟨_, rfl⟩
  have hw : ww G dA A s L f40 H locs := by rw [ef40]; exact hw
  have hX41 : MX ad dA n nb kel dmp spd ven lef gon hr tl st dn 0 0 bad num RA RB TH DE KI WE NX LI LM KE TX BW TI KV DM f0 f40 := by rw [ef40]; exact hX39.sO hC kel dmp spd ven lef gon hr tl st dn 0 0 bad num
  refine lv_aload_n hx hb dX7_schedule_10 rfl (lv_at hl 0 rfl) ?_
  refine lv_iconst (v := 0) hx hb dX7_schedule_11 (by decide) ?_
  refine wp_ (C := RX7) (T := TX7) (N := 31) hx hb hts hi7 tyX7 tyX7_ok nmX7 hown hw (hC.m (by decide)) hX41.o rfl 29 (by decide) (hts (.fieldLink RX7 125 "LayerMoistureModel" "steps" "I") (by decide +kernel)) (fun _ h9 => h9) rfl (ty := .int) (v := .int 0) (by decide +kernel) rfl rfl (Nat.le_of_ble_eq_true rfl) dX7_schedule_12 (fun H locs hw => ?_)
  obtain ⟨f42, ef42⟩ : ∃ z : Nat → va_E, z = va_up f40 (ad 16) (.inr (8, [.int 0, .int (nI n), .int (nI nb), .ref (ad 17), .ref (ad 18), .double kel, .double dmp, .double spd, .double ven, .double lef, .long gon, .int (nI hr), .ref (ad 19), .ref (ad 20), .ref (ad 21), .ref (ad 22), .ref (ad 23), .ref (ad 24), .ref (ad 25), .ref (ad 26), .ref (ad 27), .int (nI tl), .int (nI 0), .int bad, .int num, .ref (ad 28), .ref (ad 29), .ref (ad 30), .ref (ad 31), .int 0, .int (nI dn)])) := ⟨_, rfl⟩
  have hw : ww G dA A s L f42 H locs := by rw [ef42]; exact hw
  have hX43 : MX ad dA n nb kel dmp spd ven lef gon hr tl 0 dn 0 0 bad num RA RB TH DE KI WE NX LI LM KE TX BW TI KV DM f0 f42 := by rw [ef42]; exact hX41.sO hC kel dmp spd ven lef gon hr tl 0 dn 0 0 bad num
  refine lv_aload_n hx hb dX7_schedule_15 rfl (lv_at hl 0 rfl) ?_
  refine lv_iconst (v := 0) hx hb dX7_schedule_16 (by decide) ?_
  refine wp_ (C := RX7) (T := TX7) (N := 31) hx hb hts hi7 tyX7 tyX7_ok nmX7 hown hw (hC.m (by decide)) hX43.o rfl 30 (by decide) (hts (.fieldLink RX7 134 "LayerMoistureModel" "done" "I") (by decide +kernel)) (fun _ h9 => h9) rfl (ty := .int) (v := .int 0) (by decide +kernel) rfl rfl (Nat.le_of_ble_eq_true rfl) dX7_schedule_17 (fun H locs hw => ?_)
  obtain ⟨f44, ef44⟩ : ∃ z : Nat → va_E, z = va_up f42 (ad 16) (.inr (8, [.int 0, .int (nI n), .int (nI nb), .ref (ad 17), .ref (ad 18), .double kel, .double dmp, .double spd, .double ven, .double lef, .long gon, .int (nI hr), .ref (ad 19), .ref (ad 20), .ref (ad 21), .ref (ad 22), .ref (ad 23), .ref (ad 24), .ref (ad 25), .ref (ad 26), .ref (ad 27), .int (nI tl), .int (nI 0), .int bad, .int num, .ref (ad 28), .ref (ad 29), .ref (ad 30), .ref (ad 31), .int (nI 0), .int 0])) := ⟨_, rfl⟩
  have hw : ww G dA A s L f44 H locs := by rw [ef44]; exact hw
  have hX45 : MX ad dA n nb kel dmp spd ven lef gon hr tl 0 0 0 0 bad num RA RB TH DE KI WE NX LI LM KE TX BW TI KV DM f0 f44 := by rw [ef44]; exact hX43.sO hC kel dmp spd ven lef gon hr tl 0 0 0 0 bad num
  refine lv_aload_n hx hb dX7_schedule_20 rfl (lv_at hl 0 rfl) ?_
  refine kV_I (C := RX7) (T := TX7) (N := 31) (As := []) (rest := []) ⟨hx, hb, hml, hown, hts⟩ (c_X7_passStep l G dA L f44 ad n nb q qk kel dmp spd ven lef gon hr tl 0 0 0 0 bad num RA RB TH DE KI WE NX LI LM KE TX BW TI KV DM f0 hC hX45 htl (Nat.zero_le _) (by decide)) (cwV 0 hts gX7_schedule_X7_passStep rfl rfl rfl (by decide +kernel) ⟨Nat.le_of_ble_eq_true rfl, Nat.le_of_ble_eq_true rfl⟩) hw hA (hC.m (by decide)) hX45.o rfl rfl hl.1 rfl (Nat.le_of_ble_eq_true rfl) dX7_schedule_21 ⟨Nat.zero_le _, Nat.zero_le _⟩ (fun r47 f46 H locs hp hw => ?_)
  obtain ⟨pa2, bad2, num2, st2, BW2, TI2, KV2, DM2, hXs, hoff, hp2, hm⟩ := hp
  cases hs : stepP TX tl 0 with
  | inl q9 =>
    rw [hs] at hm
    obtain ⟨hra, hb9, hst9⟩ := hm
    subst hb9
    subst hst9
    rw [hra]
    have eT : stepsP TX tl 12 true 0 = .inl q9 := by rw [stepsP_res TX tl 11 0 true (by simp), if_pos rfl, hs]
    refine lv_istore_n (lv' := [(1, .int 0), (0, .ref (ad 16))]) hx hb dX7_schedule_24 rfl hl (by decide) rfl (fun ls hl => ?_)
    refine lv_iload_n hx hb dX7_schedule_25 rfl (lv_at hl 0 rfl) ?_
    refine lv_if_eq (tgt := 81) hx hb dX7_schedule_26 (by decide) (fun _ => ?_) (fun c9 => absurd rfl c9)
    refine lv_iload_n hx hb dX7_schedule_81 rfl (lv_at hl 0 rfl) ?_
    refine lv_if_eq (tgt := 105) hx hb dX7_schedule_82 (by decide) (fun _ => ?_) (fun c9 => absurd rfl c9)
    refine lv_aload_n hx hb dX7_schedule_105 rfl (lv_at hl 1 rfl) ?_
    refine lv_iconst (v := 0) hx hb dX7_schedule_106 (by decide) ?_
    refine wp_ (C := RX7) (T := TX7) (N := 31) hx hb hts hi7 tyX7 tyX7_ok nmX7 hown hw (hC.m (by decide)) hXs.o rfl 21 (by decide) (hts (.fieldLink RX7 106 "LayerMoistureModel" "typed" "I") (by decide +kernel)) (fun _ h9 => h9) rfl (ty := .int) (v := .int 0) (by decide +kernel) rfl rfl (Nat.le_of_ble_eq_true rfl) dX7_schedule_107 (fun H locs hw => ?_)
    obtain ⟨f48, ef48⟩ : ∃ z : Nat → va_E, z = va_up f46 (ad 16) (.inr (8, [.int 0, .int (nI n), .int (nI nb), .ref (ad 17), .ref (ad 18), .double kel, .double dmp, .double spd, .double ven, .double lef, .long gon, .int (nI hr), .ref (ad 19), .ref (ad 20), .ref (ad 21), .ref (ad 22), .ref (ad 23), .ref (ad 24), .ref (ad 25), .ref (ad 26), .ref (ad 27), .int 0, .int (nI pa2), .int (nI q9), .int num2, .ref (ad 28), .ref (ad 29), .ref (ad 30), .ref (ad 31), .int (nI 0), .int (nI 0)])) := ⟨_, rfl⟩
    have hw : ww G dA A s L f48 H locs := by rw [ef48]; exact hw
    have hX49 : MX ad dA n nb kel dmp spd ven lef gon hr 0 0 0 0 pa2 (nI q9) num2 RA RB TH DE KI WE NX LI LM KE TX BW2 TI2 KV2 DM2 f0 f48 := by rw [ef48]; exact hXs.sO hC kel dmp spd ven lef gon hr 0 0 0 0 pa2 (nI q9) num2
    refine lv_aload_n hx hb dX7_schedule_110 rfl (lv_at hl 1 rfl) ?_
    refine lv_iload_n hx hb dX7_schedule_111 rfl (lv_at hl 0 rfl) ?_
    refine lv_if_eq (tgt := 122) hx hb dX7_schedule_112 (by decide) (fun _ => ?_) (fun c9 => absurd rfl c9)
    refine lv_iconst (v := 0) hx hb dX7_schedule_122 (by decide) ?_
    refine wp_ (C := RX7) (T := TX7) (N := 31) hx hb hts hi7 tyX7 tyX7_ok nmX7 hown hw (hC.m (by decide)) hX49.o rfl 29 (by decide) (hts (.fieldLink RX7 125 "LayerMoistureModel" "steps" "I") (by decide +kernel)) (fun _ h9 => h9) rfl (ty := .int) (v := .int 0) (by decide +kernel) rfl rfl (Nat.le_of_ble_eq_true rfl) dX7_schedule_123 (fun H locs hw => ?_)
    obtain ⟨f50, ef50⟩ : ∃ z : Nat → va_E, z = va_up f48 (ad 16) (.inr (8, [.int 0, .int (nI n), .int (nI nb), .ref (ad 17), .ref (ad 18), .double kel, .double dmp, .double spd, .double ven, .double lef, .long gon, .int (nI hr), .ref (ad 19), .ref (ad 20), .ref (ad 21), .ref (ad 22), .ref (ad 23), .ref (ad 24), .ref (ad 25), .ref (ad 26), .ref (ad 27), .int (nI 0), .int (nI pa2), .int (nI q9), .int num2, .ref (ad 28), .ref (ad 29), .ref (ad 30), .ref (ad 31), .int 0, .int (nI 0)])) := ⟨_, rfl⟩
    have hw : ww G dA A s L f50 H locs := by rw [ef50]; exact hw
    have hX51 : MX ad dA n nb kel dmp spd ven lef gon hr 0 0 0 0 pa2 (nI q9) num2 RA RB TH DE KI WE NX LI LM KE TX BW2 TI2 KV2 DM2 f0 f50 := by rw [ef50]; exact hX49.sO hC kel dmp spd ven lef gon hr 0 0 0 0 pa2 (nI q9) num2
    refine lv_iload_n hx hb dX7_schedule_126 rfl (lv_at hl 0 rfl) ?_
    refine lv_if_eq (tgt := 137) hx hb dX7_schedule_127 (by decide) (fun _ => ?_) (fun c9 => absurd rfl c9)
    refine lv_iconst (v := (-1)) hx hb dX7_schedule_137 (by decide) ?_
    refine lv_aload_n hx hb dX7_schedule_138 rfl (lv_at hl 1 rfl) ?_
    refine wg (C := RX7) (T := TX7) (N := 31) hx hb hts hi7 hown hw (hC.m (by decide)) hX51.o rfl 23 (by decide) (hts (.fieldLink RX7 109 "LayerMoistureModel" "bad" "I") (by decide +kernel)) (fun _ h9 => h9) (v := .int (nI q9)) rfl dX7_schedule_139 ?_
    refine lv_isub hx hb dX7_schedule_142 ?_
    exact hret _ _ _ _ _ _ hw ⟨pa2, nI q9, num2, 0, BW2, TI2, KV2, DM2, hX51, by rw [eT]; exact ⟨rfl, rfl⟩⟩ rfl dX7_schedule_143
  | inr x =>
    rw [hs] at hm
    obtain ⟨hra, he, hst9, hB, hT9, hK9, hD9⟩ := hm
    subst hst9
    rw [hra]
    have hT2 : stepsP TX tl 12 true 0 = appR [x.2] (resP TX tl 11 pa2) := by rw [stepsP_res TX tl 11 0 true (by simp), if_pos rfl, hs, he]
    have hR2 : MR BW2 TI2 KV2 DM2 [x.2] := MR.app (BW := BW) (TI := TI) (KV := KV) (DM := DM) (l := []) (fun j y h => by cases h) hoff hB hT9 hK9 hD9
    refine lv_istore_n (lv' := [(1, .int 1), (0, .ref (ad 16))]) hx hb dX7_schedule_24 rfl hl (by decide) rfl (fun ls hl => ?_)
    exact loop 11 [x.2] pa2 rfl hT2 hR2 hp2 _ _ _ _ _ hXs hw ls (lv_sub hl [1, 0] rfl)
