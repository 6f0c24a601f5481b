set_option maxHeartbeats 4000000 in
set_option maxRecDepth 100000 in
theorem c_X4_readStep (l : Launch) (G : va_G) (dA : Nat → ClassId) (L : List Nat) (f : Nat → va_E) (pl pb pt pk pd t u tl tp : Nat) (stp dn : Int32) (B T K D tx : Nat → Int32) (kk : Nat) (hLl : pl ∈ L) (hfl : f pl = .inr (5, [.ref pb, .ref pt, .ref pk, .ref pd, .int stp, .int dn])) (hLb : pb ∈ L) (hfb : f pb = aI (dA 3) 12 B) (hLt0 : pt ∈ L) (hft0 : f pt = aI (dA 2) 12 T) (hLk : pk ∈ L) (hfk : f pk = aI (dA 2) 12 K) (hLd : pd ∈ L) (hfd : f pd = aI (dA 2) 12 D) (hLt : t ∈ L) (hft : f t = .inr (6, [.ref u, .int (nI tl), .int (nI tp)])) (hLu : u ∈ L) (hfu : f u = aI (dA 0) 200 tx) (hnd : [pl, pb, pt, pk, pd, t, u].Nodup) (htl : tl ≤ 200) (htp : tp ≤ tl) (hok : TxOk tx tl) (hkk : kk < 12)  : mI l yX4_readStep wsX4_readStep ({ frames := 4, cells := 0, slots := 0, locals := 85 }) G dA [.ref pl, .ref t, .int (nI kk)] L f (fun r f2 => ∃ (B2 T2 K2 D2 : Nat → Int32) (p2 : Nat), f2 = pw dA f pb pt pk pd t u tl B2 T2 K2 D2 p2 ∧ (∀ j, j ≠ kk → B2 j = B j ∧ T2 j = T j ∧ K2 j = K j ∧ D2 j = D j) ∧ p2 ≤ tl ∧ (match stepP tx tl tp with | .inl q => r = 0 ∧ p2 = q | .inr x => r = 1 ∧ p2 = x.1 ∧ B2 kk = b2i x.2.1 ∧ T2 kk = x.2.2.1 ∧ K2 kk = x.2.2.2.1 ∧ D2 kk = x.2.2.2.2)) := by
  refine mI_of (cc := cX4_readStep) (maxL := 3) (by decide) rfl (Nat.le_of_ble_eq_true rfl) ?_
  intro p e s m below meth c A ls Q hx hb hml hown hts hlocks hA hin0 hw hl hret
  have hown : s.vm.findClass RX4 = some m.cls := hown
  have hl : lv_has ls 3 [(0, .ref pl), (1, .ref t), (2, .int (nI kk))] := hl
  have hi4 : ∀ w ∈ u_ws RX4 TX4 6, w ∈ wsX4_readStep := by decide +kernel
  have hw : ww G dA A s L (pw dA f pb pt pk pd t u tl B T K D tp) s.heap [] := by rw [pw_id hfb hft0 hfk hfd hft]; exact hw
  refine lv_aload_n hx hb dX4_readStep_0 rfl (lv_at hl 0 rfl) ?_
  refine wg (C := RX4) (T := TX4) (N := 6) hx hb hts hi4 hown hw hLl ((pw_pl hnd).trans hfl) rfl 0 (by decide) (hts (.fieldLink RX4 11 "LayerMoisture$Plan" "byHours" "[Z") (by decide +kernel)) (fun _ h9 => h9) (v := .ref pb) rfl dX4_readStep_1 ?_
  refine lv_iload_n hx hb dX4_readStep_4 rfl (lv_at hl 2 rfl) ?_
  refine lv_aload_n hx hb dX4_readStep_5 rfl (lv_at hl 1 rfl) ?_
  refine kV_I (C := RX5) (T := TX5) (N := 3) (As := []) (rest := [.int (nI kk), .ref pb]) ⟨hx, hb, hml, hown, hts⟩ (c_X5_next l G dA L (pw dA f pb pt pk pd t u tl B T K D tp) t u tl tp tx hLt pw_t hLu ((pw_u hnd).trans hfu) htl (by omega) hok) (cwV 0 hts gX4_readStep_X5_next rfl rfl rfl (by decide +kernel) ⟨Nat.le_of_ble_eq_true rfl, Nat.le_of_ble_eq_true rfl⟩) hw hA hLt pw_t rfl rfl hl.1 rfl (Nat.le_of_ble_eq_true rfl) dX4_readStep_6 ⟨Nat.zero_le _, Nat.zero_le _⟩ (fun r1 f2 H locs hp hw => ?_)
  obtain ⟨e1, e2⟩ := hp
  rw [e2] at hw
  rw [e1]
  refine lv_bipush (v := 104) hx hb dX4_readStep_9 (by decide) ?_
  refine lv_icmp_ne (tgt := 18) hx hb dX4_readStep_11 (by decide) (fun c11 => ?_) (fun c11 => ?_)
  · have q11 : ¬ nxt tx tl tp = 104 := c11
    refine lv_iconst (v := 0) hx hb dX4_readStep_18 (by decide) ?_
    refine wst_z hx hb hw hLb (pw_b hnd) kk hkk (by decide) rfl dX4_readStep_19 (fun H locs hw => ?_)
    rw [pw_sb hnd] at hw
    refine lv_aload_n hx hb dX4_readStep_20 rfl (lv_at hl 1 rfl) ?_
    refine lv_aload_n hx hb dX4_readStep_21 rfl (lv_at hl 0 rfl) ?_
    refine wg (C := RX4) (T := TX4) (N := 6) hx hb hts hi4 hown hw hLl ((pw_pl hnd).trans hfl) rfl 0 (by decide) (hts (.fieldLink RX4 11 "LayerMoisture$Plan" "byHours" "[Z") (by decide +kernel)) (fun _ h9 => h9) (v := .ref pb) rfl dX4_readStep_22 ?_
    refine lv_iload_n hx hb dX4_readStep_25 rfl (lv_at hl 2 rfl) ?_
    refine wld_z hx hb hw hLb (pw_b hnd) kk hkk (by decide) rfl dX4_readStep_26 ?_
    rw [show (upd B kk (vp_nar .boolean 0)) kk = 0 from (pk_us.trans (by decide))]
    refine lv_if_eq (tgt := 35) hx hb dX4_readStep_27 (by decide) (fun _ => ?_) (fun c9 => absurd rfl c9)
    refine lv_bipush (v := 119) hx hb dX4_readStep_35 (by decide) ?_
    refine kV_I (C := RX5) (T := TX5) (N := 3) (As := [.int 119]) (rest := []) ⟨hx, hb, hml, hown, hts⟩ (c_X5_pass l G dA L (pw dA f pb pt pk pd t u tl (upd B kk (vp_nar .boolean 0)) T K D tp) t u tl tp tx 119 hLt pw_t hLu ((pw_u hnd).trans hfu) htl (by omega) hok) (cwV 1 hts gX4_readStep_X5_pass rfl rfl rfl (by decide +kernel) ⟨Nat.le_of_ble_eq_true rfl, Nat.le_of_ble_eq_true rfl⟩) hw hA hLt pw_t rfl rfl hl.1 rfl (Nat.le_of_ble_eq_true rfl) dX4_readStep_37 ⟨Nat.zero_le _, Nat.zero_le _⟩ (fun r3 f4 H locs hp hw => ?_)
    obtain ⟨e1, e2⟩ := hp
    rw [e2, pw_st] at hw
    rw [e1]
    refine lv_if_ne (tgt := 45) hx hb dX4_readStep_40 (by decide) (fun c40 => ?_) (fun c40 => ?_)
    · have q40 : nxt tx tl tp = 119 := by cases hq : decide (nxt tx tl tp = 119) with | true => exact of_decide_eq_true hq | false => rw [hq] at c40; exact absurd rfl c40
      have l40 := nxt_lt q40 (by decide)
      have s40 : nxt tx tl tp = (if nxt tx tl tp = 104 then 104 else 119) := by rw [if_neg q11]; exact q40
      have hw : ww G dA A s L (pw dA f pb pt pk pd t u tl (upd B kk (vp_nar .boolean 0)) T K D (tp + 1)) H locs := by rw [if_pos q40] at hw; exact hw
      refine lv_aload_n hx hb dX4_readStep_45 rfl (lv_at hl 0 rfl) ?_
      refine wg (C := RX4) (T := TX4) (N := 6) hx hb hts hi4 hown hw hLl ((pw_pl hnd).trans hfl) rfl 1 (by decide) (hts (.fieldLink RX4 15 "LayerMoisture$Plan" "times" "[I") (by decide +kernel)) (fun _ h9 => h9) (v := .ref pt) rfl dX4_readStep_46 ?_
      refine lv_iload_n hx hb dX4_readStep_49 rfl (lv_at hl 2 rfl) ?_
      refine lv_aload_n hx hb dX4_readStep_50 rfl (lv_at hl 1 rfl) ?_
      refine lv_iconst (v := 0) hx hb dX4_readStep_51 (by decide) ?_
      refine lv_sipush (v := 999) hx hb dX4_readStep_52 (by decide) ?_
      refine kV_I (C := RX5) (T := TX5) (N := 3) (As := [.int 0, .int 999]) (rest := [.int (nI kk), .ref pt]) ⟨hx, hb, hml, hown, hts⟩ (c_X5_readNumber l G dA L (pw dA f pb pt pk pd t u tl (upd B kk (vp_nar .boolean 0)) T K D (tp + 1)) t u tl (tp + 1) tx 0 999 hLt pw_t hLu ((pw_u hnd).trans hfu) htl (by omega) hok) (cwV 2 hts gX4_readStep_X5_readNumber rfl rfl rfl (by decide +kernel) ⟨Nat.le_of_ble_eq_true rfl, Nat.le_of_ble_eq_true rfl⟩) hw hA hLt pw_t rfl rfl hl.1 rfl (Nat.le_of_ble_eq_true rfl) dX4_readStep_55 ⟨Nat.zero_le _, Nat.zero_le _⟩ (fun r5 f6 H locs hp hw => ?_)
      obtain ⟨e1, e2⟩ := hp
      rw [e2, pw_st] at hw
      rw [e1]
      refine wst_i hx hb hw hLt0 (pw_tm hnd) kk hkk (by decide) rfl dX4_readStep_58 (fun H locs hw => ?_)
      rw [pw_stm hnd] at hw
      refine lv_aload_n hx hb dX4_readStep_59 rfl (lv_at hl 0 rfl) ?_
      refine wg (C := RX4) (T := TX4) (N := 6) hx hb hts hi4 hown hw hLl ((pw_pl hnd).trans hfl) rfl 1 (by decide) (hts (.fieldLink RX4 15 "LayerMoisture$Plan" "times" "[I") (by decide +kernel)) (fun _ h9 => h9) (v := .ref pt) rfl dX4_readStep_60 ?_
      refine lv_iload_n hx hb dX4_readStep_63 rfl (lv_at hl 2 rfl) ?_
      refine wld_i hx hb hw hLt0 (pw_tm hnd) kk hkk (by decide) rfl dX4_readStep_64 ?_
      rw [show (upd T kk (numV (numP tx tl (tp + 1) 0 999))) kk = numV (numP tx tl (tp + 1) 0 999) from pk_us]
      refine lv_iconst (v := (-1)) hx hb dX4_readStep_65 (by decide) ?_
      refine lv_icmp_eq (tgt := 78) hx hb dX4_readStep_66 (by decide) (fun c66 => ?_) (fun c66 => ?_)
      · have q66 : numP tx tl (tp + 1) 0 999 = none := (numV_ne (fun x hq => (numP_le (by omega) hq).2.2.1)).mp c66
        have hw : ww G dA A s L (pw dA f pb pt pk pd t u tl (upd B kk (vp_nar .boolean 0)) (upd T kk (-1)) K D (tp + 1)) H locs := by rw [q66] at hw; exact hw
        refine lv_iconst (v := 0) hx hb dX4_readStep_78 (by decide) ?_
        exact hret _ _ _ _ _ _ hw ⟨_, _, _, _, _, rfl, fun j hj => ⟨pk_un hj, pk_un hj, rfl, rfl⟩, (by omega), by rw [show stepP tx tl tp = .inl (tp + 1) from (by rw [stepP, if_pos s40, q66])]; exact ⟨rfl, rfl⟩⟩ (by decide) dX4_readStep_79
      · obtain ⟨x1, q66⟩ : ∃ x, numP tx tl (tp + 1) 0 999 = some x := by cases hq : numP tx tl (tp + 1) 0 999 with | none => rw [hq] at c66; exact absurd rfl c66 | some x => exact ⟨x, rfl⟩
        have l66 := numP_le (by omega) q66
        have hw : ww G dA A s L (pw dA f pb pt pk pd t u tl (upd B kk (vp_nar .boolean 0)) (upd T kk x1.2) K D x1.1) H locs := by rw [q66] at hw; exact hw
        refine lv_aload_n hx hb dX4_readStep_69 rfl (lv_at hl 1 rfl) ?_
        refine lv_bipush (v := 58) hx hb dX4_readStep_70 (by decide) ?_
        refine kV_I (C := RX5) (T := TX5) (N := 3) (As := [.int 58]) (rest := []) ⟨hx, hb, hml, hown, hts⟩ (c_X5_pass l G dA L (pw dA f pb pt pk pd t u tl (upd B kk (vp_nar .boolean 0)) (upd T kk x1.2) K D x1.1) t u tl x1.1 tx 58 hLt pw_t hLu ((pw_u hnd).trans hfu) htl (by omega) hok) (cwV 1 hts gX4_readStep_X5_pass rfl rfl rfl (by decide +kernel) ⟨Nat.le_of_ble_eq_true rfl, Nat.le_of_ble_eq_true rfl⟩) hw hA hLt pw_t rfl rfl hl.1 rfl (Nat.le_of_ble_eq_true rfl) dX4_readStep_72 ⟨Nat.zero_le _, Nat.zero_le _⟩ (fun r7 f8 H locs hp hw => ?_)
        obtain ⟨e1, e2⟩ := hp
        rw [e2, pw_st] at hw
        rw [e1]
        refine lv_if_ne (tgt := 80) hx hb dX4_readStep_75 (by decide) (fun c75 => ?_) (fun c75 => ?_)
        · have q75 : nxt tx tl x1.1 = 58 := by cases hq : decide (nxt tx tl x1.1 = 58) with | true => exact of_decide_eq_true hq | false => rw [hq] at c75; exact absurd rfl c75
          have l75 := nxt_lt q75 (by decide)
          have hw : ww G dA A s L (pw dA f pb pt pk pd t u tl (upd B kk (vp_nar .boolean 0)) (upd T kk x1.2) K D (x1.1 + 1)) H locs := by rw [if_pos q75] at hw; exact hw
          refine lv_aload_n hx hb dX4_readStep_80 rfl (lv_at hl 0 rfl) ?_
          refine wg (C := RX4) (T := TX4) (N := 6) hx hb hts hi4 hown hw hLl ((pw_pl hnd).trans hfl) rfl 2 (by decide) (hts (.fieldLink RX4 19 "LayerMoisture$Plan" "kelvins" "[I") (by decide +kernel)) (fun _ h9 => h9) (v := .ref pk) rfl dX4_readStep_81 ?_
          refine lv_iload_n hx hb dX4_readStep_84 rfl (lv_at hl 2 rfl) ?_
          refine lv_aload_n hx hb dX4_readStep_85 rfl (lv_at hl 1 rfl) ?_
          refine lv_sipush (v := 250) hx hb dX4_readStep_86 (by decide) ?_
          refine lv_sipush (v := 400) hx hb dX4_readStep_89 (by decide) ?_
          refine kV_I (C := RX5) (T := TX5) (N := 3) (As := [.int 250, .int 400]) (rest := [.int (nI kk), .ref pk]) ⟨hx, hb, hml, hown, hts⟩ (c_X5_readNumber l G dA L (pw dA f pb pt pk pd t u tl (upd B kk (vp_nar .boolean 0)) (upd T kk x1.2) K D (x1.1 + 1)) t u tl (x1.1 + 1) tx 250 400 hLt pw_t hLu ((pw_u hnd).trans hfu) htl (by omega) hok) (cwV 2 hts gX4_readStep_X5_readNumber rfl rfl rfl (by decide +kernel) ⟨Nat.le_of_ble_eq_true rfl, Nat.le_of_ble_eq_true rfl⟩) hw hA hLt pw_t rfl rfl hl.1 rfl (Nat.le_of_ble_eq_true rfl) dX4_readStep_92 ⟨Nat.zero_le _, Nat.zero_le _⟩ (fun r9 f10 H locs hp hw => ?_)
          obtain ⟨e1, e2⟩ := hp
          rw [e2, pw_st] at hw
          rw [e1]
          refine wst_i hx hb hw hLk (pw_k hnd) kk hkk (by decide) rfl dX4_readStep_95 (fun H locs hw => ?_)
          rw [pw_sk hnd] at hw
          refine lv_aload_n hx hb dX4_readStep_96 rfl (lv_at hl 0 rfl) ?_
          refine wg (C := RX4) (T := TX4) (N := 6) hx hb hts hi4 hown hw hLl ((pw_pl hnd).trans hfl) rfl 2 (by decide) (hts (.fieldLink RX4 19 "LayerMoisture$Plan" "kelvins" "[I") (by decide +kernel)) (fun _ h9 => h9) (v := .ref pk) rfl dX4_readStep_97 ?_
          refine lv_iload_n hx hb dX4_readStep_100 rfl (lv_at hl 2 rfl) ?_
          refine wld_i hx hb hw hLk (pw_k hnd) kk hkk (by decide) rfl dX4_readStep_101 ?_
          rw [show (upd K kk (numV (numP tx tl (x1.1 + 1) 250 400))) kk = numV (numP tx tl (x1.1 + 1) 250 400) from pk_us]
          refine lv_iconst (v := (-1)) hx hb dX4_readStep_102 (by decide) ?_
          refine lv_icmp_eq (tgt := 115) hx hb dX4_readStep_103 (by decide) (fun c103 => ?_) (fun c103 => ?_)
          · have q103 : numP tx tl (x1.1 + 1) 250 400 = none := (numV_ne (fun x hq => fun h7 => (numP_le (by omega) hq).2.2.1 (Int32.lt_trans h7 (by decide)))).mp c103
            have hw : ww G dA A s L (pw dA f pb pt pk pd t u tl (upd B kk (vp_nar .boolean 0)) (upd T kk x1.2) (upd K kk (-1)) D (x1.1 + 1)) H locs := by rw [q103] at hw; exact hw
            refine lv_iconst (v := 0) hx hb dX4_readStep_115 (by decide) ?_
            exact hret _ _ _ _ _ _ hw ⟨_, _, _, _, _, rfl, fun j hj => ⟨pk_un hj, pk_un hj, pk_un hj, rfl⟩, (by omega), by rw [show stepP tx tl tp = .inl (x1.1 + 1) from (by rw [stepP, if_pos s40, q66]; exact (if_pos q75).trans (by rw [q103]))]; exact ⟨rfl, rfl⟩⟩ (by decide) dX4_readStep_116
          · obtain ⟨x2, q103⟩ : ∃ x, numP tx tl (x1.1 + 1) 250 400 = some x := by cases hq : numP tx tl (x1.1 + 1) 250 400 with | none => rw [hq] at c103; exact absurd rfl c103 | some x => exact ⟨x, rfl⟩
            have l103 := numP_le (by omega) q103
            have hw : ww G dA A s L (pw dA f pb pt pk pd t u tl (upd B kk (vp_nar .boolean 0)) (upd T kk x1.2) (upd K kk x2.2) D x2.1) H locs := by rw [q103] at hw; exact hw
            refine lv_aload_n hx hb dX4_readStep_106 rfl (lv_at hl 1 rfl) ?_
            refine lv_bipush (v := 44) hx hb dX4_readStep_107 (by decide) ?_
            refine kV_I (C := RX5) (T := TX5) (N := 3) (As := [.int 44]) (rest := []) ⟨hx, hb, hml, hown, hts⟩ (c_X5_pass l G dA L (pw dA f pb pt pk pd t u tl (upd B kk (vp_nar .boolean 0)) (upd T kk x1.2) (upd K kk x2.2) D x2.1) t u tl x2.1 tx 44 hLt pw_t hLu ((pw_u hnd).trans hfu) htl (by omega) hok) (cwV 1 hts gX4_readStep_X5_pass rfl rfl rfl (by decide +kernel) ⟨Nat.le_of_ble_eq_true rfl, Nat.le_of_ble_eq_true rfl⟩) hw hA hLt pw_t rfl rfl hl.1 rfl (Nat.le_of_ble_eq_true rfl) dX4_readStep_109 ⟨Nat.zero_le _, Nat.zero_le _⟩ (fun r11 f12 H locs hp hw => ?_)
            obtain ⟨e1, e2⟩ := hp
            rw [e2, pw_st] at hw
            rw [e1]
            refine lv_if_ne (tgt := 117) hx hb dX4_readStep_112 (by decide) (fun c112 => ?_) (fun c112 => ?_)
            · have q112 : nxt tx tl x2.1 = 44 := by cases hq : decide (nxt tx tl x2.1 = 44) with | true => exact of_decide_eq_true hq | false => rw [hq] at c112; exact absurd rfl c112
              have l112 := nxt_lt q112 (by decide)
              have hw : ww G dA A s L (pw dA f pb pt pk pd t u tl (upd B kk (vp_nar .boolean 0)) (upd T kk x1.2) (upd K kk x2.2) D (x2.1 + 1)) H locs := by rw [if_pos q112] at hw; exact hw
              refine lv_aload_n hx hb dX4_readStep_117 rfl (lv_at hl 0 rfl) ?_
              refine wg (C := RX4) (T := TX4) (N := 6) hx hb hts hi4 hown hw hLl ((pw_pl hnd).trans hfl) rfl 3 (by decide) (hts (.fieldLink RX4 22 "LayerMoisture$Plan" "damps" "[I") (by decide +kernel)) (fun _ h9 => h9) (v := .ref pd) rfl dX4_readStep_118 ?_
              refine lv_iload_n hx hb dX4_readStep_121 rfl (lv_at hl 2 rfl) ?_
              refine lv_aload_n hx hb dX4_readStep_122 rfl (lv_at hl 1 rfl) ?_
              refine lv_iconst (v := 0) hx hb dX4_readStep_123 (by decide) ?_
              refine lv_bipush (v := 100) hx hb dX4_readStep_124 (by decide) ?_
              refine kV_I (C := RX5) (T := TX5) (N := 3) (As := [.int 0, .int 100]) (rest := [.int (nI kk), .ref pd]) ⟨hx, hb, hml, hown, hts⟩ (c_X5_readNumber l G dA L (pw dA f pb pt pk pd t u tl (upd B kk (vp_nar .boolean 0)) (upd T kk x1.2) (upd K kk x2.2) D (x2.1 + 1)) t u tl (x2.1 + 1) tx 0 100 hLt pw_t hLu ((pw_u hnd).trans hfu) htl (by omega) hok) (cwV 2 hts gX4_readStep_X5_readNumber rfl rfl rfl (by decide +kernel) ⟨Nat.le_of_ble_eq_true rfl, Nat.le_of_ble_eq_true rfl⟩) hw hA hLt pw_t rfl rfl hl.1 rfl (Nat.le_of_ble_eq_true rfl) dX4_readStep_126 ⟨Nat.zero_le _, Nat.zero_le _⟩ (fun r13 f14 H locs hp hw => ?_)
              obtain ⟨e1, e2⟩ := hp
              rw [e2, pw_st] at hw
              rw [e1]
              refine wst_i hx hb hw hLd (pw_d hnd) kk hkk (by decide) rfl dX4_readStep_129 (fun H locs hw => ?_)
              rw [pw_sd hnd] at hw
              refine lv_aload_n hx hb dX4_readStep_130 rfl (lv_at hl 0 rfl) ?_
              refine wg (C := RX4) (T := TX4) (N := 6) hx hb hts hi4 hown hw hLl ((pw_pl hnd).trans hfl) rfl 3 (by decide) (hts (.fieldLink RX4 22 "LayerMoisture$Plan" "damps" "[I") (by decide +kernel)) (fun _ h9 => h9) (v := .ref pd) rfl dX4_readStep_131 ?_
              refine lv_iload_n hx hb dX4_readStep_134 rfl (lv_at hl 2 rfl) ?_
              refine wld_i hx hb hw hLd (pw_d hnd) kk hkk (by decide) rfl dX4_readStep_135 ?_
              rw [show (upd D kk (numV (numP tx tl (x2.1 + 1) 0 100))) kk = numV (numP tx tl (x2.1 + 1) 0 100) from pk_us]
              refine lv_iconst (v := (-1)) hx hb dX4_readStep_136 (by decide) ?_
              refine lv_icmp_eq (tgt := 144) hx hb dX4_readStep_137 (by decide) (fun c137 => ?_) (fun c137 => ?_)
              · have q137 : numP tx tl (x2.1 + 1) 0 100 = none := (numV_ne (fun x hq => (numP_le (by omega) hq).2.2.1)).mp c137
                have hw : ww G dA A s L (pw dA f pb pt pk pd t u tl (upd B kk (vp_nar .boolean 0)) (upd T kk x1.2) (upd K kk x2.2) (upd D kk (-1)) (x2.1 + 1)) H locs := by rw [q137] at hw; exact hw
                refine lv_iconst (v := 0) hx hb dX4_readStep_144 (by decide) ?_
                exact hret _ _ _ _ _ _ hw ⟨_, _, _, _, _, rfl, fun j hj => ⟨pk_un hj, pk_un hj, pk_un hj, pk_un hj⟩, (by omega), by rw [show stepP tx tl tp = .inl (x2.1 + 1) from (by rw [stepP, if_pos s40, q66]; exact (if_pos q75).trans (by rw [q103]; exact (if_pos q112).trans (by rw [q137])))]; exact ⟨rfl, rfl⟩⟩ (by decide) dX4_readStep_145
              · obtain ⟨x3, q137⟩ : ∃ x, numP tx tl (x2.1 + 1) 0 100 = some x := by cases hq : numP tx tl (x2.1 + 1) 0 100 with | none => rw [hq] at c137; exact absurd rfl c137 | some x => exact ⟨x, rfl⟩
                have l137 := numP_le (by omega) q137
                have hw : ww G dA A s L (pw dA f pb pt pk pd t u tl (upd B kk (vp_nar .boolean 0)) (upd T kk x1.2) (upd K kk x2.2) (upd D kk x3.2) x3.1) H locs := by rw [q137] at hw; exact hw
                refine lv_iconst (v := 1) hx hb dX4_readStep_140 (by decide) ?_
                refine lv_goto (tgt := 145) hx hb dX4_readStep_141 (by decide) ?_
                exact hret _ _ _ _ _ _ hw ⟨_, _, _, _, _, rfl, fun j hj => ⟨pk_un hj, pk_un hj, pk_un hj, pk_un hj⟩, (by omega), by rw [show stepP tx tl tp = .inr (x3.1, decide (nxt tx tl tp = 104), x1.2, x2.2, x3.2) from (by rw [stepP, if_pos s40, q66]; exact (if_pos q75).trans (by rw [q103]; exact (if_pos q112).trans (by rw [q137])))]; exact ⟨rfl, rfl, pk_us.trans (by rw [decide_eq_false q11]; rfl), pk_us, pk_us, pk_us⟩⟩ (by decide) dX4_readStep_145
            · have q112 : ¬ nxt tx tl x2.1 = 44 := fun q => by rw [decide_eq_true q] at c112; exact absurd c112 (by decide)
              have hw : ww G dA A s L (pw dA f pb pt pk pd t u tl (upd B kk (vp_nar .boolean 0)) (upd T kk x1.2) (upd K kk x2.2) D x2.1) H locs := by rw [if_neg q112] at hw; exact hw
              refine lv_iconst (v := 0) hx hb dX4_readStep_115 (by decide) ?_
              exact hret _ _ _ _ _ _ hw ⟨_, _, _, _, _, rfl, fun j hj => ⟨pk_un hj, pk_un hj, pk_un hj, rfl⟩, (by omega), by rw [show stepP tx tl tp = .inl x2.1 from (by rw [stepP, if_pos s40, q66]; exact (if_pos q75).trans (by rw [q103]; exact if_neg q112))]; exact ⟨rfl, rfl⟩⟩ (by decide) dX4_readStep_116
        · have q75 : ¬ nxt tx tl x1.1 = 58 := fun q => by rw [decide_eq_true q] at c75; exact absurd c75 (by decide)
          have hw : ww G dA A s L (pw dA f pb pt pk pd t u tl (upd B kk (vp_nar .boolean 0)) (upd T kk x1.2) K D x1.1) H locs := by rw [if_neg q75] at hw; exact hw
          refine lv_iconst (v := 0) hx hb dX4_readStep_78 (by decide) ?_
          exact hret _ _ _ _ _ _ hw ⟨_, _, _, _, _, rfl, fun j hj => ⟨pk_un hj, pk_un hj, rfl, rfl⟩, (by omega), by rw [show stepP tx tl tp = .inl x1.1 from (by rw [stepP, if_pos s40, q66]; exact if_neg q75)]; exact ⟨rfl, rfl⟩⟩ (by decide) dX4_readStep_79
    · have q40 : ¬ nxt tx tl tp = 119 := fun q => by rw [decide_eq_true q] at c40; exact absurd c40 (by decide)
      have hw : ww G dA A s L (pw dA f pb pt pk pd t u tl (upd B kk (vp_nar .boolean 0)) T K D tp) H locs := by rw [if_neg q40] at hw; exact hw
      refine lv_iconst (v := 0) hx hb dX4_readStep_43 (by decide) ?_
      exact hret _ _ _ _ _ _ hw ⟨_, _, _, _, _, rfl, fun j hj => ⟨pk_un hj, rfl, rfl, rfl⟩, htp, by rw [show stepP tx tl tp = .inl tp from (by rw [stepP]; exact if_neg (by rw [if_neg q11]; exact q40))]; exact ⟨rfl, rfl⟩⟩ (by decide) dX4_readStep_44
  · have q11 : nxt tx tl tp = 104 := c11
    refine lv_iconst (v := 1) hx hb dX4_readStep_14 (by decide) ?_
    refine lv_goto (tgt := 19) hx hb dX4_readStep_15 (by decide) ?_
    refine wst_z hx hb hw hLb (pw_b hnd) kk hkk (by decide) rfl dX4_readStep_19 (fun H locs hw => ?_)
    rw [pw_sb hnd] at hw
    refine lv_aload_n hx hb dX4_readStep_20 rfl (lv_at hl 1 rfl) ?_
    refine lv_aload_n hx hb dX4_readStep_21 rfl (lv_at hl 0 rfl) ?_
    refine wg (C := RX4) (T := TX4) (N := 6) hx hb hts hi4 hown hw hLl ((pw_pl hnd).trans hfl) rfl 0 (by decide) (hts (.fieldLink RX4 11 "LayerMoisture$Plan" "byHours" "[Z") (by decide +kernel)) (fun _ h9 => h9) (v := .ref pb) rfl dX4_readStep_22 ?_
    refine lv_iload_n hx hb dX4_readStep_25 rfl (lv_at hl 2 rfl) ?_
    refine wld_z hx hb hw hLb (pw_b hnd) kk hkk (by decide) rfl dX4_readStep_26 ?_
    rw [show (upd B kk (vp_nar .boolean 1)) kk = 1 from (pk_us.trans (by decide))]
    refine lv_if_eq (tgt := 35) hx hb dX4_readStep_27 (by decide) (fun c9 => absurd c9 (by decide)) (fun _ => ?_)
    refine lv_bipush (v := 104) hx hb dX4_readStep_30 (by decide) ?_
    refine lv_goto (tgt := 37) hx hb dX4_readStep_32 (by decide) ?_
    refine kV_I (C := RX5) (T := TX5) (N := 3) (As := [.int 104]) (rest := []) ⟨hx, hb, hml, hown, hts⟩ (c_X5_pass l G dA L (pw dA f pb pt pk pd t u tl (upd B kk (vp_nar .boolean 1)) T K D tp) t u tl tp tx 104 hLt pw_t hLu ((pw_u hnd).trans hfu) htl (by omega) hok) (cwV 1 hts gX4_readStep_X5_pass rfl rfl rfl (by decide +kernel) ⟨Nat.le_of_ble_eq_true rfl, Nat.le_of_ble_eq_true rfl⟩) hw hA hLt pw_t rfl rfl hl.1 rfl (Nat.le_of_ble_eq_true rfl) dX4_readStep_37 ⟨Nat.zero_le _, Nat.zero_le _⟩ (fun r15 f16 H locs hp hw => ?_)
    obtain ⟨e1, e2⟩ := hp
    rw [e2, pw_st] at hw
    rw [e1]
    refine lv_if_ne (tgt := 45) hx hb dX4_readStep_40 (by decide) (fun c40 => ?_) (fun c40 => ?_)
    · have q40 : nxt tx tl tp = 104 := by cases hq : decide (nxt tx tl tp = 104) with | true => exact of_decide_eq_true hq | false => rw [hq] at c40; exact absurd rfl c40
      have l40 := nxt_lt q40 (by decide)
      have s40 : nxt tx tl tp = (if nxt tx tl tp = 104 then 104 else 119) := by rw [if_pos q11]; exact q40
      have hw : ww G dA A s L (pw dA f pb pt pk pd t u tl (upd B kk (vp_nar .boolean 1)) T K D (tp + 1)) H locs := by rw [if_pos q40] at hw; exact hw
      refine lv_aload_n hx hb dX4_readStep_45 rfl (lv_at hl 0 rfl) ?_
      refine wg (C := RX4) (T := TX4) (N := 6) hx hb hts hi4 hown hw hLl ((pw_pl hnd).trans hfl) rfl 1 (by decide) (hts (.fieldLink RX4 15 "LayerMoisture$Plan" "times" "[I") (by decide +kernel)) (fun _ h9 => h9) (v := .ref pt) rfl dX4_readStep_46 ?_
      refine lv_iload_n hx hb dX4_readStep_49 rfl (lv_at hl 2 rfl) ?_
      refine lv_aload_n hx hb dX4_readStep_50 rfl (lv_at hl 1 rfl) ?_
      refine lv_iconst (v := 0) hx hb dX4_readStep_51 (by decide) ?_
      refine lv_sipush (v := 999) hx hb dX4_readStep_52 (by decide) ?_
      refine kV_I (C := RX5) (T := TX5) (N := 3) (As := [.int 0, .int 999]) (rest := [.int (nI kk), .ref pt]) ⟨hx, hb, hml, hown, hts⟩ (c_X5_readNumber l G dA L (pw dA f pb pt pk pd t u tl (upd B kk (vp_nar .boolean 1)) T K D (tp + 1)) t u tl (tp + 1) tx 0 999 hLt pw_t hLu ((pw_u hnd).trans hfu) htl (by omega) hok) (cwV 2 hts gX4_readStep_X5_readNumber rfl rfl rfl (by decide +kernel) ⟨Nat.le_of_ble_eq_true rfl, Nat.le_of_ble_eq_true rfl⟩) hw hA hLt pw_t rfl rfl hl.1 rfl (Nat.le_of_ble_eq_true rfl) dX4_readStep_55 ⟨Nat.zero_le _, Nat.zero_le _⟩ (fun r17 f18 H locs hp hw => ?_)
      obtain ⟨e1, e2⟩ := hp
      rw [e2, pw_st] at hw
      rw [e1]
      refine wst_i hx hb hw hLt0 (pw_tm hnd) kk hkk (by decide) rfl dX4_readStep_58 (fun H locs hw => ?_)
      rw [pw_stm hnd] at hw
      refine lv_aload_n hx hb dX4_readStep_59 rfl (lv_at hl 0 rfl) ?_
      refine wg (C := RX4) (T := TX4) (N := 6) hx hb hts hi4 hown hw hLl ((pw_pl hnd).trans hfl) rfl 1 (by decide) (hts (.fieldLink RX4 15 "LayerMoisture$Plan" "times" "[I") (by decide +kernel)) (fun _ h9 => h9) (v := .ref pt) rfl dX4_readStep_60 ?_
      refine lv_iload_n hx hb dX4_readStep_63 rfl (lv_at hl 2 rfl) ?_
      refine wld_i hx hb hw hLt0 (pw_tm hnd) kk hkk (by decide) rfl dX4_readStep_64 ?_
      rw [show (upd T kk (numV (numP tx tl (tp + 1) 0 999))) kk = numV (numP tx tl (tp + 1) 0 999) from pk_us]
      refine lv_iconst (v := (-1)) hx hb dX4_readStep_65 (by decide) ?_
      refine lv_icmp_eq (tgt := 78) hx hb dX4_readStep_66 (by decide) (fun c66 => ?_) (fun c66 => ?_)
      · have q66 : numP tx tl (tp + 1) 0 999 = none := (numV_ne (fun x hq => (numP_le (by omega) hq).2.2.1)).mp c66
        have hw : ww G dA A s L (pw dA f pb pt pk pd t u tl (upd B kk (vp_nar .boolean 1)) (upd T kk (-1)) K D (tp + 1)) H locs := by rw [q66] at hw; exact hw
        refine lv_iconst (v := 0) hx hb dX4_readStep_78 (by decide) ?_
        exact hret _ _ _ _ _ _ hw ⟨_, _, _, _, _, rfl, fun j hj => ⟨pk_un hj, pk_un hj, rfl, rfl⟩, (by omega), by rw [show stepP tx tl tp = .inl (tp + 1) from (by rw [stepP, if_pos s40, q66])]; exact ⟨rfl, rfl⟩⟩ (by decide) dX4_readStep_79
      · obtain ⟨x1, q66⟩ : ∃ x, numP tx tl (tp + 1) 0 999 = some x := by cases hq : numP tx tl (tp + 1) 0 999 with | none => rw [hq] at c66; exact absurd rfl c66 | some x => exact ⟨x, rfl⟩
        have l66 := numP_le (by omega) q66
        have hw : ww G dA A s L (pw dA f pb pt pk pd t u tl (upd B kk (vp_nar .boolean 1)) (upd T kk x1.2) K D x1.1) H locs := by rw [q66] at hw; exact hw
        refine lv_aload_n hx hb dX4_readStep_69 rfl (lv_at hl 1 rfl) ?_
        refine lv_bipush (v := 58) hx hb dX4_readStep_70 (by decide) ?_
        refine kV_I (C := RX5) (T := TX5) (N := 3) (As := [.int 58]) (rest := []) ⟨hx, hb, hml, hown, hts⟩ (c_X5_pass l G dA L (pw dA f pb pt pk pd t u tl (upd B kk (vp_nar .boolean 1)) (upd T kk x1.2) K D x1.1) t u tl x1.1 tx 58 hLt pw_t hLu ((pw_u hnd).trans hfu) htl (by omega) hok) (cwV 1 hts gX4_readStep_X5_pass rfl rfl rfl (by decide +kernel) ⟨Nat.le_of_ble_eq_true rfl, Nat.le_of_ble_eq_true rfl⟩) hw hA hLt pw_t rfl rfl hl.1 rfl (Nat.le_of_ble_eq_true rfl) dX4_readStep_72 ⟨Nat.zero_le _, Nat.zero_le _⟩ (fun r19 f20 H locs hp hw => ?_)
        obtain ⟨e1, e2⟩ := hp
        rw [e2, pw_st] at hw
        rw [e1]
        refine lv_if_ne (tgt := 80) hx hb dX4_readStep_75 (by decide) (fun c75 => ?_) (fun c75 => ?_)
        · have q75 : nxt tx tl x1.1 = 58 := by cases hq : decide (nxt tx tl x1.1 = 58) with | true => exact of_decide_eq_true hq | false => rw [hq] at c75; exact absurd rfl c75
          have l75 := nxt_lt q75 (by decide)
          have hw : ww G dA A s L (pw dA f pb pt pk pd t u tl (upd B kk (vp_nar .boolean 1)) (upd T kk x1.2) K D (x1.1 + 1)) H locs := by rw [if_pos q75] at hw; exact hw
          refine lv_aload_n hx hb dX4_readStep_80 rfl (lv_at hl 0 rfl) ?_
          refine wg (C := RX4) (T := TX4) (N := 6) hx hb hts hi4 hown hw hLl ((pw_pl hnd).trans hfl) rfl 2 (by decide) (hts (.fieldLink RX4 19 "LayerMoisture$Plan" "kelvins" "[I") (by decide +kernel)) (fun _ h9 => h9) (v := .ref pk) rfl dX4_readStep_81 ?_
          refine lv_iload_n hx hb dX4_readStep_84 rfl (lv_at hl 2 rfl) ?_
          refine lv_aload_n hx hb dX4_readStep_85 rfl (lv_at hl 1 rfl) ?_
          refine lv_sipush (v := 250) hx hb dX4_readStep_86 (by decide) ?_
          refine lv_sipush (v := 400) hx hb dX4_readStep_89 (by decide) ?_
          refine kV_I (C := RX5) (T := TX5) (N := 3) (As := [.int 250, .int 400]) (rest := [.int (nI kk), .ref pk]) ⟨hx, hb, hml, hown, hts⟩ (c_X5_readNumber l G dA L (pw dA f pb pt pk pd t u tl (upd B kk (vp_nar .boolean 1)) (upd T kk x1.2) K D (x1.1 + 1)) t u tl (x1.1 + 1) tx 250 400 hLt pw_t hLu ((pw_u hnd).trans hfu) htl (by omega) hok) (cwV 2 hts gX4_readStep_X5_readNumber rfl rfl rfl (by decide +kernel) ⟨Nat.le_of_ble_eq_true rfl, Nat.le_of_ble_eq_true rfl⟩) hw hA hLt pw_t rfl rfl hl.1 rfl (Nat.le_of_ble_eq_true rfl) dX4_readStep_92 ⟨Nat.zero_le _, Nat.zero_le _⟩ (fun r21 f22 H locs hp hw => ?_)
          obtain ⟨e1, e2⟩ := hp
          rw [e2, pw_st] at hw
          rw [e1]
          refine wst_i hx hb hw hLk (pw_k hnd) kk hkk (by decide) rfl dX4_readStep_95 (fun H locs hw => ?_)
          rw [pw_sk hnd] at hw
          refine lv_aload_n hx hb dX4_readStep_96 rfl (lv_at hl 0 rfl) ?_
          refine wg (C := RX4) (T := TX4) (N := 6) hx hb hts hi4 hown hw hLl ((pw_pl hnd).trans hfl) rfl 2 (by decide) (hts (.fieldLink RX4 19 "LayerMoisture$Plan" "kelvins" "[I") (by decide +kernel)) (fun _ h9 => h9) (v := .ref pk) rfl dX4_readStep_97 ?_
          refine lv_iload_n hx hb dX4_readStep_100 rfl (lv_at hl 2 rfl) ?_
          refine wld_i hx hb hw hLk (pw_k hnd) kk hkk (by decide) rfl dX4_readStep_101 ?_
          rw [show (upd K kk (numV (numP tx tl (x1.1 + 1) 250 400))) kk = numV (numP tx tl (x1.1 + 1) 250 400) from pk_us]
          refine lv_iconst (v := (-1)) hx hb dX4_readStep_102 (by decide) ?_
          refine lv_icmp_eq (tgt := 115) hx hb dX4_readStep_103 (by decide) (fun c103 => ?_) (fun c103 => ?_)
          · have q103 : numP tx tl (x1.1 + 1) 250 400 = none := (numV_ne (fun x hq => fun h7 => (numP_le (by omega) hq).2.2.1 (Int32.lt_trans h7 (by decide)))).mp c103
            have hw : ww G dA A s L (pw dA f pb pt pk pd t u tl (upd B kk (vp_nar .boolean 1)) (upd T kk x1.2) (upd K kk (-1)) D (x1.1 + 1)) H locs := by rw [q103] at hw; exact hw
            refine lv_iconst (v := 0) hx hb dX4_readStep_115 (by decide) ?_
            exact hret _ _ _ _ _ _ hw ⟨_, _, _, _, _, rfl, fun j hj => ⟨pk_un hj, pk_un hj, pk_un hj, rfl⟩, (by omega), by rw [show stepP tx tl tp = .inl (x1.1 + 1) from (by rw [stepP, if_pos s40, q66]; exact (if_pos q75).trans (by rw [q103]))]; exact ⟨rfl, rfl⟩⟩ (by decide) dX4_readStep_116
          · obtain ⟨x2, q103⟩ : ∃ x, numP tx tl (x1.1 + 1) 250 400 = some x := by cases hq : numP tx tl (x1.1 + 1) 250 400 with | none => rw [hq] at c103; exact absurd rfl c103 | some x => exact ⟨x, rfl⟩
            have l103 := numP_le (by omega) q103
            have hw : ww G dA A s L (pw dA f pb pt pk pd t u tl (upd B kk (vp_nar .boolean 1)) (upd T kk x1.2) (upd K kk x2.2) D x2.1) H locs := by rw [q103] at hw; exact hw
            refine lv_aload_n hx hb dX4_readStep_106 rfl (lv_at hl 1 rfl) ?_
            refine lv_bipush (v := 44) hx hb dX4_readStep_107 (by decide) ?_
            refine kV_I (C := RX5) (T := TX5) (N := 3) (As := [.int 44]) (rest := []) ⟨hx, hb, hml, hown, hts⟩ (c_X5_pass l G dA L (pw dA f pb pt pk pd t u tl (upd B kk (vp_nar .boolean 1)) (upd T kk x1.2) (upd K kk x2.2) D x2.1) t u tl x2.1 tx 44 hLt pw_t hLu ((pw_u hnd).trans hfu) htl (by omega) hok) (cwV 1 hts gX4_readStep_X5_pass rfl rfl rfl (by decide +kernel) ⟨Nat.le_of_ble_eq_true rfl, Nat.le_of_ble_eq_true rfl⟩) hw hA hLt pw_t rfl rfl hl.1 rfl (Nat.le_of_ble_eq_true rfl) dX4_readStep_109 ⟨Nat.zero_le _, Nat.zero_le _⟩ (fun r23 f24 H locs hp hw => ?_)
            obtain ⟨e1, e2⟩ := hp
            rw [e2, pw_st] at hw
            rw [e1]
            refine lv_if_ne (tgt := 117) hx hb dX4_readStep_112 (by decide) (fun c112 => ?_) (fun c112 => ?_)
            · have q112 : nxt tx tl x2.1 = 44 := by cases hq : decide (nxt tx tl x2.1 = 44) with | true => exact of_decide_eq_true hq | false => rw [hq] at c112; exact absurd rfl c112
              have l112 := nxt_lt q112 (by decide)
              have hw : ww G dA A s L (pw dA f pb pt pk pd t u tl (upd B kk (vp_nar .boolean 1)) (upd T kk x1.2) (upd K kk x2.2) D (x2.1 + 1)) H locs := by rw [if_pos q112] at hw; exact hw
              refine lv_aload_n hx hb dX4_readStep_117 rfl (lv_at hl 0 rfl) ?_
              refine wg (C := RX4) (T := TX4) (N := 6) hx hb hts hi4 hown hw hLl ((pw_pl hnd).trans hfl) rfl 3 (by decide) (hts (.fieldLink RX4 22 "LayerMoisture$Plan" "damps" "[I") (by decide +kernel)) (fun _ h9 => h9) (v := .ref pd) rfl dX4_readStep_118 ?_
              refine lv_iload_n hx hb dX4_readStep_121 rfl (lv_at hl 2 rfl) ?_
              refine lv_aload_n hx hb dX4_readStep_122 rfl (lv_at hl 1 rfl) ?_
              refine lv_iconst (v := 0) hx hb dX4_readStep_123 (by decide) ?_
              refine lv_bipush (v := 100) hx hb dX4_readStep_124 (by decide) ?_
              refine kV_I (C := RX5) (T := TX5) (N := 3) (As := [.int 0, .int 100]) (rest := [.int (nI kk), .ref pd]) ⟨hx, hb, hml, hown, hts⟩ (c_X5_readNumber l G dA L (pw dA f pb pt pk pd t u tl (upd B kk (vp_nar .boolean 1)) (upd T kk x1.2) (upd K kk x2.2) D (x2.1 + 1)) t u tl (x2.1 + 1) tx 0 100 hLt pw_t hLu ((pw_u hnd).trans hfu) htl (by omega) hok) (cwV 2 hts gX4_readStep_X5_readNumber rfl rfl rfl (by decide +kernel) ⟨Nat.le_of_ble_eq_true rfl, Nat.le_of_ble_eq_true rfl⟩) hw hA hLt pw_t rfl rfl hl.1 rfl (Nat.le_of_ble_eq_true rfl) dX4_readStep_126 ⟨Nat.zero_le _, Nat.zero_le _⟩ (fun r25 f26 H locs hp hw => ?_)
              obtain ⟨e1, e2⟩ := hp
              rw [e2, pw_st] at hw
              rw [e1]
              refine wst_i hx hb hw hLd (pw_d hnd) kk hkk (by decide) rfl dX4_readStep_129 (fun H locs hw => ?_)
              rw [pw_sd hnd] at hw
              refine lv_aload_n hx hb dX4_readStep_130 rfl (lv_at hl 0 rfl) ?_
              refine wg (C := RX4) (T := TX4) (N := 6) hx hb hts hi4 hown hw hLl ((pw_pl hnd).trans hfl) rfl 3 (by decide) (hts (.fieldLink RX4 22 "LayerMoisture$Plan" "damps" "[I") (by decide +kernel)) (fun _ h9 => h9) (v := .ref pd) rfl dX4_readStep_131 ?_
              refine lv_iload_n hx hb dX4_readStep_134 rfl (lv_at hl 2 rfl) ?_
              refine wld_i hx hb hw hLd (pw_d hnd) kk hkk (by decide) rfl dX4_readStep_135 ?_
              rw [show (upd D kk (numV (numP tx tl (x2.1 + 1) 0 100))) kk = numV (numP tx tl (x2.1 + 1) 0 100) from pk_us]
              refine lv_iconst (v := (-1)) hx hb dX4_readStep_136 (by decide) ?_
              refine lv_icmp_eq (tgt := 144) hx hb dX4_readStep_137 (by decide) (fun c137 => ?_) (fun c137 => ?_)
              · have q137 : numP tx tl (x2.1 + 1) 0 100 = none := (numV_ne (fun x hq => (numP_le (by omega) hq).2.2.1)).mp c137
                have hw : ww G dA A s L (pw dA f pb pt pk pd t u tl (upd B kk (vp_nar .boolean 1)) (upd T kk x1.2) (upd K kk x2.2) (upd D kk (-1)) (x2.1 + 1)) H locs := by rw [q137] at hw; exact hw
                refine lv_iconst (v := 0) hx hb dX4_readStep_144 (by decide) ?_
                exact hret _ _ _ _ _ _ hw ⟨_, _, _, _, _, rfl, fun j hj => ⟨pk_un hj, pk_un hj, pk_un hj, pk_un hj⟩, (by omega), by rw [show stepP tx tl tp = .inl (x2.1 + 1) from (by rw [stepP, if_pos s40, q66]; exact (if_pos q75).trans (by rw [q103]; exact (if_pos q112).trans (by rw [q137])))]; exact ⟨rfl, rfl⟩⟩ (by decide) dX4_readStep_145
              · obtain ⟨x3, q137⟩ : ∃ x, numP tx tl (x2.1 + 1) 0 100 = some x := by cases hq : numP tx tl (x2.1 + 1) 0 100 with | none => rw [hq] at c137; exact absurd rfl c137 | some x => exact ⟨x, rfl⟩
                have l137 := numP_le (by omega) q137
                have hw : ww G dA A s L (pw dA f pb pt pk pd t u tl (upd B kk (vp_nar .boolean 1)) (upd T kk x1.2) (upd K kk x2.2) (upd D kk x3.2) x3.1) H locs := by rw [q137] at hw; exact hw
                refine lv_iconst (v := 1) hx hb dX4_readStep_140 (by decide) ?_
                refine lv_goto (tgt := 145) hx hb dX4_readStep_141 (by decide) ?_
                exact hret _ _ _ _ _ _ hw ⟨_, _, _, _, _, rfl, fun j hj => ⟨pk_un hj, pk_un hj, pk_un hj, pk_un hj⟩, (by omega), by rw [show stepP tx tl tp = .inr (x3.1, decide (nxt tx tl tp = 104), x1.2, x2.2, x3.2) from (by rw [stepP, if_pos s40, q66]; exact (if_pos q75).trans (by rw [q103]; exact (if_pos q112).trans (by rw [q137])))]; exact ⟨rfl, rfl, pk_us.trans (by rw [decide_eq_true q11]; rfl), pk_us, pk_us, pk_us⟩⟩ (by decide) dX4_readStep_145
            · have q112 : ¬ nxt tx tl x2.1 = 44 := fun q => by rw [decide_eq_true q] at c112; exact absurd c112 (by decide)
              have hw : ww G dA A s L (pw dA f pb pt pk pd t u tl (upd B kk (vp_nar .boolean 1)) (upd T kk x1.2) (upd K kk x2.2) D x2.1) H locs := by rw [if_neg q112] at hw; exact hw
              refine lv_iconst (v := 0) hx hb dX4_readStep_115 (by decide) ?_
              exact hret _ _ _ _ _ _ hw ⟨_, _, _, _, _, rfl, fun j hj => ⟨pk_un hj, pk_un hj, pk_un hj, rfl⟩, (by omega), by rw [show stepP tx tl tp = .inl x2.1 from (by rw [stepP, if_pos s40, q66]; exact (if_pos q75).trans (by rw [q103]; exact if_neg q112))]; exact ⟨rfl, rfl⟩⟩ (by decide) dX4_readStep_116
        · have q75 : ¬ nxt tx tl x1.1 = 58 := fun q => by rw [decide_eq_true q] at c75; exact absurd c75 (by decide)
          have hw : ww G dA A s L (pw dA f pb pt pk pd t u tl (upd B kk (vp_nar .boolean 1)) (upd T kk x1.2) K D x1.1) H locs := by rw [if_neg q75] at hw; exact hw
          refine lv_iconst (v := 0) hx hb dX4_readStep_78 (by decide) ?_
          exact hret _ _ _ _ _ _ hw ⟨_, _, _, _, _, rfl, fun j hj => ⟨pk_un hj, pk_un hj, rfl, rfl⟩, (by omega), by rw [show stepP tx tl tp = .inl x1.1 from (by rw [stepP, if_pos s40, q66]; exact if_neg q75)]; exact ⟨rfl, rfl⟩⟩ (by decide) dX4_readStep_79
    · have q40 : ¬ nxt tx tl tp = 104 := fun q => by rw [decide_eq_true q] at c40; exact absurd c40 (by decide)
      have hw : ww G dA A s L (pw dA f pb pt pk pd t u tl (upd B kk (vp_nar .boolean 1)) T K D tp) H locs := by rw [if_neg q40] at hw; exact hw
      refine lv_iconst (v := 0) hx hb dX4_readStep_43 (by decide) ?_
      exact hret _ _ _ _ _ _ hw ⟨_, _, _, _, _, rfl, fun j hj => ⟨pk_un hj, rfl, rfl, rfl⟩, htp, by rw [show stepP tx tl tp = .inl tp from (by rw [stepP]; exact if_neg (by rw [if_pos q11]; exact q40))]; exact ⟨rfl, rfl⟩⟩ (by decide) dX4_readStep_44
