set_option maxHeartbeats 4000000 in
set_option maxRecDepth 100000 in
theorem c_X6_passHour (l : Launch) (G : va_G) (dA : Nat → ClassId) (L : List Nat) (f : Nat → va_E) (ad : Nat → Nat) (nl nb : Nat) (q qk : Nat → Option Nat) (ai : sA) (le : sL) (bd : Nat → sB) (wt : Nat → Nat → UInt64) (kk : Nat → UInt64 × UInt64) (tt : sT) (pn : sP) (hr : Nat) (f0 : Nat → va_E)   (hC : Cx ad L (nl + 1) nb q qk) (hR : RC ad dA (nl + 1) nb q qk ai le bd wt kk tt pn hr f0 f) (K : Nat) (hK : KOk K) (hB : GB (nl + 1) nb K bd wt) (hK2 : KOk (K + 2)) (hP : GP pn) (hk4 : GK kk) (hGA : GAs ai) (hLe : Ab (2 ^ 1074) le.1) (hrf : ∀ j, j < nb → rfP bd wt kk ai.2.2.1 (nl + 1) j = false)  : mV l yX6_passHour wsX6_passHour ({ frames := 4, cells := 0, slots := 0, locals := 94 }) G dA [.ref (ad 0)] L f (fun f2 => RC ad dA (nl + 1) nb q qk (hourS nl nb kk (ai, le, bd, wt, pn, hr)).1 (hourS nl nb kk (ai, le, bd, wt, pn, hr)).2.1 (hourS nl nb kk (ai, le, bd, wt, pn, hr)).2.2.1 (hourS nl nb kk (ai, le, bd, wt, pn, hr)).2.2.2.1 kk tt (hourS nl nb kk (ai, le, bd, wt, pn, hr)).2.2.2.2.1 (hourS nl nb kk (ai, le, bd, wt, pn, hr)).2.2.2.2.2 f0 f2) := by
  refine mV_of (cc := cX6_passHour) (maxL := 4) (by decide) rfl (Nat.le_of_ble_eq_true rfl) ?_
  intro p e s m below meth c A ls Q hx hb hml hown hts hlocks hA hin0 hw hl hret
  have hown : s.vm.findClass RX6 = some m.cls := hown
  have hl : lv_has ls 4 [(0, .ref (ad 0))] := hl
  have hi0 : ∀ w ∈ u_ws RX0 TX0 4, w ∈ wsX6_passHour := by decide +kernel
  have hi1 : ∀ w ∈ u_ws RX1 TX1 7, w ∈ wsX6_passHour := by decide +kernel
  have hi6 : ∀ w ∈ u_ws RX6 TX6 8, w ∈ wsX6_passHour := by decide +kernel
  refine lv_aload_n hx hb dX6_passHour_0 rfl (lv_at hl 0 rfl) ?_
  refine kV_V (C := RX6) (T := TX6) (N := 8) (As := []) (rest := []) ⟨hx, hb, hml, hown, hts⟩ (c_X6_followPlan l G dA L f ad (nl + 1) nb q qk ai le bd wt kk tt pn hr f0 hC hR K hK hB hP) (cwV 0 hts gX6_passHour_X6_followPlan rfl rfl rfl (by decide +kernel) ⟨Nat.le_of_ble_eq_true rfl, Nat.le_of_ble_eq_true rfl⟩) hw hA (hC.m (by decide)) hR.x rfl rfl hl.1 rfl (Nat.le_of_ble_eq_true rfl) dX6_passHour_1 ⟨Nat.zero_le _, Nat.zero_le _⟩ (fun f1 H locs hp hw => ?_)
  obtain ⟨X, eX⟩ : ∃ z : sH, z = ((flS (nl + 1) nb ai bd wt pn hr).1, le, wt) := ⟨_, rfl⟩
  obtain ⟨fp, ep⟩ : ∃ z : sP, z = (flS (nl + 1) nb ai bd wt pn hr).2 := ⟨_, rfl⟩
  obtain ⟨u1, u2, u3⟩ := g_fl (n := (nl + 1)) (nb := nb) (hr := hr) (bd := bd) (wt := wt) hGA hP
  have hI : ∀ i, i ≤ nb → HI nl nb K bd wt X.1 i (hTo nl bd kk X i) := by rw [eX]; exact HI.to hK hB hk4 u1 hLe (by rw [u3]; exact hrf)
  have hrf2 : ∀ j, j < nb → rfP bd wt kk X.1.2.2.1 (nl + 1) j = false := by rw [eX]; rw [u3]; exact hrf
  have hR1 : RC ad dA (nl + 1) nb q qk X.1 X.2.1 bd X.2.2 kk tt fp hr f0 f1 := by rw [eX, ep]; exact hp
  refine lv_iconst (v := 0) hx hb dX6_passHour_4 (by decide) ?_
  refine lv_istore_n (lv' := [(1, .int 0), (0, .ref (ad 0))]) hx hb dX6_passHour_5 rfl hl (by decide) rfl (fun ls hl => ?_)
  have loop : ∀ (kf i : Nat), i + kf = nb → ∀ (Y : sH), Y = hTo nl bd kk X i → ∀ (fa : Nat → va_E) (H : Heap) (locs : List Loc), RC ad dA (nl + 1) nb q qk Y.1 Y.2.1 bd Y.2.2 kk tt fp hr f0 fa → ww G dA A s L fa H locs → ∀ (ls : Array Slot), lv_has ls 4 [(0, .ref (ad 0)), (1, .int (nI i))] → W p l e ({ frames := 4, cells := 0, slots := 0, locals := 94 } : Room) s m ([.ref (ad 0)] : List Value).toArray below meth c H locs 0 0 Q (F0 m 6 ls []) := by
    intro kf
    induction kf with
    | zero =>
      intro i hik Y eY fa H locs hR2 hw ls hl
      rw [show i = nb by omega] at hl eY
      have hIn := hI nb (Nat.le_refl nb)
      rw [← eY] at hIn
      refine lv_iload_n hx hb dX6_passHour_6 rfl (lv_at hl 1 rfl) ?_
      refine lv_aload_n hx hb dX6_passHour_7 rfl (lv_at hl 0 rfl) ?_
      refine wg (C := RX6) (T := TX6) (N := 8) hx hb hts hi6 hown hw (hC.m (by decide)) hR2.x rfl 1 (by decide) (hts (.fieldLink RX6 31 "LayerMoisture" "boards" "[LLayerMoisture$Board;") (by decide +kernel)) (fun _ h9 => h9) (v := .ref (ad 1)) rfl dX6_passHour_8 ?_
      refine wlen hx hb 5 hw (hC.m (by decide)) hR2.bs rfl dX6_passHour_11 ?_
      refine lv_icmp_ge (tgt := 73) hx hb dX6_passHour_12 (by decide) (fun _ => ?_) (fun c9 => absurd (nI_le (Nat.le_refl _) hC.nb31) c9)
      refine lv_aload_n hx hb dX6_passHour_73 rfl (lv_at hl 0 rfl) ?_
      refine lv_dup hx hb dX6_passHour_74 rfl ?_
      refine wg (C := RX6) (T := TX6) (N := 8) hx hb hts hi6 hown hw (hC.m (by decide)) hR2.x rfl 7 (by decide) (hts (.fieldLink RX6 142 "LayerMoisture" "hoursPassed" "I") (by decide +kernel)) (fun _ h9 => h9) (v := .int (nI hr)) rfl dX6_passHour_75 ?_
      refine lv_iconst (v := 1) hx hb dX6_passHour_78 (by decide) ?_
      refine lv_iadd hx hb dX6_passHour_79 ?_
      rw [show (nI hr) + 1 = nI (hr + 1) from nI_1 hr]
      refine wp_ (C := RX6) (T := TX6) (N := 8) hx hb hts hi6 tyX6 tyX6_ok nmX6 hown hw (hC.m (by decide)) hR2.x rfl 7 (by decide) (hts (.fieldLink RX6 142 "LayerMoisture" "hoursPassed" "I") (by decide +kernel)) (fun _ h9 => h9) rfl (ty := .int) (v := .int (nI (hr + 1))) (by decide +kernel) rfl rfl (Nat.le_of_ble_eq_true rfl) dX6_passHour_80 (fun H locs hw => ?_)
      obtain ⟨f3, ef3⟩ : ∃ z : Nat → va_E, z = va_up fa (ad 0) (.inr (7, [.int (nI (nl + 1)), .ref (ad 1), .ref (ad 2), .ref (ad 3), .ref (ad 4), .ref (ad 5), .ref (ad 7), .int (nI (hr + 1))])) := ⟨_, rfl⟩
      have hw : ww G dA A s L f3 H locs := by rw [ef3]; exact hw
      have hR4 : RC ad dA (nl + 1) nb q qk Y.1 Y.2.1 bd Y.2.2 kk tt fp ((hr + 1)) f0 f3 := by rw [ef3]; exact hR2.sHr hC _
      refine lv_iconst (v := 0) hx hb dX6_passHour_83 (by decide) ?_
      refine lv_istore_n (lv' := [(1, .int 0), (0, .ref (ad 0))]) hx hb dX6_passHour_84 rfl hl (by decide) rfl (fun ls hl => ?_)
      have loop2 : ∀ (kf i : Nat), i + kf = nb → ∀ (fa : Nat → va_E) (H : Heap) (locs : List Loc), RC ad dA (nl + 1) nb q qk Y.1 Y.2.1 (kpTo (nl + 1) Y.2.2 (nI (hr + 1)) bd i) Y.2.2 kk tt fp (hr + 1) f0 fa → ww G dA A s L fa H locs → ∀ (ls : Array Slot), lv_has ls 4 [(0, .ref (ad 0)), (1, .int (nI i))] → W p l e ({ frames := 4, cells := 0, slots := 0, locals := 94 } : Room) s m ([.ref (ad 0)] : List Value).toArray below meth c H locs 0 0 Q (F0 m 85 ls []) := by
        intro kf
        induction kf with
        | zero =>
          intro i hik fa H locs hR5 hw ls hl
          rw [show i = nb by omega] at hl hR5
          refine lv_iload_n hx hb dX6_passHour_85 rfl (lv_at hl 1 rfl) ?_
          refine lv_aload_n hx hb dX6_passHour_86 rfl (lv_at hl 0 rfl) ?_
          refine wg (C := RX6) (T := TX6) (N := 8) hx hb hts hi6 hown hw (hC.m (by decide)) hR5.x rfl 1 (by decide) (hts (.fieldLink RX6 31 "LayerMoisture" "boards" "[LLayerMoisture$Board;") (by decide +kernel)) (fun _ h9 => h9) (v := .ref (ad 1)) rfl dX6_passHour_87 ?_
          refine wlen hx hb 5 hw (hC.m (by decide)) hR5.bs rfl dX6_passHour_90 ?_
          refine lv_icmp_ge (tgt := 125) hx hb dX6_passHour_91 (by decide) (fun _ => ?_) (fun c9 => absurd (nI_le (Nat.le_refl _) hC.nb31) c9)
          exact hret _ _ _ _ _ hw (by subst eY; subst eX; subst ep; exact hR5) dX6_passHour_125
        | succ kf ih =>
          intro i hik fa H locs hR5 hw ls hl
          have hlt : i < nb := by omega
          have ek := kpTo_ge (nl + 1) Y.2.2 (nI (hr + 1)) bd i i (Nat.le_refl i)
          have hbr : fa (ad (34 + 2 * i)) = .inr (2, [.ref (ad (35 + 2 * i)), .ref (ad (12 + (bd i).2.2.2.2.2)), .int (bd i).1, .double (bd i).2.1, .int (bd i).2.2.1, .double (bd i).2.2.2.1, .int (bd i).2.2.2.2.1]) := by rw [hR5.brd hlt, ek]
          refine lv_iload_n hx hb dX6_passHour_85 rfl (lv_at hl 1 rfl) ?_
          refine lv_aload_n hx hb dX6_passHour_86 rfl (lv_at hl 0 rfl) ?_
          refine wg (C := RX6) (T := TX6) (N := 8) hx hb hts hi6 hown hw (hC.m (by decide)) hR5.x rfl 1 (by decide) (hts (.fieldLink RX6 31 "LayerMoisture" "boards" "[LLayerMoisture$Board;") (by decide +kernel)) (fun _ h9 => h9) (v := .ref (ad 1)) rfl dX6_passHour_87 ?_
          refine wlen hx hb 5 hw (hC.m (by decide)) hR5.bs rfl dX6_passHour_90 ?_
          refine lv_icmp_ge (tgt := 125) hx hb dX6_passHour_91 (by decide) (fun c9 => absurd c9 (nI_ge hlt hC.nb31)) (fun _ => ?_)
          refine lv_aload_n hx hb dX6_passHour_94 rfl (lv_at hl 0 rfl) ?_
          refine wg (C := RX6) (T := TX6) (N := 8) hx hb hts hi6 hown hw (hC.m (by decide)) hR5.x rfl 1 (by decide) (hts (.fieldLink RX6 31 "LayerMoisture" "boards" "[LLayerMoisture$Board;") (by decide +kernel)) (fun _ h9 => h9) (v := .ref (ad 1)) rfl dX6_passHour_95 ?_
          refine lv_iload_n hx hb dX6_passHour_98 rfl (lv_at hl 1 rfl) ?_
          refine wld_q5 hx hb hw (hC.m (by decide)) hR5.bs i hlt hC.nb31 rfl dX6_passHour_99 (hC.2.2.2.2.1 i hlt) ?_
          refine wg (C := RX1) (T := TX1) (N := 7) hx hb hts hi1 hown hw (hC.mb hlt) hbr rfl 2 (by decide) (hts (.fieldLink RX6 201 "LayerMoisture$Board" "there" "Z") (by decide +kernel)) (fun _ h9 => h9) (v := .int ((bd i).1)) rfl dX6_passHour_100 ?_
          refine lv_if_eq (tgt := 119) hx hb dX6_passHour_103 (by decide) (fun c103 => ?_) (fun c103 => ?_)
          · refine lv_iinc (v := nI (i + 1)) (lv' := [(1, .int (nI (i + 1))), (0, .ref (ad 0))]) hx hb dX6_passHour_119 hl (k := 1) rfl (nI_1 i) (by decide) rfl (fun ls hl => ?_)
            refine lv_goto (tgt := 85) hx hb dX6_passHour_122 (by decide) ?_
            exact ih (i + 1) (by omega) _ _ _ (by rw [kpTo, kpB, if_pos c103, up_id ek]; exact hR5) hw ls (lv_sub hl [1, 0] rfl)
          · have hgw := (hIn.2.2.2.2 i hlt c103).np hK2
            refine lv_aload_n hx hb dX6_passHour_106 rfl (lv_at hl 0 rfl) ?_
            refine wg (C := RX6) (T := TX6) (N := 8) hx hb hts hi6 hown hw (hC.m (by decide)) hR5.x rfl 1 (by decide) (hts (.fieldLink RX6 31 "LayerMoisture" "boards" "[LLayerMoisture$Board;") (by decide +kernel)) (fun _ h9 => h9) (v := .ref (ad 1)) rfl dX6_passHour_107 ?_
            refine lv_iload_n hx hb dX6_passHour_110 rfl (lv_at hl 1 rfl) ?_
            refine wld_q5 hx hb hw (hC.m (by decide)) hR5.bs i hlt hC.nb31 rfl dX6_passHour_111 (hC.2.2.2.2.1 i hlt) ?_
            refine lv_aload_n hx hb dX6_passHour_112 rfl (lv_at hl 0 rfl) ?_
            refine wg (C := RX6) (T := TX6) (N := 8) hx hb hts hi6 hown hw (hC.m (by decide)) hR5.x rfl 7 (by decide) (hts (.fieldLink RX6 142 "LayerMoisture" "hoursPassed" "I") (by decide +kernel)) (fun _ h9 => h9) (v := .int (nI (hr + 1))) rfl dX6_passHour_113 ?_
            refine kV_V (C := RX1) (T := TX1) (N := 7) (As := [.int (nI (hr + 1))]) (rest := []) ⟨hx, hb, hml, hown, hts⟩ (d_watch l G dA L fa (ad (34 + 2 * i)) (ad (35 + 2 * i)) (ad (12 + (bd i).2.2.2.2.2)) (bd i).1 (bd i).2.2.1 (bd i).2.2.2.2.1 (bd i).2.1 (bd i).2.2.2.1 (nl + 1) (Y.2.2 i) (nI (hr + 1)) (hC.mb hlt) hbr (hC.mw hlt) (hR5.wet hlt) hC.2.2.1.1 hC.2.2.1.2 hgw) (cwV 1 hts gX6_passHour_X1_watchLoad rfl rfl rfl (by decide +kernel) ⟨Nat.le_of_ble_eq_true rfl, Nat.le_of_ble_eq_true rfl⟩) hw hA (hC.mb hlt) hbr rfl rfl hl.1 rfl (Nat.le_of_ble_eq_true rfl) dX6_passHour_116 ⟨Nat.zero_le _, Nat.zero_le _⟩ (fun f5 H locs hp hw => ?_)
            have ekp : kpB (nl + 1) Y.2.2 (nI (hr + 1)) i (bd i) = ((bd i).1, (bd i).2.1, (bd i).2.2.1, (bd i).2.2.2.1, sp_keep (bd i).2.2.1 (bd i).2.2.2.2.1 (sp_load (Y.2.2 i) (nl + 1)) (bd i).2.2.2.1 (nI (hr + 1)), (bd i).2.2.2.2.2) := if_neg c103
            have hR7 : RC ad dA (nl + 1) nb q qk Y.1 Y.2.1 (kpTo (nl + 1) Y.2.2 (nI (hr + 1)) bd (i + 1)) Y.2.2 kk tt fp (hr + 1) f0 f5 := by rw [hp, kpTo, ekp]; exact hR5.sBrd hC hlt _
            refine lv_iinc (v := nI (i + 1)) (lv' := [(1, .int (nI (i + 1))), (0, .ref (ad 0))]) hx hb dX6_passHour_119 hl (k := 1) rfl (nI_1 i) (by decide) rfl (fun ls hl => ?_)
            refine lv_goto (tgt := 85) hx hb dX6_passHour_122 (by decide) ?_
            exact ih (i + 1) (by omega) _ _ _ hR7 hw ls (lv_sub hl [1, 0] rfl)
      exact loop2 nb 0 (by omega) _ _ _ hR4 hw ls (lv_sub hl [1, 0] rfl)
    | succ kf ih =>
      intro i hik Y eY fa H locs hR2 hw ls hl
      have hlt : i < nb := by omega
      have hIi := hI i (by omega)
      rw [← eY] at hIi
      have hst := (hIi.step hK hB hk4 hrf2 hlt).2
      refine lv_iload_n hx hb dX6_passHour_6 rfl (lv_at hl 1 rfl) ?_
      refine lv_aload_n hx hb dX6_passHour_7 rfl (lv_at hl 0 rfl) ?_
      refine wg (C := RX6) (T := TX6) (N := 8) hx hb hts hi6 hown hw (hC.m (by decide)) hR2.x rfl 1 (by decide) (hts (.fieldLink RX6 31 "LayerMoisture" "boards" "[LLayerMoisture$Board;") (by decide +kernel)) (fun _ h9 => h9) (v := .ref (ad 1)) rfl dX6_passHour_8 ?_
      refine wlen hx hb 5 hw (hC.m (by decide)) hR2.bs rfl dX6_passHour_11 ?_
      refine lv_icmp_ge (tgt := 73) hx hb dX6_passHour_12 (by decide) (fun c9 => absurd c9 (nI_ge hlt hC.nb31)) (fun _ => ?_)
      refine lv_aload_n hx hb dX6_passHour_15 rfl (lv_at hl 0 rfl) ?_
      refine wg (C := RX6) (T := TX6) (N := 8) hx hb hts hi6 hown hw (hC.m (by decide)) hR2.x rfl 1 (by decide) (hts (.fieldLink RX6 31 "LayerMoisture" "boards" "[LLayerMoisture$Board;") (by decide +kernel)) (fun _ h9 => h9) (v := .ref (ad 1)) rfl dX6_passHour_16 ?_
      refine lv_iload_n hx hb dX6_passHour_19 rfl (lv_at hl 1 rfl) ?_
      refine wld_q5 hx hb hw (hC.m (by decide)) hR2.bs i hlt hC.nb31 rfl dX6_passHour_20 (hC.2.2.2.2.1 i hlt) ?_
      refine wg (C := RX1) (T := TX1) (N := 7) hx hb hts hi1 hown hw (hC.mb hlt) (hR2.brd hlt) rfl 2 (by decide) (hts (.fieldLink RX6 201 "LayerMoisture$Board" "there" "Z") (by decide +kernel)) (fun _ h9 => h9) (v := .int ((bd i).1)) rfl dX6_passHour_21 ?_
      refine lv_if_eq (tgt := 67) hx hb dX6_passHour_24 (by decide) (fun c24 => ?_) (fun c24 => ?_)
      · refine lv_iinc (v := nI (i + 1)) (lv' := [(1, .int (nI (i + 1))), (0, .ref (ad 0))]) hx hb dX6_passHour_67 hl (k := 1) rfl (nI_1 i) (by decide) rfl (fun ls hl => ?_)
        refine lv_goto (tgt := 6) hx hb dX6_passHour_70 (by decide) ?_
        exact ih (i + 1) (by omega) Y (by rw [hTo, ← eY, hSt, if_pos c24]) _ _ _ hR2 hw ls (lv_sub hl [1, 0] rfl)
      · obtain ⟨v1, v2, v3, v4⟩ := hst c24
        have hk := hk4 _ (hB i hlt).1
        refine lv_aload_n hx hb dX6_passHour_27 rfl (lv_at hl 0 rfl) ?_
        refine wg (C := RX6) (T := TX6) (N := 8) hx hb hts hi6 hown hw (hC.m (by decide)) hR2.x rfl 1 (by decide) (hts (.fieldLink RX6 31 "LayerMoisture" "boards" "[LLayerMoisture$Board;") (by decide +kernel)) (fun _ h9 => h9) (v := .ref (ad 1)) rfl dX6_passHour_28 ?_
        refine lv_iload_n hx hb dX6_passHour_31 rfl (lv_at hl 1 rfl) ?_
        refine wld_q5 hx hb hw (hC.m (by decide)) hR2.bs i hlt hC.nb31 rfl dX6_passHour_32 (hC.2.2.2.2.1 i hlt) ?_
        refine lv_aload_n hx hb dX6_passHour_33 rfl (lv_at hl 0 rfl) ?_
        refine wg (C := RX6) (T := TX6) (N := 8) hx hb hts hi6 hown hw (hC.m (by decide)) hR2.x rfl 3 (by decide) (hts (.fieldLink RX6 41 "LayerMoisture" "state" "LLayerMoisture$Air;") (by decide +kernel)) (fun _ h9 => h9) (v := .ref (ad 3)) rfl dX6_passHour_34 ?_
        refine wg (C := RX0) (T := TX0) (N := 4) hx hb hts hi0 hown hw (hC.m (by decide)) hR2.air rfl 2 (by decide) (hts (.fieldLink RX6 105 "LayerMoisture$Air" "speed" "D") (by decide +kernel)) (fun _ h9 => h9) (v := .double ((Y.1).2.2.1)) rfl dX6_passHour_37 ?_
        refine lv_aload_n hx hb dX6_passHour_40 rfl (lv_at hl 0 rfl) ?_
        refine wg (C := RX6) (T := TX6) (N := 8) hx hb hts hi6 hown hw (hC.m (by decide)) hR2.x rfl 3 (by decide) (hts (.fieldLink RX6 41 "LayerMoisture" "state" "LLayerMoisture$Air;") (by decide +kernel)) (fun _ h9 => h9) (v := .ref (ad 3)) rfl dX6_passHour_41 ?_
        refine kV_D (C := RX0) (T := TX0) (N := 4) (As := []) (rest := [.double ((Y.1).2.2.1), .ref (ad (34 + 2 * i))]) ⟨hx, hb, hml, hown, hts⟩ (d_bal l G dA L fa (ad 3) Y.1 (hC.m (by decide)) hR2.air hIi.1) (cwV 0 hts gX6_passHour_X0_balanceNow rfl rfl rfl (by decide +kernel) ⟨Nat.le_of_ble_eq_true rfl, Nat.le_of_ble_eq_true rfl⟩) hw hA (hC.m (by decide)) hR2.air rfl rfl hl.1 rfl (Nat.le_of_ble_eq_true rfl) dX6_passHour_44 ⟨Nat.zero_le _, Nat.zero_le _⟩ (fun r9 f8 H locs hp hw => ?_)
        obtain ⟨e1, e2⟩ := hp
        rw [e2] at hw
        rw [e1]
        refine kV_D (C := RX1) (T := TX1) (N := 7) (As := [.double ((Y.1).2.2.1), .double (sp_bal Y.1.1 Y.1.2.1)]) (rest := []) ⟨hx, hb, hml, hown, hts⟩ (d_dry l G dA L fa (ad (34 + 2 * i)) (ad (35 + 2 * i)) (ad (12 + (bd i).2.2.2.2.2)) (bd i).1 (bd i).2.2.1 (bd i).2.2.2.2.1 (bd i).2.1 (bd i).2.2.2.1 nl K (Y.2.2 i) Y.1.2.2.1 (sp_bal Y.1.1 Y.1.2.1) (kk (bd i).2.2.2.2.2).1 (kk (bd i).2.2.2.2.2).2 (hC.mb hlt) (hR2.brd hlt) (hC.mw hlt) (hR2.wet hlt) (hC.mk (hB i hlt).1) (hR2.kd (hB i hlt).1) hC.2.2.1.2 (hC.wb hlt) (hC.bw hlt) (hC.kw hlt (hB i hlt).1) hK hIi.1.2.2.1 (b_bal hIi.1).2.2.2.2.2 hk.1 hk.2 v1 v2 v3) (cwV 2 hts gX6_passHour_X1_dry rfl rfl rfl (by decide +kernel) ⟨Nat.le_of_ble_eq_true rfl, Nat.le_of_ble_eq_true rfl⟩) hw hA (hC.mb hlt) (hR2.brd hlt) rfl rfl hl.1 rfl (Nat.le_of_ble_eq_true rfl) dX6_passHour_47 ⟨Nat.zero_le _, Nat.zero_le _⟩ (fun r11 f10 H locs hp hw => ?_)
        obtain ⟨e1, e2⟩ := hp
        have e1 : r11 = hWa Y.1 (bd i) (Y.2.2 i) nl := e1
        rw [e1]
        have hR12 : RC ad dA (nl + 1) nb q qk Y.1 Y.2.1 bd (va_up Y.2.2 i (hNew Y.1 (bd i) (kk (bd i).2.2.2.2.2) (Y.2.2 i) nl)) kk tt fp hr f0 f10 := by rw [e2]; exact hR2.sWet hC hlt (hNew Y.1 (bd i) (kk (bd i).2.2.2.2.2) (Y.2.2 i) nl)
        refine lv_dstore_n (lv' := [(2, .double (hWa Y.1 (bd i) (Y.2.2 i) nl)), (0, .ref (ad 0)), (1, .int (nI i))]) hx hb dX6_passHour_50 rfl hl (by decide) rfl (fun ls hl => ?_)
        refine lv_aload_n hx hb dX6_passHour_51 rfl (lv_at hl 1 rfl) ?_
        refine wg (C := RX6) (T := TX6) (N := 8) hx hb hts hi6 hown hw (hC.m (by decide)) hR12.x rfl 4 (by decide) (hts (.fieldLink RX6 48 "LayerMoisture" "ledger" "LLayerMoisture$Ledger;") (by decide +kernel)) (fun _ h9 => h9) (v := .ref (ad 4)) rfl dX6_passHour_52 ?_
        refine lv_dload_n hx hb dX6_passHour_55 rfl (lv_at hl 0 rfl) ?_
        refine kV_V (C := RX3) (T := TX3) (N := 2) (As := [.double (hWa Y.1 (bd i) (Y.2.2 i) nl)]) (rest := []) ⟨hx, hb, hml, hown, hts⟩ (d_take l G dA L f10 (ad 4) Y.2.1 (hWa Y.1 (bd i) (Y.2.2 i) nl) (hC.m (by decide)) hR12.led hIi.2.1 v4) (cwV 1 hts gX6_passHour_X3_take rfl rfl rfl (by decide +kernel) ⟨Nat.le_of_ble_eq_true rfl, Nat.le_of_ble_eq_true rfl⟩) hw hA (hC.m (by decide)) hR12.led rfl rfl hl.1 rfl (Nat.le_of_ble_eq_true rfl) dX6_passHour_56 ⟨Nat.zero_le _, Nat.zero_le _⟩ (fun f13 H locs hp hw => ?_)
        have hR15 : RC ad dA (nl + 1) nb q qk Y.1 (hLed Y.2.1 (hWa Y.1 (bd i) (Y.2.2 i) nl)) bd (va_up Y.2.2 i (hNew Y.1 (bd i) (kk (bd i).2.2.2.2.2) (Y.2.2 i) nl)) kk tt fp hr f0 f13 := by rw [hp]; exact hR12.sLed hC (hLed Y.2.1 (hWa Y.1 (bd i) (Y.2.2 i) nl))
        refine lv_aload_n hx hb dX6_passHour_59 rfl (lv_at hl 1 rfl) ?_
        refine wg (C := RX6) (T := TX6) (N := 8) hx hb hts hi6 hown hw (hC.m (by decide)) hR15.x rfl 3 (by decide) (hts (.fieldLink RX6 41 "LayerMoisture" "state" "LLayerMoisture$Air;") (by decide +kernel)) (fun _ h9 => h9) (v := .ref (ad 3)) rfl dX6_passHour_60 ?_
        refine lv_dload_n hx hb dX6_passHour_63 rfl (lv_at hl 0 rfl) ?_
        refine kV_V (C := RX0) (T := TX0) (N := 4) (As := [.double (hWa Y.1 (bd i) (Y.2.2 i) nl)]) (rest := []) ⟨hx, hb, hml, hown, hts⟩ (d_takeUp l G dA L f13 (ad 3) Y.1 (hWa Y.1 (bd i) (Y.2.2 i) nl) (hC.m (by decide)) hR15.air hIi.1 v4) (cwV 1 hts gX6_passHour_X0_takeUp rfl rfl rfl (by decide +kernel) ⟨Nat.le_of_ble_eq_true rfl, Nat.le_of_ble_eq_true rfl⟩) hw hA (hC.m (by decide)) hR15.air rfl rfl hl.1 rfl (Nat.le_of_ble_eq_true rfl) dX6_passHour_64 ⟨Nat.zero_le _, Nat.zero_le _⟩ (fun f16 H locs hp hw => ?_)
        have hR18 : RC ad dA (nl + 1) nb q qk (hAir Y.1 (hWa Y.1 (bd i) (Y.2.2 i) nl)) (hLed Y.2.1 (hWa Y.1 (bd i) (Y.2.2 i) nl)) bd (va_up Y.2.2 i (hNew Y.1 (bd i) (kk (bd i).2.2.2.2.2) (Y.2.2 i) nl)) kk tt fp hr f0 f16 := by rw [hp]; exact hR15.sAir hC (hAir Y.1 (hWa Y.1 (bd i) (Y.2.2 i) nl))
        refine lv_iinc (v := nI (i + 1)) (lv' := [(1, .int (nI (i + 1))), (2, .double (hWa Y.1 (bd i) (Y.2.2 i) nl)), (0, .ref (ad 0))]) hx hb dX6_passHour_67 hl (k := 2) rfl (nI_1 i) (by decide) rfl (fun ls hl => ?_)
        refine lv_goto (tgt := 6) hx hb dX6_passHour_70 (by decide) ?_
        exact ih (i + 1) (by omega) (hAir Y.1 (hWa Y.1 (bd i) (Y.2.2 i) nl), hLed Y.2.1 (hWa Y.1 (bd i) (Y.2.2 i) nl), va_up Y.2.2 i (hNew Y.1 (bd i) (kk (bd i).2.2.2.2.2) (Y.2.2 i) nl)) (by rw [hTo, ← eY, hSt, if_neg c24]) _ _ _ hR18 hw ls (lv_sub hl [2, 0] rfl)
  exact loop nb 0 (by omega) X rfl _ _ _ hR1 hw ls (lv_sub hl [1, 0] rfl)

set_option maxHeartbeats 4000000 in
set_option maxRecDepth 100000 in
theorem c_X6_run (l : Launch) (G : va_G) (dA : Nat → ClassId) (L : List Nat) (f : Nat → va_E) (ad : Nat → Nat) (nl nb : Nat) (q qk : Nat → Option Nat) (ai : sA) (le : sL) (bd : Nat → sB) (wt : Nat → Nat → UInt64) (kk : Nat → UInt64 × UInt64) (tt : sT) (pn : sP) (hr : Nat) (f0 : Nat → va_E) (h : Nat)  (hC : Cx ad L (nl + 1) nb q qk) (hR : RC ad dA (nl + 1) nb q qk ai le bd wt kk tt pn hr f0 f) (hh : h ≤ 100) (hGR : GR nl nb kk (ai, le, bd, wt, pn, hr)) (hh3 : hr < 2 ^ 29)  : mI l yX6_run wsX6_run ({ frames := 5, cells := 0, slots := 0, locals := 117 }) G dA [.ref (ad 0), .int (nI h)] L f (fun r f2 => r = (runS nl nb kk h (ai, le, bd, wt, pn, hr)).1 ∧ RC ad dA (nl + 1) nb q qk (runS nl nb kk h (ai, le, bd, wt, pn, hr)).2.1 (runS nl nb kk h (ai, le, bd, wt, pn, hr)).2.2.1 (runS nl nb kk h (ai, le, bd, wt, pn, hr)).2.2.2.1 (runS nl nb kk h (ai, le, bd, wt, pn, hr)).2.2.2.2.1 kk tt (runS nl nb kk h (ai, le, bd, wt, pn, hr)).2.2.2.2.2.1 (runS nl nb kk h (ai, le, bd, wt, pn, hr)).2.2.2.2.2.2 f0 f2) := by
  refine mI_of (cc := cX6_run) (maxL := 3) (by decide) rfl (Nat.le_of_ble_eq_true rfl) ?_
  intro p e s m below meth c A ls Q hx hb hml hown hts hlocks hA hin0 hw hl hret
  have hown : s.vm.findClass RX6 = some m.cls := hown
  have hl : lv_has ls 3 [(0, .ref (ad 0)), (1, .int (nI h))] := hl
  have hi6 : ∀ w ∈ u_ws RX6 TX6 8, w ∈ wsX6_run := by decide +kernel
  refine lv_iload_n hx hb dX6_run_0 rfl (lv_at hl 1 rfl) ?_
  refine lv_if_lt (tgt := 10) hx hb dX6_run_1 (by decide) (fun c9 => absurd c9 (nI_pos (by omega))) (fun _ => ?_)
  refine lv_iload_n hx hb dX6_run_4 rfl (lv_at hl 1 rfl) ?_
  refine lv_bipush (v := 100) hx hb dX6_run_5 (by decide) ?_
  refine lv_icmp_le (tgt := 20) hx hb dX6_run_7 (by decide) (fun _ => ?_) (fun c9 => absurd (nI_leI (b := 100) (by omega) (by decide) |>.mpr hh) c9)
  refine lv_iconst (v := 0) hx hb dX6_run_20 (by decide) ?_
  refine lv_istore_n (lv' := [(2, .int 0), (0, .ref (ad 0)), (1, .int (nI h))]) hx hb dX6_run_21 rfl hl (by decide) rfl (fun ls hl => ?_)
  have loop : ∀ (kf i : Nat), i + kf = h → ∀ (x : sR), runS nl nb kk h (ai, le, bd, wt, pn, hr) = runS nl nb kk kf x → GR nl nb kk x → x.2.2.2.2.2 + kf < 2 ^ 30 → ∀ (fa : Nat → va_E) (H : Heap) (locs : List Loc), RC ad dA (nl + 1) nb q qk x.1 x.2.1 x.2.2.1 x.2.2.2.1 kk tt x.2.2.2.2.1 x.2.2.2.2.2 f0 fa → ww G dA A s L fa H locs → ∀ (ls : Array Slot), lv_has ls 3 [(0, .ref (ad 0)), (1, .int (nI h)), (2, .int (nI i))] → W p l e ({ frames := 5, cells := 0, slots := 0, locals := 117 } : Room) s m ([.ref (ad 0), .int (nI h)] : List Value).toArray below meth c H locs 0 0 Q (F0 m 22 ls []) := by
    intro kf
    induction kf with
    | zero =>
      intro i hik x ex hG hh2 fa H locs hR2 hw ls hl
      rw [show i = h by omega] at hl
      have e9 : runS nl nb kk h (ai, le, bd, wt, pn, hr) = (nI x.2.2.2.2.2, x) := ex
      refine lv_iload_n hx hb dX6_run_22 rfl (lv_at hl 2 rfl) ?_
      refine lv_iload_n hx hb dX6_run_23 rfl (lv_at hl 1 rfl) ?_
      refine lv_icmp_ge (tgt := 51) hx hb dX6_run_24 (by decide) (fun _ => ?_) (fun c9 => absurd (nI_le (Nat.le_refl h) (by omega)) c9)
      refine lv_aload_n hx hb dX6_run_51 rfl (lv_at hl 0 rfl) ?_
      refine wg (C := RX6) (T := TX6) (N := 8) hx hb hts hi6 hown hw (hC.m (by decide)) hR2.x rfl 7 (by decide) (hts (.fieldLink RX6 142 "LayerMoisture" "hoursPassed" "I") (by decide +kernel)) (fun _ h9 => h9) (v := .int (nI x.2.2.2.2.2)) rfl dX6_run_52 ?_
      exact hret _ _ _ _ _ _ hw ⟨by rw [e9], by rw [e9]; exact hR2⟩ rfl dX6_run_55
    | succ kf ih =>
      intro i hik x ex hG hh2 fa H locs hR2 hw ls hl
      have hlt : i < h := by omega
      obtain ⟨g1, g2, g3, g4, g5⟩ := hG
      have hK := KH_ok (hr := x.2.2.2.2.2) (by omega)
      have hK2 : KOk (KH x.2.2.2.2.2 + 2) := KH_ok (hr := x.2.2.2.2.2 + 1) (by omega)
      refine lv_iload_n hx hb dX6_run_22 rfl (lv_at hl 2 rfl) ?_
      refine lv_iload_n hx hb dX6_run_23 rfl (lv_at hl 1 rfl) ?_
      refine lv_icmp_ge (tgt := 51) hx hb dX6_run_24 (by decide) (fun c9 => absurd c9 (nI_ge hlt (by omega))) (fun _ => ?_)
      refine lv_aload_n hx hb dX6_run_27 rfl (lv_at hl 0 rfl) ?_
      refine kV_I (C := RX6) (T := TX6) (N := 8) (As := []) (rest := []) ⟨hx, hb, hml, hown, hts⟩ (c_X6_isRefused l G dA L fa ad (nl + 1) nb q qk x.1 x.2.1 x.2.2.1 x.2.2.2.1 kk tt x.2.2.2.2.1 x.2.2.2.2.2 f0 hC hR2 (KH x.2.2.2.2.2) hK g3 g5 g1.2.2.1) (cwV 0 hts gX6_run_X6_isRefused rfl rfl rfl (by decide +kernel) ⟨Nat.le_of_ble_eq_true rfl, Nat.le_of_ble_eq_true rfl⟩) hw hA (hC.m (by decide)) hR2.x rfl rfl hl.1 rfl (Nat.le_of_ble_eq_true rfl) dX6_run_28 ⟨Nat.zero_le _, Nat.zero_le _⟩ (fun r2 f1 H locs hp hw => ?_)
      obtain ⟨e1, e2⟩ := hp
      rw [e2] at hw
      rw [e1]
      refine lv_if_eq (tgt := 41) hx hb dX6_run_31 (by decide) (fun c31 => ?_) (fun c31 => ?_)
      · have c31 : b2i (refS (nl + 1) nb kk x) = 0 := c31
        have q31 : refS (nl + 1) nb kk x = false := by cases h7 : refS (nl + 1) nb kk x with | false => rfl | true => rw [h7] at c31; exact absurd c31 (by decide)
        refine lv_aload_n hx hb dX6_run_41 rfl (lv_at hl 0 rfl) ?_
        refine kV_V (C := RX6) (T := TX6) (N := 8) (As := []) (rest := []) ⟨hx, hb, hml, hown, hts⟩ (c_X6_passHour l G dA L fa ad nl nb q qk x.1 x.2.1 x.2.2.1 x.2.2.2.1 kk tt x.2.2.2.2.1 x.2.2.2.2.2 f0 hC hR2 (KH x.2.2.2.2.2) hK g3 hK2 g4 g5 g1 g2 (refS_no q31)) (cwV 0 hts gX6_run_X6_passHour rfl rfl rfl (by decide +kernel) ⟨Nat.le_of_ble_eq_true rfl, Nat.le_of_ble_eq_true rfl⟩) hw hA (hC.m (by decide)) hR2.x rfl rfl hl.1 rfl (Nat.le_of_ble_eq_true rfl) dX6_run_42 ⟨Nat.zero_le _, Nat.zero_le _⟩ (fun f3 H locs hp hw => ?_)
        have hR3 : RC ad dA (nl + 1) nb q qk ((hourS nl nb kk x).1) ((hourS nl nb kk x).2.1) ((hourS nl nb kk x).2.2.1) ((hourS nl nb kk x).2.2.2.1) kk tt ((hourS nl nb kk x).2.2.2.2.1) ((hourS nl nb kk x).2.2.2.2.2) f0 f3 := hp
        refine lv_iinc (v := nI (i + 1)) (lv' := [(2, .int (nI (i + 1))), (0, .ref (ad 0)), (1, .int (nI h))]) hx hb dX6_run_45 hl (k := 2) rfl (nI_1 i) (by decide) rfl (fun ls hl => ?_)
        refine lv_goto (tgt := 22) hx hb dX6_run_48 (by decide) ?_
        exact ih (i + 1) (by omega) (hourS nl nb kk x) (by rw [ex, runS, if_neg (by rw [q31]; exact Bool.false_ne_true)]) (GR.hour ⟨g1, g2, g3, g4, g5⟩ (by omega) q31) (by show x.2.2.2.2.2 + 1 + kf < 2 ^ 30; omega) _ _ _ hR3 hw ls (lv_sub hl [1, 2, 0] rfl)
      · have c31 : ¬ b2i (refS (nl + 1) nb kk x) = 0 := c31
        have q31 : refS (nl + 1) nb kk x = true := by cases h7 : refS (nl + 1) nb kk x with | true => rfl | false => rw [h7] at c31; exact absurd rfl c31
        have e9 : runS nl nb kk h (ai, le, bd, wt, pn, hr) = (-1 - nI x.2.2.2.2.2, x) := by rw [ex, runS, if_pos q31]
        refine lv_iconst (v := (-1)) hx hb dX6_run_34 (by decide) ?_
        refine lv_aload_n hx hb dX6_run_35 rfl (lv_at hl 0 rfl) ?_
        refine wg (C := RX6) (T := TX6) (N := 8) hx hb hts hi6 hown hw (hC.m (by decide)) hR2.x rfl 7 (by decide) (hts (.fieldLink RX6 142 "LayerMoisture" "hoursPassed" "I") (by decide +kernel)) (fun _ h9 => h9) (v := .int (nI x.2.2.2.2.2)) rfl dX6_run_36 ?_
        refine lv_isub hx hb dX6_run_39 ?_
        exact hret _ _ _ _ _ _ hw ⟨by rw [e9], by rw [e9]; exact hR2⟩ rfl dX6_run_40
  exact loop h 0 (by omega) (ai, le, bd, wt, pn, hr) rfl hGR (by show hr + h < 2 ^ 30; omega) _ _ _ hR hw ls (lv_sub hl [1, 2, 0] rfl)
