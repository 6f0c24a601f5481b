set_option maxHeartbeats 4000000 in
set_option maxRecDepth 100000 in
theorem c_X7_hour (l : Launch) (G : va_G) (dA : Nat → ClassId) (L : List Nat) (f : Nat → va_E) (ad : Nat → Nat) (nl nb : Nat) (q qk : Nat → Option Nat) (ai : sA) (le : sL) (bd : Nat → sB) (wt : Nat → Nat → UInt64) (kk : Nat → UInt64 × UInt64) (tt : sT) (pn : sP) (hr : Nat) (thr : Int32) (f0 : Nat → va_E)   (hC : Cx ad L (nl + 1) nb q qk) (hM : RM ad dA (nl + 1) nb ai le bd wt kk tt pn hr thr f0 f) (K : Nat) (hK : KOk K) (hB : GB (nl + 1) nb K bd wt) (hK2 : KOk (K + 2)) (hP : GP pn) (hk4 : GK kk) (hGA : GAs ai) (hLe : Ab (2 ^ 1074) le.1) (hrf : ∀ j, j < nb → rfP bd wt kk ai.2.2.1 (nl + 1) j = false)  : mV l yX7_hour wsX7_hour ({ frames := 3, cells := 0, slots := 0, locals := 75 }) G dA [.ref (ad 16)] L f (fun f2 => RM ad dA (nl + 1) nb (hourS nl nb kk (ai, le, bd, wt, pn, hr)).1 (hourS nl nb kk (ai, le, bd, wt, pn, hr)).2.1 (hourS nl nb kk (ai, le, bd, wt, pn, hr)).2.2.1 (hourS nl nb kk (ai, le, bd, wt, pn, hr)).2.2.2.1 kk tt (hourS nl nb kk (ai, le, bd, wt, pn, hr)).2.2.2.2.1 (hourS nl nb kk (ai, le, bd, wt, pn, hr)).2.2.2.2.2 thr f0 f2) := by
  refine mV_of (cc := cX7_hour) (maxL := 2) (by decide) rfl (Nat.le_of_ble_eq_true rfl) ?_
  intro p e s m below meth c A ls Q hx hb hml hown hts hlocks hA hin0 hw hl hret
  have hown : s.vm.findClass RX7 = some m.cls := hown
  have hl : lv_has ls 2 [(0, .ref (ad 16))] := hl
  have hi7 : ∀ w ∈ u_ws RX7 TX7 31, w ∈ wsX7_hour := by decide +kernel
  obtain ⟨pa, bad, num, RA, RB, TH, DE, KI, WE, NX, LI, LM, KE, TX, BW, TI, KV, DM, hX, hMk, hMb, hMw, hMt, hMp⟩ := hM
  have hMp3 : MGp (flS (nl + 1) nb ai bd wt pn hr).2 BW TI KV DM := by unfold flS; split; exact hMp; exact hMp
  obtain ⟨X, eX⟩ : ∃ z : sH, z = ((flS (nl + 1) nb ai bd wt pn hr).1, le, wt) := ⟨_, rfl⟩
  obtain ⟨fp, ep⟩ : ∃ z : sP, z = (flS (nl + 1) nb ai bd wt pn hr).2 := ⟨_, rfl⟩
  obtain ⟨u1, u2, u3⟩ := g_fl (n := (nl + 1)) (nb := nb) (hr := hr) (bd := bd) (wt := wt) hGA hP
  have hI : ∀ i, i ≤ nb → HI nl nb K bd wt X.1 i (hTo nl bd kk X i) := by rw [eX]; exact HI.to hK hB hk4 u1 hLe (by rw [u3]; exact hrf)
  have hrf2 : ∀ j, j < nb → rfP bd wt kk X.1.2.2.1 (nl + 1) j = false := by rw [eX]; rw [u3]; exact hrf
  have main : ∀ (fa : Nat → va_E) (H : Heap) (locs : List Loc), MX ad dA (nl + 1) nb ((X.1).1) ((X.1).2.1) ((X.1).2.2.1) ((X.1).2.2.2) ((X.2.1).1) ((X.2.1).2) hr tt.1 fp.1 fp.2.1 thr pa bad num RA RB TH DE KI WE NX LI LM KE TX BW TI KV DM f0 fa → ww G dA A s L fa H locs → ∀ (ls : Array Slot), lv_has ls 2 [(0, .ref (ad 16))] → W p l e ({ frames := 3, cells := 0, slots := 0, locals := 75 } : Room) s m ([.ref (ad 16)] : List Value).toArray below meth c H locs 0 0 Q (F0 m 60 ls []) := by
    intro fa H locs hXa hw ls hl
    refine lv_iconst (v := 0) hx hb dX7_hour_60 (by decide) ?_
    refine lv_istore_n (lv' := [(1, .int 0), (0, .ref (ad 16))]) hx hb dX7_hour_61 rfl hl (by decide) rfl (fun ls hl => ?_)
    have loop : ∀ (kf i : Nat), i + kf = nb → ∀ (Y : sH), Y = hTo nl bd kk X i → ∀ (WEa NXa : Nat → UInt64) (fa : Nat → va_E) (H : Heap) (locs : List Loc), MX ad dA (nl + 1) nb ((Y.1).1) ((Y.1).2.1) ((Y.1).2.2.1) ((Y.1).2.2.2) ((Y.2.1).1) ((Y.2.1).2) hr tt.1 fp.1 fp.2.1 thr pa bad num RA RB TH DE KI WEa NXa LI LM KE TX BW TI KV DM f0 fa → MGw (nl + 1) nb Y.2.2 WEa → ww G dA A s L fa H locs → ∀ (ls : Array Slot), lv_has ls 2 [(0, .ref (ad 16)), (1, .int (nI i))] → W p l e ({ frames := 3, cells := 0, slots := 0, locals := 75 } : Room) s m ([.ref (ad 16)] : List Value).toArray below meth c H locs 0 0 Q (F0 m 62 ls []) := by
      intro kf
      induction kf with
      | zero =>
        intro i hik Y eY WEa NXa fa H locs hXb hMw2 hw ls hl
        rw [show i = nb by omega] at hl eY
        have hIn := hI nb (Nat.le_refl nb)
        rw [← eY] at hIn
        refine lv_iload_n hx hb dX7_hour_62 rfl (lv_at hl 1 rfl) ?_
        refine lv_aload_n hx hb dX7_hour_63 rfl (lv_at hl 0 rfl) ?_
        refine wg (C := RX7) (T := TX7) (N := 31) hx hb hts hi7 hown hw (hC.m (by decide)) hXb.o rfl 2 (by decide) (hts (.fieldLink RX7 75 "LayerMoistureModel" "boards" "I") (by decide +kernel)) (fun _ h9 => h9) (v := .int (nI nb)) rfl dX7_hour_64 ?_
        refine lv_icmp_ge (tgt := 90) hx hb dX7_hour_67 (by decide) (fun _ => ?_) (fun c9 => absurd (nI_le (Nat.le_refl _) hC.nb31) c9)
        refine lv_aload_n hx hb dX7_hour_90 rfl (lv_at hl 0 rfl) ?_
        refine lv_dup hx hb dX7_hour_91 rfl ?_
        refine wg (C := RX7) (T := TX7) (N := 31) hx hb hts hi7 hown hw (hC.m (by decide)) hXb.o rfl 11 (by decide) (hts (.fieldLink RX7 152 "LayerMoistureModel" "hours" "I") (by decide +kernel)) (fun _ h9 => h9) (v := .int (nI hr)) rfl dX7_hour_92 ?_
        refine lv_iconst (v := 1) hx hb dX7_hour_95 (by decide) ?_
        refine lv_iadd hx hb dX7_hour_96 ?_
        rw [show (nI hr) + 1 = nI (hr + 1) from nI_1 hr]
        refine wp_ (C := RX7) (T := TX7) (N := 31) hx hb hts hi7 tyX7 tyX7_ok nmX7 hown hw (hC.m (by decide)) hXb.o rfl 11 (by decide) (hts (.fieldLink RX7 152 "LayerMoistureModel" "hours" "I") (by decide +kernel)) (fun _ h9 => h9) rfl (ty := .int) (v := .int (nI (hr + 1))) (by decide +kernel) rfl rfl (Nat.le_of_ble_eq_true rfl) dX7_hour_97 (fun H locs hw => ?_)
        obtain ⟨f1, ef1⟩ : ∃ z : Nat → va_E, z = va_up fa (ad 16) (.inr (8, [.int thr, .int (nI (nl + 1)), .int (nI nb), .ref (ad 17), .ref (ad 18), .double ((Y.1).1), .double ((Y.1).2.1), .double ((Y.1).2.2.1), .double ((Y.1).2.2.2), .double ((Y.2.1).1), .long ((Y.2.1).2), .int (nI (hr + 1)), .ref (ad 19), .ref (ad 20), .ref (ad 21), .ref (ad 22), .ref (ad 23), .ref (ad 24), .ref (ad 25), .ref (ad 26), .ref (ad 27), .int (nI tt.1), .int (nI pa), .int bad, .int num, .ref (ad 28), .ref (ad 29), .ref (ad 30), .ref (ad 31), .int (nI fp.1), .int (nI fp.2.1)])) := ⟨_, rfl⟩
        have hw : ww G dA A s L f1 H locs := by rw [ef1]; exact hw
        have hX2 : MX ad dA (nl + 1) nb ((Y.1).1) ((Y.1).2.1) ((Y.1).2.2.1) ((Y.1).2.2.2) ((Y.2.1).1) ((Y.2.1).2) (hr + 1) tt.1 fp.1 fp.2.1 thr pa bad num RA RB TH DE KI WEa NXa LI LM KE TX BW TI KV DM f0 f1 := by rw [ef1]; exact hXb.sO hC ((Y.1).1) ((Y.1).2.1) ((Y.1).2.2.1) ((Y.1).2.2.2) ((Y.2.1).1) ((Y.2.1).2) (hr + 1) tt.1 fp.1 fp.2.1 thr pa bad num
        refine lv_iconst (v := 0) hx hb dX7_hour_100 (by decide) ?_
        refine lv_istore_n (lv' := [(1, .int 0), (0, .ref (ad 16))]) hx hb dX7_hour_101 rfl hl (by decide) rfl (fun ls hl => ?_)
        have loop2 : ∀ (kf i : Nat), i + kf = nb → ∀ (KEa : Nat → Int32) (fa : Nat → va_E) (H : Heap) (locs : List Loc), MX ad dA (nl + 1) nb ((Y.1).1) ((Y.1).2.1) ((Y.1).2.2.1) ((Y.1).2.2.2) ((Y.2.1).1) ((Y.2.1).2) (hr + 1) tt.1 fp.1 fp.2.1 thr pa bad num RA RB TH DE KI WEa NXa LI LM KEa TX BW TI KV DM f0 fa → MGb nb (kpTo (nl + 1) Y.2.2 (nI (hr + 1)) bd i) TH DE KI LI LM KEa → ww G dA A s L fa H locs → ∀ (ls : Array Slot), lv_has ls 2 [(0, .ref (ad 16)), (1, .int (nI i))] → W p l e ({ frames := 3, cells := 0, slots := 0, locals := 75 } : Room) s m ([.ref (ad 16)] : List Value).toArray below meth c H locs 0 0 Q (F0 m 102 ls []) := by
          intro kf
          induction kf with
          | zero =>
            intro i hik KEa fa H locs hXb hMb2 hw ls hl
            rw [show i = nb by omega] at hl hMb2
            refine lv_iload_n hx hb dX7_hour_102 rfl (lv_at hl 1 rfl) ?_
            refine lv_aload_n hx hb dX7_hour_103 rfl (lv_at hl 0 rfl) ?_
            refine wg (C := RX7) (T := TX7) (N := 31) hx hb hts hi7 hown hw (hC.m (by decide)) hXb.o rfl 2 (by decide) (hts (.fieldLink RX7 75 "LayerMoistureModel" "boards" "I") (by decide +kernel)) (fun _ h9 => h9) (v := .int (nI nb)) rfl dX7_hour_104 ?_
            refine lv_icmp_ge (tgt := 130) hx hb dX7_hour_107 (by decide) (fun _ => ?_) (fun c9 => absurd (nI_le (Nat.le_refl _) hC.nb31) c9)
            exact hret _ _ _ _ _ hw (by subst eY; subst eX; subst ep; exact ⟨_, _, _, _, _, _, _, _, _, _, _, _, _, _, _, _, _, _, hXb, hMk, hMb2, hMw2, hMt, hMp3⟩) dX7_hour_130
          | succ kf ih =>
            intro i hik KEa fa H locs hXb hMb2 hw ls hl
            have hlt : i < nb := by omega
            refine lv_iload_n hx hb dX7_hour_102 rfl (lv_at hl 1 rfl) ?_
            refine lv_aload_n hx hb dX7_hour_103 rfl (lv_at hl 0 rfl) ?_
            refine wg (C := RX7) (T := TX7) (N := 31) hx hb hts hi7 hown hw (hC.m (by decide)) hXb.o rfl 2 (by decide) (hts (.fieldLink RX7 75 "LayerMoistureModel" "boards" "I") (by decide +kernel)) (fun _ h9 => h9) (v := .int (nI nb)) rfl dX7_hour_104 ?_
            refine lv_icmp_ge (tgt := 130) hx hb dX7_hour_107 (by decide) (fun c9 => absurd c9 (nI_ge hlt hC.nb31)) (fun _ => ?_)
            refine lv_aload_n hx hb dX7_hour_110 rfl (lv_at hl 0 rfl) ?_
            refine wg (C := RX7) (T := TX7) (N := 31) hx hb hts hi7 hown hw (hC.m (by decide)) hXb.o rfl 12 (by decide) (hts (.fieldLink RX7 30 "LayerMoistureModel" "there" "[Z") (by decide +kernel)) (fun _ h9 => h9) (v := .ref (ad 19)) rfl dX7_hour_111 ?_
            refine lv_iload_n hx hb dX7_hour_114 rfl (lv_at hl 1 rfl) ?_
            refine wld_z hx hb hw (hC.m (by decide)) hXb.aTH i (by have := hC.2.2.2.1; omega) (by decide) rfl dX7_hour_115 ?_
            rw [show TH i = (bd i).1 from ((hMb2 i hlt).1.trans (by rw [kpTo_ge (nl + 1) Y.2.2 (nI (hr + 1)) bd i i (Nat.le_refl i)]))]
            refine lv_if_eq (tgt := 124) hx hb dX7_hour_116 (by decide) (fun c116 => ?_) (fun c116 => ?_)
            · refine lv_iinc (v := nI (i + 1)) (lv' := [(1, .int (nI (i + 1))), (0, .ref (ad 16))]) hx hb dX7_hour_124 hl (k := 1) rfl (nI_1 i) (by decide) rfl (fun ls hl => ?_)
              refine lv_goto (tgt := 102) hx hb dX7_hour_127 (by decide) ?_
              exact ih (i + 1) (by omega) KEa _ _ _ hXb (hMb2.skip c116) hw ls (lv_sub hl [1, 0] rfl)
            · have hgw := (hIn.2.2.2.2 i hlt c116).np hK2
              refine lv_aload_n hx hb dX7_hour_119 rfl (lv_at hl 0 rfl) ?_
              refine lv_iload_n hx hb dX7_hour_120 rfl (lv_at hl 1 rfl) ?_
              refine kV_V (C := RX7) (T := TX7) (N := 31) (As := [.int (nI i)]) (rest := []) ⟨hx, hb, hml, hown, hts⟩ (c_X7_keep l G dA L fa ad (nl + 1) nb q qk ((Y.1).1) ((Y.1).2.1) ((Y.1).2.2.1) ((Y.1).2.2.2) ((Y.2.1).1) ((Y.2.1).2) (hr + 1) tt.1 fp.1 fp.2.1 thr pa bad num RA RB TH DE KI WEa NXa LI LM KEa TX BW TI KV DM f0 i (Y.2.2 i) hC hXb hlt (hMw2 i hlt) hgw) (cwV 1 hts gX7_hour_X7_keep rfl rfl rfl (by decide +kernel) ⟨Nat.le_of_ble_eq_true rfl, Nat.le_of_ble_eq_true rfl⟩) hw hA (hC.m (by decide)) hXb.o rfl rfl hl.1 rfl (Nat.le_of_ble_eq_true rfl) dX7_hour_121 ⟨Nat.zero_le _, Nat.zero_le _⟩ (fun f3 H locs hp hw => ?_)
              refine lv_iinc (v := nI (i + 1)) (lv' := [(1, .int (nI (i + 1))), (0, .ref (ad 16))]) hx hb dX7_hour_124 hl (k := 1) rfl (nI_1 i) (by decide) rfl (fun ls hl => ?_)
              refine lv_goto (tgt := 102) hx hb dX7_hour_127 (by decide) ?_
              exact ih (i + 1) (by omega) _ _ _ _ hp (hMb2.keep hlt c116) hw ls (lv_sub hl [1, 0] rfl)
        exact loop2 nb 0 (by omega) KE _ _ _ hX2 hMb hw ls (lv_sub hl [1, 0] rfl)
      | succ kf ih =>
        intro i hik Y eY WEa NXa fa H locs hXb hMw2 hw ls hl
        have hlt : i < nb := by omega
        have hIi := hI i (by omega)
        rw [← eY] at hIi
        have hst := (hIi.step hK hB hk4 hrf2 hlt).2
        refine lv_iload_n hx hb dX7_hour_62 rfl (lv_at hl 1 rfl) ?_
        refine lv_aload_n hx hb dX7_hour_63 rfl (lv_at hl 0 rfl) ?_
        refine wg (C := RX7) (T := TX7) (N := 31) hx hb hts hi7 hown hw (hC.m (by decide)) hXb.o rfl 2 (by decide) (hts (.fieldLink RX7 75 "LayerMoistureModel" "boards" "I") (by decide +kernel)) (fun _ h9 => h9) (v := .int (nI nb)) rfl dX7_hour_64 ?_
        refine lv_icmp_ge (tgt := 90) hx hb dX7_hour_67 (by decide) (fun c9 => absurd c9 (nI_ge hlt hC.nb31)) (fun _ => ?_)
        refine lv_aload_n hx hb dX7_hour_70 rfl (lv_at hl 0 rfl) ?_
        refine wg (C := RX7) (T := TX7) (N := 31) hx hb hts hi7 hown hw (hC.m (by decide)) hXb.o rfl 12 (by decide) (hts (.fieldLink RX7 30 "LayerMoistureModel" "there" "[Z") (by decide +kernel)) (fun _ h9 => h9) (v := .ref (ad 19)) rfl dX7_hour_71 ?_
        refine lv_iload_n hx hb dX7_hour_74 rfl (lv_at hl 1 rfl) ?_
        refine wld_z hx hb hw (hC.m (by decide)) hXb.aTH i (by have := hC.2.2.2.1; omega) (by decide) rfl dX7_hour_75 ?_
        rw [show TH i = (bd i).1 from (hMb i hlt).1]
        refine lv_if_eq (tgt := 84) hx hb dX7_hour_76 (by decide) (fun c76 => ?_) (fun c76 => ?_)
        · refine lv_iinc (v := nI (i + 1)) (lv' := [(1, .int (nI (i + 1))), (0, .ref (ad 16))]) hx hb dX7_hour_84 hl (k := 1) rfl (nI_1 i) (by decide) rfl (fun ls hl => ?_)
          refine lv_goto (tgt := 62) hx hb dX7_hour_87 (by decide) ?_
          exact ih (i + 1) (by omega) Y (by rw [hTo, ← eY, hSt, if_pos c76]) WEa NXa _ _ _ hXb hMw2 hw ls (lv_sub hl [1, 0] rfl)
        · obtain ⟨v1, v2, v3, v4⟩ := hst c76
          have hk := hk4 _ (hB i hlt).1
          refine lv_aload_n hx hb dX7_hour_79 rfl (lv_at hl 0 rfl) ?_
          refine lv_iload_n hx hb dX7_hour_80 rfl (lv_at hl 1 rfl) ?_
          refine kV_V (C := RX7) (T := TX7) (N := 31) (As := [.int (nI i)]) (rest := []) ⟨hx, hb, hml, hown, hts⟩ (c_X7_hourOf l G dA L fa ad nl nb q qk ((Y.1).1) ((Y.1).2.1) ((Y.1).2.2.1) ((Y.1).2.2.2) ((Y.2.1).1) ((Y.2.1).2) hr tt.1 fp.1 fp.2.1 thr pa bad num RA RB TH DE KI WEa NXa LI LM KE TX BW TI KV DM f0 i (bd i).2.2.2.2.2 K (Y.2.2 i) (bd i).2.1 (kk (bd i).2.2.2.2.2).1 (kk (bd i).2.2.2.2.2).2 hC hXb hlt (hMw2 i hlt) (hMb i hlt).2.1 (hMb i hlt).2.2.2.2.2 (hB i hlt).1 (hMk _ (hB i hlt).1).1 (hMk _ (hB i hlt).1).2 hK hIi.1 hIi.2.1 hk.1 hk.2 v1 v2 v3) (cwV 1 hts gX7_hour_X7_hourOf rfl rfl rfl (by decide +kernel) ⟨Nat.le_of_ble_eq_true rfl, Nat.le_of_ble_eq_true rfl⟩) hw hA (hC.m (by decide)) hXb.o rfl rfl hl.1 rfl (Nat.le_of_ble_eq_true rfl) dX7_hour_81 ⟨Nat.zero_le _, Nat.zero_le _⟩ (fun f5 H locs hp hw => ?_)
          have est : hSt nl bd kk i Y = (hAir Y.1 (hWa Y.1 (bd i) (Y.2.2 i) nl), hLed Y.2.1 (hWa Y.1 (bd i) (Y.2.2 i) nl), va_up Y.2.2 i (hNew Y.1 (bd i) (kk (bd i).2.2.2.2.2) (Y.2.2 i) nl)) := if_neg c76
          have hXc : MX ad dA (nl + 1) nb (((hSt nl bd kk i Y).1).1) (((hSt nl bd kk i Y).1).2.1) (((hSt nl bd kk i Y).1).2.2.1) (((hSt nl bd kk i Y).1).2.2.2) (((hSt nl bd kk i Y).2.1).1) (((hSt nl bd kk i Y).2.1).2) hr tt.1 fp.1 fp.2.1 thr pa bad num RA RB TH DE KI (wput (sp_new (kk (bd i).2.2.2.2.2).1 (kk (bd i).2.2.2.2.2).2 (bd i).2.1 (hF Y.1 (bd i) (Y.2.2 i 0)) (hF Y.1 (bd i) (Y.2.2 i nl)) (Y.2.2 i) nl) WEa (16 * i) (nl + 1)) (nput (sp_new (kk (bd i).2.2.2.2.2).1 (kk (bd i).2.2.2.2.2).2 (bd i).2.1 (hF Y.1 (bd i) (Y.2.2 i 0)) (hF Y.1 (bd i) (Y.2.2 i nl)) (Y.2.2 i) nl) NXa (nl + 1)) LI LM KE TX BW TI KV DM f0 f5 := by rw [est]; exact hp
          have hMw3 : MGw (nl + 1) nb (hSt nl bd kk i Y).2.2 (wput (sp_new (kk (bd i).2.2.2.2.2).1 (kk (bd i).2.2.2.2.2).2 (bd i).2.1 (hF Y.1 (bd i) (Y.2.2 i 0)) (hF Y.1 (bd i) (Y.2.2 i nl)) (Y.2.2 i) nl) WEa (16 * i) (nl + 1)) := by rw [est]; exact hMw2.put hC.2.2.1.2 (fun z hz => hNew_at _ _ _ _ _ _ hz)
          refine lv_iinc (v := nI (i + 1)) (lv' := [(1, .int (nI (i + 1))), (0, .ref (ad 16))]) hx hb dX7_hour_84 hl (k := 1) rfl (nI_1 i) (by decide) rfl (fun ls hl => ?_)
          refine lv_goto (tgt := 62) hx hb dX7_hour_87 (by decide) ?_
          exact ih (i + 1) (by omega) (hSt nl bd kk i Y) (by rw [hTo, ← eY]) _ _ _ _ _ hXc hMw3 hw ls (lv_sub hl [1, 0] rfl)
    exact loop nb 0 (by omega) X rfl WE NX _ _ _ hXa (by rw [eX]; exact hMw) hw ls (lv_sub hl [1, 0] rfl)
  refine lv_aload_n hx hb dX7_hour_0 rfl (lv_at hl 0 rfl) ?_
  refine wg (C := RX7) (T := TX7) (N := 31) hx hb hts hi7 hown hw (hC.m (by decide)) hX.o rfl 30 (by decide) (hts (.fieldLink RX7 134 "LayerMoistureModel" "done" "I") (by decide +kernel)) (fun _ h9 => h9) (v := .int (nI pn.2.1)) rfl dX7_hour_1 ?_
  refine lv_aload_n hx hb dX7_hour_4 rfl (lv_at hl 0 rfl) ?_
  refine wg (C := RX7) (T := TX7) (N := 31) hx hb hts hi7 hown hw (hC.m (by decide)) hX.o rfl 29 (by decide) (hts (.fieldLink RX7 125 "LayerMoistureModel" "steps" "I") (by decide +kernel)) (fun _ h9 => h9) (v := .int (nI pn.1)) rfl dX7_hour_5 ?_
  refine lv_icmp_ge (tgt := 60) hx hb dX7_hour_8 (by decide) (fun c8 => ?_) (fun c8 => ?_)
  · have e9 : flS (nl + 1) nb ai bd wt pn hr = (ai, pn) := if_neg (fun h7 => Nat.not_le.mpr h7.1 ((nI_leI (by have := hP.2.1; omega) (by have := hP.1; have := hP.2.1; omega)).mp c8))
    exact main _ _ _ (by rw [eX, ep, e9]; exact hX) hw ls (lv_sub hl [0] rfl)
  · have h7 : pn.2.1 < pn.1 := Nat.lt_of_not_le fun h8 => c8 ((nI_leI (by have := hP.2.1; omega) (by have := hP.1; have := hP.2.1; omega)).mpr h8)
    have h12 := hP.2.1
    obtain ⟨-, ⟨d9, hd9, ed9⟩, x9, hx9, ex9⟩ := hP.2.2 _ h7
    obtain ⟨hnt, hnf⟩ := g_div100 hx9
    rw [← ex9] at hnt hnf
    have hnd := (g_div100 (x := d9) (by omega)).1
    rw [← ed9] at hnd
    refine lv_aload_n hx hb dX7_hour_11 rfl (lv_at hl 0 rfl) ?_
    refine kV_I (C := RX7) (T := TX7) (N := 31) (As := []) (rest := []) ⟨hx, hb, hml, hown, hts⟩ (c_X7_hasCome l G dA L f ad (nl + 1) nb q qk ai.1 ai.2.1 ai.2.2.1 ai.2.2.2 le.1 le.2 hr tt.1 pn.1 pn.2.1 thr pa bad num RA RB TH DE KI WE NX LI LM KE TX BW TI KV DM f0 bd wt pn hC hX hMb hMw hMp K hK hB h7 (by omega) rfl hnt hnf) (cwV 0 hts gX7_hour_X7_hasCome rfl rfl rfl (by decide +kernel) ⟨Nat.le_of_ble_eq_true rfl, Nat.le_of_ble_eq_true rfl⟩) hw hA (hC.m (by decide)) hX.o rfl rfl hl.1 rfl (Nat.le_of_ble_eq_true rfl) dX7_hour_12 ⟨Nat.zero_le _, Nat.zero_le _⟩ (fun r8 f7 H locs hp hw => ?_)
    obtain ⟨e1, e2⟩ := hp
    rw [e2] at hw
    rw [e1]
    refine lv_if_eq (tgt := 60) hx hb dX7_hour_15 (by decide) (fun c15 => ?_) (fun c15 => ?_)
    · have e9 : flS (nl + 1) nb ai bd wt pn hr = (ai, pn) := if_neg (fun h8 => by rw [h8.2] at c15; exact absurd c15 (by decide))
      exact main _ _ _ (by rw [eX, ep, e9]; exact hX) hw ls (lv_sub hl [0] rfl)
    · have e9 : flS (nl + 1) nb ai bd wt pn hr = ((FP.i2d (pn.2.2.2.2.1 pn.2.1), FP.ddiv (FP.i2d (pn.2.2.2.2.2 pn.2.1)) 4636737291354636288, ai.2.2.1, ai.2.2.2), (pn.1, pn.2.1 + 1, pn.2.2)) := if_pos ⟨h7, b2i_t c15⟩
      refine lv_aload_n hx hb dX7_hour_18 rfl (lv_at hl 0 rfl) ?_
      refine lv_aload_n hx hb dX7_hour_19 rfl (lv_at hl 0 rfl) ?_
      refine wg (C := RX7) (T := TX7) (N := 31) hx hb hts hi7 hown hw (hC.m (by decide)) hX.o rfl 27 (by decide) (hts (.fieldLink RX7 65 "LayerMoistureModel" "kelvins" "[I") (by decide +kernel)) (fun _ h9 => h9) (v := .ref (ad 30)) rfl dX7_hour_20 ?_
      refine lv_aload_n hx hb dX7_hour_23 rfl (lv_at hl 0 rfl) ?_
      refine wg (C := RX7) (T := TX7) (N := 31) hx hb hts hi7 hown hw (hC.m (by decide)) hX.o rfl 30 (by decide) (hts (.fieldLink RX7 134 "LayerMoistureModel" "done" "I") (by decide +kernel)) (fun _ h9 => h9) (v := .int (nI pn.2.1)) rfl dX7_hour_24 ?_
      refine wld_i hx hb hw (hC.m (by decide)) hX.aKV pn.2.1 (by omega) (by decide) rfl dX7_hour_27 ?_
      rw [show KV pn.2.1 = pn.2.2.2.2.1 pn.2.1 from (hMp _ h7).2.2.1]
      refine lv_i2d hx hb dX7_hour_28 ?_
      refine wp_ (C := RX7) (T := TX7) (N := 31) hx hb hts hi7 tyX7 tyX7_ok nmX7 hown hw (hC.m (by decide)) hX.o rfl 5 (by decide) (hts (.fieldLink RX7 18 "LayerMoistureModel" "kelvin" "D") (by decide +kernel)) (fun _ h9 => h9) rfl (ty := .double) (v := .double (FP.i2d (pn.2.2.2.2.1 pn.2.1))) (by decide +kernel) rfl rfl (Nat.le_of_ble_eq_true rfl) dX7_hour_29 (fun H locs hw => ?_)
      obtain ⟨f9, ef9⟩ : ∃ z : Nat → va_E, z = va_up f (ad 16) (.inr (8, [.int thr, .int (nI (nl + 1)), .int (nI nb), .ref (ad 17), .ref (ad 18), .double (FP.i2d (pn.2.2.2.2.1 pn.2.1)), .double ai.2.1, .double ai.2.2.1, .double ai.2.2.2, .double le.1, .long le.2, .int (nI hr), .ref (ad 19), .ref (ad 20), .ref (ad 21), .ref (ad 22), .ref (ad 23), .ref (ad 24), .ref (ad 25), .ref (ad 26), .ref (ad 27), .int (nI tt.1), .int (nI pa), .int bad, .int num, .ref (ad 28), .ref (ad 29), .ref (ad 30), .ref (ad 31), .int (nI pn.1), .int (nI pn.2.1)])) := ⟨_, rfl⟩
      have hw : ww G dA A s L f9 H locs := by rw [ef9]; exact hw
      have hX10 : MX ad dA (nl + 1) nb (FP.i2d (pn.2.2.2.2.1 pn.2.1)) ai.2.1 ai.2.2.1 ai.2.2.2 le.1 le.2 hr tt.1 pn.1 pn.2.1 thr pa bad num RA RB TH DE KI WE NX LI LM KE TX BW TI KV DM f0 f9 := by rw [ef9]; exact hX.sO hC (FP.i2d (pn.2.2.2.2.1 pn.2.1)) ai.2.1 ai.2.2.1 ai.2.2.2 le.1 le.2 hr tt.1 pn.1 pn.2.1 thr pa bad num
      refine lv_aload_n hx hb dX7_hour_32 rfl (lv_at hl 0 rfl) ?_
      refine lv_aload_n hx hb dX7_hour_33 rfl (lv_at hl 0 rfl) ?_
      refine wg (C := RX7) (T := TX7) (N := 31) hx hb hts hi7 hown hw (hC.m (by decide)) hX10.o rfl 28 (by decide) (hts (.fieldLink RX7 68 "LayerMoistureModel" "damps" "[I") (by decide +kernel)) (fun _ h9 => h9) (v := .ref (ad 31)) rfl dX7_hour_34 ?_
      refine lv_aload_n hx hb dX7_hour_37 rfl (lv_at hl 0 rfl) ?_
      refine wg (C := RX7) (T := TX7) (N := 31) hx hb hts hi7 hown hw (hC.m (by decide)) hX10.o rfl 30 (by decide) (hts (.fieldLink RX7 134 "LayerMoistureModel" "done" "I") (by decide +kernel)) (fun _ h9 => h9) (v := .int (nI pn.2.1)) rfl dX7_hour_38 ?_
      refine wld_i hx hb hw (hC.m (by decide)) hX10.aDM pn.2.1 (by omega) (by decide) rfl dX7_hour_41 ?_
      rw [show DM pn.2.1 = pn.2.2.2.2.2 pn.2.1 from (hMp _ h7).2.2.2]
      refine lv_i2d hx hb dX7_hour_42 ?_
      refine lv_ldc2d (v := 4636737291354636288) hx hb hown (hts (.constantDouble RX7 158 (4636737291354636288)) (by decide +kernel)) dX7_hour_43 ?_
      refine lv_ddiv hx hb dX7_hour_46 hnd ?_
      refine wp_ (C := RX7) (T := TX7) (N := 31) hx hb hts hi7 tyX7 tyX7_ok nmX7 hown hw (hC.m (by decide)) hX10.o rfl 6 (by decide) (hts (.fieldLink RX7 24 "LayerMoistureModel" "damp" "D") (by decide +kernel)) (fun _ h9 => h9) rfl (ty := .double) (v := .double (FP.ddiv (FP.i2d (pn.2.2.2.2.2 pn.2.1)) 4636737291354636288)) (by decide +kernel) rfl rfl (Nat.le_of_ble_eq_true rfl) dX7_hour_47 (fun H locs hw => ?_)
      obtain ⟨f11, ef11⟩ : ∃ z : Nat → va_E, z = va_up f9 (ad 16) (.inr (8, [.int thr, .int (nI (nl + 1)), .int (nI nb), .ref (ad 17), .ref (ad 18), .double (FP.i2d (pn.2.2.2.2.1 pn.2.1)), .double (FP.ddiv (FP.i2d (pn.2.2.2.2.2 pn.2.1)) 4636737291354636288), .double ai.2.2.1, .double ai.2.2.2, .double le.1, .long le.2, .int (nI hr), .ref (ad 19), .ref (ad 20), .ref (ad 21), .ref (ad 22), .ref (ad 23), .ref (ad 24), .ref (ad 25), .ref (ad 26), .ref (ad 27), .int (nI tt.1), .int (nI pa), .int bad, .int num, .ref (ad 28), .ref (ad 29), .ref (ad 30), .ref (ad 31), .int (nI pn.1), .int (nI pn.2.1)])) := ⟨_, rfl⟩
      have hw : ww G dA A s L f11 H locs := by rw [ef11]; exact hw
      have hX12 : MX ad dA (nl + 1) nb (FP.i2d (pn.2.2.2.2.1 pn.2.1)) (FP.ddiv (FP.i2d (pn.2.2.2.2.2 pn.2.1)) 4636737291354636288) ai.2.2.1 ai.2.2.2 le.1 le.2 hr tt.1 pn.1 pn.2.1 thr pa bad num RA RB TH DE KI WE NX LI LM KE TX BW TI KV DM f0 f11 := by rw [ef11]; exact hX10.sO hC (FP.i2d (pn.2.2.2.2.1 pn.2.1)) (FP.ddiv (FP.i2d (pn.2.2.2.2.2 pn.2.1)) 4636737291354636288) ai.2.2.1 ai.2.2.2 le.1 le.2 hr tt.1 pn.1 pn.2.1 thr pa bad num
      refine lv_aload_n hx hb dX7_hour_50 rfl (lv_at hl 0 rfl) ?_
      refine lv_dup hx hb dX7_hour_51 rfl ?_
      refine wg (C := RX7) (T := TX7) (N := 31) hx hb hts hi7 hown hw (hC.m (by decide)) hX12.o rfl 30 (by decide) (hts (.fieldLink RX7 134 "LayerMoistureModel" "done" "I") (by decide +kernel)) (fun _ h9 => h9) (v := .int (nI pn.2.1)) rfl dX7_hour_52 ?_
      refine lv_iconst (v := 1) hx hb dX7_hour_55 (by decide) ?_
      refine lv_iadd hx hb dX7_hour_56 ?_
      rw [show (nI pn.2.1) + 1 = nI (pn.2.1 + 1) from nI_1 _]
      refine wp_ (C := RX7) (T := TX7) (N := 31) hx hb hts hi7 tyX7 tyX7_ok nmX7 hown hw (hC.m (by decide)) hX12.o rfl 30 (by decide) (hts (.fieldLink RX7 134 "LayerMoistureModel" "done" "I") (by decide +kernel)) (fun _ h9 => h9) rfl (ty := .int) (v := .int (nI (pn.2.1 + 1))) (by decide +kernel) rfl rfl (Nat.le_of_ble_eq_true rfl) dX7_hour_57 (fun H locs hw => ?_)
      obtain ⟨f13, ef13⟩ : ∃ z : Nat → va_E, z = va_up f11 (ad 16) (.inr (8, [.int thr, .int (nI (nl + 1)), .int (nI nb), .ref (ad 17), .ref (ad 18), .double (FP.i2d (pn.2.2.2.2.1 pn.2.1)), .double (FP.ddiv (FP.i2d (pn.2.2.2.2.2 pn.2.1)) 4636737291354636288), .double ai.2.2.1, .double ai.2.2.2, .double le.1, .long le.2, .int (nI hr), .ref (ad 19), .ref (ad 20), .ref (ad 21), .ref (ad 22), .ref (ad 23), .ref (ad 24), .ref (ad 25), .ref (ad 26), .ref (ad 27), .int (nI tt.1), .int (nI pa), .int bad, .int num, .ref (ad 28), .ref (ad 29), .ref (ad 30), .ref (ad 31), .int (nI pn.1), .int (nI (pn.2.1 + 1))])) := ⟨_, rfl⟩
      have hw : ww G dA A s L f13 H locs := by rw [ef13]; exact hw
      have hX14 : MX ad dA (nl + 1) nb (FP.i2d (pn.2.2.2.2.1 pn.2.1)) (FP.ddiv (FP.i2d (pn.2.2.2.2.2 pn.2.1)) 4636737291354636288) ai.2.2.1 ai.2.2.2 le.1 le.2 hr tt.1 pn.1 (pn.2.1 + 1) thr pa bad num RA RB TH DE KI WE NX LI LM KE TX BW TI KV DM f0 f13 := by rw [ef13]; exact hX12.sO hC (FP.i2d (pn.2.2.2.2.1 pn.2.1)) (FP.ddiv (FP.i2d (pn.2.2.2.2.2 pn.2.1)) 4636737291354636288) ai.2.2.1 ai.2.2.2 le.1 le.2 hr tt.1 pn.1 (pn.2.1 + 1) thr pa bad num
      exact main _ _ _ (by rw [eX, ep, e9]; exact hX14) hw ls (lv_sub hl [0] rfl)

set_option maxHeartbeats 4000000 in
set_option maxRecDepth 100000 in
theorem c_X7_run (l : Launch) (G : va_G) (dA : Nat → ClassId) (L : List Nat) (f : Nat → va_E) (ad : Nat → Nat) (nl nb : Nat) (q qk : Nat → Option Nat) (ai : sA) (le : sL) (bd : Nat → sB) (wt : Nat → Nat → UInt64) (kk : Nat → UInt64 × UInt64) (tt : sT) (pn : sP) (hr : Nat) (thr : Int32) (f0 : Nat → va_E) (h : Nat)  (hC : Cx ad L (nl + 1) nb q qk) (hM : RM ad dA (nl + 1) nb ai le bd wt kk tt pn hr thr f0 f) (hh : h ≤ 100) (hGR : GR nl nb kk (ai, le, bd, wt, pn, hr)) (hh3 : hr < 2 ^ 29)  : mI l yX7_run wsX7_run ({ frames := 4, cells := 0, slots := 0, locals := 96 }) G dA [.ref (ad 16), .int (nI h)] L f (fun r f2 => r = (runS nl nb kk h (ai, le, bd, wt, pn, hr)).1 ∧ RM ad dA (nl + 1) nb (runS nl nb kk h (ai, le, bd, wt, pn, hr)).2.1 (runS nl nb kk h (ai, le, bd, wt, pn, hr)).2.2.1 (runS nl nb kk h (ai, le, bd, wt, pn, hr)).2.2.2.1 (runS nl nb kk h (ai, le, bd, wt, pn, hr)).2.2.2.2.1 kk tt (runS nl nb kk h (ai, le, bd, wt, pn, hr)).2.2.2.2.2.1 (runS nl nb kk h (ai, le, bd, wt, pn, hr)).2.2.2.2.2.2 0 f0 f2) := by
  refine mI_of (cc := cX7_run) (maxL := 3) (by decide) rfl (Nat.le_of_ble_eq_true rfl) ?_
  intro p e s m below meth c A ls Q hx hb hml hown hts hlocks hA hin0 hw hl hret
  have hown : s.vm.findClass RX7 = some m.cls := hown
  have hl : lv_has ls 3 [(0, .ref (ad 16)), (1, .int (nI h))] := hl
  have hi7 : ∀ w ∈ u_ws RX7 TX7 31, w ∈ wsX7_run := by decide +kernel
  obtain ⟨pa, bad, num, RA, RB, TH, DE, KI, WE, NX, LI, LM, KE, TX, BW, TI, KV, DM, hX, hMk, hMb, hMw, hMt, hMp⟩ := hM
  refine lv_aload_n hx hb dX7_run_0 rfl (lv_at hl 0 rfl) ?_
  refine lv_iload_n hx hb dX7_run_1 rfl (lv_at hl 1 rfl) ?_
  refine lv_if_lt (tgt := 11) hx hb dX7_run_2 (by decide) (fun c9 => absurd c9 (nI_pos (by omega))) (fun _ => ?_)
  refine lv_iload_n hx hb dX7_run_5 rfl (lv_at hl 1 rfl) ?_
  refine lv_bipush (v := 100) hx hb dX7_run_6 (by decide) ?_
  refine lv_icmp_le (tgt := 15) hx hb dX7_run_8 (by decide) (fun _ => ?_) (fun c9 => absurd (nI_leI (b := 100) (by omega) (by decide) |>.mpr hh) c9)
  refine lv_iconst (v := 0) hx hb dX7_run_15 (by decide) ?_
  refine wp_ (C := RX7) (T := TX7) (N := 31) hx hb hts hi7 tyX7 tyX7_ok nmX7 hown hw (hC.m (by decide)) hX.o rfl 0 (by decide) (hts (.fieldLink RX7 78 "LayerMoistureModel" "thrown" "I") (by decide +kernel)) (fun _ h9 => h9) rfl (ty := .int) (v := .int 0) (by decide +kernel) rfl rfl (Nat.le_of_ble_eq_true rfl) dX7_run_16 (fun H locs hw => ?_)
  obtain ⟨f1, ef1⟩ : ∃ z : Nat → va_E, z = va_up f (ad 16) (.inr (8, [.int 0, .int (nI (nl + 1)), .int (nI nb), .ref (ad 17), .ref (ad 18), .double ai.1, .double ai.2.1, .double ai.2.2.1, .double ai.2.2.2, .double le.1, .long le.2, .int (nI hr), .ref (ad 19), .ref (ad 20), .ref (ad 21), .ref (ad 22), .ref (ad 23), .ref (ad 24), .ref (ad 25), .ref (ad 26), .ref (ad 27), .int (nI tt.1), .int (nI pa), .int bad, .int num, .ref (ad 28), .ref (ad 29), .ref (ad 30), .ref (ad 31), .int (nI pn.1), .int (nI pn.2.1)])) := ⟨_, rfl⟩
  have hw : ww G dA A s L f1 H locs := by rw [ef1]; exact hw
  have hX2 : MX ad dA (nl + 1) nb ai.1 ai.2.1 ai.2.2.1 ai.2.2.2 le.1 le.2 hr tt.1 pn.1 pn.2.1 0 pa bad num RA RB TH DE KI WE NX LI LM KE TX BW TI KV DM f0 f1 := by rw [ef1]; exact hX.sO hC ai.1 ai.2.1 ai.2.2.1 ai.2.2.2 le.1 le.2 hr tt.1 pn.1 pn.2.1 0 pa bad num
  refine lv_iconst (v := 0) hx hb dX7_run_19 (by decide) ?_
  refine lv_istore_n (lv' := [(2, .int 0), (0, .ref (ad 16)), (1, .int (nI h))]) hx hb dX7_run_20 rfl hl (by decide) rfl (fun ls hl => ?_)
  have loop : ∀ (kf i : Nat), i + kf = h → ∀ (x : sR), runS nl nb kk h (ai, le, bd, wt, pn, hr) = runS nl nb kk kf x → GR nl nb kk x → x.2.2.2.2.2 + kf < 2 ^ 30 → ∀ (fa : Nat → va_E) (H : Heap) (locs : List Loc), RM ad dA (nl + 1) nb x.1 x.2.1 x.2.2.1 x.2.2.2.1 kk tt x.2.2.2.2.1 x.2.2.2.2.2 0 f0 fa → ww G dA A s L fa H locs → ∀ (ls : Array Slot), lv_has ls 3 [(0, .ref (ad 16)), (1, .int (nI h)), (2, .int (nI i))] → W p l e ({ frames := 4, cells := 0, slots := 0, locals := 96 } : Room) s m ([.ref (ad 16), .int (nI h)] : List Value).toArray below meth c H locs 0 0 Q (F0 m 21 ls []) := by
    intro kf
    induction kf with
    | zero =>
      intro i hik x ex hG hh2 fa H locs hMa hw ls hl
      rw [show i = h by omega] at hl
      have e9 : runS nl nb kk h (ai, le, bd, wt, pn, hr) = (nI x.2.2.2.2.2, x) := ex
      have hM2 := hMa
      obtain ⟨pa, bad, num, RA, RB, TH, DE, KI, WE, NX, LI, LM, KE, TX, BW, TI, KV, DM, hXb, hMk, hMb, hMw, hMt, hMp⟩ := hMa
      refine lv_iload_n hx hb dX7_run_21 rfl (lv_at hl 2 rfl) ?_
      refine lv_iload_n hx hb dX7_run_22 rfl (lv_at hl 1 rfl) ?_
      refine lv_icmp_ge (tgt := 57) hx hb dX7_run_23 (by decide) (fun _ => ?_) (fun c9 => absurd (nI_le (Nat.le_refl h) (by omega)) c9)
      refine lv_aload_n hx hb dX7_run_57 rfl (lv_at hl 0 rfl) ?_
      refine wg (C := RX7) (T := TX7) (N := 31) hx hb hts hi7 hown hw (hC.m (by decide)) hXb.o rfl 0 (by decide) (hts (.fieldLink RX7 78 "LayerMoistureModel" "thrown" "I") (by decide +kernel)) (fun _ h9 => h9) (v := .int 0) rfl dX7_run_58 ?_
      refine lv_if_le (tgt := 68) hx hb dX7_run_61 (by decide) (fun _ => ?_) (fun c9 => absurd (by decide) c9)
      refine lv_aload_n hx hb dX7_run_68 rfl (lv_at hl 0 rfl) ?_
      refine wg (C := RX7) (T := TX7) (N := 31) hx hb hts hi7 hown hw (hC.m (by decide)) hXb.o rfl 11 (by decide) (hts (.fieldLink RX7 152 "LayerMoistureModel" "hours" "I") (by decide +kernel)) (fun _ h9 => h9) (v := .int (nI x.2.2.2.2.2)) rfl dX7_run_69 ?_
      exact hret _ _ _ _ _ _ hw ⟨by rw [e9], by rw [e9]; exact hM2⟩ rfl dX7_run_72
    | succ kf ih =>
      intro i hik x ex hG hh2 fa H locs hMa hw ls hl
      have hlt : i < h := by omega
      obtain ⟨g1, g2, g3, g4, g5⟩ := hG
      have hK := KH_ok (hr := x.2.2.2.2.2) (by omega)
      have hK2 : KOk (KH x.2.2.2.2.2 + 2) := KH_ok (hr := x.2.2.2.2.2 + 1) (by omega)
      have hM2 := hMa
      obtain ⟨pa, bad, num, RA, RB, TH, DE, KI, WE, NX, LI, LM, KE, TX, BW, TI, KV, DM, hXb, hMk, hMb, hMw, hMt, hMp⟩ := hMa
      refine lv_iload_n hx hb dX7_run_21 rfl (lv_at hl 2 rfl) ?_
      refine lv_iload_n hx hb dX7_run_22 rfl (lv_at hl 1 rfl) ?_
      refine lv_icmp_ge (tgt := 57) hx hb dX7_run_23 (by decide) (fun c9 => absurd c9 (nI_ge hlt (by omega))) (fun _ => ?_)
      refine lv_aload_n hx hb dX7_run_26 rfl (lv_at hl 0 rfl) ?_
      refine wg (C := RX7) (T := TX7) (N := 31) hx hb hts hi7 hown hw (hC.m (by decide)) hXb.o rfl 0 (by decide) (hts (.fieldLink RX7 78 "LayerMoistureModel" "thrown" "I") (by decide +kernel)) (fun _ h9 => h9) (v := .int 0) rfl dX7_run_27 ?_
      refine lv_if_ne (tgt := 57) hx hb dX7_run_30 (by decide) (fun c9 => absurd c9 (fun h7 => h7 rfl)) (fun _ => ?_)
      refine lv_aload_n hx hb dX7_run_33 rfl (lv_at hl 0 rfl) ?_
      refine kV_I (C := RX7) (T := TX7) (N := 31) (As := []) (rest := []) ⟨hx, hb, hml, hown, hts⟩ (c_X7_isRefused l G dA L fa ad (nl + 1) nb q qk ((x.1).1) ((x.1).2.1) ((x.1).2.2.1) ((x.1).2.2.2) ((x.2.1).1) ((x.2.1).2) x.2.2.2.2.2 tt.1 ((x.2.2.2.2.1).1) ((x.2.2.2.2.1).2.1) 0 pa bad num RA RB TH DE KI WE NX LI LM KE TX BW TI KV DM f0 x.2.2.1 x.2.2.2.1 kk hC hXb hMk hMb hMw (KH x.2.2.2.2.2) hK g3 g5 g1.2.2.1) (cwV 0 hts gX7_run_X7_isRefused rfl rfl rfl (by decide +kernel) ⟨Nat.le_of_ble_eq_true rfl, Nat.le_of_ble_eq_true rfl⟩) hw hA (hC.m (by decide)) hXb.o rfl rfl hl.1 rfl (Nat.le_of_ble_eq_true rfl) dX7_run_34 ⟨Nat.zero_le _, Nat.zero_le _⟩ (fun r4 f3 H locs hp hw => ?_)
      obtain ⟨e1, e2⟩ := hp
      rw [e2] at hw
      rw [e1]
      refine lv_if_eq (tgt := 47) hx hb dX7_run_37 (by decide) (fun c37 => ?_) (fun c37 => ?_)
      · have c37 : b2i (refS (nl + 1) nb kk x) = 0 := c37
        have q37 := b2i_f c37
        refine lv_aload_n hx hb dX7_run_47 rfl (lv_at hl 0 rfl) ?_
        refine kV_V (C := RX7) (T := TX7) (N := 31) (As := []) (rest := []) ⟨hx, hb, hml, hown, hts⟩ (c_X7_hour l G dA L fa ad nl nb q qk x.1 x.2.1 x.2.2.1 x.2.2.2.1 kk tt x.2.2.2.2.1 x.2.2.2.2.2 0 f0 hC hM2 (KH x.2.2.2.2.2) hK g3 hK2 g4 g5 g1 g2 (refS_no q37)) (cwV 0 hts gX7_run_X7_hour rfl rfl rfl (by decide +kernel) ⟨Nat.le_of_ble_eq_true rfl, Nat.le_of_ble_eq_true rfl⟩) hw hA (hC.m (by decide)) hXb.o rfl rfl hl.1 rfl (Nat.le_of_ble_eq_true rfl) dX7_run_48 ⟨Nat.zero_le _, Nat.zero_le _⟩ (fun f5 H locs hp hw => ?_)
        refine lv_iinc (v := nI (i + 1)) (lv' := [(2, .int (nI (i + 1))), (0, .ref (ad 16)), (1, .int (nI h))]) hx hb dX7_run_51 hl (k := 2) rfl (nI_1 i) (by decide) rfl (fun ls hl => ?_)
        refine lv_goto (tgt := 21) hx hb dX7_run_54 (by decide) ?_
        exact ih (i + 1) (by omega) (hourS nl nb kk x) (by rw [ex, runS, if_neg (by rw [q37]; exact Bool.false_ne_true)]) (GR.hour ⟨g1, g2, g3, g4, g5⟩ (by omega) q37) (by show x.2.2.2.2.2 + 1 + kf < 2 ^ 30; omega) _ _ _ hp hw ls (lv_sub hl [1, 2, 0] rfl)
      · have c37 : ¬ b2i (refS (nl + 1) nb kk x) = 0 := c37
        have q37 := b2i_t c37
        have e9 : runS nl nb kk h (ai, le, bd, wt, pn, hr) = (-1 - nI x.2.2.2.2.2, x) := by rw [ex, runS, if_pos q37]
        refine lv_iconst (v := (-1)) hx hb dX7_run_40 (by decide) ?_
        refine lv_aload_n hx hb dX7_run_41 rfl (lv_at hl 0 rfl) ?_
        refine wg (C := RX7) (T := TX7) (N := 31) hx hb hts hi7 hown hw (hC.m (by decide)) hXb.o rfl 11 (by decide) (hts (.fieldLink RX7 152 "LayerMoistureModel" "hours" "I") (by decide +kernel)) (fun _ h9 => h9) (v := .int (nI x.2.2.2.2.2)) rfl dX7_run_42 ?_
        refine lv_isub hx hb dX7_run_45 ?_
        exact hret _ _ _ _ _ _ hw ⟨by rw [e9], by rw [e9]; exact hM2⟩ rfl dX7_run_46
  exact loop h 0 (by omega) (ai, le, bd, wt, pn, hr) rfl hGR (by show hr + h < 2 ^ 30; omega) _ _ _ ⟨_, _, _, _, _, _, _, _, _, _, _, _, _, _, _, _, _, _, hX2, hMk, hMb, hMw, hMt, hMp⟩ hw ls (lv_sub hl [1, 2, 0] rfl)

set_option maxHeartbeats 4000000 in
set_option maxRecDepth 100000 in
theorem t1_X7_run (l : Launch) (G : va_G) (dA : Nat → ClassId) (L : List Nat) (f : Nat → va_E) (ad : Nat → Nat) (n nb : Nat) (q qk : Nat → Option Nat) (kel : UInt64) (dmp : UInt64) (spd : UInt64) (ven : UInt64) (lef : UInt64) (gon : Int64) (hr : Nat) (tl : Nat) (st : Nat) (dn : Nat) (thr : Int32) (pa : Nat) (bad : Int32) (num : Int32) (RA : Nat → UInt64) (RB : Nat → UInt64) (TH : Nat → Int32) (DE : Nat → UInt64) (KI : Nat → Int32) (WE : Nat → UInt64) (NX : Nat → UInt64) (LI : Nat → Int32) (LM : Nat → UInt64) (KE : Nat → Int32) (TX : Nat → Int32) (BW : Nat → Int32) (TI : Nat → Int32) (KV : Nat → Int32) (DM : Nat → Int32) (f0 : Nat → va_E) (k : Int32)  (hC : Cx ad L n nb q qk) (hX : MX ad dA n nb kel dmp spd ven lef gon hr tl st dn thr pa bad num RA RB TH DE KI WE NX LI LM KE TX BW TI KV DM f0 f) (hbad : k < 0 ∨ 100 < k)  : mI l yX7_run wsX7_run ({ frames := 0, cells := 0, slots := 0, locals := 0 }) G dA [.ref (ad 16), .int k] L f (fun r f2 => MX ad dA n nb kel dmp spd ven lef gon hr tl st dn 1 pa bad num RA RB TH DE KI WE NX LI LM KE TX BW TI KV DM f0 f2) := by
  refine mI_of (cc := cX7_run) (maxL := 3) (by decide) rfl (Nat.le_of_ble_eq_true rfl) ?_
  intro p e s m below meth c A ls Q hx hb hml hown hts hlocks hA hin0 hw hl hret
  have hown : s.vm.findClass RX7 = some m.cls := hown
  have hl : lv_has ls 3 [(0, .ref (ad 16)), (1, .int k)] := hl
  have hi7 : ∀ w ∈ u_ws RX7 TX7 31, w ∈ wsX7_run := by decide +kernel
  refine lv_aload_n hx hb dX7_run_0 rfl (lv_at hl 0 rfl) ?_
  refine lv_iload_n hx hb dX7_run_1 rfl (lv_at hl 1 rfl) ?_
  refine lv_if_lt (tgt := 11) hx hb dX7_run_2 (by decide) (fun c2 => ?_) (fun c2 => ?_)
  · refine lv_iconst (v := 1) hx hb dX7_run_11 (by decide) ?_
    refine lv_goto (tgt := 16) hx hb dX7_run_12 (by decide) ?_
    refine wp_ (C := RX7) (T := TX7) (N := 31) hx hb hts hi7 tyX7 tyX7_ok nmX7 hown hw (hC.m (by decide)) hX.o rfl 0 (by decide) (hts (.fieldLink RX7 78 "LayerMoistureModel" "thrown" "I") (by decide +kernel)) (fun _ h9 => h9) rfl (ty := .int) (v := .int 1) (by decide +kernel) rfl rfl (Nat.le_of_ble_eq_true rfl) dX7_run_16 (fun H locs hw => ?_)
    obtain ⟨f1, ef1⟩ : ∃ z : Nat → va_E, z = va_up f (ad 16) (.inr (8, [.int 1, .int (nI n), .int (nI nb), .ref (ad 17), .ref (ad 18), .double kel, .double dmp, .double spd, .double ven, .double lef, .long gon, .int (nI hr), .ref (ad 19), .ref (ad 20), .ref (ad 21), .ref (ad 22), .ref (ad 23), .ref (ad 24), .ref (ad 25), .ref (ad 26), .ref (ad 27), .int (nI tl), .int (nI pa), .int bad, .int num, .ref (ad 28), .ref (ad 29), .ref (ad 30), .ref (ad 31), .int (nI st), .int (nI dn)])) := ⟨_, rfl⟩
    have hw : ww G dA A s L f1 H locs := by rw [ef1]; exact hw
    have hX2 : MX ad dA n nb kel dmp spd ven lef gon hr tl st dn 1 pa bad num RA RB TH DE KI WE NX LI LM KE TX BW TI KV DM f0 f1 := by rw [ef1]; exact hX.sO hC kel dmp spd ven lef gon hr tl st dn 1 pa bad num
    refine lv_iconst (v := 0) hx hb dX7_run_19 (by decide) ?_
    refine lv_istore_n (lv' := [(2, .int 0), (0, .ref (ad 16)), (1, .int k)]) hx hb dX7_run_20 rfl hl (by decide) rfl (fun ls hl => ?_)
    refine lv_iload_n hx hb dX7_run_21 rfl (lv_at hl 0 rfl) ?_
    refine lv_iload_n hx hb dX7_run_22 rfl (lv_at hl 2 rfl) ?_
    refine lv_icmp_ge (tgt := 57) hx hb dX7_run_23 (by decide) (fun c23 => ?_) (fun c23 => ?_)
    · refine lv_aload_n hx hb dX7_run_57 rfl (lv_at hl 1 rfl) ?_
      refine wg (C := RX7) (T := TX7) (N := 31) hx hb hts hi7 hown hw (hC.m (by decide)) hX2.o rfl 0 (by decide) (hts (.fieldLink RX7 78 "LayerMoistureModel" "thrown" "I") (by decide +kernel)) (fun _ h9 => h9) (v := .int 1) rfl dX7_run_58 ?_
      refine lv_if_le (tgt := 68) hx hb dX7_run_61 (by decide) (fun c9 => absurd c9 (by decide)) (fun _ => ?_)
      refine lv_iconst (v := 0) hx hb dX7_run_64 (by decide) ?_
      refine lv_goto (tgt := 72) hx hb dX7_run_65 (by decide) ?_
      exact hret _ _ _ _ _ _ hw hX2 rfl dX7_run_72
    · refine lv_aload_n hx hb dX7_run_26 rfl (lv_at hl 1 rfl) ?_
      refine wg (C := RX7) (T := TX7) (N := 31) hx hb hts hi7 hown hw (hC.m (by decide)) hX2.o rfl 0 (by decide) (hts (.fieldLink RX7 78 "LayerMoistureModel" "thrown" "I") (by decide +kernel)) (fun _ h9 => h9) (v := .int 1) rfl dX7_run_27 ?_
      refine lv_if_ne (tgt := 57) hx hb dX7_run_30 (by decide) (fun _ => ?_) (fun c9 => absurd c9 (by decide))
      refine lv_aload_n hx hb dX7_run_57 rfl (lv_at hl 1 rfl) ?_
      refine wg (C := RX7) (T := TX7) (N := 31) hx hb hts hi7 hown hw (hC.m (by decide)) hX2.o rfl 0 (by decide) (hts (.fieldLink RX7 78 "LayerMoistureModel" "thrown" "I") (by decide +kernel)) (fun _ h9 => h9) (v := .int 1) rfl dX7_run_58 ?_
      refine lv_if_le (tgt := 68) hx hb dX7_run_61 (by decide) (fun c9 => absurd c9 (by decide)) (fun _ => ?_)
      refine lv_iconst (v := 0) hx hb dX7_run_64 (by decide) ?_
      refine lv_goto (tgt := 72) hx hb dX7_run_65 (by decide) ?_
      exact hret _ _ _ _ _ _ hw hX2 rfl dX7_run_72
  · refine lv_iload_n hx hb dX7_run_5 rfl (lv_at hl 1 rfl) ?_
    refine lv_bipush (v := 100) hx hb dX7_run_6 (by decide) ?_
    refine lv_icmp_le (tgt := 15) hx hb dX7_run_8 (by decide) (fun c9 => absurd c9 (fun h7 => hbad.elim c2 (fun h8 => absurd h7 (Int32.not_le.mpr h8)))) (fun _ => ?_)
    refine lv_iconst (v := 1) hx hb dX7_run_11 (by decide) ?_
    refine lv_goto (tgt := 16) hx hb dX7_run_12 (by decide) ?_
    refine wp_ (C := RX7) (T := TX7) (N := 31) hx hb hts hi7 tyX7 tyX7_ok nmX7 hown hw (hC.m (by decide)) hX.o rfl 0 (by decide) (hts (.fieldLink RX7 78 "LayerMoistureModel" "thrown" "I") (by decide +kernel)) (fun _ h9 => h9) rfl (ty := .int) (v := .int 1) (by decide +kernel) rfl rfl (Nat.le_of_ble_eq_true rfl) dX7_run_16 (fun H locs hw => ?_)
    obtain ⟨f3, ef3⟩ : ∃ z : Nat → va_E, z = va_up f (ad 16) (.inr (8, [.int 1, .int (nI n), .int (nI nb), .ref (ad 17), .ref (ad 18), .double kel, .double dmp, .double spd, .double ven, .double lef, .long gon, .int (nI hr), .ref (ad 19), .ref (ad 20), .ref (ad 21), .ref (ad 22), .ref (ad 23), .ref (ad 24), .ref (ad 25), .ref (ad 26), .ref (ad 27), .int (nI tl), .int (nI pa), .int bad, .int num, .ref (ad 28), .ref (ad 29), .ref (ad 30), .ref (ad 31), .int (nI st), .int (nI dn)])) := ⟨_, rfl⟩
    have hw : ww G dA A s L f3 H locs := by rw [ef3]; exact hw
    have hX4 : MX ad dA n nb kel dmp spd ven lef gon hr tl st dn 1 pa bad num RA RB TH DE KI WE NX LI LM KE TX BW TI KV DM f0 f3 := by rw [ef3]; exact hX.sO hC kel dmp spd ven lef gon hr tl st dn 1 pa bad num
    refine lv_iconst (v := 0) hx hb dX7_run_19 (by decide) ?_
    refine lv_istore_n (lv' := [(2, .int 0), (0, .ref (ad 16)), (1, .int k)]) hx hb dX7_run_20 rfl hl (by decide) rfl (fun ls hl => ?_)
    refine lv_iload_n hx hb dX7_run_21 rfl (lv_at hl 0 rfl) ?_
    refine lv_iload_n hx hb dX7_run_22 rfl (lv_at hl 2 rfl) ?_
    refine lv_icmp_ge (tgt := 57) hx hb dX7_run_23 (by decide) (fun c23 => ?_) (fun c23 => ?_)
    · refine lv_aload_n hx hb dX7_run_57 rfl (lv_at hl 1 rfl) ?_
      refine wg (C := RX7) (T := TX7) (N := 31) hx hb hts hi7 hown hw (hC.m (by decide)) hX4.o rfl 0 (by decide) (hts (.fieldLink RX7 78 "LayerMoistureModel" "thrown" "I") (by decide +kernel)) (fun _ h9 => h9) (v := .int 1) rfl dX7_run_58 ?_
      refine lv_if_le (tgt := 68) hx hb dX7_run_61 (by decide) (fun c9 => absurd c9 (by decide)) (fun _ => ?_)
      refine lv_iconst (v := 0) hx hb dX7_run_64 (by decide) ?_
      refine lv_goto (tgt := 72) hx hb dX7_run_65 (by decide) ?_
      exact hret _ _ _ _ _ _ hw hX4 rfl dX7_run_72
    · refine lv_aload_n hx hb dX7_run_26 rfl (lv_at hl 1 rfl) ?_
      refine wg (C := RX7) (T := TX7) (N := 31) hx hb hts hi7 hown hw (hC.m (by decide)) hX4.o rfl 0 (by decide) (hts (.fieldLink RX7 78 "LayerMoistureModel" "thrown" "I") (by decide +kernel)) (fun _ h9 => h9) (v := .int 1) rfl dX7_run_27 ?_
      refine lv_if_ne (tgt := 57) hx hb dX7_run_30 (by decide) (fun _ => ?_) (fun c9 => absurd c9 (by decide))
      refine lv_aload_n hx hb dX7_run_57 rfl (lv_at hl 1 rfl) ?_
      refine wg (C := RX7) (T := TX7) (N := 31) hx hb hts hi7 hown hw (hC.m (by decide)) hX4.o rfl 0 (by decide) (hts (.fieldLink RX7 78 "LayerMoistureModel" "thrown" "I") (by decide +kernel)) (fun _ h9 => h9) (v := .int 1) rfl dX7_run_58 ?_
      refine lv_if_le (tgt := 68) hx hb dX7_run_61 (by decide) (fun c9 => absurd c9 (by decide)) (fun _ => ?_)
      refine lv_iconst (v := 0) hx hb dX7_run_64 (by decide) ?_
      refine lv_goto (tgt := 72) hx hb dX7_run_65 (by decide) ?_
      exact hret _ _ _ _ _ _ hw hX4 rfl dX7_run_72
