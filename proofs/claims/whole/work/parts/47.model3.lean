theorem cmp_ggt {o : Option Ordering} (h : 0 < Op.cmpValue o .g) (hn : ¬ o = none) : o = some .gt := by
  rcases o with _ | o
  · exact absurd rfl hn
  · cases o
    · exact absurd h (by decide)
    · exact absurd h (by decide)
    · rfl

set_option maxHeartbeats 4000000 in
set_option maxRecDepth 100000 in
theorem c_X7_isRefused (l : Launch) (G : va_G) (dA : Nat → ClassId) (L : List Nat) (f : Nat → va_E) (ad : Nat → Nat) (n nb : Nat) (q qk : Nat → Option Nat) (kel : UInt64) (dmp : UInt64) (spd : UInt64) (ven : UInt64) (lef : UInt64) (gon : Int64) (hr : Nat) (tl : Nat) (st : Nat) (dn : Nat) (thr : Int32) (pa : Nat) (bad : Int32) (num : Int32) (RA : Nat → UInt64) (RB : Nat → UInt64) (TH : Nat → Int32) (DE : Nat → UInt64) (KI : Nat → Int32) (WE : Nat → UInt64) (NX : Nat → UInt64) (LI : Nat → Int32) (LM : Nat → UInt64) (KE : Nat → Int32) (TX : Nat → Int32) (BW : Nat → Int32) (TI : Nat → Int32) (KV : Nat → Int32) (DM : Nat → Int32) (f0 : Nat → va_E) (bd : Nat → sB) (wt : Nat → Nat → UInt64) (kk : Nat → UInt64 × UInt64)  (hC : Cx ad L n nb q qk) (hX : MX ad dA n nb kel dmp spd ven lef gon hr tl st dn thr pa bad num RA RB TH DE KI WE NX LI LM KE TX BW TI KV DM f0 f) (hMk : MGk kk RA RB) (hMb : MGb nb bd TH DE KI LI LM KE) (hMw : MGw n nb wt WE) (K : Nat) (hK : KOk K) (hB : GB n nb K bd wt) (hk4 : GK kk) (hs : Np (2 ^ 1078) spd)  : mI l yX7_isRefused wsX7_isRefused ({ frames := 0, cells := 0, slots := 0, locals := 0 }) G dA [.ref (ad 16)] L f (fun r f2 => r = b2i (anyF (rfP bd wt kk spd n) nb 0) ∧ f2 = f) := by
  refine mI_of (cc := cX7_isRefused) (maxL := 6) (by decide) rfl (Nat.le_of_ble_eq_true rfl) ?_
  intro p e s m below meth c A ls Q hx hb hml hown hts hlocks hA hin0 hw hl hret
  have hown : s.vm.findClass RX7 = some m.cls := hown
  have hl : lv_has ls 6 [(0, .ref (ad 16))] := hl
  have hi7 : ∀ w ∈ u_ws RX7 TX7 31, w ∈ wsX7_isRefused := by decide +kernel
  refine lv_iconst (v := 0) hx hb dX7_isRefused_0 (by decide) ?_
  refine lv_istore_n (lv' := [(1, .int 0), (0, .ref (ad 16))]) hx hb dX7_isRefused_1 rfl hl (by decide) rfl (fun ls hl => ?_)
  have loop : ∀ (kf k : Nat), k + kf = nb → anyF (rfP bd wt kk spd n) nb 0 = anyF (rfP bd wt kk spd n) kf k → ∀ (ls : Array Slot), lv_has ls 6 [(0, .ref (ad 16)), (1, .int (nI k))] → W p l e ({ frames := 0, cells := 0, slots := 0, locals := 0 } : Room) s m ([.ref (ad 16)] : List Value).toArray below meth c s.heap [] 0 0 Q (F0 m 2 ls []) := by
    intro kf
    induction kf with
    | zero =>
      intro k hik hG ls hl
      rw [show k = nb by omega] at hl
      have e9 : anyF (rfP bd wt kk spd n) nb 0 = false := hG
      refine lv_iload_n hx hb dX7_isRefused_2 rfl (lv_at hl 1 rfl) ?_
      refine lv_aload_n hx hb dX7_isRefused_3 rfl (lv_at hl 0 rfl) ?_
      refine wg (C := RX7) (T := TX7) (N := 31) hx hb hts hi7 hown hw (hC.m (by decide)) hX.o rfl 2 (by decide) (hts (.fieldLink RX7 75 "LayerMoistureModel" "boards" "I") (by decide +kernel)) (fun _ h9 => h9) (v := .int (nI nb)) rfl dX7_isRefused_4 ?_
      refine lv_icmp_ge (tgt := 145) hx hb dX7_isRefused_7 (by decide) (fun _ => ?_) (fun c9 => absurd (nI_le (Nat.le_refl _) hC.nb31) c9)
      refine lv_iconst (v := 0) hx hb dX7_isRefused_145 (by decide) ?_
      exact hret _ _ _ _ _ _ hw ⟨by rw [e9]; rfl, rfl⟩ (by decide) dX7_isRefused_146
    | succ kf ih =>
      intro k hik hG ls hl
      have hlt : k < nb := by omega
      have hlk := hlt
      refine lv_iload_n hx hb dX7_isRefused_2 rfl (lv_at hl 1 rfl) ?_
      refine lv_aload_n hx hb dX7_isRefused_3 rfl (lv_at hl 0 rfl) ?_
      refine wg (C := RX7) (T := TX7) (N := 31) hx hb hts hi7 hown hw (hC.m (by decide)) hX.o rfl 2 (by decide) (hts (.fieldLink RX7 75 "LayerMoistureModel" "boards" "I") (by decide +kernel)) (fun _ h9 => h9) (v := .int (nI nb)) rfl dX7_isRefused_4 ?_
      refine lv_icmp_ge (tgt := 145) hx hb dX7_isRefused_7 (by decide) (fun c9 => absurd c9 (nI_ge hlt hC.nb31)) (fun _ => ?_)
      refine lv_aload_n hx hb dX7_isRefused_10 rfl (lv_at hl 0 rfl) ?_
      refine wg (C := RX7) (T := TX7) (N := 31) hx hb hts hi7 hown hw (hC.m (by decide)) hX.o rfl 12 (by decide) (hts (.fieldLink RX7 30 "LayerMoistureModel" "there" "[Z") (by decide +kernel)) (fun _ h9 => h9) (v := .ref (ad 19)) rfl dX7_isRefused_11 ?_
      refine lv_iload_n hx hb dX7_isRefused_14 rfl (lv_at hl 1 rfl) ?_
      refine wld_z hx hb hw (hC.m (by decide)) hX.aTH k (by have := hC.2.2.2.1; omega) (by decide) rfl dX7_isRefused_15 ?_
      rw [show TH k = (bd k).1 from (hMb k hlt).1]
      refine lv_if_eq (tgt := 139) hx hb dX7_isRefused_16 (by decide) (fun c16 => ?_) (fun c16 => ?_)
      · have q9 : rfP bd wt kk spd n k = false := by unfold rfP; rw [decide_eq_true c16]; rfl
        refine lv_iinc (v := nI (k + 1)) (lv' := [(1, .int (nI (k + 1))), (0, .ref (ad 16))]) hx hb dX7_isRefused_139 hl (k := 1) rfl (nI_1 k) (by decide) rfl (fun ls hl => ?_)
        refine lv_goto (tgt := 2) hx hb dX7_isRefused_142 (by decide) ?_
        exact ih (k + 1) (by omega) (by rw [hG, anyF, q9]; rfl) ls (lv_sub hl [1, 0] rfl)
      · obtain ⟨hd, hg⟩ := (hB k hlk).2 c16
        have hk := hk4 _ (hB k hlk).1
        obtain ⟨m1, m2, -⟩ := b_max (b := K * gG) n hg
        have hm : Np (2 ^ 1076) (maxD (wt k) n) := m1.np (Nat.le_trans m2 hK.le)
        obtain ⟨⟨n1, -, -⟩, n5, -⟩ := b_dep hd
        obtain ⟨n2, n6, -, -⟩ := b_ref hs hd hk.1 hk.2 hm
        obtain ⟨n3, n4, -, -⟩ := b_speed hk.1 hk.2 hm
        refine lv_dconst0 hx hb dX7_isRefused_19 ?_
        refine lv_dstore_n (lv' := [(2, .double FP.dconst0), (0, .ref (ad 16)), (1, .int (nI k))]) hx hb dX7_isRefused_20 rfl hl (by decide) rfl (fun ls hl => ?_)
        refine lv_iconst (v := 0) hx hb dX7_isRefused_21 (by decide) ?_
        refine lv_istore (lv' := [(4, .int 0), (2, .double FP.dconst0), (0, .ref (ad 16)), (1, .int (nI k))]) hx hb dX7_isRefused_22 hl (by decide) rfl (fun ls hl => ?_)
        have loopi : ∀ (kf2 i : Nat), i + kf2 = n → ∀ (ls : Array Slot), lv_has ls 6 [(0, .ref (ad 16)), (1, .int (nI k)), (2, .double (maxD (wt k) i)), (4, .int (nI i))] → W p l e ({ frames := 0, cells := 0, slots := 0, locals := 0 } : Room) s m ([.ref (ad 16)] : List Value).toArray below meth c s.heap [] 0 0 Q (F0 m 24 ls []) := by
          intro kf2
          induction kf2 with
          | zero =>
            intro i hik2 ls hl
            rw [show i = n by omega] at hl
            refine lv_iload hx hb dX7_isRefused_24 (lv_at hl 3 rfl) ?_
            refine lv_aload_n hx hb dX7_isRefused_26 rfl (lv_at hl 0 rfl) ?_
            refine wg (C := RX7) (T := TX7) (N := 31) hx hb hts hi7 hown hw (hC.m (by decide)) hX.o rfl 1 (by decide) (hts (.fieldLink RX7 71 "LayerMoistureModel" "layers" "I") (by decide +kernel)) (fun _ h9 => h9) (v := .int (nI n)) rfl dX7_isRefused_27 ?_
            refine lv_icmp_ge (tgt := 73) hx hb dX7_isRefused_30 (by decide) (fun _ => ?_) (fun c9 => absurd (nI_le (Nat.le_refl _) hC.n31) c9)
            refine lv_aload_n hx hb dX7_isRefused_73 rfl (lv_at hl 0 rfl) ?_
            refine wg (C := RX7) (T := TX7) (N := 31) hx hb hts hi7 hown hw (hC.m (by decide)) hX.o rfl 13 (by decide) (hts (.fieldLink RX7 34 "LayerMoistureModel" "depths" "[D") (by decide +kernel)) (fun _ h9 => h9) (v := .ref (ad 20)) rfl dX7_isRefused_74 ?_
            refine lv_iload_n hx hb dX7_isRefused_77 rfl (lv_at hl 1 rfl) ?_
            refine wld_d hx hb hw (hC.m (by decide)) hX.aDE k (by have := hC.2.2.2.1; omega) (by decide) rfl dX7_isRefused_78 ?_
            rw [show DE k = (bd k).2.1 from (hMb k hlk).2.1]
            refine lv_dstore (lv' := [(4, .double ((bd k).2.1)), (0, .ref (ad 16)), (1, .int (nI k)), (2, .double (maxD (wt k) n))]) hx hb dX7_isRefused_79 hl (by decide) rfl (fun ls hl => ?_)
            refine lv_aload_n hx hb dX7_isRefused_81 rfl (lv_at hl 1 rfl) ?_
            refine wg (C := RX7) (T := TX7) (N := 31) hx hb hts hi7 hown hw (hC.m (by decide)) hX.o rfl 7 (by decide) (hts (.fieldLink RX7 27 "LayerMoistureModel" "speed" "D") (by decide +kernel)) (fun _ h9 => h9) (v := .double spd) rfl dX7_isRefused_82 ?_
            refine lv_ldc2d (v := 4620693217682128896) hx hb hown (hts (.constantDouble RX7 93 (4620693217682128896)) (by decide +kernel)) dX7_isRefused_85 ?_
            refine lv_dload hx hb dX7_isRefused_88 (lv_at hl 0 rfl) ?_
            refine lv_dmul hx hb dX7_isRefused_90 n1 ?_
            refine lv_ddiv hx hb dX7_isRefused_91 n2 ?_
            refine lv_ldc2d (v := 4598175219545276416) hx hb hown (hts (.constantDouble RX7 150 (4598175219545276416)) (by decide +kernel)) dX7_isRefused_92 ?_
            refine lv_dcmp hx hb dX7_isRefused_95 ?_
            refine lv_if_gt (tgt := 137) hx hb dX7_isRefused_96 (by decide) (fun c96 => ?_) (fun c96 => ?_)
            · have e9 : anyF (rfP bd wt kk spd n) nb 0 = true := by rw [hG, anyF]; unfold rfP; rw [decide_eq_false c16, show sp_ref spd (bd k).2.1 (kk (bd k).2.2.2.2.2).1 (kk (bd k).2.2.2.2.2).2 (maxD (wt k) n) = true from (by simp [sp_ref, cmp_gt c96])]; rfl
              refine lv_iconst (v := 1) hx hb dX7_isRefused_137 (by decide) ?_
              exact hret _ _ _ _ _ _ hw ⟨by rw [e9]; rfl, rfl⟩ (by decide) dX7_isRefused_138
            · have q14 := cmp_ngt c96
              refine lv_aload_n hx hb dX7_isRefused_99 rfl (lv_at hl 1 rfl) ?_
              refine wg (C := RX7) (T := TX7) (N := 31) hx hb hts hi7 hown hw (hC.m (by decide)) hX.o rfl 3 (by decide) (hts (.fieldLink RX7 7 "LayerMoistureModel" "rateA" "[D") (by decide +kernel)) (fun _ h9 => h9) (v := .ref (ad 17)) rfl dX7_isRefused_100 ?_
              refine lv_aload_n hx hb dX7_isRefused_103 rfl (lv_at hl 1 rfl) ?_
              refine wg (C := RX7) (T := TX7) (N := 31) hx hb hts hi7 hown hw (hC.m (by decide)) hX.o rfl 14 (by decide) (hts (.fieldLink RX7 37 "LayerMoistureModel" "kinds" "[I") (by decide +kernel)) (fun _ h9 => h9) (v := .ref (ad 21)) rfl dX7_isRefused_104 ?_
              refine lv_iload_n hx hb dX7_isRefused_107 rfl (lv_at hl 2 rfl) ?_
              refine wld_i hx hb hw (hC.m (by decide)) hX.aKI k (by have := hC.2.2.2.1; omega) (by decide) rfl dX7_isRefused_108 ?_
              rw [show KI k = nI (bd k).2.2.2.2.2 from (hMb k hlk).2.2.2.2.2]
              refine wld_d hx hb hw (hC.m (by decide)) hX.aRA ((bd k).2.2.2.2.2) (hB k hlk).1 (by decide) rfl dX7_isRefused_109 ?_
              rw [show RA ((bd k).2.2.2.2.2) = (kk (bd k).2.2.2.2.2).1 from (hMk _ (hB k hlk).1).1]
              refine lv_aload_n hx hb dX7_isRefused_110 rfl (lv_at hl 1 rfl) ?_
              refine wg (C := RX7) (T := TX7) (N := 31) hx hb hts hi7 hown hw (hC.m (by decide)) hX.o rfl 4 (by decide) (hts (.fieldLink RX7 13 "LayerMoistureModel" "rateB" "[D") (by decide +kernel)) (fun _ h9 => h9) (v := .ref (ad 18)) rfl dX7_isRefused_111 ?_
              refine lv_aload_n hx hb dX7_isRefused_114 rfl (lv_at hl 1 rfl) ?_
              refine wg (C := RX7) (T := TX7) (N := 31) hx hb hts hi7 hown hw (hC.m (by decide)) hX.o rfl 14 (by decide) (hts (.fieldLink RX7 37 "LayerMoistureModel" "kinds" "[I") (by decide +kernel)) (fun _ h9 => h9) (v := .ref (ad 21)) rfl dX7_isRefused_115 ?_
              refine lv_iload_n hx hb dX7_isRefused_118 rfl (lv_at hl 2 rfl) ?_
              refine wld_i hx hb hw (hC.m (by decide)) hX.aKI k (by have := hC.2.2.2.1; omega) (by decide) rfl dX7_isRefused_119 ?_
              rw [show KI k = nI (bd k).2.2.2.2.2 from (hMb k hlk).2.2.2.2.2]
              refine wld_d hx hb hw (hC.m (by decide)) hX.aRB ((bd k).2.2.2.2.2) (hB k hlk).1 (by decide) rfl dX7_isRefused_120 ?_
              rw [show RB ((bd k).2.2.2.2.2) = (kk (bd k).2.2.2.2.2).2 from (hMk _ (hB k hlk).1).2]
              refine lv_dload_n hx hb dX7_isRefused_121 rfl (lv_at hl 3 rfl) ?_
              refine lv_dmul hx hb dX7_isRefused_122 n3 ?_
              refine lv_dadd hx hb dX7_isRefused_123 n4 ?_
              refine lv_dload hx hb dX7_isRefused_124 (lv_at hl 0 rfl) ?_
              refine lv_dload hx hb dX7_isRefused_126 (lv_at hl 0 rfl) ?_
              refine lv_dmul hx hb dX7_isRefused_128 n5 ?_
              refine lv_ddiv hx hb dX7_isRefused_129 n6 ?_
              refine lv_ldc2d (v := 4598175219545276416) hx hb hown (hts (.constantDouble RX7 150 (4598175219545276416)) (by decide +kernel)) dX7_isRefused_130 ?_
              refine lv_dcmp hx hb dX7_isRefused_133 ?_
              refine lv_if_le (tgt := 139) hx hb dX7_isRefused_134 (by decide) (fun c134 => ?_) (fun c134 => ?_)
              · have q9 : rfP bd wt kk spd n k = false := by unfold rfP; rw [show sp_ref spd (bd k).2.1 (kk (bd k).2.2.2.2.2).1 (kk (bd k).2.2.2.2.2).2 (maxD (wt k) n) = false from (by have h8 : ¬ FP.dcmp (FP.ddiv (sp_speed (kk (bd k).2.2.2.2.2).1 (kk (bd k).2.2.2.2.2).2 (maxD (wt k) n)) (FP.dmul (bd k).2.1 (bd k).2.1)) 4598175219545276416 = some .gt := cmp_le c134; simp [sp_ref, q14, h8]), Bool.and_false]
                refine lv_iinc (v := nI (k + 1)) (lv' := [(1, .int (nI (k + 1))), (4, .double ((bd k).2.1)), (0, .ref (ad 16)), (2, .double (maxD (wt k) n))]) hx hb dX7_isRefused_139 hl (k := 2) rfl (nI_1 k) (by decide) rfl (fun ls hl => ?_)
                refine lv_goto (tgt := 2) hx hb dX7_isRefused_142 (by decide) ?_
                exact ih (k + 1) (by omega) (by rw [hG, anyF, q9]; rfl) ls (lv_sub hl [2, 0] rfl)
              · have e9 : anyF (rfP bd wt kk spd n) nb 0 = true := by rw [hG, anyF]; unfold rfP; rw [decide_eq_false c16, show sp_ref spd (bd k).2.1 (kk (bd k).2.2.2.2.2).1 (kk (bd k).2.2.2.2.2).2 (maxD (wt k) n) = true from (by have h8 : FP.dcmp (FP.ddiv (sp_speed (kk (bd k).2.2.2.2.2).1 (kk (bd k).2.2.2.2.2).2 (maxD (wt k) n)) (FP.dmul (bd k).2.1 (bd k).2.1)) 4598175219545276416 = some .gt := cmp_nle c134; simp [sp_ref, h8])]; rfl
                refine lv_iconst (v := 1) hx hb dX7_isRefused_137 (by decide) ?_
                exact hret _ _ _ _ _ _ hw ⟨by rw [e9]; rfl, rfl⟩ (by decide) dX7_isRefused_138
          | succ kf2 ihi =>
            intro i hik2 ls hl
            have hlt : i < n := by omega
            refine lv_iload hx hb dX7_isRefused_24 (lv_at hl 3 rfl) ?_
            refine lv_aload_n hx hb dX7_isRefused_26 rfl (lv_at hl 0 rfl) ?_
            refine wg (C := RX7) (T := TX7) (N := 31) hx hb hts hi7 hown hw (hC.m (by decide)) hX.o rfl 1 (by decide) (hts (.fieldLink RX7 71 "LayerMoistureModel" "layers" "I") (by decide +kernel)) (fun _ h9 => h9) (v := .int (nI n)) rfl dX7_isRefused_27 ?_
            refine lv_icmp_ge (tgt := 73) hx hb dX7_isRefused_30 (by decide) (fun c9 => absurd c9 (nI_ge hlt hC.n31)) (fun _ => ?_)
            refine lv_aload_n hx hb dX7_isRefused_33 rfl (lv_at hl 0 rfl) ?_
            refine wg (C := RX7) (T := TX7) (N := 31) hx hb hts hi7 hown hw (hC.m (by decide)) hX.o rfl 15 (by decide) (hts (.fieldLink RX7 41 "LayerMoistureModel" "wets" "[D") (by decide +kernel)) (fun _ h9 => h9) (v := .ref (ad 22)) rfl dX7_isRefused_34 ?_
            refine lv_bipush (v := 16) hx hb dX7_isRefused_37 (by decide) ?_
            refine lv_iload_n hx hb dX7_isRefused_39 rfl (lv_at hl 1 rfl) ?_
            refine lv_imul hx hb dX7_isRefused_40 ?_
            rw [show 16 * (nI k) = nI (16 * k) from nI_m16 k]
            refine lv_iload hx hb dX7_isRefused_41 (lv_at hl 3 rfl) ?_
            refine lv_iadd hx hb dX7_isRefused_43 ?_
            rw [show (nI (16 * k)) + (nI i) = nI (16 * k + i) from nI_add _ _]
            refine wld_d hx hb hw (hC.m (by decide)) hX.aWE (16 * k + i) (by have := hC.2.2.2.1; have := hC.2.2.1; omega) (by decide) rfl dX7_isRefused_44 ?_
            rw [show WE (16 * k + i) = wt k i from hMw k hlk i hlt]
            refine lv_dload_n hx hb dX7_isRefused_45 rfl (lv_at hl 2 rfl) ?_
            refine lv_dcmp hx hb dX7_isRefused_46 ?_
            refine lv_if_le (tgt := 65) hx hb dX7_isRefused_47 (by decide) (fun c47 => ?_) (fun c47 => ?_)
            · have e7 : maxD (wt k) (i + 1) = maxD (wt k) i := by simp [maxD, cmp_le c47]
              refine lv_dload_n hx hb dX7_isRefused_65 rfl (lv_at hl 2 rfl) ?_
              refine lv_dstore_n (lv' := [(2, .double (maxD (wt k) i)), (0, .ref (ad 16)), (1, .int (nI k)), (4, .int (nI i))]) hx hb dX7_isRefused_66 rfl hl (by decide) rfl (fun ls hl => ?_)
              refine lv_iinc (v := nI (i + 1)) (lv' := [(4, .int (nI (i + 1))), (2, .double (maxD (wt k) i)), (0, .ref (ad 16)), (1, .int (nI k))]) hx hb dX7_isRefused_67 hl (k := 3) rfl (nI_1 i) (by decide) rfl (fun ls hl => ?_)
              refine lv_goto (tgt := 24) hx hb dX7_isRefused_70 (by decide) ?_
              exact ihi (i + 1) (by omega) ls (by rw [e7]; exact lv_sub hl [2, 3, 1, 0] rfl)
            · have e7 : maxD (wt k) (i + 1) = wt k i := by simp [maxD, cmp_nle c47]
              refine lv_aload_n hx hb dX7_isRefused_50 rfl (lv_at hl 0 rfl) ?_
              refine wg (C := RX7) (T := TX7) (N := 31) hx hb hts hi7 hown hw (hC.m (by decide)) hX.o rfl 15 (by decide) (hts (.fieldLink RX7 41 "LayerMoistureModel" "wets" "[D") (by decide +kernel)) (fun _ h9 => h9) (v := .ref (ad 22)) rfl dX7_isRefused_51 ?_
              refine lv_bipush (v := 16) hx hb dX7_isRefused_54 (by decide) ?_
              refine lv_iload_n hx hb dX7_isRefused_56 rfl (lv_at hl 1 rfl) ?_
              refine lv_imul hx hb dX7_isRefused_57 ?_
              rw [show 16 * (nI k) = nI (16 * k) from nI_m16 k]
              refine lv_iload hx hb dX7_isRefused_58 (lv_at hl 3 rfl) ?_
              refine lv_iadd hx hb dX7_isRefused_60 ?_
              rw [show (nI (16 * k)) + (nI i) = nI (16 * k + i) from nI_add _ _]
              refine wld_d hx hb hw (hC.m (by decide)) hX.aWE (16 * k + i) (by have := hC.2.2.2.1; have := hC.2.2.1; omega) (by decide) rfl dX7_isRefused_61 ?_
              rw [show WE (16 * k + i) = wt k i from hMw k hlk i hlt]
              refine lv_goto (tgt := 66) hx hb dX7_isRefused_62 (by decide) ?_
              refine lv_dstore_n (lv' := [(2, .double (wt k i)), (0, .ref (ad 16)), (1, .int (nI k)), (4, .int (nI i))]) hx hb dX7_isRefused_66 rfl hl (by decide) rfl (fun ls hl => ?_)
              refine lv_iinc (v := nI (i + 1)) (lv' := [(4, .int (nI (i + 1))), (2, .double (wt k i)), (0, .ref (ad 16)), (1, .int (nI k))]) hx hb dX7_isRefused_67 hl (k := 3) rfl (nI_1 i) (by decide) rfl (fun ls hl => ?_)
              refine lv_goto (tgt := 24) hx hb dX7_isRefused_70 (by decide) ?_
              exact ihi (i + 1) (by omega) ls (by rw [e7]; exact lv_sub hl [2, 3, 1, 0] rfl)
        exact loopi n 0 (by omega) ls (lv_sub hl [2, 3, 1, 0] rfl)
  exact loop nb 0 (by omega) rfl ls (lv_sub hl [1, 0] rfl)

set_option maxHeartbeats 4000000 in
set_option maxRecDepth 100000 in
theorem c_X7_hasCome (l : Launch) (G : va_G) (dA : Nat → ClassId) (L : List Nat) (f : Nat → va_E) (ad : Nat → Nat) (n nb : Nat) (q qk : Nat → Option Nat) (kel : UInt64) (dmp : UInt64) (spd : UInt64) (ven : UInt64) (lef : UInt64) (gon : Int64) (hr : Nat) (tl : Nat) (st : Nat) (dn : Nat) (thr : Int32) (pa : Nat) (bad : Int32) (num : Int32) (RA : Nat → UInt64) (RB : Nat → UInt64) (TH : Nat → Int32) (DE : Nat → UInt64) (KI : Nat → Int32) (WE : Nat → UInt64) (NX : Nat → UInt64) (LI : Nat → Int32) (LM : Nat → UInt64) (KE : Nat → Int32) (TX : Nat → Int32) (BW : Nat → Int32) (TI : Nat → Int32) (KV : Nat → Int32) (DM : Nat → Int32) (f0 : Nat → va_E) (bd : Nat → sB) (wt : Nat → Nat → UInt64) (pn : sP)  (hC : Cx ad L n nb q qk) (hX : MX ad dA n nb kel dmp spd ven lef gon hr tl st dn thr pa bad num RA RB TH DE KI WE NX LI LM KE TX BW TI KV DM f0 f) (hMb : MGb nb bd TH DE KI LI LM KE) (hMw : MGw n nb wt WE) (hMp : MGp pn BW TI KV DM) (K : Nat) (hK : KOk K) (hB : GB n nb K bd wt) (hdn : dn < pn.1) (h12 : dn < 12) (hdn2 : pn.2.1 = dn) (hnn : vf_n64 (FP.ddiv (FP.i2d (pn.2.2.2.1 dn)) 4636737291354636288)) (hx100 : FP.Core.DFin (FP.ddiv (FP.i2d (pn.2.2.2.1 dn)) 4636737291354636288))  : mI l yX7_hasCome wsX7_hasCome ({ frames := 2, cells := 0, slots := 0, locals := 45 }) G dA [.ref (ad 16)] L f (fun r f2 => r = b2i (dueS n nb bd wt pn hr) ∧ f2 = f) := by
  refine mI_of (cc := cX7_hasCome) (maxL := 5) (by decide) rfl (Nat.le_of_ble_eq_true rfl) ?_
  intro p e s m below meth c A ls Q hx hb hml hown hts hlocks hA hin0 hw hl hret
  have hown : s.vm.findClass RX7 = some m.cls := hown
  have hl : lv_has ls 5 [(0, .ref (ad 16))] := hl
  have hi7 : ∀ w ∈ u_ws RX7 TX7 31, w ∈ wsX7_hasCome := by decide +kernel
  have hfin : ∀ j, j < nb → (bd j).1 ≠ 0 → FP.Core.DFin (sp_mean (wt j) n) := fun j hj hz => (b_mean (fun z hz2 => (((hB j hj).2 hz).2.np hK z hz2).ab) hC.2.2.1.2 hC.2.2.1.1).2.2.1
  refine lv_aload_n hx hb dX7_hasCome_0 rfl (lv_at hl 0 rfl) ?_
  refine wg (C := RX7) (T := TX7) (N := 31) hx hb hts hi7 hown hw (hC.m (by decide)) hX.o rfl 25 (by decide) (hts (.fieldLink RX7 59 "LayerMoistureModel" "byWet" "[Z") (by decide +kernel)) (fun _ h9 => h9) (v := .ref (ad 28)) rfl dX7_hasCome_1 ?_
  refine lv_aload_n hx hb dX7_hasCome_4 rfl (lv_at hl 0 rfl) ?_
  refine wg (C := RX7) (T := TX7) (N := 31) hx hb hts hi7 hown hw (hC.m (by decide)) hX.o rfl 30 (by decide) (hts (.fieldLink RX7 134 "LayerMoistureModel" "done" "I") (by decide +kernel)) (fun _ h9 => h9) (v := .int (nI dn)) rfl dX7_hasCome_5 ?_
  refine wld_z hx hb hw (hC.m (by decide)) hX.aBW dn h12 (by decide) rfl dX7_hasCome_8 ?_
  rw [show BW dn = b2i (decide (pn.2.2.1 dn = 0)) from (hMp dn hdn).1]
  refine lv_if_ne (tgt := 34) hx hb dX7_hasCome_9 (by decide) (fun c9 => ?_) (fun c9 => ?_)
  · have q9 : pn.2.2.1 dn = 0 := of_decide_eq_true (b2i_t c9)
    refine lv_iconst (v := 0) hx hb dX7_hasCome_34 (by decide) ?_
    refine lv_istore_n (lv' := [(1, .int 0), (0, .ref (ad 16))]) hx hb dX7_hasCome_35 rfl hl (by decide) rfl (fun ls hl => ?_)
    refine lv_dconst0 hx hb dX7_hasCome_36 ?_
    refine lv_dstore_n (lv' := [(2, .double FP.dconst0), (1, .int 0), (0, .ref (ad 16))]) hx hb dX7_hasCome_37 rfl hl (by decide) rfl (fun ls hl => ?_)
    refine lv_iconst (v := 0) hx hb dX7_hasCome_38 (by decide) ?_
    refine lv_istore (lv' := [(4, .int 0), (2, .double FP.dconst0), (1, .int 0), (0, .ref (ad 16))]) hx hb dX7_hasCome_39 hl (by decide) rfl (fun ls hl => ?_)
    have loop : ∀ (kf i : Nat), i + kf = nb → 0 ≤ i → ∀ (H : Heap) (locs : List Loc), ww G dA A s L f H locs → ∀ (ls : Array Slot), lv_has ls 5 [(0, .ref (ad 16)), (1, .int (b2i (mostTo bd wt n i).1)), (2, .double ((mostTo bd wt n i).2)), (4, .int (nI i))] → W p l e ({ frames := 2, cells := 0, slots := 0, locals := 45 } : Room) s m ([.ref (ad 16)] : List Value).toArray below meth c H locs 0 0 Q (F0 m 41 ls []) := by
      intro kf
      induction kf with
      | zero =>
        intro i hik h1i H locs hw ls hl
        rw [show i = nb by omega] at hl
        have hmf : (mostTo bd wt n nb).1 = true → FP.Core.DFin (mostTo bd wt n nb).2 := fun h => ((mostTo_ok nb hfin).2 h).1
        refine lv_iload hx hb dX7_hasCome_41 (lv_at hl 3 rfl) ?_
        refine lv_aload_n hx hb dX7_hasCome_43 rfl (lv_at hl 0 rfl) ?_
        refine wg (C := RX7) (T := TX7) (N := 31) hx hb hts hi7 hown hw (hC.m (by decide)) hX.o rfl 2 (by decide) (hts (.fieldLink RX7 75 "LayerMoistureModel" "boards" "I") (by decide +kernel)) (fun _ h9 => h9) (v := .int (nI nb)) rfl dX7_hasCome_44 ?_
        refine lv_icmp_ge (tgt := 94) hx hb dX7_hasCome_47 (by decide) (fun _ => ?_) (fun c9 => absurd (nI_le (Nat.le_refl _) hC.nb31) c9)
        refine lv_iload_n hx hb dX7_hasCome_94 rfl (lv_at hl 1 rfl) ?_
        refine lv_if_eq (tgt := 121) hx hb dX7_hasCome_95 (by decide) (fun c95 => ?_) (fun c95 => ?_)
        · have e9 : dueS n nb bd wt pn hr = false := by unfold dueS; rw [hdn2, if_pos q9, most_due hfin hx100, b2i_f c95]; rfl
          refine lv_iconst (v := 0) hx hb dX7_hasCome_121 (by decide) ?_
          exact hret _ _ _ _ _ _ hw ⟨by rw [e9]; rfl, rfl⟩ (by decide) dX7_hasCome_122
        · have q95 := b2i_t c95
          have hmf := hmf q95
          refine lv_dload_n hx hb dX7_hasCome_98 rfl (lv_at hl 2 rfl) ?_
          refine lv_aload_n hx hb dX7_hasCome_99 rfl (lv_at hl 0 rfl) ?_
          refine wg (C := RX7) (T := TX7) (N := 31) hx hb hts hi7 hown hw (hC.m (by decide)) hX.o rfl 26 (by decide) (hts (.fieldLink RX7 62 "LayerMoistureModel" "times" "[I") (by decide +kernel)) (fun _ h9 => h9) (v := .ref (ad 29)) rfl dX7_hasCome_100 ?_
          refine lv_aload_n hx hb dX7_hasCome_103 rfl (lv_at hl 0 rfl) ?_
          refine wg (C := RX7) (T := TX7) (N := 31) hx hb hts hi7 hown hw (hC.m (by decide)) hX.o rfl 30 (by decide) (hts (.fieldLink RX7 134 "LayerMoistureModel" "done" "I") (by decide +kernel)) (fun _ h9 => h9) (v := .int (nI dn)) rfl dX7_hasCome_104 ?_
          refine wld_i hx hb hw (hC.m (by decide)) hX.aTI dn h12 (by decide) rfl dX7_hasCome_107 ?_
          rw [show TI dn = pn.2.2.2.1 dn from (hMp dn hdn).2.1]
          refine lv_i2d hx hb dX7_hasCome_108 ?_
          refine lv_ldc2d (v := 4636737291354636288) hx hb hown (hts (.constantDouble RX7 158 (4636737291354636288)) (by decide +kernel)) dX7_hasCome_109 ?_
          refine lv_ddiv hx hb dX7_hasCome_112 hnn ?_
          refine lv_dcmp hx hb dX7_hasCome_113 ?_
          refine lv_if_gt (tgt := 121) hx hb dX7_hasCome_114 (by decide) (fun c114 => ?_) (fun c114 => ?_)
          · have e9 : dueS n nb bd wt pn hr = false := by unfold dueS; rw [hdn2, if_pos q9, most_due hfin hx100, q95, decide_eq_true (cmp_ggt c114 (fun h => ((FP.Core.dcmp_none _ _).mp h).elim (fin_ne hmf) (fin_ne hx100)))]; rfl
            refine lv_iconst (v := 0) hx hb dX7_hasCome_121 (by decide) ?_
            exact hret _ _ _ _ _ _ hw ⟨by rw [e9]; rfl, rfl⟩ (by decide) dX7_hasCome_122
          · have e9 : dueS n nb bd wt pn hr = true := by unfold dueS; rw [hdn2, if_pos q9, most_due hfin hx100, q95, decide_eq_false (fun h8 => by rw [h8] at c114; exact absurd (by decide) c114)]; rfl
            refine lv_iconst (v := 1) hx hb dX7_hasCome_117 (by decide) ?_
            refine lv_goto (tgt := 122) hx hb dX7_hasCome_118 (by decide) ?_
            exact hret _ _ _ _ _ _ hw ⟨by rw [e9]; rfl, rfl⟩ (by decide) dX7_hasCome_122
      | succ kf ih =>
        intro i hik h1i H locs hw ls hl
        have hlt : i < nb := by omega
        refine lv_iload hx hb dX7_hasCome_41 (lv_at hl 3 rfl) ?_
        refine lv_aload_n hx hb dX7_hasCome_43 rfl (lv_at hl 0 rfl) ?_
        refine wg (C := RX7) (T := TX7) (N := 31) hx hb hts hi7 hown hw (hC.m (by decide)) hX.o rfl 2 (by decide) (hts (.fieldLink RX7 75 "LayerMoistureModel" "boards" "I") (by decide +kernel)) (fun _ h9 => h9) (v := .int (nI nb)) rfl dX7_hasCome_44 ?_
        refine lv_icmp_ge (tgt := 94) hx hb dX7_hasCome_47 (by decide) (fun c9 => absurd c9 (nI_ge hlt hC.nb31)) (fun _ => ?_)
        refine lv_aload_n hx hb dX7_hasCome_50 rfl (lv_at hl 0 rfl) ?_
        refine wg (C := RX7) (T := TX7) (N := 31) hx hb hts hi7 hown hw (hC.m (by decide)) hX.o rfl 12 (by decide) (hts (.fieldLink RX7 30 "LayerMoistureModel" "there" "[Z") (by decide +kernel)) (fun _ h9 => h9) (v := .ref (ad 19)) rfl dX7_hasCome_51 ?_
        refine lv_iload hx hb dX7_hasCome_54 (lv_at hl 3 rfl) ?_
        refine wld_z hx hb hw (hC.m (by decide)) hX.aTH i (by have := hC.2.2.2.1; omega) (by decide) rfl dX7_hasCome_56 ?_
        rw [show TH i = (bd i).1 from (hMb i hlt).1]
        refine lv_if_eq (tgt := 88) hx hb dX7_hasCome_57 (by decide) (fun c57 => ?_) (fun c57 => ?_)
        · have e7 : mostTo bd wt n (i + 1) = mostTo bd wt n i := by rw [mostTo, if_pos c57]
          refine lv_iinc (v := nI (i + 1)) (lv' := [(4, .int (nI (i + 1))), (0, .ref (ad 16)), (1, .int (b2i (mostTo bd wt n i).1)), (2, .double ((mostTo bd wt n i).2))]) hx hb dX7_hasCome_88 hl (k := 3) rfl (nI_1 i) (by decide) rfl (fun ls hl => ?_)
          refine lv_goto (tgt := 41) hx hb dX7_hasCome_91 (by decide) ?_
          exact ih (i + 1) (by omega) (by omega) _ _ hw ls (by rw [e7]; exact lv_sub hl [1, 2, 3, 0] rfl)
        · have hgw := ((hB i hlt).2 c57).2
          obtain ⟨hm1, hm2, -⟩ := b_mean (fun z hz => (hgw.np hK z hz).ab) hC.2.2.1.2 hC.2.2.1.1
          refine lv_iload_n hx hb dX7_hasCome_60 rfl (lv_at hl 1 rfl) ?_
          refine lv_if_eq (tgt := 75) hx hb dX7_hasCome_61 (by decide) (fun c61 => ?_) (fun c61 => ?_)
          · have e7 : mostTo bd wt n (i + 1) = (true, sp_mean (wt i) n) := by rw [mostTo, if_neg c57, if_pos (Or.inl (b2i_f c61))]
            refine lv_aload_n hx hb dX7_hasCome_75 rfl (lv_at hl 0 rfl) ?_
            refine lv_iload hx hb dX7_hasCome_76 (lv_at hl 3 rfl) ?_
            refine kV_D (C := RX7) (T := TX7) (N := 31) (As := [.int (nI i)]) (rest := []) ⟨hx, hb, hml, hown, hts⟩ (c_X7_meanOf l G dA L f ad n nb q qk kel dmp spd ven lef gon hr tl st dn thr pa bad num RA RB TH DE KI WE NX LI LM KE TX BW TI KV DM f0 i (wt i) hC hX hlt (hMw i hlt) (z_add (hgw 0 (by have := hC.2.2.1; omega)).1) hm1 hm2) (cwV 1 hts gX7_hasCome_X7_meanOf rfl rfl rfl (by decide +kernel) ⟨Nat.le_of_ble_eq_true rfl, Nat.le_of_ble_eq_true rfl⟩) hw hA (hC.m (by decide)) hX.o rfl rfl hl.1 rfl (Nat.le_of_ble_eq_true rfl) dX7_hasCome_78 ⟨Nat.zero_le _, Nat.zero_le _⟩ (fun r2 f1 H locs hp hw => ?_)
            obtain ⟨e1, e2⟩ := hp
            rw [e2] at hw
            rw [e1]
            refine lv_goto (tgt := 85) hx hb dX7_hasCome_81 (by decide) ?_
            refine lv_dstore_n (lv' := [(2, .double (sp_mean (wt i) n)), (0, .ref (ad 16)), (1, .int (b2i (mostTo bd wt n i).1)), (4, .int (nI i))]) hx hb dX7_hasCome_85 rfl hl (by decide) rfl (fun ls hl => ?_)
            refine lv_iconst (v := 1) hx hb dX7_hasCome_86 (by decide) ?_
            refine lv_istore_n (lv' := [(1, .int 1), (2, .double (sp_mean (wt i) n)), (0, .ref (ad 16)), (4, .int (nI i))]) hx hb dX7_hasCome_87 rfl hl (by decide) rfl (fun ls hl => ?_)
            refine lv_iinc (v := nI (i + 1)) (lv' := [(4, .int (nI (i + 1))), (1, .int 1), (2, .double (sp_mean (wt i) n)), (0, .ref (ad 16))]) hx hb dX7_hasCome_88 hl (k := 3) rfl (nI_1 i) (by decide) rfl (fun ls hl => ?_)
            refine lv_goto (tgt := 41) hx hb dX7_hasCome_91 (by decide) ?_
            exact ih (i + 1) (by omega) (by omega) _ _ hw ls (by rw [e7]; exact lv_sub hl [3, 1, 2, 0] rfl)
          · have q61 := b2i_t c61
            refine lv_aload_n hx hb dX7_hasCome_64 rfl (lv_at hl 0 rfl) ?_
            refine lv_iload hx hb dX7_hasCome_65 (lv_at hl 3 rfl) ?_
            refine kV_D (C := RX7) (T := TX7) (N := 31) (As := [.int (nI i)]) (rest := []) ⟨hx, hb, hml, hown, hts⟩ (c_X7_meanOf l G dA L f ad n nb q qk kel dmp spd ven lef gon hr tl st dn thr pa bad num RA RB TH DE KI WE NX LI LM KE TX BW TI KV DM f0 i (wt i) hC hX hlt (hMw i hlt) (z_add (hgw 0 (by have := hC.2.2.1; omega)).1) hm1 hm2) (cwV 1 hts gX7_hasCome_X7_meanOf rfl rfl rfl (by decide +kernel) ⟨Nat.le_of_ble_eq_true rfl, Nat.le_of_ble_eq_true rfl⟩) hw hA (hC.m (by decide)) hX.o rfl rfl hl.1 rfl (Nat.le_of_ble_eq_true rfl) dX7_hasCome_67 ⟨Nat.zero_le _, Nat.zero_le _⟩ (fun r4 f3 H locs hp hw => ?_)
            obtain ⟨e1, e2⟩ := hp
            rw [e2] at hw
            rw [e1]
            refine lv_dload_n hx hb dX7_hasCome_70 rfl (lv_at hl 2 rfl) ?_
            refine lv_dcmp hx hb dX7_hasCome_71 ?_
            refine lv_if_le (tgt := 84) hx hb dX7_hasCome_72 (by decide) (fun c72 => ?_) (fun c72 => ?_)
            · have e7 : mostTo bd wt n (i + 1) = (true, (mostTo bd wt n i).2) := by rw [mostTo, if_neg c57, if_neg (fun h8 => h8.elim (fun h => by rw [q61] at h; cases h) (cmp_le c72))]
              refine lv_dload_n hx hb dX7_hasCome_84 rfl (lv_at hl 2 rfl) ?_
              refine lv_dstore_n (lv' := [(2, .double ((mostTo bd wt n i).2)), (0, .ref (ad 16)), (1, .int (b2i (mostTo bd wt n i).1)), (4, .int (nI i))]) hx hb dX7_hasCome_85 rfl hl (by decide) rfl (fun ls hl => ?_)
              refine lv_iconst (v := 1) hx hb dX7_hasCome_86 (by decide) ?_
              refine lv_istore_n (lv' := [(1, .int 1), (2, .double ((mostTo bd wt n i).2)), (0, .ref (ad 16)), (4, .int (nI i))]) hx hb dX7_hasCome_87 rfl hl (by decide) rfl (fun ls hl => ?_)
              refine lv_iinc (v := nI (i + 1)) (lv' := [(4, .int (nI (i + 1))), (1, .int 1), (2, .double ((mostTo bd wt n i).2)), (0, .ref (ad 16))]) hx hb dX7_hasCome_88 hl (k := 3) rfl (nI_1 i) (by decide) rfl (fun ls hl => ?_)
              refine lv_goto (tgt := 41) hx hb dX7_hasCome_91 (by decide) ?_
              exact ih (i + 1) (by omega) (by omega) _ _ hw ls (by rw [e7]; exact lv_sub hl [3, 1, 2, 0] rfl)
            · have e7 : mostTo bd wt n (i + 1) = (true, sp_mean (wt i) n) := by rw [mostTo, if_neg c57, if_pos (Or.inr (cmp_nle c72))]
              refine lv_aload_n hx hb dX7_hasCome_75 rfl (lv_at hl 0 rfl) ?_
              refine lv_iload hx hb dX7_hasCome_76 (lv_at hl 3 rfl) ?_
              refine kV_D (C := RX7) (T := TX7) (N := 31) (As := [.int (nI i)]) (rest := []) ⟨hx, hb, hml, hown, hts⟩ (c_X7_meanOf l G dA L f ad n nb q qk kel dmp spd ven lef gon hr tl st dn thr pa bad num RA RB TH DE KI WE NX LI LM KE TX BW TI KV DM f0 i (wt i) hC hX hlt (hMw i hlt) (z_add (hgw 0 (by have := hC.2.2.1; omega)).1) hm1 hm2) (cwV 1 hts gX7_hasCome_X7_meanOf rfl rfl rfl (by decide +kernel) ⟨Nat.le_of_ble_eq_true rfl, Nat.le_of_ble_eq_true rfl⟩) hw hA (hC.m (by decide)) hX.o rfl rfl hl.1 rfl (Nat.le_of_ble_eq_true rfl) dX7_hasCome_78 ⟨Nat.zero_le _, Nat.zero_le _⟩ (fun r6 f5 H locs hp hw => ?_)
              obtain ⟨e1, e2⟩ := hp
              rw [e2] at hw
              rw [e1]
              refine lv_goto (tgt := 85) hx hb dX7_hasCome_81 (by decide) ?_
              refine lv_dstore_n (lv' := [(2, .double (sp_mean (wt i) n)), (0, .ref (ad 16)), (1, .int (b2i (mostTo bd wt n i).1)), (4, .int (nI i))]) hx hb dX7_hasCome_85 rfl hl (by decide) rfl (fun ls hl => ?_)
              refine lv_iconst (v := 1) hx hb dX7_hasCome_86 (by decide) ?_
              refine lv_istore_n (lv' := [(1, .int 1), (2, .double (sp_mean (wt i) n)), (0, .ref (ad 16)), (4, .int (nI i))]) hx hb dX7_hasCome_87 rfl hl (by decide) rfl (fun ls hl => ?_)
              refine lv_iinc (v := nI (i + 1)) (lv' := [(4, .int (nI (i + 1))), (1, .int 1), (2, .double (sp_mean (wt i) n)), (0, .ref (ad 16))]) hx hb dX7_hasCome_88 hl (k := 3) rfl (nI_1 i) (by decide) rfl (fun ls hl => ?_)
              refine lv_goto (tgt := 41) hx hb dX7_hasCome_91 (by decide) ?_
              exact ih (i + 1) (by omega) (by omega) _ _ hw ls (by rw [e7]; exact lv_sub hl [3, 1, 2, 0] rfl)
    exact loop nb 0 (by have := hC.2.2.1; omega) (Nat.le_refl _) _ _ hw ls (lv_sub hl [3, 2, 1, 0] rfl)
  · have q9 : ¬ pn.2.2.1 dn = 0 := of_decide_eq_false (b2i_f c9)
    refine lv_aload_n hx hb dX7_hasCome_12 rfl (lv_at hl 0 rfl) ?_
    refine wg (C := RX7) (T := TX7) (N := 31) hx hb hts hi7 hown hw (hC.m (by decide)) hX.o rfl 11 (by decide) (hts (.fieldLink RX7 152 "LayerMoistureModel" "hours" "I") (by decide +kernel)) (fun _ h9 => h9) (v := .int (nI hr)) rfl dX7_hasCome_13 ?_
    refine lv_aload_n hx hb dX7_hasCome_16 rfl (lv_at hl 0 rfl) ?_
    refine wg (C := RX7) (T := TX7) (N := 31) hx hb hts hi7 hown hw (hC.m (by decide)) hX.o rfl 26 (by decide) (hts (.fieldLink RX7 62 "LayerMoistureModel" "times" "[I") (by decide +kernel)) (fun _ h9 => h9) (v := .ref (ad 29)) rfl dX7_hasCome_17 ?_
    refine lv_aload_n hx hb dX7_hasCome_20 rfl (lv_at hl 0 rfl) ?_
    refine wg (C := RX7) (T := TX7) (N := 31) hx hb hts hi7 hown hw (hC.m (by decide)) hX.o rfl 30 (by decide) (hts (.fieldLink RX7 134 "LayerMoistureModel" "done" "I") (by decide +kernel)) (fun _ h9 => h9) (v := .int (nI dn)) rfl dX7_hasCome_21 ?_
    refine wld_i hx hb hw (hC.m (by decide)) hX.aTI dn h12 (by decide) rfl dX7_hasCome_24 ?_
    rw [show TI dn = pn.2.2.2.1 dn from (hMp dn hdn).2.1]
    refine lv_icmp_lt (tgt := 32) hx hb dX7_hasCome_25 (by decide) (fun c25 => ?_) (fun c25 => ?_)
    · have e9 : dueS n nb bd wt pn hr = false := by unfold dueS; rw [hdn2, if_neg q9, decide_eq_false (Int32.not_le.mpr c25)]
      refine lv_iconst (v := 0) hx hb dX7_hasCome_32 (by decide) ?_
      exact hret _ _ _ _ _ _ hw ⟨by rw [e9]; rfl, rfl⟩ (by decide) dX7_hasCome_33
    · have e9 : dueS n nb bd wt pn hr = true := by unfold dueS; rw [hdn2, if_neg q9, decide_eq_true (Int32.not_lt.mp c25)]
      refine lv_iconst (v := 1) hx hb dX7_hasCome_28 (by decide) ?_
      refine lv_goto (tgt := 33) hx hb dX7_hasCome_29 (by decide) ?_
      exact hret _ _ _ _ _ _ hw ⟨by rw [e9]; rfl, rfl⟩ (by decide) dX7_hasCome_33

set_option maxHeartbeats 4000000 in
set_option maxRecDepth 100000 in
theorem c_X7_hourOf (l : Launch) (G : va_G) (dA : Nat → ClassId) (L : List Nat) (f : Nat → va_E) (ad : Nat → Nat) (nl nb : Nat) (q qk : Nat → Option Nat) (kel : UInt64) (dmp : UInt64) (spd : UInt64) (ven : UInt64) (lef : UInt64) (gon : Int64) (hr : Nat) (tl : Nat) (st : Nat) (dn : Nat) (thr : Int32) (pa : Nat) (bad : Int32) (num : Int32) (RA : Nat → UInt64) (RB : Nat → UInt64) (TH : Nat → Int32) (DE : Nat → UInt64) (KI : Nat → Int32) (WE : Nat → UInt64) (NX : Nat → UInt64) (LI : Nat → Int32) (LM : Nat → UInt64) (KE : Nat → Int32) (TX : Nat → Int32) (BW : Nat → Int32) (TI : Nat → Int32) (KV : Nat → Int32) (DM : Nat → Int32) (f0 : Nat → va_E) (j kd K : Nat) (g : Nat → UInt64) (dep ka kb : UInt64)  (hC : Cx ad L (nl + 1) nb q qk) (hX : MX ad dA (nl + 1) nb kel dmp spd ven lef gon hr tl st dn thr pa bad num RA RB TH DE KI WE NX LI LM KE TX BW TI KV DM f0 f) (hj : j < nb) (hW : ∀ i, i < (nl + 1) → WE (16 * j + i) = g i) (hDE : DE j = dep) (hKI : KI j = nI kd) (hkd : kd < 4) (hRA : RA kd = ka) (hRB : RB kd = kb) (hK : KOk K) (hGA : GA kel dmp spd ven) (hle : Ab (2 ^ 1074) lef) (ha : Np (2 ^ 1077) ka) (hb9 : Np (2 ^ 1077) kb) (hd : GD dep) (hg : GW K g (nl + 1)) (hrf : sp_ref spd dep ka kb (maxD g (nl + 1)) = false)  : mV l yX7_hourOf wsX7_hourOf ({ frames := 1, cells := 0, slots := 0, locals := 25 }) G dA [.ref (ad 16), .int (nI j)] L f (fun f2 => MX ad dA (nl + 1) nb kel (sp_damp dmp ven (FP.dmul (FP.dmul (FP.dadd (sp_face dep (g 0) spd (sp_bal kel dmp)) (sp_face dep (g nl) spd (sp_bal kel dmp))) dep) 4634204016564240384)) spd ven (FP.dsub (FP.dadd lef (FP.dmul (FP.dmul (FP.dadd (sp_face dep (g 0) spd (sp_bal kel dmp)) (sp_face dep (g nl) spd (sp_bal kel dmp))) dep) 4634204016564240384)) (FP.l2d (FP.d2l (FP.dadd lef (FP.dmul (FP.dmul (FP.dadd (sp_face dep (g 0) spd (sp_bal kel dmp)) (sp_face dep (g nl) spd (sp_bal kel dmp))) dep) 4634204016564240384))))) (gon + FP.d2l (FP.dadd lef (FP.dmul (FP.dmul (FP.dadd (sp_face dep (g 0) spd (sp_bal kel dmp)) (sp_face dep (g nl) spd (sp_bal kel dmp))) dep) 4634204016564240384))) hr tl st dn thr pa bad num RA RB TH DE KI (wput (sp_new ka kb dep (sp_face dep (g 0) spd (sp_bal kel dmp)) (sp_face dep (g nl) spd (sp_bal kel dmp)) g nl) WE (16 * j) (nl + 1)) (nput (sp_new ka kb dep (sp_face dep (g 0) spd (sp_bal kel dmp)) (sp_face dep (g nl) spd (sp_bal kel dmp)) g nl) NX (nl + 1)) LI LM KE TX BW TI KV DM f0 f2) := by
  refine mV_of (cc := cX7_hourOf) (maxL := 14) (by decide) rfl (Nat.le_of_ble_eq_true rfl) ?_
  intro p e s m below meth c A ls Q hx hb hml hown hts hlocks hA hin0 hw hl hret
  have hown : s.vm.findClass RX7 = some m.cls := hown
  have hl : lv_has ls 14 [(0, .ref (ad 16)), (1, .int (nI j))] := hl
  have hi7 : ∀ w ∈ u_ws RX7 TX7 31, w ∈ wsX7_hourOf := by decide +kernel
  unfold sp_ref at hrf
  rw [Bool.or_eq_false_iff, decide_eq_false_iff_not, decide_eq_false_iff_not] at hrf
  obtain ⟨hr1, hr2⟩ := hrf
  have hn2 : ∀ j, j < (nl + 1) → Np (K * gG) (g j) := fun j hj => (hg j hj).1.np (hg j hj).2
  obtain ⟨m1, m2, m3⟩ := b_max (b := K * gG) (nl + 1) hg
  have hm : Np (2 ^ 1076) (maxD g (nl + 1)) := m1.np (Nat.le_trans m2 hK.le)
  have hbl := (b_bal hGA).2.2.2.2.2
  have hs := hGA.2.2.1
  obtain ⟨⟨z1, -, -⟩, z2, -⟩ := b_dep hd
  obtain ⟨u1, u2, u3, u4, -, -⟩ := b_face hK hd (hn2 0 (by omega)) hs hbl hr1
  obtain ⟨y1, y2, y3, y4, -, -⟩ := b_face hK hd (hn2 nl (by omega)) hs hbl hr1
  have slope := fun j (hj : j < nl) => b_slope hK hd (hn2 j (by omega)) (hn2 (j + 1) (by omega)) ha hb9 hm (m3 j (by omega)) (m3 (j + 1) (by omega)) hr2
  have new := fun i (hi : i < (nl + 1)) => b_new hK hd hs hbl ha hb9 hg hr1 hr2 i hi
  obtain ⟨w1, w2, w3, w4⟩ := b_water u4 y4 hd
  obtain ⟨l1, l2, -⟩ := b_led hle w4
  obtain ⟨t1, t2, t3, t4, -⟩ := b_take hGA.2.1 hGA.2.2.2 w4
  refine lv_bipush (v := 16) hx hb dX7_hourOf_0 (by decide) ?_
  refine lv_iload_n hx hb dX7_hourOf_2 rfl (lv_at hl 1 rfl) ?_
  refine lv_imul hx hb dX7_hourOf_3 ?_
  rw [show 16 * (nI j) = nI (16 * j) from nI_m16 j]
  refine lv_istore_n (lv' := [(2, .int (nI (16 * j))), (0, .ref (ad 16)), (1, .int (nI j))]) hx hb dX7_hourOf_4 rfl hl (by decide) rfl (fun ls hl => ?_)
  refine lv_aload_n hx hb dX7_hourOf_5 rfl (lv_at hl 1 rfl) ?_
  refine wg (C := RX7) (T := TX7) (N := 31) hx hb hts hi7 hown hw (hC.m (by decide)) hX.o rfl 1 (by decide) (hts (.fieldLink RX7 71 "LayerMoistureModel" "layers" "I") (by decide +kernel)) (fun _ h9 => h9) (v := .int (nI (nl + 1))) rfl dX7_hourOf_6 ?_
  refine lv_iconst (v := 1) hx hb dX7_hourOf_9 (by decide) ?_
  refine lv_isub hx hb dX7_hourOf_10 ?_
  rw [show (nI (nl + 1)) - 1 = nI nl from nI_pred nl]
  refine lv_istore_n (lv' := [(3, .int (nI nl)), (2, .int (nI (16 * j))), (0, .ref (ad 16)), (1, .int (nI j))]) hx hb dX7_hourOf_11 rfl hl (by decide) rfl (fun ls hl => ?_)
  refine lv_aload_n hx hb dX7_hourOf_12 rfl (lv_at hl 2 rfl) ?_
  refine wg (C := RX7) (T := TX7) (N := 31) hx hb hts hi7 hown hw (hC.m (by decide)) hX.o rfl 13 (by decide) (hts (.fieldLink RX7 34 "LayerMoistureModel" "depths" "[D") (by decide +kernel)) (fun _ h9 => h9) (v := .ref (ad 20)) rfl dX7_hourOf_13 ?_
  refine lv_iload_n hx hb dX7_hourOf_16 rfl (lv_at hl 3 rfl) ?_
  refine wld_d hx hb hw (hC.m (by decide)) hX.aDE j (by have := hC.2.2.2.1; omega) (by decide) rfl dX7_hourOf_17 ?_
  rw [show DE j = dep from hDE]
  refine lv_dstore (lv' := [(4, .double dep), (3, .int (nI nl)), (2, .int (nI (16 * j))), (0, .ref (ad 16)), (1, .int (nI j))]) hx hb dX7_hourOf_18 hl (by decide) rfl (fun ls hl => ?_)
  refine lv_aload_n hx hb dX7_hourOf_20 rfl (lv_at hl 3 rfl) ?_
  refine wg (C := RX7) (T := TX7) (N := 31) hx hb hts hi7 hown hw (hC.m (by decide)) hX.o rfl 7 (by decide) (hts (.fieldLink RX7 27 "LayerMoistureModel" "speed" "D") (by decide +kernel)) (fun _ h9 => h9) (v := .double spd) rfl dX7_hourOf_21 ?_
  refine lv_aload_n hx hb dX7_hourOf_24 rfl (lv_at hl 3 rfl) ?_
  refine wg (C := RX7) (T := TX7) (N := 31) hx hb hts hi7 hown hw (hC.m (by decide)) hX.o rfl 15 (by decide) (hts (.fieldLink RX7 41 "LayerMoistureModel" "wets" "[D") (by decide +kernel)) (fun _ h9 => h9) (v := .ref (ad 22)) rfl dX7_hourOf_25 ?_
  refine lv_iload_n hx hb dX7_hourOf_28 rfl (lv_at hl 2 rfl) ?_
  refine wld_d hx hb hw (hC.m (by decide)) hX.aWE (16 * j) (by have := hC.2.2.2.1; have := hC.2.2.1; omega) (by decide) rfl dX7_hourOf_29 ?_
  rw [show WE (16 * j) = g 0 from hW 0 (by omega)]
  refine lv_aload_n hx hb dX7_hourOf_30 rfl (lv_at hl 3 rfl) ?_
  refine kV_D (C := RX7) (T := TX7) (N := 31) (As := []) (rest := [.double (g 0), .double spd]) ⟨hx, hb, hml, hown, hts⟩ (c_X7_balanceNow l G dA L f ad (nl + 1) nb q qk kel dmp spd ven lef gon hr tl st dn thr pa bad num RA RB TH DE KI WE NX LI LM KE TX BW TI KV DM f0 hC hX hGA) (cwV 0 hts gX7_hourOf_X7_balanceNow rfl rfl rfl (by decide +kernel) ⟨Nat.le_of_ble_eq_true rfl, Nat.le_of_ble_eq_true rfl⟩) hw hA (hC.m (by decide)) hX.o rfl rfl hl.1 rfl (Nat.le_of_ble_eq_true rfl) dX7_hourOf_31 ⟨Nat.zero_le _, Nat.zero_le _⟩ (fun r2 f1 H locs hp hw => ?_)
  obtain ⟨e1, e2⟩ := hp
  rw [e2] at hw
  rw [e1]
  refine lv_dsub hx hb dX7_hourOf_34 u1 ?_
  refine lv_dmul hx hb dX7_hourOf_35 u2 ?_
  refine lv_ldc2d (v := 4620693217682128896) hx hb hown (hts (.constantDouble RX7 93 (4620693217682128896)) (by decide +kernel)) dX7_hourOf_36 ?_
  refine lv_dload hx hb dX7_hourOf_39 (lv_at hl 0 rfl) ?_
  refine lv_dmul hx hb dX7_hourOf_41 z1 ?_
  refine lv_ddiv hx hb dX7_hourOf_42 u3 ?_
  refine lv_dstore (lv' := [(6, .double (FP.ddiv (FP.dmul spd (FP.dsub (g 0) (sp_bal kel dmp))) (FP.dmul 4620693217682128896 dep))), (4, .double dep), (3, .int (nI nl)), (2, .int (nI (16 * j))), (0, .ref (ad 16)), (1, .int (nI j))]) hx hb dX7_hourOf_43 hl (by decide) rfl (fun ls hl => ?_)
  refine lv_aload_n hx hb dX7_hourOf_45 rfl (lv_at hl 4 rfl) ?_
  refine wg (C := RX7) (T := TX7) (N := 31) hx hb hts hi7 hown hw (hC.m (by decide)) hX.o rfl 7 (by decide) (hts (.fieldLink RX7 27 "LayerMoistureModel" "speed" "D") (by decide +kernel)) (fun _ h9 => h9) (v := .double spd) rfl dX7_hourOf_46 ?_
  refine lv_aload_n hx hb dX7_hourOf_49 rfl (lv_at hl 4 rfl) ?_
  refine wg (C := RX7) (T := TX7) (N := 31) hx hb hts hi7 hown hw (hC.m (by decide)) hX.o rfl 15 (by decide) (hts (.fieldLink RX7 41 "LayerMoistureModel" "wets" "[D") (by decide +kernel)) (fun _ h9 => h9) (v := .ref (ad 22)) rfl dX7_hourOf_50 ?_
  refine lv_iload_n hx hb dX7_hourOf_53 rfl (lv_at hl 3 rfl) ?_
  refine lv_iload_n hx hb dX7_hourOf_54 rfl (lv_at hl 2 rfl) ?_
  refine lv_iadd hx hb dX7_hourOf_55 ?_
  rw [show (nI (16 * j)) + (nI nl) = nI (16 * j + nl) from nI_add _ _]
  refine wld_d hx hb hw (hC.m (by decide)) hX.aWE (16 * j + nl) (by have := hC.2.2.2.1; have := hC.2.2.1; omega) (by decide) rfl dX7_hourOf_56 ?_
  rw [show WE (16 * j + nl) = g nl from hW nl (by omega)]
  refine lv_aload_n hx hb dX7_hourOf_57 rfl (lv_at hl 4 rfl) ?_
  refine kV_D (C := RX7) (T := TX7) (N := 31) (As := []) (rest := [.double (g nl), .double spd]) ⟨hx, hb, hml, hown, hts⟩ (c_X7_balanceNow l G dA L f ad (nl + 1) nb q qk kel dmp spd ven lef gon hr tl st dn thr pa bad num RA RB TH DE KI WE NX LI LM KE TX BW TI KV DM f0 hC hX hGA) (cwV 0 hts gX7_hourOf_X7_balanceNow rfl rfl rfl (by decide +kernel) ⟨Nat.le_of_ble_eq_true rfl, Nat.le_of_ble_eq_true rfl⟩) hw hA (hC.m (by decide)) hX.o rfl rfl hl.1 rfl (Nat.le_of_ble_eq_true rfl) dX7_hourOf_58 ⟨Nat.zero_le _, Nat.zero_le _⟩ (fun r4 f3 H locs hp hw => ?_)
  obtain ⟨e1, e2⟩ := hp
  rw [e2] at hw
  rw [e1]
  refine lv_dsub hx hb dX7_hourOf_61 y1 ?_
  refine lv_dmul hx hb dX7_hourOf_62 y2 ?_
  refine lv_ldc2d (v := 4620693217682128896) hx hb hown (hts (.constantDouble RX7 93 (4620693217682128896)) (by decide +kernel)) dX7_hourOf_63 ?_
  refine lv_dload hx hb dX7_hourOf_66 (lv_at hl 1 rfl) ?_
  refine lv_dmul hx hb dX7_hourOf_68 z1 ?_
  refine lv_ddiv hx hb dX7_hourOf_69 y3 ?_
  refine lv_dstore (lv' := [(8, .double (FP.ddiv (FP.dmul spd (FP.dsub (g nl) (sp_bal kel dmp))) (FP.dmul 4620693217682128896 dep))), (6, .double (FP.ddiv (FP.dmul spd (FP.dsub (g 0) (sp_bal kel dmp))) (FP.dmul 4620693217682128896 dep))), (4, .double dep), (3, .int (nI nl)), (2, .int (nI (16 * j))), (0, .ref (ad 16)), (1, .int (nI j))]) hx hb dX7_hourOf_70 hl (by decide) rfl (fun ls hl => ?_)
  refine lv_iconst (v := 0) hx hb dX7_hourOf_72 (by decide) ?_
  refine lv_istore (lv' := [(10, .int 0), (8, .double (FP.ddiv (FP.dmul spd (FP.dsub (g nl) (sp_bal kel dmp))) (FP.dmul 4620693217682128896 dep))), (6, .double (FP.ddiv (FP.dmul spd (FP.dsub (g 0) (sp_bal kel dmp))) (FP.dmul 4620693217682128896 dep))), (4, .double dep), (3, .int (nI nl)), (2, .int (nI (16 * j))), (0, .ref (ad 16)), (1, .int (nI j))]) hx hb dX7_hourOf_73 hl (by decide) rfl (fun ls hl => ?_)
  have loop75 : ∀ (kf i : Nat), i + kf = (nl + 1) → ∀ (fa : Nat → va_E) (H : Heap) (locs : List Loc), MX ad dA (nl + 1) nb kel dmp spd ven lef gon hr tl st dn thr pa bad num RA RB TH DE KI WE (nput (sp_new ka kb dep (sp_face dep (g 0) spd (sp_bal kel dmp)) (sp_face dep (g nl) spd (sp_bal kel dmp)) g nl) NX i) LI LM KE TX BW TI KV DM f0 fa → ww G dA A s L fa H locs → ∀ (ls : Array Slot), lv_has ls 14 [(0, .ref (ad 16)), (1, .int (nI j)), (2, .int (nI (16 * j))), (3, .int (nI nl)), (4, .double dep), (6, .double (sp_face dep (g 0) spd (sp_bal kel dmp))), (8, .double (sp_face dep (g nl) spd (sp_bal kel dmp))), (10, .int (nI i))] → W p l e ({ frames := 1, cells := 0, slots := 0, locals := 25 } : Room) s m ([.ref (ad 16), .int (nI j)] : List Value).toArray below meth c H locs 0 0 Q (F0 m 75 ls []) := by
    intro kf
    induction kf with
    | zero =>
      intro i hik fa H locs hXa hw ls hl
      rw [show i = (nl + 1) by omega] at hl hXa
      refine lv_iload hx hb dX7_hourOf_75 (lv_at hl 7 rfl) ?_
      refine lv_aload_n hx hb dX7_hourOf_77 rfl (lv_at hl 0 rfl) ?_
      refine wg (C := RX7) (T := TX7) (N := 31) hx hb hts hi7 hown hw (hC.m (by decide)) hXa.o rfl 1 (by decide) (hts (.fieldLink RX7 71 "LayerMoistureModel" "layers" "I") (by decide +kernel)) (fun _ h9 => h9) (v := .int (nI (nl + 1))) rfl dX7_hourOf_78 ?_
      refine lv_icmp_ge (tgt := 197) hx hb dX7_hourOf_81 (by decide) (fun _ => ?_) (fun c9 => absurd (nI_le (Nat.le_refl _) hC.n31) c9)
      refine lv_iconst (v := 0) hx hb dX7_hourOf_197 (by decide) ?_
      refine lv_istore (lv' := [(10, .int 0), (0, .ref (ad 16)), (1, .int (nI j)), (2, .int (nI (16 * j))), (3, .int (nI nl)), (4, .double dep), (6, .double (sp_face dep (g 0) spd (sp_bal kel dmp))), (8, .double (sp_face dep (g nl) spd (sp_bal kel dmp)))]) hx hb dX7_hourOf_198 hl (by decide) rfl (fun ls hl => ?_)
      have loop200 : ∀ (kf i : Nat), i + kf = (nl + 1) → ∀ (fa : Nat → va_E) (H : Heap) (locs : List Loc), MX ad dA (nl + 1) nb kel dmp spd ven lef gon hr tl st dn thr pa bad num RA RB TH DE KI (wput (sp_new ka kb dep (sp_face dep (g 0) spd (sp_bal kel dmp)) (sp_face dep (g nl) spd (sp_bal kel dmp)) g nl) WE (16 * j) i) (nput (sp_new ka kb dep (sp_face dep (g 0) spd (sp_bal kel dmp)) (sp_face dep (g nl) spd (sp_bal kel dmp)) g nl) NX (nl + 1)) LI LM KE TX BW TI KV DM f0 fa → ww G dA A s L fa H locs → ∀ (ls : Array Slot), lv_has ls 14 [(0, .ref (ad 16)), (1, .int (nI j)), (2, .int (nI (16 * j))), (3, .int (nI nl)), (4, .double dep), (6, .double (sp_face dep (g 0) spd (sp_bal kel dmp))), (8, .double (sp_face dep (g nl) spd (sp_bal kel dmp))), (10, .int (nI i))] → W p l e ({ frames := 1, cells := 0, slots := 0, locals := 25 } : Room) s m ([.ref (ad 16), .int (nI j)] : List Value).toArray below meth c H locs 0 0 Q (F0 m 200 ls []) := by
        intro kf
        induction kf with
        | zero =>
          intro i hik fa H locs hXa hw ls hl
          rw [show i = (nl + 1) by omega] at hl hXa
          refine lv_iload hx hb dX7_hourOf_200 (lv_at hl 7 rfl) ?_
          refine lv_aload_n hx hb dX7_hourOf_202 rfl (lv_at hl 0 rfl) ?_
          refine wg (C := RX7) (T := TX7) (N := 31) hx hb hts hi7 hown hw (hC.m (by decide)) hXa.o rfl 1 (by decide) (hts (.fieldLink RX7 71 "LayerMoistureModel" "layers" "I") (by decide +kernel)) (fun _ h9 => h9) (v := .int (nI (nl + 1))) rfl dX7_hourOf_203 ?_
          refine lv_icmp_ge (tgt := 231) hx hb dX7_hourOf_206 (by decide) (fun _ => ?_) (fun c9 => absurd (nI_le (Nat.le_refl _) hC.n31) c9)
          refine lv_dload hx hb dX7_hourOf_231 (lv_at hl 5 rfl) ?_
          refine lv_dload hx hb dX7_hourOf_233 (lv_at hl 6 rfl) ?_
          refine lv_dadd hx hb dX7_hourOf_235 w1 ?_
          refine lv_dload hx hb dX7_hourOf_236 (lv_at hl 4 rfl) ?_
          refine lv_dmul hx hb dX7_hourOf_238 w2 ?_
          refine lv_ldc2d (v := 4634204016564240384) hx hb hown (hts (.constantDouble RX7 170 (4634204016564240384)) (by decide +kernel)) dX7_hourOf_239 ?_
          refine lv_dmul hx hb dX7_hourOf_242 w3 ?_
          refine lv_dstore (lv' := [(10, .double (FP.dmul (FP.dmul (FP.dadd (sp_face dep (g 0) spd (sp_bal kel dmp)) (sp_face dep (g nl) spd (sp_bal kel dmp))) dep) 4634204016564240384)), (0, .ref (ad 16)), (1, .int (nI j)), (2, .int (nI (16 * j))), (3, .int (nI nl)), (4, .double dep), (6, .double (sp_face dep (g 0) spd (sp_bal kel dmp))), (8, .double (sp_face dep (g nl) spd (sp_bal kel dmp)))]) hx hb dX7_hourOf_243 hl (by decide) rfl (fun ls hl => ?_)
          refine lv_aload_n hx hb dX7_hourOf_245 rfl (lv_at hl 1 rfl) ?_
          refine lv_aload_n hx hb dX7_hourOf_246 rfl (lv_at hl 1 rfl) ?_
          refine wg (C := RX7) (T := TX7) (N := 31) hx hb hts hi7 hown hw (hC.m (by decide)) hXa.o rfl 9 (by decide) (hts (.fieldLink RX7 172 "LayerMoistureModel" "left" "D") (by decide +kernel)) (fun _ h9 => h9) (v := .double lef) rfl dX7_hourOf_247 ?_
          refine lv_dload hx hb dX7_hourOf_250 (lv_at hl 0 rfl) ?_
          refine lv_dadd hx hb dX7_hourOf_252 l1 ?_
          refine wp_ (C := RX7) (T := TX7) (N := 31) hx hb hts hi7 tyX7 tyX7_ok nmX7 hown hw (hC.m (by decide)) hXa.o rfl 9 (by decide) (hts (.fieldLink RX7 172 "LayerMoistureModel" "left" "D") (by decide +kernel)) (fun _ h9 => h9) rfl (ty := .double) (v := .double (FP.dadd lef (FP.dmul (FP.dmul (FP.dadd (sp_face dep (g 0) spd (sp_bal kel dmp)) (sp_face dep (g nl) spd (sp_bal kel dmp))) dep) 4634204016564240384))) (by decide +kernel) rfl rfl (Nat.le_of_ble_eq_true rfl) dX7_hourOf_253 (fun H locs hw => ?_)
          obtain ⟨f5, ef5⟩ : ∃ z : Nat → va_E, z = va_up fa (ad 16) (.inr (8, [.int thr, .int (nI (nl + 1)), .int (nI nb), .ref (ad 17), .ref (ad 18), .double kel, .double dmp, .double spd, .double ven, .double (FP.dadd lef (FP.dmul (FP.dmul (FP.dadd (sp_face dep (g 0) spd (sp_bal kel dmp)) (sp_face dep (g nl) spd (sp_bal kel dmp))) dep) 4634204016564240384)), .long gon, .int (nI hr), .ref (ad 19), .ref (ad 20), .ref (ad 21), .ref (ad 22), .ref (ad 23), .ref (ad 24), .ref (ad 25), .ref (ad 26), .ref (ad 27), .int (nI tl), .int (nI pa), .int bad, .int num, .ref (ad 28), .ref (ad 29), .ref (ad 30), .ref (ad 31), .int (nI st), .int (nI dn)])) := ⟨_, rfl⟩
          have hw : ww G dA A s L f5 H locs := by rw [ef5]; exact hw
          have hX6 : MX ad dA (nl + 1) nb kel dmp spd ven (FP.dadd lef (FP.dmul (FP.dmul (FP.dadd (sp_face dep (g 0) spd (sp_bal kel dmp)) (sp_face dep (g nl) spd (sp_bal kel dmp))) dep) 4634204016564240384)) gon hr tl st dn thr pa bad num RA RB TH DE KI (wput (sp_new ka kb dep (sp_face dep (g 0) spd (sp_bal kel dmp)) (sp_face dep (g nl) spd (sp_bal kel dmp)) g nl) WE (16 * j) (nl + 1)) (nput (sp_new ka kb dep (sp_face dep (g 0) spd (sp_bal kel dmp)) (sp_face dep (g nl) spd (sp_bal kel dmp)) g nl) NX (nl + 1)) LI LM KE TX BW TI KV DM f0 f5 := by rw [ef5]; exact hXa.sO hC kel dmp spd ven (FP.dadd lef (FP.dmul (FP.dmul (FP.dadd (sp_face dep (g 0) spd (sp_bal kel dmp)) (sp_face dep (g nl) spd (sp_bal kel dmp))) dep) 4634204016564240384)) gon hr tl st dn thr pa bad num
          refine lv_aload_n hx hb dX7_hourOf_256 rfl (lv_at hl 1 rfl) ?_
          refine wg (C := RX7) (T := TX7) (N := 31) hx hb hts hi7 hown hw (hC.m (by decide)) hX6.o rfl 9 (by decide) (hts (.fieldLink RX7 172 "LayerMoistureModel" "left" "D") (by decide +kernel)) (fun _ h9 => h9) (v := .double (FP.dadd lef (FP.dmul (FP.dmul (FP.dadd (sp_face dep (g 0) spd (sp_bal kel dmp)) (sp_face dep (g nl) spd (sp_bal kel dmp))) dep) 4634204016564240384))) rfl dX7_hourOf_257 ?_
          refine lv_d2l hx hb dX7_hourOf_260 ?_
          refine lv_lstore (lv' := [(12, .long (FP.d2l (FP.dadd lef (FP.dmul (FP.dmul (FP.dadd (sp_face dep (g 0) spd (sp_bal kel dmp)) (sp_face dep (g nl) spd (sp_bal kel dmp))) dep) 4634204016564240384)))), (10, .double (FP.dmul (FP.dmul (FP.dadd (sp_face dep (g 0) spd (sp_bal kel dmp)) (sp_face dep (g nl) spd (sp_bal kel dmp))) dep) 4634204016564240384)), (0, .ref (ad 16)), (1, .int (nI j)), (2, .int (nI (16 * j))), (3, .int (nI nl)), (4, .double dep), (6, .double (sp_face dep (g 0) spd (sp_bal kel dmp))), (8, .double (sp_face dep (g nl) spd (sp_bal kel dmp)))]) hx hb dX7_hourOf_261 hl (by decide) rfl (fun ls hl => ?_)
          refine lv_aload_n hx hb dX7_hourOf_263 rfl (lv_at hl 2 rfl) ?_
          refine lv_aload_n hx hb dX7_hourOf_264 rfl (lv_at hl 2 rfl) ?_
          refine wg (C := RX7) (T := TX7) (N := 31) hx hb hts hi7 hown hw (hC.m (by decide)) hX6.o rfl 9 (by decide) (hts (.fieldLink RX7 172 "LayerMoistureModel" "left" "D") (by decide +kernel)) (fun _ h9 => h9) (v := .double (FP.dadd lef (FP.dmul (FP.dmul (FP.dadd (sp_face dep (g 0) spd (sp_bal kel dmp)) (sp_face dep (g nl) spd (sp_bal kel dmp))) dep) 4634204016564240384))) rfl dX7_hourOf_265 ?_
          refine lv_lload hx hb dX7_hourOf_268 (lv_at hl 0 rfl) ?_
          refine lv_l2d hx hb dX7_hourOf_270 ?_
          refine lv_dsub hx hb dX7_hourOf_271 l2 ?_
          refine wp_ (C := RX7) (T := TX7) (N := 31) hx hb hts hi7 tyX7 tyX7_ok nmX7 hown hw (hC.m (by decide)) hX6.o rfl 9 (by decide) (hts (.fieldLink RX7 172 "LayerMoistureModel" "left" "D") (by decide +kernel)) (fun _ h9 => h9) rfl (ty := .double) (v := .double (FP.dsub (FP.dadd lef (FP.dmul (FP.dmul (FP.dadd (sp_face dep (g 0) spd (sp_bal kel dmp)) (sp_face dep (g nl) spd (sp_bal kel dmp))) dep) 4634204016564240384)) (FP.l2d (FP.d2l (FP.dadd lef (FP.dmul (FP.dmul (FP.dadd (sp_face dep (g 0) spd (sp_bal kel dmp)) (sp_face dep (g nl) spd (sp_bal kel dmp))) dep) 4634204016564240384)))))) (by decide +kernel) rfl rfl (Nat.le_of_ble_eq_true rfl) dX7_hourOf_272 (fun H locs hw => ?_)
          obtain ⟨f7, ef7⟩ : ∃ z : Nat → va_E, z = va_up f5 (ad 16) (.inr (8, [.int thr, .int (nI (nl + 1)), .int (nI nb), .ref (ad 17), .ref (ad 18), .double kel, .double dmp, .double spd, .double ven, .double (FP.dsub (FP.dadd lef (FP.dmul (FP.dmul (FP.dadd (sp_face dep (g 0) spd (sp_bal kel dmp)) (sp_face dep (g nl) spd (sp_bal kel dmp))) dep) 4634204016564240384)) (FP.l2d (FP.d2l (FP.dadd lef (FP.dmul (FP.dmul (FP.dadd (sp_face dep (g 0) spd (sp_bal kel dmp)) (sp_face dep (g nl) spd (sp_bal kel dmp))) dep) 4634204016564240384))))), .long gon, .int (nI hr), .ref (ad 19), .ref (ad 20), .ref (ad 21), .ref (ad 22), .ref (ad 23), .ref (ad 24), .ref (ad 25), .ref (ad 26), .ref (ad 27), .int (nI tl), .int (nI pa), .int bad, .int num, .ref (ad 28), .ref (ad 29), .ref (ad 30), .ref (ad 31), .int (nI st), .int (nI dn)])) := ⟨_, rfl⟩
          have hw : ww G dA A s L f7 H locs := by rw [ef7]; exact hw
          have hX8 : MX ad dA (nl + 1) nb kel dmp spd ven (FP.dsub (FP.dadd lef (FP.dmul (FP.dmul (FP.dadd (sp_face dep (g 0) spd (sp_bal kel dmp)) (sp_face dep (g nl) spd (sp_bal kel dmp))) dep) 4634204016564240384)) (FP.l2d (FP.d2l (FP.dadd lef (FP.dmul (FP.dmul (FP.dadd (sp_face dep (g 0) spd (sp_bal kel dmp)) (sp_face dep (g nl) spd (sp_bal kel dmp))) dep) 4634204016564240384))))) gon hr tl st dn thr pa bad num RA RB TH DE KI (wput (sp_new ka kb dep (sp_face dep (g 0) spd (sp_bal kel dmp)) (sp_face dep (g nl) spd (sp_bal kel dmp)) g nl) WE (16 * j) (nl + 1)) (nput (sp_new ka kb dep (sp_face dep (g 0) spd (sp_bal kel dmp)) (sp_face dep (g nl) spd (sp_bal kel dmp)) g nl) NX (nl + 1)) LI LM KE TX BW TI KV DM f0 f7 := by rw [ef7]; exact hX6.sO hC kel dmp spd ven (FP.dsub (FP.dadd lef (FP.dmul (FP.dmul (FP.dadd (sp_face dep (g 0) spd (sp_bal kel dmp)) (sp_face dep (g nl) spd (sp_bal kel dmp))) dep) 4634204016564240384)) (FP.l2d (FP.d2l (FP.dadd lef (FP.dmul (FP.dmul (FP.dadd (sp_face dep (g 0) spd (sp_bal kel dmp)) (sp_face dep (g nl) spd (sp_bal kel dmp))) dep) 4634204016564240384))))) gon hr tl st dn thr pa bad num
          refine lv_aload_n hx hb dX7_hourOf_275 rfl (lv_at hl 2 rfl) ?_
          refine lv_aload_n hx hb dX7_hourOf_276 rfl (lv_at hl 2 rfl) ?_
          refine wg (C := RX7) (T := TX7) (N := 31) hx hb hts hi7 hown hw (hC.m (by decide)) hX8.o rfl 10 (by decide) (hts (.fieldLink RX7 175 "LayerMoistureModel" "gone" "J") (by decide +kernel)) (fun _ h9 => h9) (v := .long gon) rfl dX7_hourOf_277 ?_
          refine lv_lload hx hb dX7_hourOf_280 (lv_at hl 0 rfl) ?_
          refine lv_ladd hx hb dX7_hourOf_282 ?_
          refine wp_ (C := RX7) (T := TX7) (N := 31) hx hb hts hi7 tyX7 tyX7_ok nmX7 hown hw (hC.m (by decide)) hX8.o rfl 10 (by decide) (hts (.fieldLink RX7 175 "LayerMoistureModel" "gone" "J") (by decide +kernel)) (fun _ h9 => h9) rfl (ty := .long) (v := .long (gon + (FP.d2l (FP.dadd lef (FP.dmul (FP.dmul (FP.dadd (sp_face dep (g 0) spd (sp_bal kel dmp)) (sp_face dep (g nl) spd (sp_bal kel dmp))) dep) 4634204016564240384))))) (by decide +kernel) rfl rfl (Nat.le_of_ble_eq_true rfl) dX7_hourOf_283 (fun H locs hw => ?_)
          obtain ⟨f9, ef9⟩ : ∃ z : Nat → va_E, z = va_up f7 (ad 16) (.inr (8, [.int thr, .int (nI (nl + 1)), .int (nI nb), .ref (ad 17), .ref (ad 18), .double kel, .double dmp, .double spd, .double ven, .double (FP.dsub (FP.dadd lef (FP.dmul (FP.dmul (FP.dadd (sp_face dep (g 0) spd (sp_bal kel dmp)) (sp_face dep (g nl) spd (sp_bal kel dmp))) dep) 4634204016564240384)) (FP.l2d (FP.d2l (FP.dadd lef (FP.dmul (FP.dmul (FP.dadd (sp_face dep (g 0) spd (sp_bal kel dmp)) (sp_face dep (g nl) spd (sp_bal kel dmp))) dep) 4634204016564240384))))), .long (gon + (FP.d2l (FP.dadd lef (FP.dmul (FP.dmul (FP.dadd (sp_face dep (g 0) spd (sp_bal kel dmp)) (sp_face dep (g nl) spd (sp_bal kel dmp))) dep) 4634204016564240384)))), .int (nI hr), .ref (ad 19), .ref (ad 20), .ref (ad 21), .ref (ad 22), .ref (ad 23), .ref (ad 24), .ref (ad 25), .ref (ad 26), .ref (ad 27), .int (nI tl), .int (nI pa), .int bad, .int num, .ref (ad 28), .ref (ad 29), .ref (ad 30), .ref (ad 31), .int (nI st), .int (nI dn)])) := ⟨_, rfl⟩
          have hw : ww G dA A s L f9 H locs := by rw [ef9]; exact hw
          have hX10 : MX ad dA (nl + 1) nb kel dmp spd ven (FP.dsub (FP.dadd lef (FP.dmul (FP.dmul (FP.dadd (sp_face dep (g 0) spd (sp_bal kel dmp)) (sp_face dep (g nl) spd (sp_bal kel dmp))) dep) 4634204016564240384)) (FP.l2d (FP.d2l (FP.dadd lef (FP.dmul (FP.dmul (FP.dadd (sp_face dep (g 0) spd (sp_bal kel dmp)) (sp_face dep (g nl) spd (sp_bal kel dmp))) dep) 4634204016564240384))))) (gon + (FP.d2l (FP.dadd lef (FP.dmul (FP.dmul (FP.dadd (sp_face dep (g 0) spd (sp_bal kel dmp)) (sp_face dep (g nl) spd (sp_bal kel dmp))) dep) 4634204016564240384)))) hr tl st dn thr pa bad num RA RB TH DE KI (wput (sp_new ka kb dep (sp_face dep (g 0) spd (sp_bal kel dmp)) (sp_face dep (g nl) spd (sp_bal kel dmp)) g nl) WE (16 * j) (nl + 1)) (nput (sp_new ka kb dep (sp_face dep (g 0) spd (sp_bal kel dmp)) (sp_face dep (g nl) spd (sp_bal kel dmp)) g nl) NX (nl + 1)) LI LM KE TX BW TI KV DM f0 f9 := by rw [ef9]; exact hX8.sO hC kel dmp spd ven (FP.dsub (FP.dadd lef (FP.dmul (FP.dmul (FP.dadd (sp_face dep (g 0) spd (sp_bal kel dmp)) (sp_face dep (g nl) spd (sp_bal kel dmp))) dep) 4634204016564240384)) (FP.l2d (FP.d2l (FP.dadd lef (FP.dmul (FP.dmul (FP.dadd (sp_face dep (g 0) spd (sp_bal kel dmp)) (sp_face dep (g nl) spd (sp_bal kel dmp))) dep) 4634204016564240384))))) (gon + (FP.d2l (FP.dadd lef (FP.dmul (FP.dmul (FP.dadd (sp_face dep (g 0) spd (sp_bal kel dmp)) (sp_face dep (g nl) spd (sp_bal kel dmp))) dep) 4634204016564240384)))) hr tl st dn thr pa bad num
          refine lv_aload_n hx hb dX7_hourOf_286 rfl (lv_at hl 2 rfl) ?_
          refine lv_aload_n hx hb dX7_hourOf_287 rfl (lv_at hl 2 rfl) ?_
          refine wg (C := RX7) (T := TX7) (N := 31) hx hb hts hi7 hown hw (hC.m (by decide)) hX10.o rfl 6 (by decide) (hts (.fieldLink RX7 24 "LayerMoistureModel" "damp" "D") (by decide +kernel)) (fun _ h9 => h9) (v := .double dmp) rfl dX7_hourOf_288 ?_
          refine lv_dload hx hb dX7_hourOf_291 (lv_at hl 1 rfl) ?_
          refine lv_ldc2d (v := 4679240012837945344) hx hb hown (hts (.constantDouble RX7 179 (4679240012837945344)) (by decide +kernel)) dX7_hourOf_293 ?_
          refine lv_ddiv hx hb dX7_hourOf_296 t1 ?_
          refine lv_dconst1 hx hb dX7_hourOf_297 ?_
          refine lv_aload_n hx hb dX7_hourOf_298 rfl (lv_at hl 2 rfl) ?_
          refine wg (C := RX7) (T := TX7) (N := 31) hx hb hts hi7 hown hw (hC.m (by decide)) hX10.o rfl 8 (by decide) (hts (.fieldLink RX7 99 "LayerMoistureModel" "vent" "D") (by decide +kernel)) (fun _ h9 => h9) (v := .double ven) rfl dX7_hourOf_299 ?_
          refine lv_dsub hx hb dX7_hourOf_302 t2 ?_
          refine lv_dmul hx hb dX7_hourOf_303 t3 ?_
          refine lv_dadd hx hb dX7_hourOf_304 t4 ?_
          refine wp_ (C := RX7) (T := TX7) (N := 31) hx hb hts hi7 tyX7 tyX7_ok nmX7 hown hw (hC.m (by decide)) hX10.o rfl 6 (by decide) (hts (.fieldLink RX7 24 "LayerMoistureModel" "damp" "D") (by decide +kernel)) (fun _ h9 => h9) rfl (ty := .double) (v := .double (FP.dadd dmp (FP.dmul (FP.ddiv (FP.dmul (FP.dmul (FP.dadd (sp_face dep (g 0) spd (sp_bal kel dmp)) (sp_face dep (g nl) spd (sp_bal kel dmp))) dep) 4634204016564240384) 4679240012837945344) (FP.dsub FP.dconst1 ven)))) (by decide +kernel) rfl rfl (Nat.le_of_ble_eq_true rfl) dX7_hourOf_305 (fun H locs hw => ?_)
          obtain ⟨f11, ef11⟩ : ∃ z : Nat → va_E, z = va_up f9 (ad 16) (.inr (8, [.int thr, .int (nI (nl + 1)), .int (nI nb), .ref (ad 17), .ref (ad 18), .double kel, .double (FP.dadd dmp (FP.dmul (FP.ddiv (FP.dmul (FP.dmul (FP.dadd (sp_face dep (g 0) spd (sp_bal kel dmp)) (sp_face dep (g nl) spd (sp_bal kel dmp))) dep) 4634204016564240384) 4679240012837945344) (FP.dsub FP.dconst1 ven))), .double spd, .double ven, .double (FP.dsub (FP.dadd lef (FP.dmul (FP.dmul (FP.dadd (sp_face dep (g 0) spd (sp_bal kel dmp)) (sp_face dep (g nl) spd (sp_bal kel dmp))) dep) 4634204016564240384)) (FP.l2d (FP.d2l (FP.dadd lef (FP.dmul (FP.dmul (FP.dadd (sp_face dep (g 0) spd (sp_bal kel dmp)) (sp_face dep (g nl) spd (sp_bal kel dmp))) dep) 4634204016564240384))))), .long (gon + (FP.d2l (FP.dadd lef (FP.dmul (FP.dmul (FP.dadd (sp_face dep (g 0) spd (sp_bal kel dmp)) (sp_face dep (g nl) spd (sp_bal kel dmp))) dep) 4634204016564240384)))), .int (nI hr), .ref (ad 19), .ref (ad 20), .ref (ad 21), .ref (ad 22), .ref (ad 23), .ref (ad 24), .ref (ad 25), .ref (ad 26), .ref (ad 27), .int (nI tl), .int (nI pa), .int bad, .int num, .ref (ad 28), .ref (ad 29), .ref (ad 30), .ref (ad 31), .int (nI st), .int (nI dn)])) := ⟨_, rfl⟩
          have hw : ww G dA A s L f11 H locs := by rw [ef11]; exact hw
          have hX12 : MX ad dA (nl + 1) nb kel (FP.dadd dmp (FP.dmul (FP.ddiv (FP.dmul (FP.dmul (FP.dadd (sp_face dep (g 0) spd (sp_bal kel dmp)) (sp_face dep (g nl) spd (sp_bal kel dmp))) dep) 4634204016564240384) 4679240012837945344) (FP.dsub FP.dconst1 ven))) spd ven (FP.dsub (FP.dadd lef (FP.dmul (FP.dmul (FP.dadd (sp_face dep (g 0) spd (sp_bal kel dmp)) (sp_face dep (g nl) spd (sp_bal kel dmp))) dep) 4634204016564240384)) (FP.l2d (FP.d2l (FP.dadd lef (FP.dmul (FP.dmul (FP.dadd (sp_face dep (g 0) spd (sp_bal kel dmp)) (sp_face dep (g nl) spd (sp_bal kel dmp))) dep) 4634204016564240384))))) (gon + (FP.d2l (FP.dadd lef (FP.dmul (FP.dmul (FP.dadd (sp_face dep (g 0) spd (sp_bal kel dmp)) (sp_face dep (g nl) spd (sp_bal kel dmp))) dep) 4634204016564240384)))) hr tl st dn thr pa bad num RA RB TH DE KI (wput (sp_new ka kb dep (sp_face dep (g 0) spd (sp_bal kel dmp)) (sp_face dep (g nl) spd (sp_bal kel dmp)) g nl) WE (16 * j) (nl + 1)) (nput (sp_new ka kb dep (sp_face dep (g 0) spd (sp_bal kel dmp)) (sp_face dep (g nl) spd (sp_bal kel dmp)) g nl) NX (nl + 1)) LI LM KE TX BW TI KV DM f0 f11 := by rw [ef11]; exact hX10.sO hC kel (FP.dadd dmp (FP.dmul (FP.ddiv (FP.dmul (FP.dmul (FP.dadd (sp_face dep (g 0) spd (sp_bal kel dmp)) (sp_face dep (g nl) spd (sp_bal kel dmp))) dep) 4634204016564240384) 4679240012837945344) (FP.dsub FP.dconst1 ven))) spd ven (FP.dsub (FP.dadd lef (FP.dmul (FP.dmul (FP.dadd (sp_face dep (g 0) spd (sp_bal kel dmp)) (sp_face dep (g nl) spd (sp_bal kel dmp))) dep) 4634204016564240384)) (FP.l2d (FP.d2l (FP.dadd lef (FP.dmul (FP.dmul (FP.dadd (sp_face dep (g 0) spd (sp_bal kel dmp)) (sp_face dep (g nl) spd (sp_bal kel dmp))) dep) 4634204016564240384))))) (gon + (FP.d2l (FP.dadd lef (FP.dmul (FP.dmul (FP.dadd (sp_face dep (g 0) spd (sp_bal kel dmp)) (sp_face dep (g nl) spd (sp_bal kel dmp))) dep) 4634204016564240384)))) hr tl st dn thr pa bad num
          refine lv_aload_n hx hb dX7_hourOf_308 rfl (lv_at hl 2 rfl) ?_
          refine lv_aload_n hx hb dX7_hourOf_309 rfl (lv_at hl 2 rfl) ?_
          refine wg (C := RX7) (T := TX7) (N := 31) hx hb hts hi7 hown hw (hC.m (by decide)) hX12.o rfl 6 (by decide) (hts (.fieldLink RX7 24 "LayerMoistureModel" "damp" "D") (by decide +kernel)) (fun _ h9 => h9) (v := .double (FP.dadd dmp (FP.dmul (FP.ddiv (FP.dmul (FP.dmul (FP.dadd (sp_face dep (g 0) spd (sp_bal kel dmp)) (sp_face dep (g nl) spd (sp_bal kel dmp))) dep) 4634204016564240384) 4679240012837945344) (FP.dsub FP.dconst1 ven)))) rfl dX7_hourOf_310 ?_
          refine lv_dconst0 hx hb dX7_hourOf_313 ?_
          refine lv_dcmp hx hb dX7_hourOf_314 ?_
          refine lv_if_ge (tgt := 322) hx hb dX7_hourOf_315 (by decide) (fun c315 => ?_) (fun c315 => ?_)
          · have q315 := cmp_ge c315
            refine lv_aload_n hx hb dX7_hourOf_322 rfl (lv_at hl 2 rfl) ?_
            refine wg (C := RX7) (T := TX7) (N := 31) hx hb hts hi7 hown hw (hC.m (by decide)) hX12.o rfl 6 (by decide) (hts (.fieldLink RX7 24 "LayerMoistureModel" "damp" "D") (by decide +kernel)) (fun _ h9 => h9) (v := .double (FP.dadd dmp (FP.dmul (FP.ddiv (FP.dmul (FP.dmul (FP.dadd (sp_face dep (g 0) spd (sp_bal kel dmp)) (sp_face dep (g nl) spd (sp_bal kel dmp))) dep) 4634204016564240384) 4679240012837945344) (FP.dsub FP.dconst1 ven)))) rfl dX7_hourOf_323 ?_
            refine lv_dconst1 hx hb dX7_hourOf_326 ?_
            refine lv_dcmp hx hb dX7_hourOf_327 ?_
            refine lv_if_le (tgt := 335) hx hb dX7_hourOf_328 (by decide) (fun c328 => ?_) (fun c328 => ?_)
            · have e8 : sp_damp dmp ven (FP.dmul (FP.dmul (FP.dadd (sp_face dep (g 0) spd (sp_bal kel dmp)) (sp_face dep (g nl) spd (sp_bal kel dmp))) dep) 4634204016564240384) = sp_damp1 dmp ven (FP.dmul (FP.dmul (FP.dadd (sp_face dep (g 0) spd (sp_bal kel dmp)) (sp_face dep (g nl) spd (sp_bal kel dmp))) dep) 4634204016564240384) := by have q315 : ¬ FP.dcmp (sp_damp1 dmp ven (FP.dmul (FP.dmul (FP.dadd (sp_face dep (g 0) spd (sp_bal kel dmp)) (sp_face dep (g nl) spd (sp_bal kel dmp))) dep) 4634204016564240384)) FP.dconst0 = some .lt := q315; have q328 : ¬ FP.dcmp (sp_damp1 dmp ven (FP.dmul (FP.dmul (FP.dadd (sp_face dep (g 0) spd (sp_bal kel dmp)) (sp_face dep (g nl) spd (sp_bal kel dmp))) dep) 4634204016564240384)) FP.dconst1 = some .gt := cmp_le c328; rw [sp_damp, sp_lo, if_neg q315, sp_hi, if_neg q328]
              refine lv_aload_n hx hb dX7_hourOf_335 rfl (lv_at hl 2 rfl) ?_
              refine wg (C := RX7) (T := TX7) (N := 31) hx hb hts hi7 hown hw (hC.m (by decide)) hX12.o rfl 6 (by decide) (hts (.fieldLink RX7 24 "LayerMoistureModel" "damp" "D") (by decide +kernel)) (fun _ h9 => h9) (v := .double (FP.dadd dmp (FP.dmul (FP.ddiv (FP.dmul (FP.dmul (FP.dadd (sp_face dep (g 0) spd (sp_bal kel dmp)) (sp_face dep (g nl) spd (sp_bal kel dmp))) dep) 4634204016564240384) 4679240012837945344) (FP.dsub FP.dconst1 ven)))) rfl dX7_hourOf_336 ?_
              refine wp_ (C := RX7) (T := TX7) (N := 31) hx hb hts hi7 tyX7 tyX7_ok nmX7 hown hw (hC.m (by decide)) hX12.o rfl 6 (by decide) (hts (.fieldLink RX7 24 "LayerMoistureModel" "damp" "D") (by decide +kernel)) (fun _ h9 => h9) rfl (ty := .double) (v := .double (FP.dadd dmp (FP.dmul (FP.ddiv (FP.dmul (FP.dmul (FP.dadd (sp_face dep (g 0) spd (sp_bal kel dmp)) (sp_face dep (g nl) spd (sp_bal kel dmp))) dep) 4634204016564240384) 4679240012837945344) (FP.dsub FP.dconst1 ven)))) (by decide +kernel) rfl rfl (Nat.le_of_ble_eq_true rfl) dX7_hourOf_339 (fun H locs hw => ?_)
              obtain ⟨f13, ef13⟩ : ∃ z : Nat → va_E, z = va_up f11 (ad 16) (.inr (8, [.int thr, .int (nI (nl + 1)), .int (nI nb), .ref (ad 17), .ref (ad 18), .double kel, .double (FP.dadd dmp (FP.dmul (FP.ddiv (FP.dmul (FP.dmul (FP.dadd (sp_face dep (g 0) spd (sp_bal kel dmp)) (sp_face dep (g nl) spd (sp_bal kel dmp))) dep) 4634204016564240384) 4679240012837945344) (FP.dsub FP.dconst1 ven))), .double spd, .double ven, .double (FP.dsub (FP.dadd lef (FP.dmul (FP.dmul (FP.dadd (sp_face dep (g 0) spd (sp_bal kel dmp)) (sp_face dep (g nl) spd (sp_bal kel dmp))) dep) 4634204016564240384)) (FP.l2d (FP.d2l (FP.dadd lef (FP.dmul (FP.dmul (FP.dadd (sp_face dep (g 0) spd (sp_bal kel dmp)) (sp_face dep (g nl) spd (sp_bal kel dmp))) dep) 4634204016564240384))))), .long (gon + (FP.d2l (FP.dadd lef (FP.dmul (FP.dmul (FP.dadd (sp_face dep (g 0) spd (sp_bal kel dmp)) (sp_face dep (g nl) spd (sp_bal kel dmp))) dep) 4634204016564240384)))), .int (nI hr), .ref (ad 19), .ref (ad 20), .ref (ad 21), .ref (ad 22), .ref (ad 23), .ref (ad 24), .ref (ad 25), .ref (ad 26), .ref (ad 27), .int (nI tl), .int (nI pa), .int bad, .int num, .ref (ad 28), .ref (ad 29), .ref (ad 30), .ref (ad 31), .int (nI st), .int (nI dn)])) := ⟨_, rfl⟩
              have hw : ww G dA A s L f13 H locs := by rw [ef13]; exact hw
              have hX14 : MX ad dA (nl + 1) nb kel (FP.dadd dmp (FP.dmul (FP.ddiv (FP.dmul (FP.dmul (FP.dadd (sp_face dep (g 0) spd (sp_bal kel dmp)) (sp_face dep (g nl) spd (sp_bal kel dmp))) dep) 4634204016564240384) 4679240012837945344) (FP.dsub FP.dconst1 ven))) spd ven (FP.dsub (FP.dadd lef (FP.dmul (FP.dmul (FP.dadd (sp_face dep (g 0) spd (sp_bal kel dmp)) (sp_face dep (g nl) spd (sp_bal kel dmp))) dep) 4634204016564240384)) (FP.l2d (FP.d2l (FP.dadd lef (FP.dmul (FP.dmul (FP.dadd (sp_face dep (g 0) spd (sp_bal kel dmp)) (sp_face dep (g nl) spd (sp_bal kel dmp))) dep) 4634204016564240384))))) (gon + (FP.d2l (FP.dadd lef (FP.dmul (FP.dmul (FP.dadd (sp_face dep (g 0) spd (sp_bal kel dmp)) (sp_face dep (g nl) spd (sp_bal kel dmp))) dep) 4634204016564240384)))) hr tl st dn thr pa bad num RA RB TH DE KI (wput (sp_new ka kb dep (sp_face dep (g 0) spd (sp_bal kel dmp)) (sp_face dep (g nl) spd (sp_bal kel dmp)) g nl) WE (16 * j) (nl + 1)) (nput (sp_new ka kb dep (sp_face dep (g 0) spd (sp_bal kel dmp)) (sp_face dep (g nl) spd (sp_bal kel dmp)) g nl) NX (nl + 1)) LI LM KE TX BW TI KV DM f0 f13 := by rw [ef13]; exact hX12.sO hC kel (FP.dadd dmp (FP.dmul (FP.ddiv (FP.dmul (FP.dmul (FP.dadd (sp_face dep (g 0) spd (sp_bal kel dmp)) (sp_face dep (g nl) spd (sp_bal kel dmp))) dep) 4634204016564240384) 4679240012837945344) (FP.dsub FP.dconst1 ven))) spd ven (FP.dsub (FP.dadd lef (FP.dmul (FP.dmul (FP.dadd (sp_face dep (g 0) spd (sp_bal kel dmp)) (sp_face dep (g nl) spd (sp_bal kel dmp))) dep) 4634204016564240384)) (FP.l2d (FP.d2l (FP.dadd lef (FP.dmul (FP.dmul (FP.dadd (sp_face dep (g 0) spd (sp_bal kel dmp)) (sp_face dep (g nl) spd (sp_bal kel dmp))) dep) 4634204016564240384))))) (gon + (FP.d2l (FP.dadd lef (FP.dmul (FP.dmul (FP.dadd (sp_face dep (g 0) spd (sp_bal kel dmp)) (sp_face dep (g nl) spd (sp_bal kel dmp))) dep) 4634204016564240384)))) hr tl st dn thr pa bad num
              exact hret _ _ _ _ _ hw (by rw [e8]; exact hX14) dX7_hourOf_342
            · have e8 : sp_damp dmp ven (FP.dmul (FP.dmul (FP.dadd (sp_face dep (g 0) spd (sp_bal kel dmp)) (sp_face dep (g nl) spd (sp_bal kel dmp))) dep) 4634204016564240384) = FP.dconst1 := by have q315 : ¬ FP.dcmp (sp_damp1 dmp ven (FP.dmul (FP.dmul (FP.dadd (sp_face dep (g 0) spd (sp_bal kel dmp)) (sp_face dep (g nl) spd (sp_bal kel dmp))) dep) 4634204016564240384)) FP.dconst0 = some .lt := q315; have q328 : FP.dcmp (sp_damp1 dmp ven (FP.dmul (FP.dmul (FP.dadd (sp_face dep (g 0) spd (sp_bal kel dmp)) (sp_face dep (g nl) spd (sp_bal kel dmp))) dep) 4634204016564240384)) FP.dconst1 = some .gt := cmp_nle c328; rw [sp_damp, sp_lo, if_neg q315, sp_hi, if_pos q328]
              refine lv_dconst1 hx hb dX7_hourOf_331 ?_
              refine lv_goto (tgt := 339) hx hb dX7_hourOf_332 (by decide) ?_
              refine wp_ (C := RX7) (T := TX7) (N := 31) hx hb hts hi7 tyX7 tyX7_ok nmX7 hown hw (hC.m (by decide)) hX12.o rfl 6 (by decide) (hts (.fieldLink RX7 24 "LayerMoistureModel" "damp" "D") (by decide +kernel)) (fun _ h9 => h9) rfl (ty := .double) (v := .double FP.dconst1) (by decide +kernel) rfl rfl (Nat.le_of_ble_eq_true rfl) dX7_hourOf_339 (fun H locs hw => ?_)
              obtain ⟨f15, ef15⟩ : ∃ z : Nat → va_E, z = va_up f11 (ad 16) (.inr (8, [.int thr, .int (nI (nl + 1)), .int (nI nb), .ref (ad 17), .ref (ad 18), .double kel, .double FP.dconst1, .double spd, .double ven, .double (FP.dsub (FP.dadd lef (FP.dmul (FP.dmul (FP.dadd (sp_face dep (g 0) spd (sp_bal kel dmp)) (sp_face dep (g nl) spd (sp_bal kel dmp))) dep) 4634204016564240384)) (FP.l2d (FP.d2l (FP.dadd lef (FP.dmul (FP.dmul (FP.dadd (sp_face dep (g 0) spd (sp_bal kel dmp)) (sp_face dep (g nl) spd (sp_bal kel dmp))) dep) 4634204016564240384))))), .long (gon + (FP.d2l (FP.dadd lef (FP.dmul (FP.dmul (FP.dadd (sp_face dep (g 0) spd (sp_bal kel dmp)) (sp_face dep (g nl) spd (sp_bal kel dmp))) dep) 4634204016564240384)))), .int (nI hr), .ref (ad 19), .ref (ad 20), .ref (ad 21), .ref (ad 22), .ref (ad 23), .ref (ad 24), .ref (ad 25), .ref (ad 26), .ref (ad 27), .int (nI tl), .int (nI pa), .int bad, .int num, .ref (ad 28), .ref (ad 29), .ref (ad 30), .ref (ad 31), .int (nI st), .int (nI dn)])) := ⟨_, rfl⟩
              have hw : ww G dA A s L f15 H locs := by rw [ef15]; exact hw
              have hX16 : MX ad dA (nl + 1) nb kel FP.dconst1 spd ven (FP.dsub (FP.dadd lef (FP.dmul (FP.dmul (FP.dadd (sp_face dep (g 0) spd (sp_bal kel dmp)) (sp_face dep (g nl) spd (sp_bal kel dmp))) dep) 4634204016564240384)) (FP.l2d (FP.d2l (FP.dadd lef (FP.dmul (FP.dmul (FP.dadd (sp_face dep (g 0) spd (sp_bal kel dmp)) (sp_face dep (g nl) spd (sp_bal kel dmp))) dep) 4634204016564240384))))) (gon + (FP.d2l (FP.dadd lef (FP.dmul (FP.dmul (FP.dadd (sp_face dep (g 0) spd (sp_bal kel dmp)) (sp_face dep (g nl) spd (sp_bal kel dmp))) dep) 4634204016564240384)))) hr tl st dn thr pa bad num RA RB TH DE KI (wput (sp_new ka kb dep (sp_face dep (g 0) spd (sp_bal kel dmp)) (sp_face dep (g nl) spd (sp_bal kel dmp)) g nl) WE (16 * j) (nl + 1)) (nput (sp_new ka kb dep (sp_face dep (g 0) spd (sp_bal kel dmp)) (sp_face dep (g nl) spd (sp_bal kel dmp)) g nl) NX (nl + 1)) LI LM KE TX BW TI KV DM f0 f15 := by rw [ef15]; exact hX12.sO hC kel FP.dconst1 spd ven (FP.dsub (FP.dadd lef (FP.dmul (FP.dmul (FP.dadd (sp_face dep (g 0) spd (sp_bal kel dmp)) (sp_face dep (g nl) spd (sp_bal kel dmp))) dep) 4634204016564240384)) (FP.l2d (FP.d2l (FP.dadd lef (FP.dmul (FP.dmul (FP.dadd (sp_face dep (g 0) spd (sp_bal kel dmp)) (sp_face dep (g nl) spd (sp_bal kel dmp))) dep) 4634204016564240384))))) (gon + (FP.d2l (FP.dadd lef (FP.dmul (FP.dmul (FP.dadd (sp_face dep (g 0) spd (sp_bal kel dmp)) (sp_face dep (g nl) spd (sp_bal kel dmp))) dep) 4634204016564240384)))) hr tl st dn thr pa bad num
              exact hret _ _ _ _ _ hw (by rw [e8]; exact hX16) dX7_hourOf_342
          · have e8 : sp_damp dmp ven (FP.dmul (FP.dmul (FP.dadd (sp_face dep (g 0) spd (sp_bal kel dmp)) (sp_face dep (g nl) spd (sp_bal kel dmp))) dep) 4634204016564240384) = FP.dconst0 := by have q315 : FP.dcmp (sp_damp1 dmp ven (FP.dmul (FP.dmul (FP.dadd (sp_face dep (g 0) spd (sp_bal kel dmp)) (sp_face dep (g nl) spd (sp_bal kel dmp))) dep) 4634204016564240384)) FP.dconst0 = some .lt := cmp_nge c315; rw [sp_damp, sp_lo, if_pos q315]; decide +kernel
            refine lv_dconst0 hx hb dX7_hourOf_318 ?_
            refine lv_goto (tgt := 339) hx hb dX7_hourOf_319 (by decide) ?_
            refine wp_ (C := RX7) (T := TX7) (N := 31) hx hb hts hi7 tyX7 tyX7_ok nmX7 hown hw (hC.m (by decide)) hX12.o rfl 6 (by decide) (hts (.fieldLink RX7 24 "LayerMoistureModel" "damp" "D") (by decide +kernel)) (fun _ h9 => h9) rfl (ty := .double) (v := .double FP.dconst0) (by decide +kernel) rfl rfl (Nat.le_of_ble_eq_true rfl) dX7_hourOf_339 (fun H locs hw => ?_)
            obtain ⟨f17, ef17⟩ : ∃ z : Nat → va_E, z = va_up f11 (ad 16) (.inr (8, [.int thr, .int (nI (nl + 1)), .int (nI nb), .ref (ad 17), .ref (ad 18), .double kel, .double FP.dconst0, .double spd, .double ven, .double (FP.dsub (FP.dadd lef (FP.dmul (FP.dmul (FP.dadd (sp_face dep (g 0) spd (sp_bal kel dmp)) (sp_face dep (g nl) spd (sp_bal kel dmp))) dep) 4634204016564240384)) (FP.l2d (FP.d2l (FP.dadd lef (FP.dmul (FP.dmul (FP.dadd (sp_face dep (g 0) spd (sp_bal kel dmp)) (sp_face dep (g nl) spd (sp_bal kel dmp))) dep) 4634204016564240384))))), .long (gon + (FP.d2l (FP.dadd lef (FP.dmul (FP.dmul (FP.dadd (sp_face dep (g 0) spd (sp_bal kel dmp)) (sp_face dep (g nl) spd (sp_bal kel dmp))) dep) 4634204016564240384)))), .int (nI hr), .ref (ad 19), .ref (ad 20), .ref (ad 21), .ref (ad 22), .ref (ad 23), .ref (ad 24), .ref (ad 25), .ref (ad 26), .ref (ad 27), .int (nI tl), .int (nI pa), .int bad, .int num, .ref (ad 28), .ref (ad 29), .ref (ad 30), .ref (ad 31), .int (nI st), .int (nI dn)])) := ⟨_, rfl⟩
            have hw : ww G dA A s L f17 H locs := by rw [ef17]; exact hw
            have hX18 : MX ad dA (nl + 1) nb kel FP.dconst0 spd ven (FP.dsub (FP.dadd lef (FP.dmul (FP.dmul (FP.dadd (sp_face dep (g 0) spd (sp_bal kel dmp)) (sp_face dep (g nl) spd (sp_bal kel dmp))) dep) 4634204016564240384)) (FP.l2d (FP.d2l (FP.dadd lef (FP.dmul (FP.dmul (FP.dadd (sp_face dep (g 0) spd (sp_bal kel dmp)) (sp_face dep (g nl) spd (sp_bal kel dmp))) dep) 4634204016564240384))))) (gon + (FP.d2l (FP.dadd lef (FP.dmul (FP.dmul (FP.dadd (sp_face dep (g 0) spd (sp_bal kel dmp)) (sp_face dep (g nl) spd (sp_bal kel dmp))) dep) 4634204016564240384)))) hr tl st dn thr pa bad num RA RB TH DE KI (wput (sp_new ka kb dep (sp_face dep (g 0) spd (sp_bal kel dmp)) (sp_face dep (g nl) spd (sp_bal kel dmp)) g nl) WE (16 * j) (nl + 1)) (nput (sp_new ka kb dep (sp_face dep (g 0) spd (sp_bal kel dmp)) (sp_face dep (g nl) spd (sp_bal kel dmp)) g nl) NX (nl + 1)) LI LM KE TX BW TI KV DM f0 f17 := by rw [ef17]; exact hX12.sO hC kel FP.dconst0 spd ven (FP.dsub (FP.dadd lef (FP.dmul (FP.dmul (FP.dadd (sp_face dep (g 0) spd (sp_bal kel dmp)) (sp_face dep (g nl) spd (sp_bal kel dmp))) dep) 4634204016564240384)) (FP.l2d (FP.d2l (FP.dadd lef (FP.dmul (FP.dmul (FP.dadd (sp_face dep (g 0) spd (sp_bal kel dmp)) (sp_face dep (g nl) spd (sp_bal kel dmp))) dep) 4634204016564240384))))) (gon + (FP.d2l (FP.dadd lef (FP.dmul (FP.dmul (FP.dadd (sp_face dep (g 0) spd (sp_bal kel dmp)) (sp_face dep (g nl) spd (sp_bal kel dmp))) dep) 4634204016564240384)))) hr tl st dn thr pa bad num
            exact hret _ _ _ _ _ hw (by rw [e8]; exact hX18) dX7_hourOf_342
        | succ kf ih =>
          intro i hik fa H locs hXa hw ls hl
          have hlt : i < (nl + 1) := by omega
          refine lv_iload hx hb dX7_hourOf_200 (lv_at hl 7 rfl) ?_
          refine lv_aload_n hx hb dX7_hourOf_202 rfl (lv_at hl 0 rfl) ?_
          refine wg (C := RX7) (T := TX7) (N := 31) hx hb hts hi7 hown hw (hC.m (by decide)) hXa.o rfl 1 (by decide) (hts (.fieldLink RX7 71 "LayerMoistureModel" "layers" "I") (by decide +kernel)) (fun _ h9 => h9) (v := .int (nI (nl + 1))) rfl dX7_hourOf_203 ?_
          refine lv_icmp_ge (tgt := 231) hx hb dX7_hourOf_206 (by decide) (fun c9 => absurd c9 (nI_ge hlt hC.n31)) (fun _ => ?_)
          refine lv_aload_n hx hb dX7_hourOf_209 rfl (lv_at hl 0 rfl) ?_
          refine wg (C := RX7) (T := TX7) (N := 31) hx hb hts hi7 hown hw (hC.m (by decide)) hXa.o rfl 15 (by decide) (hts (.fieldLink RX7 41 "LayerMoistureModel" "wets" "[D") (by decide +kernel)) (fun _ h9 => h9) (v := .ref (ad 22)) rfl dX7_hourOf_210 ?_
          refine lv_iload_n hx hb dX7_hourOf_213 rfl (lv_at hl 2 rfl) ?_
          refine lv_iload hx hb dX7_hourOf_214 (lv_at hl 7 rfl) ?_
          refine lv_iadd hx hb dX7_hourOf_216 ?_
          rw [show (nI (16 * j)) + (nI i) = nI (16 * j + i) from nI_add _ _]
          refine lv_aload_n hx hb dX7_hourOf_217 rfl (lv_at hl 0 rfl) ?_
          refine wg (C := RX7) (T := TX7) (N := 31) hx hb hts hi7 hown hw (hC.m (by decide)) hXa.o rfl 16 (by decide) (hts (.fieldLink RX7 44 "LayerMoistureModel" "next" "[D") (by decide +kernel)) (fun _ h9 => h9) (v := .ref (ad 23)) rfl dX7_hourOf_218 ?_
          refine lv_iload hx hb dX7_hourOf_221 (lv_at hl 7 rfl) ?_
          refine wld_d hx hb hw (hC.m (by decide)) hXa.aNX i (by have := hC.2.2.1; omega) (by decide) rfl dX7_hourOf_223 ?_
          rw [show (nput (sp_new ka kb dep (sp_face dep (g 0) spd (sp_bal kel dmp)) (sp_face dep (g nl) spd (sp_bal kel dmp)) g nl) NX (nl + 1)) i = (sp_new ka kb dep (sp_face dep (g 0) spd (sp_bal kel dmp)) (sp_face dep (g nl) spd (sp_bal kel dmp)) g nl) i from nput_in _ _ hlt]
          refine wst_d hx hb hw (hC.m (by decide)) hXa.aWE (16 * j + i) (by have := hC.2.2.2.1; have := hC.2.2.1; omega) (by decide) rfl dX7_hourOf_224 (fun H locs hw => ?_)
          obtain ⟨f19, ef19⟩ : ∃ z : Nat → va_E, z = va_up fa (ad 22) (aD (dA 1) 128 (vf_upd (wput (sp_new ka kb dep (sp_face dep (g 0) spd (sp_bal kel dmp)) (sp_face dep (g nl) spd (sp_bal kel dmp)) g nl) WE (16 * j) i) (16 * j + i) ((sp_new ka kb dep (sp_face dep (g 0) spd (sp_bal kel dmp)) (sp_face dep (g nl) spd (sp_bal kel dmp)) g nl) i))) := ⟨_, rfl⟩
          have hw : ww G dA A s L f19 H locs := by rw [ef19]; exact hw
          have hX20 : MX ad dA (nl + 1) nb kel dmp spd ven lef gon hr tl st dn thr pa bad num RA RB TH DE KI (vf_upd (wput (sp_new ka kb dep (sp_face dep (g 0) spd (sp_bal kel dmp)) (sp_face dep (g nl) spd (sp_bal kel dmp)) g nl) WE (16 * j) i) (16 * j + i) ((sp_new ka kb dep (sp_face dep (g 0) spd (sp_bal kel dmp)) (sp_face dep (g nl) spd (sp_bal kel dmp)) g nl) i)) (nput (sp_new ka kb dep (sp_face dep (g 0) spd (sp_bal kel dmp)) (sp_face dep (g nl) spd (sp_bal kel dmp)) g nl) NX (nl + 1)) LI LM KE TX BW TI KV DM f0 f19 := by rw [ef19]; exact hXa.sWE hC _
          refine lv_iinc (v := nI (i + 1)) (lv' := [(10, .int (nI (i + 1))), (0, .ref (ad 16)), (1, .int (nI j)), (2, .int (nI (16 * j))), (3, .int (nI nl)), (4, .double dep), (6, .double (sp_face dep (g 0) spd (sp_bal kel dmp))), (8, .double (sp_face dep (g nl) spd (sp_bal kel dmp)))]) hx hb dX7_hourOf_225 hl (k := 7) rfl (nI_1 i) (by decide) rfl (fun ls hl => ?_)
          refine lv_goto (tgt := 200) hx hb dX7_hourOf_228 (by decide) ?_
          exact ih (i + 1) (by omega) _ _ _ (by have h9 := hX20; rw [wput_s] at h9; exact h9) hw ls (lv_sub hl [1, 2, 3, 4, 5, 6, 7, 0] rfl)
      exact loop200 (nl + 1) 0 (by omega) _ _ _ (by have h9 := hXa; rw [wput_0 (sp_new ka kb dep (sp_face dep (g 0) spd (sp_bal kel dmp)) (sp_face dep (g nl) spd (sp_bal kel dmp)) g nl) WE (16 * j)] at h9; exact h9) hw ls (lv_sub hl [1, 2, 3, 4, 5, 6, 7, 0] rfl)
    | succ kf ih =>
      intro i hik fa H locs hXa hw ls hl
      have hlt : i < (nl + 1) := by omega
      refine lv_iload hx hb dX7_hourOf_75 (lv_at hl 7 rfl) ?_
      refine lv_aload_n hx hb dX7_hourOf_77 rfl (lv_at hl 0 rfl) ?_
      refine wg (C := RX7) (T := TX7) (N := 31) hx hb hts hi7 hown hw (hC.m (by decide)) hXa.o rfl 1 (by decide) (hts (.fieldLink RX7 71 "LayerMoistureModel" "layers" "I") (by decide +kernel)) (fun _ h9 => h9) (v := .int (nI (nl + 1))) rfl dX7_hourOf_78 ?_
      refine lv_icmp_ge (tgt := 197) hx hb dX7_hourOf_81 (by decide) (fun c9 => absurd c9 (nI_ge hlt hC.n31)) (fun _ => ?_)
      refine lv_aload_n hx hb dX7_hourOf_84 rfl (lv_at hl 0 rfl) ?_
      refine wg (C := RX7) (T := TX7) (N := 31) hx hb hts hi7 hown hw (hC.m (by decide)) hXa.o rfl 15 (by decide) (hts (.fieldLink RX7 41 "LayerMoistureModel" "wets" "[D") (by decide +kernel)) (fun _ h9 => h9) (v := .ref (ad 22)) rfl dX7_hourOf_85 ?_
      refine lv_iload_n hx hb dX7_hourOf_88 rfl (lv_at hl 2 rfl) ?_
      refine lv_iload hx hb dX7_hourOf_89 (lv_at hl 7 rfl) ?_
      refine lv_iadd hx hb dX7_hourOf_91 ?_
      rw [show (nI (16 * j)) + (nI i) = nI (16 * j + i) from nI_add _ _]
      refine wld_d hx hb hw (hC.m (by decide)) hXa.aWE (16 * j + i) (by have := hC.2.2.2.1; have := hC.2.2.1; omega) (by decide) rfl dX7_hourOf_92 ?_
      rw [show WE (16 * j + i) = g i from hW i hlt]
      refine lv_dstore (lv' := [(11, .double (g i)), (0, .ref (ad 16)), (1, .int (nI j)), (2, .int (nI (16 * j))), (3, .int (nI nl)), (4, .double dep), (6, .double (sp_face dep (g 0) spd (sp_bal kel dmp))), (8, .double (sp_face dep (g nl) spd (sp_bal kel dmp))), (10, .int (nI i))]) hx hb dX7_hourOf_93 hl (by decide) rfl (fun ls hl => ?_)
      refine lv_iload_n hx hb dX7_hourOf_95 rfl (lv_at hl 4 rfl) ?_
      refine lv_if_ne (tgt := 112) hx hb dX7_hourOf_96 (by decide) (fun c96 => ?_) (fun c96 => ?_)
      · have hnl : 0 < nl := Nat.pos_of_ne_zero fun h8 => c96 (by rw [h8]; rfl)
        refine lv_iload hx hb dX7_hourOf_112 (lv_at hl 8 rfl) ?_
        refine lv_if_ne (tgt := 134) hx hb dX7_hourOf_114 (by decide) (fun c114 => ?_) (fun c114 => ?_)
        · have hi0 : 0 < i := Nat.pos_of_ne_zero fun h8 => c114 (by rw [h8]; rfl)
          have n1 : vf_n64 (FP.dadd (g i) (sp_slope ka kb dep (g (i - 1)) (g (i - 1 + 1)))) := by rw [← sp_gain_pos ka kb dep (sp_face dep (g 0) spd (sp_bal kel dmp)) (sp_face dep (g nl) spd (sp_bal kel dmp)) g nl i hi0 (by omega)]; exact n64_of_fin (new i hlt).1
          refine lv_iload hx hb dX7_hourOf_134 (lv_at hl 8 rfl) ?_
          refine lv_iload_n hx hb dX7_hourOf_136 rfl (lv_at hl 4 rfl) ?_
          refine lv_icmp_ne (tgt := 160) hx hb dX7_hourOf_137 (by decide) (fun c137 => ?_) (fun c137 => ?_)
          · have hin : i < nl := Nat.lt_of_le_of_ne (by omega) (fun h9 => c137 (by rw [h9]))
            have e9 : sp_new ka kb dep (sp_face dep (g 0) spd (sp_bal kel dmp)) (sp_face dep (g nl) spd (sp_bal kel dmp)) g nl i = FP.dsub (FP.dadd (g i) (sp_slope ka kb dep (g (i - 1)) (g (i - 1 + 1)))) (sp_slope ka kb dep (g i) (g (i + 1))) := by rw [sp_new, sp_fl, if_pos hin, sp_gain_pos ka kb dep _ _ g nl i hi0 (by omega)]
            have n2 : vf_n64 (FP.dsub (FP.dadd (g i) (sp_slope ka kb dep (g (i - 1)) (g (i - 1 + 1)))) (sp_slope ka kb dep (g i) (g (i + 1)))) := by rw [← e9]; exact n64_of_fin (new i hlt).2.1.1
            refine lv_dload hx hb dX7_hourOf_160 (lv_at hl 0 rfl) ?_
            refine lv_aload_n hx hb dX7_hourOf_162 rfl (lv_at hl 1 rfl) ?_
            refine lv_iload_n hx hb dX7_hourOf_163 rfl (lv_at hl 2 rfl) ?_
            refine lv_iload hx hb dX7_hourOf_164 (lv_at hl 8 rfl) ?_
            refine lv_iconst (v := 1) hx hb dX7_hourOf_166 (by decide) ?_
            refine lv_isub hx hb dX7_hourOf_167 ?_
            rw [show (nI i) - 1 = nI (i - 1) from nI_sub1 hi0]
            refine kV_D (C := RX7) (T := TX7) (N := 31) (As := [.int (nI j), .int (nI (i - 1))]) (rest := [.double (g i)]) ⟨hx, hb, hml, hown, hts⟩ (c_X7_flow l G dA L fa ad (nl + 1) nb q qk kel dmp spd ven lef gon hr tl st dn thr pa bad num RA RB TH DE KI WE (nput (sp_new ka kb dep (sp_face dep (g 0) spd (sp_bal kel dmp)) (sp_face dep (g nl) spd (sp_bal kel dmp)) g nl) NX i) LI LM KE TX BW TI KV DM f0 j (i - 1) kd dep ka kb (g (i - 1)) (g ((i - 1) + 1)) hC hXa hj (by omega) hDE hKI hkd hRA hRB (hW (i - 1) (by omega)) (hW ((i - 1) + 1) (by omega)) (slope (i - 1) (by omega)).1 (slope (i - 1) (by omega)).2.1 (slope (i - 1) (by omega)).2.2.1 (slope (i - 1) (by omega)).2.2.2.1 (slope (i - 1) (by omega)).2.2.2.2.1 (slope (i - 1) (by omega)).2.2.2.2.2.1 (slope (i - 1) (by omega)).2.2.2.2.2.2.1 z2) (cwV 2 hts gX7_hourOf_X7_flow rfl rfl rfl (by decide +kernel) ⟨Nat.le_of_ble_eq_true rfl, Nat.le_of_ble_eq_true rfl⟩) hw hA (hC.m (by decide)) hXa.o rfl rfl hl.1 rfl (Nat.le_of_ble_eq_true rfl) dX7_hourOf_168 ⟨Nat.zero_le _, Nat.zero_le _⟩ (fun r22 f21 H locs hp hw => ?_)
            obtain ⟨e1, e2⟩ := hp
            rw [e2] at hw
            rw [e1]
            refine lv_dadd hx hb dX7_hourOf_171 n1 ?_
            refine lv_aload_n hx hb dX7_hourOf_172 rfl (lv_at hl 1 rfl) ?_
            refine lv_iload_n hx hb dX7_hourOf_173 rfl (lv_at hl 2 rfl) ?_
            refine lv_iload hx hb dX7_hourOf_174 (lv_at hl 8 rfl) ?_
            refine kV_D (C := RX7) (T := TX7) (N := 31) (As := [.int (nI j), .int (nI i)]) (rest := [.double (FP.dadd (g i) (sp_slope ka kb dep (g ((i - 1))) (g (((i - 1)) + 1))))]) ⟨hx, hb, hml, hown, hts⟩ (c_X7_flow l G dA L fa ad (nl + 1) nb q qk kel dmp spd ven lef gon hr tl st dn thr pa bad num RA RB TH DE KI WE (nput (sp_new ka kb dep (sp_face dep (g 0) spd (sp_bal kel dmp)) (sp_face dep (g nl) spd (sp_bal kel dmp)) g nl) NX i) LI LM KE TX BW TI KV DM f0 j i kd dep ka kb (g i) (g (i + 1)) hC hXa hj (by omega) hDE hKI hkd hRA hRB (hW i (by omega)) (hW (i + 1) (by omega)) (slope i (by omega)).1 (slope i (by omega)).2.1 (slope i (by omega)).2.2.1 (slope i (by omega)).2.2.2.1 (slope i (by omega)).2.2.2.2.1 (slope i (by omega)).2.2.2.2.2.1 (slope i (by omega)).2.2.2.2.2.2.1 z2) (cwV 2 hts gX7_hourOf_X7_flow rfl rfl rfl (by decide +kernel) ⟨Nat.le_of_ble_eq_true rfl, Nat.le_of_ble_eq_true rfl⟩) hw hA (hC.m (by decide)) hXa.o rfl rfl hl.1 rfl (Nat.le_of_ble_eq_true rfl) dX7_hourOf_176 ⟨Nat.zero_le _, Nat.zero_le _⟩ (fun r24 f23 H locs hp hw => ?_)
            obtain ⟨e1, e2⟩ := hp
            rw [e2] at hw
            rw [e1]
            refine lv_dsub hx hb dX7_hourOf_179 n2 ?_
            refine lv_dstore (lv' := [(11, .double (FP.dsub (FP.dadd (g i) (sp_slope ka kb dep (g ((i - 1))) (g (((i - 1)) + 1)))) (sp_slope ka kb dep (g i) (g (i + 1))))), (0, .ref (ad 16)), (1, .int (nI j)), (2, .int (nI (16 * j))), (3, .int (nI nl)), (4, .double dep), (6, .double (sp_face dep (g 0) spd (sp_bal kel dmp))), (8, .double (sp_face dep (g nl) spd (sp_bal kel dmp))), (10, .int (nI i))]) hx hb dX7_hourOf_180 hl (by decide) rfl (fun ls hl => ?_)
            refine lv_aload_n hx hb dX7_hourOf_182 rfl (lv_at hl 1 rfl) ?_
            refine wg (C := RX7) (T := TX7) (N := 31) hx hb hts hi7 hown hw (hC.m (by decide)) hXa.o rfl 16 (by decide) (hts (.fieldLink RX7 44 "LayerMoistureModel" "next" "[D") (by decide +kernel)) (fun _ h9 => h9) (v := .ref (ad 23)) rfl dX7_hourOf_183 ?_
            refine lv_iload hx hb dX7_hourOf_186 (lv_at hl 8 rfl) ?_
            refine lv_dload hx hb dX7_hourOf_188 (lv_at hl 0 rfl) ?_
            refine wst_d hx hb hw (hC.m (by decide)) hXa.aNX i (by have := hC.2.2.1; omega) (by decide) rfl dX7_hourOf_190 (fun H locs hw => ?_)
            obtain ⟨f25, ef25⟩ : ∃ z : Nat → va_E, z = va_up fa (ad 23) (aD (dA 1) 16 (vf_upd (nput (sp_new ka kb dep (sp_face dep (g 0) spd (sp_bal kel dmp)) (sp_face dep (g nl) spd (sp_bal kel dmp)) g nl) NX i) i (FP.dsub (FP.dadd (g i) (sp_slope ka kb dep (g ((i - 1))) (g (((i - 1)) + 1)))) (sp_slope ka kb dep (g i) (g (i + 1)))))) := ⟨_, rfl⟩
            have hw : ww G dA A s L f25 H locs := by rw [ef25]; exact hw
            have hX26 : MX ad dA (nl + 1) nb kel dmp spd ven lef gon hr tl st dn thr pa bad num RA RB TH DE KI WE (vf_upd (nput (sp_new ka kb dep (sp_face dep (g 0) spd (sp_bal kel dmp)) (sp_face dep (g nl) spd (sp_bal kel dmp)) g nl) NX i) i (FP.dsub (FP.dadd (g i) (sp_slope ka kb dep (g ((i - 1))) (g (((i - 1)) + 1)))) (sp_slope ka kb dep (g i) (g (i + 1))))) LI LM KE TX BW TI KV DM f0 f25 := by rw [ef25]; exact hXa.sNX hC _
            refine lv_iinc (v := nI (i + 1)) (lv' := [(10, .int (nI (i + 1))), (11, .double (FP.dsub (FP.dadd (g i) (sp_slope ka kb dep (g ((i - 1))) (g (((i - 1)) + 1)))) (sp_slope ka kb dep (g i) (g (i + 1))))), (0, .ref (ad 16)), (1, .int (nI j)), (2, .int (nI (16 * j))), (3, .int (nI nl)), (4, .double dep), (6, .double (sp_face dep (g 0) spd (sp_bal kel dmp))), (8, .double (sp_face dep (g nl) spd (sp_bal kel dmp)))]) hx hb dX7_hourOf_191 hl (k := 8) rfl (nI_1 i) (by decide) rfl (fun ls hl => ?_)
            refine lv_goto (tgt := 75) hx hb dX7_hourOf_194 (by decide) ?_
            exact ih (i + 1) (by omega) _ _ _ (by have h9 := hX26; rw [show vf_upd (nput (sp_new ka kb dep (sp_face dep (g 0) spd (sp_bal kel dmp)) (sp_face dep (g nl) spd (sp_bal kel dmp)) g nl) NX i) i (FP.dsub (FP.dadd (g i) (sp_slope ka kb dep (g ((i - 1))) (g (((i - 1)) + 1)))) (sp_slope ka kb dep (g i) (g (i + 1)))) = nput (sp_new ka kb dep (sp_face dep (g 0) spd (sp_bal kel dmp)) (sp_face dep (g nl) spd (sp_bal kel dmp)) g nl) NX (i + 1) from by rw [← e9]; exact nput_s _ _ _] at h9; exact h9) hw ls (lv_sub hl [2, 3, 4, 5, 6, 7, 8, 0] rfl)
          · have hin : i = nl := by have := hC.2.2.1; exact (nI_eq (by omega) (by omega)).mp c137
            have e9 : sp_new ka kb dep (sp_face dep (g 0) spd (sp_bal kel dmp)) (sp_face dep (g nl) spd (sp_bal kel dmp)) g nl i = FP.dsub (FP.dadd (g i) (sp_slope ka kb dep (g (i - 1)) (g (i - 1 + 1)))) (sp_face dep (g nl) spd (sp_bal kel dmp)) := by rw [sp_new, sp_fl, if_neg (by omega), sp_gain_pos ka kb dep _ _ g nl i hi0 (by omega)]
            have n2 : vf_n64 (FP.dsub (FP.dadd (g i) (sp_slope ka kb dep (g (i - 1)) (g (i - 1 + 1)))) (sp_face dep (g nl) spd (sp_bal kel dmp))) := by rw [← e9]; exact n64_of_fin (new i hlt).2.1.1
            refine lv_dload hx hb dX7_hourOf_140 (lv_at hl 0 rfl) ?_
            refine lv_aload_n hx hb dX7_hourOf_142 rfl (lv_at hl 1 rfl) ?_
            refine lv_iload_n hx hb dX7_hourOf_143 rfl (lv_at hl 2 rfl) ?_
            refine lv_iload hx hb dX7_hourOf_144 (lv_at hl 8 rfl) ?_
            refine lv_iconst (v := 1) hx hb dX7_hourOf_146 (by decide) ?_
            refine lv_isub hx hb dX7_hourOf_147 ?_
            rw [show (nI i) - 1 = nI (i - 1) from nI_sub1 hi0]
            refine kV_D (C := RX7) (T := TX7) (N := 31) (As := [.int (nI j), .int (nI (i - 1))]) (rest := [.double (g i)]) ⟨hx, hb, hml, hown, hts⟩ (c_X7_flow l G dA L fa ad (nl + 1) nb q qk kel dmp spd ven lef gon hr tl st dn thr pa bad num RA RB TH DE KI WE (nput (sp_new ka kb dep (sp_face dep (g 0) spd (sp_bal kel dmp)) (sp_face dep (g nl) spd (sp_bal kel dmp)) g nl) NX i) LI LM KE TX BW TI KV DM f0 j (i - 1) kd dep ka kb (g (i - 1)) (g ((i - 1) + 1)) hC hXa hj (by omega) hDE hKI hkd hRA hRB (hW (i - 1) (by omega)) (hW ((i - 1) + 1) (by omega)) (slope (i - 1) (by omega)).1 (slope (i - 1) (by omega)).2.1 (slope (i - 1) (by omega)).2.2.1 (slope (i - 1) (by omega)).2.2.2.1 (slope (i - 1) (by omega)).2.2.2.2.1 (slope (i - 1) (by omega)).2.2.2.2.2.1 (slope (i - 1) (by omega)).2.2.2.2.2.2.1 z2) (cwV 2 hts gX7_hourOf_X7_flow rfl rfl rfl (by decide +kernel) ⟨Nat.le_of_ble_eq_true rfl, Nat.le_of_ble_eq_true rfl⟩) hw hA (hC.m (by decide)) hXa.o rfl rfl hl.1 rfl (Nat.le_of_ble_eq_true rfl) dX7_hourOf_148 ⟨Nat.zero_le _, Nat.zero_le _⟩ (fun r28 f27 H locs hp hw => ?_)
            obtain ⟨e1, e2⟩ := hp
            rw [e2] at hw
            rw [e1]
            refine lv_dadd hx hb dX7_hourOf_151 n1 ?_
            refine lv_dload hx hb dX7_hourOf_152 (lv_at hl 7 rfl) ?_
            refine lv_dsub hx hb dX7_hourOf_154 n2 ?_
            refine lv_dstore (lv' := [(11, .double (FP.dsub (FP.dadd (g i) (sp_slope ka kb dep (g ((i - 1))) (g (((i - 1)) + 1)))) (sp_face dep (g nl) spd (sp_bal kel dmp)))), (0, .ref (ad 16)), (1, .int (nI j)), (2, .int (nI (16 * j))), (3, .int (nI nl)), (4, .double dep), (6, .double (sp_face dep (g 0) spd (sp_bal kel dmp))), (8, .double (sp_face dep (g nl) spd (sp_bal kel dmp))), (10, .int (nI i))]) hx hb dX7_hourOf_155 hl (by decide) rfl (fun ls hl => ?_)
            refine lv_goto (tgt := 182) hx hb dX7_hourOf_157 (by decide) ?_
            refine lv_aload_n hx hb dX7_hourOf_182 rfl (lv_at hl 1 rfl) ?_
            refine wg (C := RX7) (T := TX7) (N := 31) hx hb hts hi7 hown hw (hC.m (by decide)) hXa.o rfl 16 (by decide) (hts (.fieldLink RX7 44 "LayerMoistureModel" "next" "[D") (by decide +kernel)) (fun _ h9 => h9) (v := .ref (ad 23)) rfl dX7_hourOf_183 ?_
            refine lv_iload hx hb dX7_hourOf_186 (lv_at hl 8 rfl) ?_
            refine lv_dload hx hb dX7_hourOf_188 (lv_at hl 0 rfl) ?_
            refine wst_d hx hb hw (hC.m (by decide)) hXa.aNX i (by have := hC.2.2.1; omega) (by decide) rfl dX7_hourOf_190 (fun H locs hw => ?_)
            obtain ⟨f29, ef29⟩ : ∃ z : Nat → va_E, z = va_up fa (ad 23) (aD (dA 1) 16 (vf_upd (nput (sp_new ka kb dep (sp_face dep (g 0) spd (sp_bal kel dmp)) (sp_face dep (g nl) spd (sp_bal kel dmp)) g nl) NX i) i (FP.dsub (FP.dadd (g i) (sp_slope ka kb dep (g ((i - 1))) (g (((i - 1)) + 1)))) (sp_face dep (g nl) spd (sp_bal kel dmp))))) := ⟨_, rfl⟩
            have hw : ww G dA A s L f29 H locs := by rw [ef29]; exact hw
            have hX30 : MX ad dA (nl + 1) nb kel dmp spd ven lef gon hr tl st dn thr pa bad num RA RB TH DE KI WE (vf_upd (nput (sp_new ka kb dep (sp_face dep (g 0) spd (sp_bal kel dmp)) (sp_face dep (g nl) spd (sp_bal kel dmp)) g nl) NX i) i (FP.dsub (FP.dadd (g i) (sp_slope ka kb dep (g ((i - 1))) (g (((i - 1)) + 1)))) (sp_face dep (g nl) spd (sp_bal kel dmp)))) LI LM KE TX BW TI KV DM f0 f29 := by rw [ef29]; exact hXa.sNX hC _
            refine lv_iinc (v := nI (i + 1)) (lv' := [(10, .int (nI (i + 1))), (11, .double (FP.dsub (FP.dadd (g i) (sp_slope ka kb dep (g ((i - 1))) (g (((i - 1)) + 1)))) (sp_face dep (g nl) spd (sp_bal kel dmp)))), (0, .ref (ad 16)), (1, .int (nI j)), (2, .int (nI (16 * j))), (3, .int (nI nl)), (4, .double dep), (6, .double (sp_face dep (g 0) spd (sp_bal kel dmp))), (8, .double (sp_face dep (g nl) spd (sp_bal kel dmp)))]) hx hb dX7_hourOf_191 hl (k := 8) rfl (nI_1 i) (by decide) rfl (fun ls hl => ?_)
            refine lv_goto (tgt := 75) hx hb dX7_hourOf_194 (by decide) ?_
            exact ih (i + 1) (by omega) _ _ _ (by have h9 := hX30; rw [show vf_upd (nput (sp_new ka kb dep (sp_face dep (g 0) spd (sp_bal kel dmp)) (sp_face dep (g nl) spd (sp_bal kel dmp)) g nl) NX i) i (FP.dsub (FP.dadd (g i) (sp_slope ka kb dep (g ((i - 1))) (g (((i - 1)) + 1)))) (sp_face dep (g nl) spd (sp_bal kel dmp))) = nput (sp_new ka kb dep (sp_face dep (g 0) spd (sp_bal kel dmp)) (sp_face dep (g nl) spd (sp_bal kel dmp)) g nl) NX (i + 1) from by rw [← e9]; exact nput_s _ _ _] at h9; exact h9) hw ls (lv_sub hl [2, 3, 4, 5, 6, 7, 8, 0] rfl)
        · have hz : i = 0 := by have := hC.2.2.1; exact Classical.byContradiction fun h8 => nI_ne0 (Nat.pos_of_ne_zero h8) (by omega) c114
          have e9 : sp_new ka kb dep (sp_face dep (g 0) spd (sp_bal kel dmp)) (sp_face dep (g nl) spd (sp_bal kel dmp)) g nl i = FP.dsub (FP.dsub (g i) (sp_face dep (g 0) spd (sp_bal kel dmp))) (sp_slope ka kb dep (g 0) (g (0 + 1))) := by rw [sp_new, sp_fl, if_pos (by omega), sub_add_neg u4.1, hz]; rfl
          have n1 : vf_n64 (FP.dsub (g i) (sp_face dep (g 0) spd (sp_bal kel dmp))) := by rw [sub_add_neg u4.1]; have h9 := n64_of_fin (new i hlt).1; rw [hz] at h9 ⊢; exact h9
          have n2 : vf_n64 (FP.dsub (FP.dsub (g i) (sp_face dep (g 0) spd (sp_bal kel dmp))) (sp_slope ka kb dep (g 0) (g (0 + 1)))) := by rw [← e9]; exact n64_of_fin (new i hlt).2.1.1
          refine lv_dload hx hb dX7_hourOf_117 (lv_at hl 0 rfl) ?_
          refine lv_dload hx hb dX7_hourOf_119 (lv_at hl 6 rfl) ?_
          refine lv_dsub hx hb dX7_hourOf_121 n1 ?_
          refine lv_aload_n hx hb dX7_hourOf_122 rfl (lv_at hl 1 rfl) ?_
          refine lv_iload_n hx hb dX7_hourOf_123 rfl (lv_at hl 2 rfl) ?_
          refine lv_iconst (v := 0) hx hb dX7_hourOf_124 (by decide) ?_
          rw [show (Value.int 0) = .int (nI 0) from by rw [nI_0]]
          refine kV_D (C := RX7) (T := TX7) (N := 31) (As := [.int (nI j), .int (nI 0)]) (rest := [.double (FP.dsub (g i) (sp_face dep (g 0) spd (sp_bal kel dmp)))]) ⟨hx, hb, hml, hown, hts⟩ (c_X7_flow l G dA L fa ad (nl + 1) nb q qk kel dmp spd ven lef gon hr tl st dn thr pa bad num RA RB TH DE KI WE (nput (sp_new ka kb dep (sp_face dep (g 0) spd (sp_bal kel dmp)) (sp_face dep (g nl) spd (sp_bal kel dmp)) g nl) NX i) LI LM KE TX BW TI KV DM f0 j 0 kd dep ka kb (g 0) (g (0 + 1)) hC hXa hj (by omega) hDE hKI hkd hRA hRB (hW 0 (by omega)) (hW (0 + 1) (by omega)) (slope 0 (by omega)).1 (slope 0 (by omega)).2.1 (slope 0 (by omega)).2.2.1 (slope 0 (by omega)).2.2.2.1 (slope 0 (by omega)).2.2.2.2.1 (slope 0 (by omega)).2.2.2.2.2.1 (slope 0 (by omega)).2.2.2.2.2.2.1 z2) (cwV 2 hts gX7_hourOf_X7_flow rfl rfl rfl (by decide +kernel) ⟨Nat.le_of_ble_eq_true rfl, Nat.le_of_ble_eq_true rfl⟩) hw hA (hC.m (by decide)) hXa.o rfl rfl hl.1 rfl (Nat.le_of_ble_eq_true rfl) dX7_hourOf_125 ⟨Nat.zero_le _, Nat.zero_le _⟩ (fun r32 f31 H locs hp hw => ?_)
          obtain ⟨e1, e2⟩ := hp
          rw [e2] at hw
          rw [e1]
          refine lv_dsub hx hb dX7_hourOf_128 n2 ?_
          refine lv_dstore (lv' := [(11, .double (FP.dsub (FP.dsub (g i) (sp_face dep (g 0) spd (sp_bal kel dmp))) (sp_slope ka kb dep (g 0) (g (0 + 1))))), (0, .ref (ad 16)), (1, .int (nI j)), (2, .int (nI (16 * j))), (3, .int (nI nl)), (4, .double dep), (6, .double (sp_face dep (g 0) spd (sp_bal kel dmp))), (8, .double (sp_face dep (g nl) spd (sp_bal kel dmp))), (10, .int (nI i))]) hx hb dX7_hourOf_129 hl (by decide) rfl (fun ls hl => ?_)
          refine lv_goto (tgt := 182) hx hb dX7_hourOf_131 (by decide) ?_
          refine lv_aload_n hx hb dX7_hourOf_182 rfl (lv_at hl 1 rfl) ?_
          refine wg (C := RX7) (T := TX7) (N := 31) hx hb hts hi7 hown hw (hC.m (by decide)) hXa.o rfl 16 (by decide) (hts (.fieldLink RX7 44 "LayerMoistureModel" "next" "[D") (by decide +kernel)) (fun _ h9 => h9) (v := .ref (ad 23)) rfl dX7_hourOf_183 ?_
          refine lv_iload hx hb dX7_hourOf_186 (lv_at hl 8 rfl) ?_
          refine lv_dload hx hb dX7_hourOf_188 (lv_at hl 0 rfl) ?_
          refine wst_d hx hb hw (hC.m (by decide)) hXa.aNX i (by have := hC.2.2.1; omega) (by decide) rfl dX7_hourOf_190 (fun H locs hw => ?_)
          obtain ⟨f33, ef33⟩ : ∃ z : Nat → va_E, z = va_up fa (ad 23) (aD (dA 1) 16 (vf_upd (nput (sp_new ka kb dep (sp_face dep (g 0) spd (sp_bal kel dmp)) (sp_face dep (g nl) spd (sp_bal kel dmp)) g nl) NX i) i (FP.dsub (FP.dsub (g i) (sp_face dep (g 0) spd (sp_bal kel dmp))) (sp_slope ka kb dep (g 0) (g (0 + 1)))))) := ⟨_, rfl⟩
          have hw : ww G dA A s L f33 H locs := by rw [ef33]; exact hw
          have hX34 : MX ad dA (nl + 1) nb kel dmp spd ven lef gon hr tl st dn thr pa bad num RA RB TH DE KI WE (vf_upd (nput (sp_new ka kb dep (sp_face dep (g 0) spd (sp_bal kel dmp)) (sp_face dep (g nl) spd (sp_bal kel dmp)) g nl) NX i) i (FP.dsub (FP.dsub (g i) (sp_face dep (g 0) spd (sp_bal kel dmp))) (sp_slope ka kb dep (g 0) (g (0 + 1))))) LI LM KE TX BW TI KV DM f0 f33 := by rw [ef33]; exact hXa.sNX hC _
          refine lv_iinc (v := nI (i + 1)) (lv' := [(10, .int (nI (i + 1))), (11, .double (FP.dsub (FP.dsub (g i) (sp_face dep (g 0) spd (sp_bal kel dmp))) (sp_slope ka kb dep (g 0) (g (0 + 1))))), (0, .ref (ad 16)), (1, .int (nI j)), (2, .int (nI (16 * j))), (3, .int (nI nl)), (4, .double dep), (6, .double (sp_face dep (g 0) spd (sp_bal kel dmp))), (8, .double (sp_face dep (g nl) spd (sp_bal kel dmp)))]) hx hb dX7_hourOf_191 hl (k := 8) rfl (nI_1 i) (by decide) rfl (fun ls hl => ?_)
          refine lv_goto (tgt := 75) hx hb dX7_hourOf_194 (by decide) ?_
          exact ih (i + 1) (by omega) _ _ _ (by have h9 := hX34; rw [show vf_upd (nput (sp_new ka kb dep (sp_face dep (g 0) spd (sp_bal kel dmp)) (sp_face dep (g nl) spd (sp_bal kel dmp)) g nl) NX i) i (FP.dsub (FP.dsub (g i) (sp_face dep (g 0) spd (sp_bal kel dmp))) (sp_slope ka kb dep (g 0) (g (0 + 1)))) = nput (sp_new ka kb dep (sp_face dep (g 0) spd (sp_bal kel dmp)) (sp_face dep (g nl) spd (sp_bal kel dmp)) g nl) NX (i + 1) from by rw [← e9]; exact nput_s _ _ _] at h9; exact h9) hw ls (lv_sub hl [2, 3, 4, 5, 6, 7, 8, 0] rfl)
      · have hnl : nl = 0 := by have := hC.2.2.1; exact Classical.byContradiction fun h8 => nI_ne0 (Nat.pos_of_ne_zero h8) (by omega) c96
        have hz : i = 0 := by omega
        have e9 : sp_new ka kb dep (sp_face dep (g 0) spd (sp_bal kel dmp)) (sp_face dep (g nl) spd (sp_bal kel dmp)) g nl i = FP.dsub (FP.dsub (g i) (sp_face dep (g 0) spd (sp_bal kel dmp))) (sp_face dep (g nl) spd (sp_bal kel dmp)) := by rw [sp_new, sp_fl, if_neg (by omega), sub_add_neg u4.1, hz]; rfl
        have n1 : vf_n64 (FP.dsub (g i) (sp_face dep (g 0) spd (sp_bal kel dmp))) := by rw [sub_add_neg u4.1]; have h9 := n64_of_fin (new i hlt).1; rw [hz] at h9 ⊢; exact h9
        have n2 : vf_n64 (FP.dsub (FP.dsub (g i) (sp_face dep (g 0) spd (sp_bal kel dmp))) (sp_face dep (g nl) spd (sp_bal kel dmp))) := by rw [← e9]; exact n64_of_fin (new i hlt).2.1.1
        refine lv_dload hx hb dX7_hourOf_99 (lv_at hl 0 rfl) ?_
        refine lv_dload hx hb dX7_hourOf_101 (lv_at hl 6 rfl) ?_
        refine lv_dsub hx hb dX7_hourOf_103 n1 ?_
        refine lv_dload hx hb dX7_hourOf_104 (lv_at hl 7 rfl) ?_
        refine lv_dsub hx hb dX7_hourOf_106 n2 ?_
        refine lv_dstore (lv' := [(11, .double (FP.dsub (FP.dsub (g i) (sp_face dep (g 0) spd (sp_bal kel dmp))) (sp_face dep (g nl) spd (sp_bal kel dmp)))), (0, .ref (ad 16)), (1, .int (nI j)), (2, .int (nI (16 * j))), (3, .int (nI nl)), (4, .double dep), (6, .double (sp_face dep (g 0) spd (sp_bal kel dmp))), (8, .double (sp_face dep (g nl) spd (sp_bal kel dmp))), (10, .int (nI i))]) hx hb dX7_hourOf_107 hl (by decide) rfl (fun ls hl => ?_)
        refine lv_goto (tgt := 182) hx hb dX7_hourOf_109 (by decide) ?_
        refine lv_aload_n hx hb dX7_hourOf_182 rfl (lv_at hl 1 rfl) ?_
        refine wg (C := RX7) (T := TX7) (N := 31) hx hb hts hi7 hown hw (hC.m (by decide)) hXa.o rfl 16 (by decide) (hts (.fieldLink RX7 44 "LayerMoistureModel" "next" "[D") (by decide +kernel)) (fun _ h9 => h9) (v := .ref (ad 23)) rfl dX7_hourOf_183 ?_
        refine lv_iload hx hb dX7_hourOf_186 (lv_at hl 8 rfl) ?_
        refine lv_dload hx hb dX7_hourOf_188 (lv_at hl 0 rfl) ?_
        refine wst_d hx hb hw (hC.m (by decide)) hXa.aNX i (by have := hC.2.2.1; omega) (by decide) rfl dX7_hourOf_190 (fun H locs hw => ?_)
        obtain ⟨f35, ef35⟩ : ∃ z : Nat → va_E, z = va_up fa (ad 23) (aD (dA 1) 16 (vf_upd (nput (sp_new ka kb dep (sp_face dep (g 0) spd (sp_bal kel dmp)) (sp_face dep (g nl) spd (sp_bal kel dmp)) g nl) NX i) i (FP.dsub (FP.dsub (g i) (sp_face dep (g 0) spd (sp_bal kel dmp))) (sp_face dep (g nl) spd (sp_bal kel dmp))))) := ⟨_, rfl⟩
        have hw : ww G dA A s L f35 H locs := by rw [ef35]; exact hw
        have hX36 : MX ad dA (nl + 1) nb kel dmp spd ven lef gon hr tl st dn thr pa bad num RA RB TH DE KI WE (vf_upd (nput (sp_new ka kb dep (sp_face dep (g 0) spd (sp_bal kel dmp)) (sp_face dep (g nl) spd (sp_bal kel dmp)) g nl) NX i) i (FP.dsub (FP.dsub (g i) (sp_face dep (g 0) spd (sp_bal kel dmp))) (sp_face dep (g nl) spd (sp_bal kel dmp)))) LI LM KE TX BW TI KV DM f0 f35 := by rw [ef35]; exact hXa.sNX hC _
        refine lv_iinc (v := nI (i + 1)) (lv' := [(10, .int (nI (i + 1))), (11, .double (FP.dsub (FP.dsub (g i) (sp_face dep (g 0) spd (sp_bal kel dmp))) (sp_face dep (g nl) spd (sp_bal kel dmp)))), (0, .ref (ad 16)), (1, .int (nI j)), (2, .int (nI (16 * j))), (3, .int (nI nl)), (4, .double dep), (6, .double (sp_face dep (g 0) spd (sp_bal kel dmp))), (8, .double (sp_face dep (g nl) spd (sp_bal kel dmp)))]) hx hb dX7_hourOf_191 hl (k := 8) rfl (nI_1 i) (by decide) rfl (fun ls hl => ?_)
        refine lv_goto (tgt := 75) hx hb dX7_hourOf_194 (by decide) ?_
        exact ih (i + 1) (by omega) _ _ _ (by have h9 := hX36; rw [show vf_upd (nput (sp_new ka kb dep (sp_face dep (g 0) spd (sp_bal kel dmp)) (sp_face dep (g nl) spd (sp_bal kel dmp)) g nl) NX i) i (FP.dsub (FP.dsub (g i) (sp_face dep (g 0) spd (sp_bal kel dmp))) (sp_face dep (g nl) spd (sp_bal kel dmp))) = nput (sp_new ka kb dep (sp_face dep (g 0) spd (sp_bal kel dmp)) (sp_face dep (g nl) spd (sp_bal kel dmp)) g nl) NX (i + 1) from by rw [← e9]; exact nput_s _ _ _] at h9; exact h9) hw ls (lv_sub hl [2, 3, 4, 5, 6, 7, 8, 0] rfl)
  exact loop75 (nl + 1) 0 (by omega) _ _ _ (by have h9 := hX; rw [nput_0 (sp_new ka kb dep (sp_face dep (g 0) spd (sp_bal kel dmp)) (sp_face dep (g nl) spd (sp_bal kel dmp)) g nl) NX] at h9; exact h9) hw ls (lv_sub hl [6, 7, 5, 4, 3, 2, 1, 0] rfl)
