set_option maxHeartbeats 4000000 in
set_option maxRecDepth 100000 in
theorem c_X7_sumOf (l : Launch) (G : va_G) (dA : Nat → ClassId) (L : List Nat) (f : Nat → va_E) (ad : Nat → Nat) (n nb : Nat) (q qk : Nat → Option Nat) (kel : UInt64) (dmp : UInt64) (spd : UInt64) (ven : UInt64) (lef : UInt64) (gon : Int64) (hr : Nat) (tl : Nat) (st : Nat) (dn : Nat) (thr : Int32) (pa : Nat) (bad : Int32) (num : Int32) (RA : Nat → UInt64) (RB : Nat → UInt64) (TH : Nat → Int32) (DE : Nat → UInt64) (KI : Nat → Int32) (WE : Nat → UInt64) (NX : Nat → UInt64) (LI : Nat → Int32) (LM : Nat → UInt64) (KE : Nat → Int32) (TX : Nat → Int32) (BW : Nat → Int32) (TI : Nat → Int32) (KV : Nat → Int32) (DM : Nat → Int32) (f0 : Nat → va_E) (j : Nat) (g : Nat → UInt64)  (hC : Cx ad L n nb q qk) (hX : MX ad dA n nb kel dmp spd ven lef gon hr tl st dn thr pa bad num RA RB TH DE KI WE NX LI LM KE TX BW TI KV DM f0 f) (hj : j < nb) (hW : ∀ i, i < n → WE (16 * j + i) = g i) (h0 : sumD g 1 = g 0) (hs : ∀ i, i < n → vf_n64 (FP.dadd (sumD g i) (g i)))  : mD l yX7_sumOf wsX7_sumOf ({ frames := 0, cells := 0, slots := 0, locals := 0 }) G dA [.ref (ad 16), .int (nI j)] L f (fun r f2 => r = sumD g n ∧ f2 = f) := by
  refine mD_of (cc := cX7_sumOf) (maxL := 5) (by decide) rfl (Nat.le_of_ble_eq_true rfl) ?_
  intro p e s m below meth c A ls Q hx hb hml hown hts hlocks hA hin0 hw hl hret
  have hown : s.vm.findClass RX7 = some m.cls := hown
  have hl : lv_has ls 5 [(0, .ref (ad 16)), (1, .int (nI j))] := hl
  have hi7 : ∀ w ∈ u_ws RX7 TX7 31, w ∈ wsX7_sumOf := by decide +kernel
  refine lv_aload_n hx hb dX7_sumOf_0 rfl (lv_at hl 0 rfl) ?_
  refine wg (C := RX7) (T := TX7) (N := 31) hx hb hts hi7 hown hw (hC.m (by decide)) hX.o rfl 15 (by decide) (hts (.fieldLink RX7 41 "LayerMoistureModel" "wets" "[D") (by decide +kernel)) (fun _ h9 => h9) (v := .ref (ad 22)) rfl dX7_sumOf_1 ?_
  refine lv_bipush (v := 16) hx hb dX7_sumOf_4 (by decide) ?_
  refine lv_iload_n hx hb dX7_sumOf_6 rfl (lv_at hl 1 rfl) ?_
  refine lv_imul hx hb dX7_sumOf_7 ?_
  rw [show 16 * (nI j) = nI (16 * j) from nI_m16 j]
  refine wld_d hx hb hw (hC.m (by decide)) hX.aWE (16 * j) (by have := hC.2.2.2.1; have := hC.2.2.1; omega) (by decide) rfl dX7_sumOf_8 ?_
  rw [show WE (16 * j) = sumD g 1 from (hW 0 (by have := hC.2.2.1; omega)).trans h0.symm]
  refine lv_dstore_n (lv' := [(2, .double (sumD g 1)), (0, .ref (ad 16)), (1, .int (nI j))]) hx hb dX7_sumOf_9 rfl hl (by decide) rfl (fun ls hl => ?_)
  refine lv_iconst (v := 1) hx hb dX7_sumOf_10 (by decide) ?_
  refine lv_istore (lv' := [(4, .int 1), (2, .double (sumD g 1)), (0, .ref (ad 16)), (1, .int (nI j))]) hx hb dX7_sumOf_11 hl (by decide) rfl (fun ls hl => ?_)
  have loop : ∀ (kf i : Nat), i + kf = n → 1 ≤ i → ∀ (H : Heap) (locs : List Loc), ww G dA A s L f H locs → ∀ (ls : Array Slot), lv_has ls 5 [(0, .ref (ad 16)), (1, .int (nI j)), (2, .double (sumD g i)), (4, .int (nI i))] → W p l e ({ frames := 0, cells := 0, slots := 0, locals := 0 } : Room) s m ([.ref (ad 16), .int (nI j)] : List Value).toArray below meth c H locs 0 0 Q (F0 m 13 ls []) := by
    intro kf
    induction kf with
    | zero =>
      intro i hik h1i H locs hw ls hl
      rw [show i = n by omega] at hl
      refine lv_iload hx hb dX7_sumOf_13 (lv_at hl 3 rfl) ?_
      refine lv_aload_n hx hb dX7_sumOf_15 rfl (lv_at hl 0 rfl) ?_
      refine wg (C := RX7) (T := TX7) (N := 31) hx hb hts hi7 hown hw (hC.m (by decide)) hX.o rfl 1 (by decide) (hts (.fieldLink RX7 71 "LayerMoistureModel" "layers" "I") (by decide +kernel)) (fun _ h9 => h9) (v := .int (nI n)) rfl dX7_sumOf_16 ?_
      refine lv_icmp_ge (tgt := 43) hx hb dX7_sumOf_19 (by decide) (fun _ => ?_) (fun c9 => absurd (nI_le (Nat.le_refl _) hC.n31) c9)
      refine lv_dload_n hx hb dX7_sumOf_43 rfl (lv_at hl 2 rfl) ?_
      exact hret _ _ _ _ _ _ hw ⟨rfl, rfl⟩ dX7_sumOf_44
    | succ kf ih =>
      intro i hik h1i H locs hw ls hl
      have hlt : i < n := by omega
      refine lv_iload hx hb dX7_sumOf_13 (lv_at hl 3 rfl) ?_
      refine lv_aload_n hx hb dX7_sumOf_15 rfl (lv_at hl 0 rfl) ?_
      refine wg (C := RX7) (T := TX7) (N := 31) hx hb hts hi7 hown hw (hC.m (by decide)) hX.o rfl 1 (by decide) (hts (.fieldLink RX7 71 "LayerMoistureModel" "layers" "I") (by decide +kernel)) (fun _ h9 => h9) (v := .int (nI n)) rfl dX7_sumOf_16 ?_
      refine lv_icmp_ge (tgt := 43) hx hb dX7_sumOf_19 (by decide) (fun c9 => absurd c9 (nI_ge hlt hC.n31)) (fun _ => ?_)
      refine lv_dload_n hx hb dX7_sumOf_22 rfl (lv_at hl 2 rfl) ?_
      refine lv_aload_n hx hb dX7_sumOf_23 rfl (lv_at hl 0 rfl) ?_
      refine wg (C := RX7) (T := TX7) (N := 31) hx hb hts hi7 hown hw (hC.m (by decide)) hX.o rfl 15 (by decide) (hts (.fieldLink RX7 41 "LayerMoistureModel" "wets" "[D") (by decide +kernel)) (fun _ h9 => h9) (v := .ref (ad 22)) rfl dX7_sumOf_24 ?_
      refine lv_bipush (v := 16) hx hb dX7_sumOf_27 (by decide) ?_
      refine lv_iload_n hx hb dX7_sumOf_29 rfl (lv_at hl 1 rfl) ?_
      refine lv_imul hx hb dX7_sumOf_30 ?_
      rw [show 16 * (nI j) = nI (16 * j) from nI_m16 j]
      refine lv_iload hx hb dX7_sumOf_31 (lv_at hl 3 rfl) ?_
      refine lv_iadd hx hb dX7_sumOf_33 ?_
      rw [show (nI (16 * j)) + (nI i) = nI (16 * j + i) from nI_add _ _]
      refine wld_d hx hb hw (hC.m (by decide)) hX.aWE (16 * j + i) (by have := hC.2.2.2.1; have := hC.2.2.1; omega) (by decide) rfl dX7_sumOf_34 ?_
      rw [show WE (16 * j + i) = g i from hW i hlt]
      refine lv_dadd hx hb dX7_sumOf_35 (hs i hlt) ?_
      refine lv_dstore_n (lv' := [(2, .double (FP.dadd (sumD g i) (g i))), (0, .ref (ad 16)), (1, .int (nI j)), (4, .int (nI i))]) hx hb dX7_sumOf_36 rfl hl (by decide) rfl (fun ls hl => ?_)
      refine lv_iinc (v := nI (i + 1)) (lv' := [(4, .int (nI (i + 1))), (2, .double (FP.dadd (sumD g i) (g i))), (0, .ref (ad 16)), (1, .int (nI j))]) hx hb dX7_sumOf_37 hl (k := 3) rfl (nI_1 i) (by decide) rfl (fun ls hl => ?_)
      refine lv_goto (tgt := 13) hx hb dX7_sumOf_40 (by decide) ?_
      exact ih (i + 1) (by omega) (by omega) _ _ hw ls (lv_sub hl [2, 3, 1, 0] rfl)
  exact loop (n - 1) 1 (by have := hC.2.2.1; omega) (Nat.le_refl _) _ _ hw ls (lv_sub hl [2, 3, 1, 0] rfl)

set_option maxHeartbeats 4000000 in
set_option maxRecDepth 100000 in
theorem c_X7_meanOf (l : Launch) (G : va_G) (dA : Nat → ClassId) (L : List Nat) (f : Nat → va_E) (ad : Nat → Nat) (n nb : Nat) (q qk : Nat → Option Nat) (kel : UInt64) (dmp : UInt64) (spd : UInt64) (ven : UInt64) (lef : UInt64) (gon : Int64) (hr : Nat) (tl : Nat) (st : Nat) (dn : Nat) (thr : Int32) (pa : Nat) (bad : Int32) (num : Int32) (RA : Nat → UInt64) (RB : Nat → UInt64) (TH : Nat → Int32) (DE : Nat → UInt64) (KI : Nat → Int32) (WE : Nat → UInt64) (NX : Nat → UInt64) (LI : Nat → Int32) (LM : Nat → UInt64) (KE : Nat → Int32) (TX : Nat → Int32) (BW : Nat → Int32) (TI : Nat → Int32) (KV : Nat → Int32) (DM : Nat → Int32) (f0 : Nat → va_E) (j : Nat) (g : Nat → UInt64)  (hC : Cx ad L n nb q qk) (hX : MX ad dA n nb kel dmp spd ven lef gon hr tl st dn thr pa bad num RA RB TH DE KI WE NX LI LM KE TX BW TI KV DM f0 f) (hj : j < nb) (hW : ∀ i, i < n → WE (16 * j + i) = g i) (h0 : sumD g 1 = g 0) (hs : ∀ i, i < n → vf_n64 (FP.dadd (sumD g i) (g i))) (hq : vf_n64 (FP.ddiv (sumD g n) (FP.i2d (nI n))))  : mD l yX7_meanOf wsX7_meanOf ({ frames := 1, cells := 0, slots := 0, locals := 24 }) G dA [.ref (ad 16), .int (nI j)] L f (fun r f2 => r = sp_mean g n ∧ f2 = f) := by
  refine mD_of (cc := cX7_meanOf) (maxL := 2) (by decide) rfl (Nat.le_of_ble_eq_true rfl) ?_
  intro p e s m below meth c A ls Q hx hb hml hown hts hlocks hA hin0 hw hl hret
  have hown : s.vm.findClass RX7 = some m.cls := hown
  have hl : lv_has ls 2 [(0, .ref (ad 16)), (1, .int (nI j))] := hl
  have hi7 : ∀ w ∈ u_ws RX7 TX7 31, w ∈ wsX7_meanOf := by decide +kernel
  refine lv_aload_n hx hb dX7_meanOf_0 rfl (lv_at hl 0 rfl) ?_
  refine lv_iload_n hx hb dX7_meanOf_1 rfl (lv_at hl 1 rfl) ?_
  refine kV_D (C := RX7) (T := TX7) (N := 31) (As := [.int (nI j)]) (rest := []) ⟨hx, hb, hml, hown, hts⟩ (c_X7_sumOf l G dA L f ad n nb q qk kel dmp spd ven lef gon hr tl st dn thr pa bad num RA RB TH DE KI WE NX LI LM KE TX BW TI KV DM f0 j g hC hX hj hW h0 hs) (cwV 1 hts gX7_meanOf_X7_sumOf rfl rfl rfl (by decide +kernel) ⟨Nat.le_of_ble_eq_true rfl, Nat.le_of_ble_eq_true rfl⟩) hw hA (hC.m (by decide)) hX.o rfl rfl hl.1 rfl (Nat.le_of_ble_eq_true rfl) dX7_meanOf_2 ⟨Nat.zero_le _, Nat.zero_le _⟩ (fun r2 f1 H locs hp hw => ?_)
  obtain ⟨e1, e2⟩ := hp
  rw [e2] at hw
  rw [e1]
  refine lv_aload_n hx hb dX7_meanOf_5 rfl (lv_at hl 0 rfl) ?_
  refine wg (C := RX7) (T := TX7) (N := 31) hx hb hts hi7 hown hw (hC.m (by decide)) hX.o rfl 1 (by decide) (hts (.fieldLink RX7 71 "LayerMoistureModel" "layers" "I") (by decide +kernel)) (fun _ h9 => h9) (v := .int (nI n)) rfl dX7_meanOf_6 ?_
  refine lv_i2d hx hb dX7_meanOf_9 ?_
  refine lv_ddiv hx hb dX7_meanOf_10 hq ?_
  exact hret _ _ _ _ _ _ hw ⟨rfl, rfl⟩ dX7_meanOf_11

set_option maxHeartbeats 4000000 in
set_option maxRecDepth 100000 in
theorem c_X7_balanceNow (l : Launch) (G : va_G) (dA : Nat → ClassId) (L : List Nat) (f : Nat → va_E) (ad : Nat → Nat) (n nb : Nat) (q qk : Nat → Option Nat) (kel : UInt64) (dmp : UInt64) (spd : UInt64) (ven : UInt64) (lef : UInt64) (gon : Int64) (hr : Nat) (tl : Nat) (st : Nat) (dn : Nat) (thr : Int32) (pa : Nat) (bad : Int32) (num : Int32) (RA : Nat → UInt64) (RB : Nat → UInt64) (TH : Nat → Int32) (DE : Nat → UInt64) (KI : Nat → Int32) (WE : Nat → UInt64) (NX : Nat → UInt64) (LI : Nat → Int32) (LM : Nat → UInt64) (KE : Nat → Int32) (TX : Nat → Int32) (BW : Nat → Int32) (TI : Nat → Int32) (KV : Nat → Int32) (DM : Nat → Int32) (f0 : Nat → va_E)   (hC : Cx ad L n nb q qk) (hX : MX ad dA n nb kel dmp spd ven lef gon hr tl st dn thr pa bad num RA RB TH DE KI WE NX LI LM KE TX BW TI KV DM f0 f) (hGA : GA kel dmp spd ven)  : mD l yX7_balanceNow wsX7_balanceNow ({ frames := 0, cells := 0, slots := 0, locals := 0 }) G dA [.ref (ad 16)] L f (fun r f2 => r = sp_bal kel dmp ∧ f2 = f) := by
  refine mD_of (cc := cX7_balanceNow) (maxL := 1) (by decide) rfl (Nat.le_of_ble_eq_true rfl) ?_
  intro p e s m below meth c A ls Q hx hb hml hown hts hlocks hA hin0 hw hl hret
  have hown : s.vm.findClass RX7 = some m.cls := hown
  have hl : lv_has ls 1 [(0, .ref (ad 16))] := hl
  have hi7 : ∀ w ∈ u_ws RX7 TX7 31, w ∈ wsX7_balanceNow := by decide +kernel
  obtain ⟨n1, n2, n3, n4, n5, -⟩ := b_bal hGA
  refine lv_ldc2d (v := 4600427019358961664) hx hb hown (hts (.constantDouble RX7 144 (4600427019358961664)) (by decide +kernel)) dX7_balanceNow_0 ?_
  refine lv_aload_n hx hb dX7_balanceNow_3 rfl (lv_at hl 0 rfl) ?_
  refine wg (C := RX7) (T := TX7) (N := 31) hx hb hts hi7 hown hw (hC.m (by decide)) hX.o rfl 6 (by decide) (hts (.fieldLink RX7 24 "LayerMoistureModel" "damp" "D") (by decide +kernel)) (fun _ h9 => h9) (v := .double dmp) rfl dX7_balanceNow_4 ?_
  refine lv_dmul hx hb dX7_balanceNow_7 n1 ?_
  refine lv_dconst1 hx hb dX7_balanceNow_8 ?_
  refine lv_aload_n hx hb dX7_balanceNow_9 rfl (lv_at hl 0 rfl) ?_
  refine wg (C := RX7) (T := TX7) (N := 31) hx hb hts hi7 hown hw (hC.m (by decide)) hX.o rfl 5 (by decide) (hts (.fieldLink RX7 18 "LayerMoistureModel" "kelvin" "D") (by decide +kernel)) (fun _ h9 => h9) (v := .double kel) rfl dX7_balanceNow_10 ?_
  refine lv_ldc2d (v := 4643510282981736448) hx hb hown (hts (.constantDouble RX7 146 (4643510282981736448)) (by decide +kernel)) dX7_balanceNow_13 ?_
  refine lv_dsub hx hb dX7_balanceNow_16 n2 ?_
  refine lv_ldc2d (v := 4643211215818981376) hx hb hown (hts (.constantDouble RX7 148 (4643211215818981376)) (by decide +kernel)) dX7_balanceNow_17 ?_
  refine lv_ddiv hx hb dX7_balanceNow_20 n3 ?_
  refine lv_dsub hx hb dX7_balanceNow_21 n4 ?_
  refine lv_dmul hx hb dX7_balanceNow_22 n5 ?_
  exact hret _ _ _ _ _ _ hw ⟨rfl, rfl⟩ dX7_balanceNow_23

set_option maxHeartbeats 4000000 in
set_option maxRecDepth 100000 in
theorem c_X7_flow (l : Launch) (G : va_G) (dA : Nat → ClassId) (L : List Nat) (f : Nat → va_E) (ad : Nat → Nat) (n nb : Nat) (q qk : Nat → Option Nat) (kel : UInt64) (dmp : UInt64) (spd : UInt64) (ven : UInt64) (lef : UInt64) (gon : Int64) (hr : Nat) (tl : Nat) (st : Nat) (dn : Nat) (thr : Int32) (pa : Nat) (bad : Int32) (num : Int32) (RA : Nat → UInt64) (RB : Nat → UInt64) (TH : Nat → Int32) (DE : Nat → UInt64) (KI : Nat → Int32) (WE : Nat → UInt64) (NX : Nat → UInt64) (LI : Nat → Int32) (LM : Nat → UInt64) (KE : Nat → Int32) (TX : Nat → Int32) (BW : Nat → Int32) (TI : Nat → Int32) (KV : Nat → Int32) (DM : Nat → Int32) (f0 : Nat → va_E) (j i kd : Nat) (dep ka kb x y : UInt64)  (hC : Cx ad L n nb q qk) (hX : MX ad dA n nb kel dmp spd ven lef gon hr tl st dn thr pa bad num RA RB TH DE KI WE NX LI LM KE TX BW TI KV DM f0 f) (hj : j < nb) (hi : i + 1 < n) (hDE : DE j = dep) (hKI : KI j = nI kd) (hkd : kd < 4) (hRA : RA kd = ka) (hRB : RB kd = kb) (hx1 : WE (16 * j + i) = x) (hy1 : WE (16 * j + i + 1) = y) (m1 : vf_n64 (FP.dadd x y)) (m2 : vf_n64 (FP.ddiv (FP.dadd x y) 4611686018427387904)) (m3 : vf_n64 (FP.dmul kb (FP.ddiv (FP.dadd x y) 4611686018427387904))) (m4 : vf_n64 (FP.dadd ka (FP.dmul kb (FP.ddiv (FP.dadd x y) 4611686018427387904)))) (m5 : vf_n64 (FP.dsub x y)) (m6 : vf_n64 (FP.dmul (sp_speed ka kb (FP.ddiv (FP.dadd x y) 4611686018427387904)) (FP.dsub x y))) (m7 : vf_n64 (sp_slope ka kb dep x y)) (hr3 : vf_n64 (FP.dmul dep dep))  : mD l yX7_flow wsX7_flow ({ frames := 0, cells := 0, slots := 0, locals := 0 }) G dA [.ref (ad 16), .int (nI j), .int (nI i)] L f (fun r f2 => r = sp_slope ka kb dep x y ∧ f2 = f) := by
  refine mD_of (cc := cX7_flow) (maxL := 6) (by decide) rfl (Nat.le_of_ble_eq_true rfl) ?_
  intro p e s m below meth c A ls Q hx hb hml hown hts hlocks hA hin0 hw hl hret
  have hown : s.vm.findClass RX7 = some m.cls := hown
  have hl : lv_has ls 6 [(0, .ref (ad 16)), (1, .int (nI j)), (2, .int (nI i))] := hl
  have hi7 : ∀ w ∈ u_ws RX7 TX7 31, w ∈ wsX7_flow := by decide +kernel
  refine lv_bipush (v := 16) hx hb dX7_flow_0 (by decide) ?_
  refine lv_iload_n hx hb dX7_flow_2 rfl (lv_at hl 1 rfl) ?_
  refine lv_imul hx hb dX7_flow_3 ?_
  rw [show 16 * (nI j) = nI (16 * j) from nI_m16 j]
  refine lv_iload_n hx hb dX7_flow_4 rfl (lv_at hl 2 rfl) ?_
  refine lv_iadd hx hb dX7_flow_5 ?_
  rw [show (nI (16 * j)) + (nI i) = nI (16 * j + i) from nI_add _ _]
  refine lv_istore_n (lv' := [(3, .int (nI (16 * j + i))), (0, .ref (ad 16)), (1, .int (nI j)), (2, .int (nI i))]) hx hb dX7_flow_6 rfl hl (by decide) rfl (fun ls hl => ?_)
  refine lv_aload_n hx hb dX7_flow_7 rfl (lv_at hl 1 rfl) ?_
  refine wg (C := RX7) (T := TX7) (N := 31) hx hb hts hi7 hown hw (hC.m (by decide)) hX.o rfl 13 (by decide) (hts (.fieldLink RX7 34 "LayerMoistureModel" "depths" "[D") (by decide +kernel)) (fun _ h9 => h9) (v := .ref (ad 20)) rfl dX7_flow_8 ?_
  refine lv_iload_n hx hb dX7_flow_11 rfl (lv_at hl 2 rfl) ?_
  refine wld_d hx hb hw (hC.m (by decide)) hX.aDE j (by have := hC.2.2.2.1; omega) (by decide) rfl dX7_flow_12 ?_
  rw [show DE j = dep from hDE]
  refine lv_dstore (lv' := [(4, .double dep), (3, .int (nI (16 * j + i))), (0, .ref (ad 16)), (1, .int (nI j)), (2, .int (nI i))]) hx hb dX7_flow_13 hl (by decide) rfl (fun ls hl => ?_)
  refine lv_aload_n hx hb dX7_flow_15 rfl (lv_at hl 2 rfl) ?_
  refine wg (C := RX7) (T := TX7) (N := 31) hx hb hts hi7 hown hw (hC.m (by decide)) hX.o rfl 3 (by decide) (hts (.fieldLink RX7 7 "LayerMoistureModel" "rateA" "[D") (by decide +kernel)) (fun _ h9 => h9) (v := .ref (ad 17)) rfl dX7_flow_16 ?_
  refine lv_aload_n hx hb dX7_flow_19 rfl (lv_at hl 2 rfl) ?_
  refine wg (C := RX7) (T := TX7) (N := 31) hx hb hts hi7 hown hw (hC.m (by decide)) hX.o rfl 14 (by decide) (hts (.fieldLink RX7 37 "LayerMoistureModel" "kinds" "[I") (by decide +kernel)) (fun _ h9 => h9) (v := .ref (ad 21)) rfl dX7_flow_20 ?_
  refine lv_iload_n hx hb dX7_flow_23 rfl (lv_at hl 3 rfl) ?_
  refine wld_i hx hb hw (hC.m (by decide)) hX.aKI j (by have := hC.2.2.2.1; omega) (by decide) rfl dX7_flow_24 ?_
  rw [show KI j = nI kd from hKI]
  refine wld_d hx hb hw (hC.m (by decide)) hX.aRA kd hkd (by decide) rfl dX7_flow_25 ?_
  rw [show RA kd = ka from hRA]
  refine lv_aload_n hx hb dX7_flow_26 rfl (lv_at hl 2 rfl) ?_
  refine wg (C := RX7) (T := TX7) (N := 31) hx hb hts hi7 hown hw (hC.m (by decide)) hX.o rfl 4 (by decide) (hts (.fieldLink RX7 13 "LayerMoistureModel" "rateB" "[D") (by decide +kernel)) (fun _ h9 => h9) (v := .ref (ad 18)) rfl dX7_flow_27 ?_
  refine lv_aload_n hx hb dX7_flow_30 rfl (lv_at hl 2 rfl) ?_
  refine wg (C := RX7) (T := TX7) (N := 31) hx hb hts hi7 hown hw (hC.m (by decide)) hX.o rfl 14 (by decide) (hts (.fieldLink RX7 37 "LayerMoistureModel" "kinds" "[I") (by decide +kernel)) (fun _ h9 => h9) (v := .ref (ad 21)) rfl dX7_flow_31 ?_
  refine lv_iload_n hx hb dX7_flow_34 rfl (lv_at hl 3 rfl) ?_
  refine wld_i hx hb hw (hC.m (by decide)) hX.aKI j (by have := hC.2.2.2.1; omega) (by decide) rfl dX7_flow_35 ?_
  rw [show KI j = nI kd from hKI]
  refine wld_d hx hb hw (hC.m (by decide)) hX.aRB kd hkd (by decide) rfl dX7_flow_36 ?_
  rw [show RB kd = kb from hRB]
  refine lv_aload_n hx hb dX7_flow_37 rfl (lv_at hl 2 rfl) ?_
  refine wg (C := RX7) (T := TX7) (N := 31) hx hb hts hi7 hown hw (hC.m (by decide)) hX.o rfl 15 (by decide) (hts (.fieldLink RX7 41 "LayerMoistureModel" "wets" "[D") (by decide +kernel)) (fun _ h9 => h9) (v := .ref (ad 22)) rfl dX7_flow_38 ?_
  refine lv_iload_n hx hb dX7_flow_41 rfl (lv_at hl 1 rfl) ?_
  refine wld_d hx hb hw (hC.m (by decide)) hX.aWE (16 * j + i) (by have := hC.2.2.2.1; have := hC.2.2.1; omega) (by decide) rfl dX7_flow_42 ?_
  rw [show WE (16 * j + i) = x from hx1]
  refine lv_aload_n hx hb dX7_flow_43 rfl (lv_at hl 2 rfl) ?_
  refine wg (C := RX7) (T := TX7) (N := 31) hx hb hts hi7 hown hw (hC.m (by decide)) hX.o rfl 15 (by decide) (hts (.fieldLink RX7 41 "LayerMoistureModel" "wets" "[D") (by decide +kernel)) (fun _ h9 => h9) (v := .ref (ad 22)) rfl dX7_flow_44 ?_
  refine lv_iload_n hx hb dX7_flow_47 rfl (lv_at hl 1 rfl) ?_
  refine lv_iconst (v := 1) hx hb dX7_flow_48 (by decide) ?_
  refine lv_iadd hx hb dX7_flow_49 ?_
  rw [show (nI (16 * j + i)) + 1 = nI (16 * j + i + 1) from nI_1 _]
  refine wld_d hx hb hw (hC.m (by decide)) hX.aWE (16 * j + i + 1) (by have := hC.2.2.2.1; have := hC.2.2.1; omega) (by decide) rfl dX7_flow_50 ?_
  rw [show WE (16 * j + i + 1) = y from hy1]
  refine lv_dadd hx hb dX7_flow_51 m1 ?_
  refine lv_ldc2d (v := 4611686018427387904) hx hb hown (hts (.constantDouble RX7 160 (4611686018427387904)) (by decide +kernel)) dX7_flow_52 ?_
  refine lv_ddiv hx hb dX7_flow_55 m2 ?_
  refine lv_dmul hx hb dX7_flow_56 m3 ?_
  refine lv_dadd hx hb dX7_flow_57 m4 ?_
  refine lv_aload_n hx hb dX7_flow_58 rfl (lv_at hl 2 rfl) ?_
  refine wg (C := RX7) (T := TX7) (N := 31) hx hb hts hi7 hown hw (hC.m (by decide)) hX.o rfl 15 (by decide) (hts (.fieldLink RX7 41 "LayerMoistureModel" "wets" "[D") (by decide +kernel)) (fun _ h9 => h9) (v := .ref (ad 22)) rfl dX7_flow_59 ?_
  refine lv_iload_n hx hb dX7_flow_62 rfl (lv_at hl 1 rfl) ?_
  refine wld_d hx hb hw (hC.m (by decide)) hX.aWE (16 * j + i) (by have := hC.2.2.2.1; have := hC.2.2.1; omega) (by decide) rfl dX7_flow_63 ?_
  rw [show WE (16 * j + i) = x from hx1]
  refine lv_aload_n hx hb dX7_flow_64 rfl (lv_at hl 2 rfl) ?_
  refine wg (C := RX7) (T := TX7) (N := 31) hx hb hts hi7 hown hw (hC.m (by decide)) hX.o rfl 15 (by decide) (hts (.fieldLink RX7 41 "LayerMoistureModel" "wets" "[D") (by decide +kernel)) (fun _ h9 => h9) (v := .ref (ad 22)) rfl dX7_flow_65 ?_
  refine lv_iload_n hx hb dX7_flow_68 rfl (lv_at hl 1 rfl) ?_
  refine lv_iconst (v := 1) hx hb dX7_flow_69 (by decide) ?_
  refine lv_iadd hx hb dX7_flow_70 ?_
  rw [show (nI (16 * j + i)) + 1 = nI (16 * j + i + 1) from nI_1 _]
  refine wld_d hx hb hw (hC.m (by decide)) hX.aWE (16 * j + i + 1) (by have := hC.2.2.2.1; have := hC.2.2.1; omega) (by decide) rfl dX7_flow_71 ?_
  rw [show WE (16 * j + i + 1) = y from hy1]
  refine lv_dsub hx hb dX7_flow_72 m5 ?_
  refine lv_dmul hx hb dX7_flow_73 m6 ?_
  refine lv_dload hx hb dX7_flow_74 (lv_at hl 0 rfl) ?_
  refine lv_dload hx hb dX7_flow_76 (lv_at hl 0 rfl) ?_
  refine lv_dmul hx hb dX7_flow_78 hr3 ?_
  refine lv_ddiv hx hb dX7_flow_79 m7 ?_
  exact hret _ _ _ _ _ _ hw ⟨rfl, rfl⟩ dX7_flow_80

set_option maxHeartbeats 4000000 in
set_option maxRecDepth 100000 in
theorem c_X7_share (l : Launch) (G : va_G) (dA : Nat → ClassId) (L : List Nat) (f : Nat → va_E) (ad : Nat → Nat) (n nb : Nat) (q qk : Nat → Option Nat) (kel : UInt64) (dmp : UInt64) (spd : UInt64) (ven : UInt64) (lef : UInt64) (gon : Int64) (hr : Nat) (tl : Nat) (st : Nat) (dn : Nat) (thr : Int32) (pa : Nat) (bad : Int32) (num : Int32) (RA : Nat → UInt64) (RB : Nat → UInt64) (TH : Nat → Int32) (DE : Nat → UInt64) (KI : Nat → Int32) (WE : Nat → UInt64) (NX : Nat → UInt64) (LI : Nat → Int32) (LM : Nat → UInt64) (KE : Nat → Int32) (TX : Nat → Int32) (BW : Nat → Int32) (TI : Nat → Int32) (KV : Nat → Int32) (DM : Nat → Int32) (f0 : Nat → va_E) (j i : Nat) (g : Nat → UInt64)  (hC : Cx ad L n nb q qk) (hX : MX ad dA n nb kel dmp spd ven lef gon hr tl st dn thr pa bad num RA RB TH DE KI WE NX LI LM KE TX BW TI KV DM f0 f) (hj : j < nb) (hi : i < n) (hW : ∀ i, i < n → WE (16 * j + i) = g i) (h1 : vf_n64 (FP.dsub 4599301119452119040 (sp_cut (g i)))) (h2 : vf_n64 (FP.dmul 4598175219545276416 (FP.dsub 4599301119452119040 (sp_cut (g i)))))  : mD l yX7_share wsX7_share ({ frames := 0, cells := 0, slots := 0, locals := 0 }) G dA [.ref (ad 16), .int (nI j), .int (nI i)] L f (fun r f2 => r = sp_shr (g i) ∧ f2 = f) := by
  refine mD_of (cc := cX7_share) (maxL := 5) (by decide) rfl (Nat.le_of_ble_eq_true rfl) ?_
  intro p e s m below meth c A ls Q hx hb hml hown hts hlocks hA hin0 hw hl hret
  have hown : s.vm.findClass RX7 = some m.cls := hown
  have hl : lv_has ls 5 [(0, .ref (ad 16)), (1, .int (nI j)), (2, .int (nI i))] := hl
  have hi7 : ∀ w ∈ u_ws RX7 TX7 31, w ∈ wsX7_share := by decide +kernel
  refine lv_aload_n hx hb dX7_share_0 rfl (lv_at hl 0 rfl) ?_
  refine wg (C := RX7) (T := TX7) (N := 31) hx hb hts hi7 hown hw (hC.m (by decide)) hX.o rfl 15 (by decide) (hts (.fieldLink RX7 41 "LayerMoistureModel" "wets" "[D") (by decide +kernel)) (fun _ h9 => h9) (v := .ref (ad 22)) rfl dX7_share_1 ?_
  refine lv_bipush (v := 16) hx hb dX7_share_4 (by decide) ?_
  refine lv_iload_n hx hb dX7_share_6 rfl (lv_at hl 1 rfl) ?_
  refine lv_imul hx hb dX7_share_7 ?_
  rw [show 16 * (nI j) = nI (16 * j) from nI_m16 j]
  refine lv_iload_n hx hb dX7_share_8 rfl (lv_at hl 2 rfl) ?_
  refine lv_iadd hx hb dX7_share_9 ?_
  rw [show (nI (16 * j)) + (nI i) = nI (16 * j + i) from nI_add _ _]
  refine wld_d hx hb hw (hC.m (by decide)) hX.aWE (16 * j + i) (by have := hC.2.2.2.1; have := hC.2.2.1; omega) (by decide) rfl dX7_share_10 ?_
  rw [show WE (16 * j + i) = g i from hW i hi]
  refine lv_dstore_n (lv' := [(3, .double (g i)), (0, .ref (ad 16)), (1, .int (nI j)), (2, .int (nI i))]) hx hb dX7_share_11 rfl hl (by decide) rfl (fun ls hl => ?_)
  refine lv_ldc2d (v := 4598175219545276416) hx hb hown (hts (.constantDouble RX7 150 (4598175219545276416)) (by decide +kernel)) dX7_share_12 ?_
  refine lv_ldc2d (v := 4599301119452119040) hx hb hown (hts (.constantDouble RX7 181 (4599301119452119040)) (by decide +kernel)) dX7_share_15 ?_
  refine lv_dload_n hx hb dX7_share_18 rfl (lv_at hl 0 rfl) ?_
  refine lv_ldc2d (v := 4599301119452119040) hx hb hown (hts (.constantDouble RX7 181 (4599301119452119040)) (by decide +kernel)) dX7_share_19 ?_
  refine lv_dcmp hx hb dX7_share_22 ?_
  refine lv_if_ge (tgt := 30) hx hb dX7_share_23 (by decide) (fun c23 => ?_) (fun c23 => ?_)
  · have e11 : sp_cut (g i) = 4599301119452119040 := by simp [sp_cut, cmp_ge c23]
    rw [e11] at h1 h2
    refine lv_ldc2d (v := 4599301119452119040) hx hb hown (hts (.constantDouble RX7 181 (4599301119452119040)) (by decide +kernel)) dX7_share_30 ?_
    refine lv_dsub hx hb dX7_share_33 h1 ?_
    refine lv_dmul hx hb dX7_share_34 h2 ?_
    exact hret _ _ _ _ _ _ hw ⟨by rw [sp_shr, e11], rfl⟩ dX7_share_35
  · have e11 : sp_cut (g i) = g i := by simp [sp_cut, cmp_nge c23]
    rw [e11] at h1 h2
    refine lv_dload_n hx hb dX7_share_26 rfl (lv_at hl 0 rfl) ?_
    refine lv_goto (tgt := 33) hx hb dX7_share_27 (by decide) ?_
    refine lv_dsub hx hb dX7_share_33 h1 ?_
    refine lv_dmul hx hb dX7_share_34 h2 ?_
    exact hret _ _ _ _ _ _ hw ⟨by rw [sp_shr, e11], rfl⟩ dX7_share_35

set_option maxHeartbeats 4000000 in
set_option maxRecDepth 100000 in
theorem c_X7_stressOf (l : Launch) (G : va_G) (dA : Nat → ClassId) (L : List Nat) (f : Nat → va_E) (ad : Nat → Nat) (n nb : Nat) (q qk : Nat → Option Nat) (kel : UInt64) (dmp : UInt64) (spd : UInt64) (ven : UInt64) (lef : UInt64) (gon : Int64) (hr : Nat) (tl : Nat) (st : Nat) (dn : Nat) (thr : Int32) (pa : Nat) (bad : Int32) (num : Int32) (RA : Nat → UInt64) (RB : Nat → UInt64) (TH : Nat → Int32) (DE : Nat → UInt64) (KI : Nat → Int32) (WE : Nat → UInt64) (NX : Nat → UInt64) (LI : Nat → Int32) (LM : Nat → UInt64) (KE : Nat → Int32) (TX : Nat → Int32) (BW : Nat → Int32) (TI : Nat → Int32) (KV : Nat → Int32) (DM : Nat → Int32) (f0 : Nat → va_E) (j k : Nat) (g : Nat → UInt64)  (hC : Cx ad L n nb q qk) (hX : MX ad dA n nb kel dmp spd ven lef gon hr tl st dn thr pa bad num RA RB TH DE KI WE NX LI LM KE TX BW TI KV DM f0 f) (hj : j < nb) (hk : k < n) (hW : ∀ i, i < n → WE (16 * j + i) = g i) (hg : ∀ i, i < n → Np (2 ^ 1076) (g i))  : mD l yX7_stressOf wsX7_stressOf ({ frames := 1, cells := 0, slots := 0, locals := 24 }) G dA [.ref (ad 16), .int (nI j), .int (nI k)] L f (fun r f2 => r = sp_stress g n k ∧ f2 = f) := by
  refine mD_of (cc := cX7_stressOf) (maxL := 6) (by decide) rfl (Nat.le_of_ble_eq_true rfl) ?_
  intro p e s m below meth c A ls Q hx hb hml hown hts hlocks hA hin0 hw hl hret
  have hown : s.vm.findClass RX7 = some m.cls := hown
  have hl : lv_has ls 6 [(0, .ref (ad 16)), (1, .int (nI j)), (2, .int (nI k))] := hl
  have hi7 : ∀ w ∈ u_ws RX7 TX7 31, w ∈ wsX7_stressOf := by decide +kernel
  obtain ⟨hc1, hc2, hs, hq, hst⟩ := b_load hg hC.2.2.1.2 hC.2.2.1.1
  have h0 : sumD (fun j => sp_shr (g j)) 1 = sp_shr (g 0) := z_add (b_shr (hg 0 (by have := hC.2.2.1; omega))).2.2.2
  refine lv_aload_n hx hb dX7_stressOf_0 rfl (lv_at hl 0 rfl) ?_
  refine lv_iload_n hx hb dX7_stressOf_1 rfl (lv_at hl 1 rfl) ?_
  refine lv_iconst (v := 0) hx hb dX7_stressOf_2 (by decide) ?_
  rw [show (Value.int 0) = .int (nI 0) from by rw [nI_0]]
  refine kV_D (C := RX7) (T := TX7) (N := 31) (As := [.int (nI j), .int (nI 0)]) (rest := []) ⟨hx, hb, hml, hown, hts⟩ (c_X7_share l G dA L f ad n nb q qk kel dmp spd ven lef gon hr tl st dn thr pa bad num RA RB TH DE KI WE NX LI LM KE TX BW TI KV DM f0 j 0 g hC hX hj (by have := hC.2.2.1; omega) hW (hc1 0 (by have := hC.2.2.1; omega)) (hc2 0 (by have := hC.2.2.1; omega))) (cwV 2 hts gX7_stressOf_X7_share rfl rfl rfl (by decide +kernel) ⟨Nat.le_of_ble_eq_true rfl, Nat.le_of_ble_eq_true rfl⟩) hw hA (hC.m (by decide)) hX.o rfl rfl hl.1 rfl (Nat.le_of_ble_eq_true rfl) dX7_stressOf_3 ⟨Nat.zero_le _, Nat.zero_le _⟩ (fun r2 f1 H locs hp hw => ?_)
  obtain ⟨e1, e2⟩ := hp
  rw [e2] at hw
  rw [e1]
  rw [show sp_shr (g 0) = sumD (fun j => sp_shr (g j)) 1 from h0.symm]
  refine lv_dstore_n (lv' := [(3, .double (sumD (fun j => sp_shr (g j)) 1)), (0, .ref (ad 16)), (1, .int (nI j)), (2, .int (nI k))]) hx hb dX7_stressOf_6 rfl hl (by decide) rfl (fun ls hl => ?_)
  refine lv_iconst (v := 1) hx hb dX7_stressOf_7 (by decide) ?_
  refine lv_istore (lv' := [(5, .int 1), (3, .double (sumD (fun j => sp_shr (g j)) 1)), (0, .ref (ad 16)), (1, .int (nI j)), (2, .int (nI k))]) hx hb dX7_stressOf_8 hl (by decide) rfl (fun ls hl => ?_)
  have loop : ∀ (kf i : Nat), i + kf = n → 1 ≤ i → ∀ (H : Heap) (locs : List Loc), ww G dA A s L f H locs → ∀ (ls : Array Slot), lv_has ls 6 [(0, .ref (ad 16)), (1, .int (nI j)), (2, .int (nI k)), (3, .double (sumD (fun j => sp_shr (g j)) i)), (5, .int (nI i))] → W p l e ({ frames := 1, cells := 0, slots := 0, locals := 24 } : Room) s m ([.ref (ad 16), .int (nI j), .int (nI k)] : List Value).toArray below meth c H locs 0 0 Q (F0 m 10 ls []) := by
    intro kf
    induction kf with
    | zero =>
      intro i hik h1i H locs hw ls hl
      rw [show i = n by omega] at hl
      refine lv_iload hx hb dX7_stressOf_10 (lv_at hl 4 rfl) ?_
      refine lv_aload_n hx hb dX7_stressOf_12 rfl (lv_at hl 0 rfl) ?_
      refine wg (C := RX7) (T := TX7) (N := 31) hx hb hts hi7 hown hw (hC.m (by decide)) hX.o rfl 1 (by decide) (hts (.fieldLink RX7 71 "LayerMoistureModel" "layers" "I") (by decide +kernel)) (fun _ h9 => h9) (v := .int (nI n)) rfl dX7_stressOf_13 ?_
      refine lv_icmp_ge (tgt := 35) hx hb dX7_stressOf_16 (by decide) (fun _ => ?_) (fun c9 => absurd (nI_le (Nat.le_refl _) hC.n31) c9)
      refine lv_aload_n hx hb dX7_stressOf_35 rfl (lv_at hl 0 rfl) ?_
      refine lv_iload_n hx hb dX7_stressOf_36 rfl (lv_at hl 1 rfl) ?_
      refine lv_iload_n hx hb dX7_stressOf_37 rfl (lv_at hl 2 rfl) ?_
      refine kV_D (C := RX7) (T := TX7) (N := 31) (As := [.int (nI j), .int (nI k)]) (rest := []) ⟨hx, hb, hml, hown, hts⟩ (c_X7_share l G dA L f ad n nb q qk kel dmp spd ven lef gon hr tl st dn thr pa bad num RA RB TH DE KI WE NX LI LM KE TX BW TI KV DM f0 j k g hC hX hj hk hW (hc1 k hk) (hc2 k hk)) (cwV 2 hts gX7_stressOf_X7_share rfl rfl rfl (by decide +kernel) ⟨Nat.le_of_ble_eq_true rfl, Nat.le_of_ble_eq_true rfl⟩) hw hA (hC.m (by decide)) hX.o rfl rfl hl.1 rfl (Nat.le_of_ble_eq_true rfl) dX7_stressOf_38 ⟨Nat.zero_le _, Nat.zero_le _⟩ (fun r4 f3 H locs hp hw => ?_)
      obtain ⟨e1, e2⟩ := hp
      rw [e2] at hw
      rw [e1]
      refine lv_dload_n hx hb dX7_stressOf_41 rfl (lv_at hl 3 rfl) ?_
      refine lv_aload_n hx hb dX7_stressOf_42 rfl (lv_at hl 0 rfl) ?_
      refine wg (C := RX7) (T := TX7) (N := 31) hx hb hts hi7 hown hw (hC.m (by decide)) hX.o rfl 1 (by decide) (hts (.fieldLink RX7 71 "LayerMoistureModel" "layers" "I") (by decide +kernel)) (fun _ h9 => h9) (v := .int (nI n)) rfl dX7_stressOf_43 ?_
      refine lv_i2d hx hb dX7_stressOf_46 ?_
      refine lv_ddiv hx hb dX7_stressOf_47 hq ?_
      refine lv_dsub hx hb dX7_stressOf_48 (hst k hk) ?_
      exact hret _ _ _ _ _ _ hw ⟨rfl, rfl⟩ dX7_stressOf_49
    | succ kf ih =>
      intro i hik h1i H locs hw ls hl
      have hlt : i < n := by omega
      refine lv_iload hx hb dX7_stressOf_10 (lv_at hl 4 rfl) ?_
      refine lv_aload_n hx hb dX7_stressOf_12 rfl (lv_at hl 0 rfl) ?_
      refine wg (C := RX7) (T := TX7) (N := 31) hx hb hts hi7 hown hw (hC.m (by decide)) hX.o rfl 1 (by decide) (hts (.fieldLink RX7 71 "LayerMoistureModel" "layers" "I") (by decide +kernel)) (fun _ h9 => h9) (v := .int (nI n)) rfl dX7_stressOf_13 ?_
      refine lv_icmp_ge (tgt := 35) hx hb dX7_stressOf_16 (by decide) (fun c9 => absurd c9 (nI_ge hlt hC.n31)) (fun _ => ?_)
      refine lv_dload_n hx hb dX7_stressOf_19 rfl (lv_at hl 3 rfl) ?_
      refine lv_aload_n hx hb dX7_stressOf_20 rfl (lv_at hl 0 rfl) ?_
      refine lv_iload_n hx hb dX7_stressOf_21 rfl (lv_at hl 1 rfl) ?_
      refine lv_iload hx hb dX7_stressOf_22 (lv_at hl 4 rfl) ?_
      refine kV_D (C := RX7) (T := TX7) (N := 31) (As := [.int (nI j), .int (nI i)]) (rest := [.double (sumD (fun j => sp_shr (g j)) i)]) ⟨hx, hb, hml, hown, hts⟩ (c_X7_share l G dA L f ad n nb q qk kel dmp spd ven lef gon hr tl st dn thr pa bad num RA RB TH DE KI WE NX LI LM KE TX BW TI KV DM f0 j i g hC hX hj hlt hW (hc1 i hlt) (hc2 i hlt)) (cwV 2 hts gX7_stressOf_X7_share rfl rfl rfl (by decide +kernel) ⟨Nat.le_of_ble_eq_true rfl, Nat.le_of_ble_eq_true rfl⟩) hw hA (hC.m (by decide)) hX.o rfl rfl hl.1 rfl (Nat.le_of_ble_eq_true rfl) dX7_stressOf_24 ⟨Nat.zero_le _, Nat.zero_le _⟩ (fun r6 f5 H locs hp hw => ?_)
      obtain ⟨e1, e2⟩ := hp
      rw [e2] at hw
      rw [e1]
      refine lv_dadd hx hb dX7_stressOf_27 (hs i hlt) ?_
      refine lv_dstore_n (lv' := [(3, .double (FP.dadd (sumD (fun j => sp_shr (g j)) i) (sp_shr (g i)))), (0, .ref (ad 16)), (1, .int (nI j)), (2, .int (nI k)), (5, .int (nI i))]) hx hb dX7_stressOf_28 rfl hl (by decide) rfl (fun ls hl => ?_)
      refine lv_iinc (v := nI (i + 1)) (lv' := [(5, .int (nI (i + 1))), (3, .double (FP.dadd (sumD (fun j => sp_shr (g j)) i) (sp_shr (g i)))), (0, .ref (ad 16)), (1, .int (nI j)), (2, .int (nI k))]) hx hb dX7_stressOf_29 hl (k := 4) rfl (nI_1 i) (by decide) rfl (fun ls hl => ?_)
      refine lv_goto (tgt := 10) hx hb dX7_stressOf_32 (by decide) ?_
      exact ih (i + 1) (by omega) (by omega) _ _ hw ls (lv_sub hl [2, 3, 4, 1, 0] rfl)
  exact loop (n - 1) 1 (by have := hC.2.2.1; omega) (Nat.le_refl _) _ _ hw ls (lv_sub hl [2, 3, 4, 1, 0] rfl)

set_option maxHeartbeats 4000000 in
set_option maxRecDepth 100000 in
theorem c_X7_keep (l : Launch) (G : va_G) (dA : Nat → ClassId) (L : List Nat) (f : Nat → va_E) (ad : Nat → Nat) (n nb : Nat) (q qk : Nat → Option Nat) (kel : UInt64) (dmp : UInt64) (spd : UInt64) (ven : UInt64) (lef : UInt64) (gon : Int64) (hr : Nat) (tl : Nat) (st : Nat) (dn : Nat) (thr : Int32) (pa : Nat) (bad : Int32) (num : Int32) (RA : Nat → UInt64) (RB : Nat → UInt64) (TH : Nat → Int32) (DE : Nat → UInt64) (KI : Nat → Int32) (WE : Nat → UInt64) (NX : Nat → UInt64) (LI : Nat → Int32) (LM : Nat → UInt64) (KE : Nat → Int32) (TX : Nat → Int32) (BW : Nat → Int32) (TI : Nat → Int32) (KV : Nat → Int32) (DM : Nat → Int32) (f0 : Nat → va_E) (j : Nat) (g : Nat → UInt64)  (hC : Cx ad L n nb q qk) (hX : MX ad dA n nb kel dmp spd ven lef gon hr tl st dn thr pa bad num RA RB TH DE KI WE NX LI LM KE TX BW TI KV DM f0 f) (hj : j < nb) (hW : ∀ i, i < n → WE (16 * j + i) = g i) (hg : ∀ i, i < n → Np (2 ^ 1076) (g i))  : mV l yX7_keep wsX7_keep ({ frames := 2, cells := 0, slots := 0, locals := 49 }) G dA [.ref (ad 16), .int (nI j)] L f (fun f2 => MX ad dA n nb kel dmp spd ven lef gon hr tl st dn thr pa bad num RA RB TH DE KI WE NX LI LM (upd KE j (sp_keep (LI j) (KE j) (sp_load g n) (LM j) (nI hr))) TX BW TI KV DM f0 f2) := by
  refine mV_of (cc := cX7_keep) (maxL := 7) (by decide) rfl (Nat.le_of_ble_eq_true rfl) ?_
  intro p e s m below meth c A ls Q hx hb hml hown hts hlocks hA hin0 hw hl hret
  have hown : s.vm.findClass RX7 = some m.cls := hown
  have hl : lv_has ls 7 [(0, .ref (ad 16)), (1, .int (nI j))] := hl
  have hi7 : ∀ w ∈ u_ws RX7 TX7 31, w ∈ wsX7_keep := by decide +kernel
  refine lv_dconst0 hx hb dX7_keep_0 ?_
  refine lv_dstore_n (lv' := [(2, .double FP.dconst0), (0, .ref (ad 16)), (1, .int (nI j))]) hx hb dX7_keep_1 rfl hl (by decide) rfl (fun ls hl => ?_)
  refine lv_iconst (v := 0) hx hb dX7_keep_2 (by decide) ?_
  refine lv_istore (lv' := [(4, .int 0), (2, .double FP.dconst0), (0, .ref (ad 16)), (1, .int (nI j))]) hx hb dX7_keep_3 hl (by decide) rfl (fun ls hl => ?_)
  have loop : ∀ (kf i : Nat), i + kf = n → 0 ≤ i → ∀ (H : Heap) (locs : List Loc), ww G dA A s L f H locs → ∀ (ls : Array Slot), lv_has ls 7 [(0, .ref (ad 16)), (1, .int (nI j)), (2, .double (maxD (fun j => sp_size (sp_stress g n j)) i)), (4, .int (nI i))] → W p l e ({ frames := 2, cells := 0, slots := 0, locals := 49 } : Room) s m ([.ref (ad 16), .int (nI j)] : List Value).toArray below meth c H locs 0 0 Q (F0 m 5 ls []) := by
    intro kf
    induction kf with
    | zero =>
      intro i hik h1i H locs hw ls hl
      rw [show i = n by omega] at hl
      refine lv_iload hx hb dX7_keep_5 (lv_at hl 3 rfl) ?_
      refine lv_aload_n hx hb dX7_keep_7 rfl (lv_at hl 0 rfl) ?_
      refine wg (C := RX7) (T := TX7) (N := 31) hx hb hts hi7 hown hw (hC.m (by decide)) hX.o rfl 1 (by decide) (hts (.fieldLink RX7 71 "LayerMoistureModel" "layers" "I") (by decide +kernel)) (fun _ h9 => h9) (v := .int (nI n)) rfl dX7_keep_8 ?_
      refine lv_icmp_ge (tgt := 60) hx hb dX7_keep_11 (by decide) (fun _ => ?_) (fun c9 => absurd (nI_le (Nat.le_refl _) hC.n31) c9)
      refine lv_aload_n hx hb dX7_keep_60 rfl (lv_at hl 0 rfl) ?_
      refine wg (C := RX7) (T := TX7) (N := 31) hx hb hts hi7 hown hw (hC.m (by decide)) hX.o rfl 17 (by decide) (hts (.fieldLink RX7 47 "LayerMoistureModel" "limited" "[Z") (by decide +kernel)) (fun _ h9 => h9) (v := .ref (ad 24)) rfl dX7_keep_61 ?_
      refine lv_iload_n hx hb dX7_keep_64 rfl (lv_at hl 1 rfl) ?_
      refine wld_z hx hb hw (hC.m (by decide)) hX.aLI j (by have := hC.2.2.2.1; omega) (by decide) rfl dX7_keep_65 ?_
      refine lv_if_eq (tgt := 100) hx hb dX7_keep_66 (by decide) (fun c66 => ?_) (fun c66 => ?_)
      · have e9 : sp_keep (LI j) (KE j) (sp_load g n) (LM j) (nI hr) = KE j := by simp [sp_keep, c66]
        exact hret _ _ _ _ _ hw (by rw [e9, show upd KE j (KE j) = KE from up_id (f := KE) rfl]; exact hX) dX7_keep_100
      · refine lv_aload_n hx hb dX7_keep_69 rfl (lv_at hl 0 rfl) ?_
        refine wg (C := RX7) (T := TX7) (N := 31) hx hb hts hi7 hown hw (hC.m (by decide)) hX.o rfl 19 (by decide) (hts (.fieldLink RX7 53 "LayerMoistureModel" "kept" "[I") (by decide +kernel)) (fun _ h9 => h9) (v := .ref (ad 26)) rfl dX7_keep_70 ?_
        refine lv_iload_n hx hb dX7_keep_73 rfl (lv_at hl 1 rfl) ?_
        refine wld_i hx hb hw (hC.m (by decide)) hX.aKE j (by have := hC.2.2.2.1; omega) (by decide) rfl dX7_keep_74 ?_
        refine lv_iconst (v := (-1)) hx hb dX7_keep_75 (by decide) ?_
        refine lv_icmp_ne (tgt := 100) hx hb dX7_keep_76 (by decide) (fun c76 => ?_) (fun c76 => ?_)
        · have e9 : sp_keep (LI j) (KE j) (sp_load g n) (LM j) (nI hr) = KE j := by simp [sp_keep, c76]
          exact hret _ _ _ _ _ hw (by rw [e9, show upd KE j (KE j) = KE from up_id (f := KE) rfl]; exact hX) dX7_keep_100
        · refine lv_dload_n hx hb dX7_keep_79 rfl (lv_at hl 2 rfl) ?_
          refine lv_aload_n hx hb dX7_keep_80 rfl (lv_at hl 0 rfl) ?_
          refine wg (C := RX7) (T := TX7) (N := 31) hx hb hts hi7 hown hw (hC.m (by decide)) hX.o rfl 18 (by decide) (hts (.fieldLink RX7 50 "LayerMoistureModel" "limits" "[D") (by decide +kernel)) (fun _ h9 => h9) (v := .ref (ad 25)) rfl dX7_keep_81 ?_
          refine lv_iload_n hx hb dX7_keep_84 rfl (lv_at hl 1 rfl) ?_
          refine wld_d hx hb hw (hC.m (by decide)) hX.aLM j (by have := hC.2.2.2.1; omega) (by decide) rfl dX7_keep_85 ?_
          refine lv_dcmp hx hb dX7_keep_86 ?_
          refine lv_if_le (tgt := 100) hx hb dX7_keep_87 (by decide) (fun c87 => ?_) (fun c87 => ?_)
          · have e9 : sp_keep (LI j) (KE j) (sp_load g n) (LM j) (nI hr) = KE j := by have c87 : ¬ FP.dcmp (sp_load g n) (LM j) = some .gt := cmp_le c87; simp [sp_keep, c87]
            exact hret _ _ _ _ _ hw (by rw [e9, show upd KE j (KE j) = KE from up_id (f := KE) rfl]; exact hX) dX7_keep_100
          · have e9 : sp_keep (LI j) (KE j) (sp_load g n) (LM j) (nI hr) = nI hr := by have c87 : FP.dcmp (sp_load g n) (LM j) = some .gt := cmp_nle c87; simp [sp_keep, c66, c76, c87]
            refine lv_aload_n hx hb dX7_keep_90 rfl (lv_at hl 0 rfl) ?_
            refine wg (C := RX7) (T := TX7) (N := 31) hx hb hts hi7 hown hw (hC.m (by decide)) hX.o rfl 19 (by decide) (hts (.fieldLink RX7 53 "LayerMoistureModel" "kept" "[I") (by decide +kernel)) (fun _ h9 => h9) (v := .ref (ad 26)) rfl dX7_keep_91 ?_
            refine lv_iload_n hx hb dX7_keep_94 rfl (lv_at hl 1 rfl) ?_
            refine lv_aload_n hx hb dX7_keep_95 rfl (lv_at hl 0 rfl) ?_
            refine wg (C := RX7) (T := TX7) (N := 31) hx hb hts hi7 hown hw (hC.m (by decide)) hX.o rfl 11 (by decide) (hts (.fieldLink RX7 152 "LayerMoistureModel" "hours" "I") (by decide +kernel)) (fun _ h9 => h9) (v := .int (nI hr)) rfl dX7_keep_96 ?_
            refine wst_i hx hb hw (hC.m (by decide)) hX.aKE j (by have := hC.2.2.2.1; omega) (by decide) rfl dX7_keep_99 (fun H locs hw => ?_)
            obtain ⟨f1, ef1⟩ : ∃ z : Nat → va_E, z = va_up f (ad 26) (aI (dA 2) 8 (upd KE j (nI hr))) := ⟨_, rfl⟩
            have hw : ww G dA A s L f1 H locs := by rw [ef1]; exact hw
            have hX2 : MX ad dA n nb kel dmp spd ven lef gon hr tl st dn thr pa bad num RA RB TH DE KI WE NX LI LM (upd KE j (nI hr)) TX BW TI KV DM f0 f1 := by rw [ef1]; exact hX.sKE hC _
            exact hret _ _ _ _ _ hw (by rw [e9]; exact hX2) dX7_keep_100
    | succ kf ih =>
      intro i hik h1i H locs hw ls hl
      have hlt : i < n := by omega
      refine lv_iload hx hb dX7_keep_5 (lv_at hl 3 rfl) ?_
      refine lv_aload_n hx hb dX7_keep_7 rfl (lv_at hl 0 rfl) ?_
      refine wg (C := RX7) (T := TX7) (N := 31) hx hb hts hi7 hown hw (hC.m (by decide)) hX.o rfl 1 (by decide) (hts (.fieldLink RX7 71 "LayerMoistureModel" "layers" "I") (by decide +kernel)) (fun _ h9 => h9) (v := .int (nI n)) rfl dX7_keep_8 ?_
      refine lv_icmp_ge (tgt := 60) hx hb dX7_keep_11 (by decide) (fun c9 => absurd c9 (nI_ge hlt hC.n31)) (fun _ => ?_)
      refine lv_aload_n hx hb dX7_keep_14 rfl (lv_at hl 0 rfl) ?_
      refine lv_iload_n hx hb dX7_keep_15 rfl (lv_at hl 1 rfl) ?_
      refine lv_iload hx hb dX7_keep_16 (lv_at hl 3 rfl) ?_
      refine kV_D (C := RX7) (T := TX7) (N := 31) (As := [.int (nI j), .int (nI i)]) (rest := []) ⟨hx, hb, hml, hown, hts⟩ (c_X7_stressOf l G dA L f ad n nb q qk kel dmp spd ven lef gon hr tl st dn thr pa bad num RA RB TH DE KI WE NX LI LM KE TX BW TI KV DM f0 j i g hC hX hj hlt hW hg) (cwV 2 hts gX7_keep_X7_stressOf rfl rfl rfl (by decide +kernel) ⟨Nat.le_of_ble_eq_true rfl, Nat.le_of_ble_eq_true rfl⟩) hw hA (hC.m (by decide)) hX.o rfl rfl hl.1 rfl (Nat.le_of_ble_eq_true rfl) dX7_keep_18 ⟨Nat.zero_le _, Nat.zero_le _⟩ (fun r4 f3 H locs hp hw => ?_)
      obtain ⟨e1, e2⟩ := hp
      rw [e2] at hw
      rw [e1]
      refine lv_dstore (lv' := [(5, .double (sp_stress g n i)), (0, .ref (ad 16)), (1, .int (nI j)), (2, .double (maxD (fun j => sp_size (sp_stress g n j)) i)), (4, .int (nI i))]) hx hb dX7_keep_21 hl (by decide) rfl (fun ls hl => ?_)
      refine lv_dload hx hb dX7_keep_23 (lv_at hl 0 rfl) ?_
      refine lv_dconst0 hx hb dX7_keep_25 ?_
      refine lv_dcmp hx hb dX7_keep_26 ?_
      refine lv_if_ge (tgt := 36) hx hb dX7_keep_27 (by decide) (fun c27 => ?_) (fun c27 => ?_)
      · have e38 : sp_size (sp_stress g n i) = sp_stress g n i := by rw [sp_size]; exact if_neg (cmp_ge c27)
        refine lv_dload hx hb dX7_keep_36 (lv_at hl 0 rfl) ?_
        refine lv_dstore (lv' := [(5, .double (sp_stress g n i)), (0, .ref (ad 16)), (1, .int (nI j)), (2, .double (maxD (fun j => sp_size (sp_stress g n j)) i)), (4, .int (nI i))]) hx hb dX7_keep_38 hl (by decide) rfl (fun ls hl => ?_)
        refine lv_dload hx hb dX7_keep_40 (lv_at hl 0 rfl) ?_
        refine lv_dload_n hx hb dX7_keep_42 rfl (lv_at hl 3 rfl) ?_
        refine lv_dcmp hx hb dX7_keep_43 ?_
        refine lv_if_le (tgt := 52) hx hb dX7_keep_44 (by decide) (fun c44 => ?_) (fun c44 => ?_)
        · have e9 : maxD (fun j => sp_size (sp_stress g n j)) (i + 1) = maxD (fun j => sp_size (sp_stress g n j)) i := by have c44 := cmp_le c44; rw [← e38] at c44; exact if_neg c44
          refine lv_dload_n hx hb dX7_keep_52 rfl (lv_at hl 3 rfl) ?_
          refine lv_dstore_n (lv' := [(2, .double (maxD (fun j => sp_size (sp_stress g n j)) i)), (5, .double (sp_stress g n i)), (0, .ref (ad 16)), (1, .int (nI j)), (4, .int (nI i))]) hx hb dX7_keep_53 rfl hl (by decide) rfl (fun ls hl => ?_)
          refine lv_iinc (v := nI (i + 1)) (lv' := [(4, .int (nI (i + 1))), (2, .double (maxD (fun j => sp_size (sp_stress g n j)) i)), (5, .double (sp_stress g n i)), (0, .ref (ad 16)), (1, .int (nI j))]) hx hb dX7_keep_54 hl (k := 4) rfl (nI_1 i) (by decide) rfl (fun ls hl => ?_)
          refine lv_goto (tgt := 5) hx hb dX7_keep_57 (by decide) ?_
          exact ih (i + 1) (by omega) (by omega) _ _ hw ls (by rw [e9]; exact lv_sub hl [3, 4, 1, 0] rfl)
        · have e9 : maxD (fun j => sp_size (sp_stress g n j)) (i + 1) = sp_size (sp_stress g n i) := by have c44 := cmp_nle c44; rw [← e38] at c44; exact if_pos c44
          rw [e38] at e9
          refine lv_dload hx hb dX7_keep_47 (lv_at hl 0 rfl) ?_
          refine lv_goto (tgt := 53) hx hb dX7_keep_49 (by decide) ?_
          refine lv_dstore_n (lv' := [(2, .double (sp_stress g n i)), (5, .double (sp_stress g n i)), (0, .ref (ad 16)), (1, .int (nI j)), (4, .int (nI i))]) hx hb dX7_keep_53 rfl hl (by decide) rfl (fun ls hl => ?_)
          refine lv_iinc (v := nI (i + 1)) (lv' := [(4, .int (nI (i + 1))), (2, .double (sp_stress g n i)), (5, .double (sp_stress g n i)), (0, .ref (ad 16)), (1, .int (nI j))]) hx hb dX7_keep_54 hl (k := 4) rfl (nI_1 i) (by decide) rfl (fun ls hl => ?_)
          refine lv_goto (tgt := 5) hx hb dX7_keep_57 (by decide) ?_
          exact ih (i + 1) (by omega) (by omega) _ _ hw ls (by rw [e9]; exact lv_sub hl [3, 4, 1, 0] rfl)
      · have e38 : sp_size (sp_stress g n i) = FP.dneg (sp_stress g n i) := by rw [sp_size]; exact if_pos (cmp_nge c27)
        refine lv_dload hx hb dX7_keep_30 (lv_at hl 0 rfl) ?_
        refine lv_dneg hx hb dX7_keep_32 ?_
        refine lv_goto (tgt := 38) hx hb dX7_keep_33 (by decide) ?_
        refine lv_dstore (lv' := [(5, .double (FP.dneg (sp_stress g n i))), (0, .ref (ad 16)), (1, .int (nI j)), (2, .double (maxD (fun j => sp_size (sp_stress g n j)) i)), (4, .int (nI i))]) hx hb dX7_keep_38 hl (by decide) rfl (fun ls hl => ?_)
        refine lv_dload hx hb dX7_keep_40 (lv_at hl 0 rfl) ?_
        refine lv_dload_n hx hb dX7_keep_42 rfl (lv_at hl 3 rfl) ?_
        refine lv_dcmp hx hb dX7_keep_43 ?_
        refine lv_if_le (tgt := 52) hx hb dX7_keep_44 (by decide) (fun c44 => ?_) (fun c44 => ?_)
        · have e9 : maxD (fun j => sp_size (sp_stress g n j)) (i + 1) = maxD (fun j => sp_size (sp_stress g n j)) i := by have c44 := cmp_le c44; rw [← e38] at c44; exact if_neg c44
          refine lv_dload_n hx hb dX7_keep_52 rfl (lv_at hl 3 rfl) ?_
          refine lv_dstore_n (lv' := [(2, .double (maxD (fun j => sp_size (sp_stress g n j)) i)), (5, .double (FP.dneg (sp_stress g n i))), (0, .ref (ad 16)), (1, .int (nI j)), (4, .int (nI i))]) hx hb dX7_keep_53 rfl hl (by decide) rfl (fun ls hl => ?_)
          refine lv_iinc (v := nI (i + 1)) (lv' := [(4, .int (nI (i + 1))), (2, .double (maxD (fun j => sp_size (sp_stress g n j)) i)), (5, .double (FP.dneg (sp_stress g n i))), (0, .ref (ad 16)), (1, .int (nI j))]) hx hb dX7_keep_54 hl (k := 4) rfl (nI_1 i) (by decide) rfl (fun ls hl => ?_)
          refine lv_goto (tgt := 5) hx hb dX7_keep_57 (by decide) ?_
          exact ih (i + 1) (by omega) (by omega) _ _ hw ls (by rw [e9]; exact lv_sub hl [3, 4, 1, 0] rfl)
        · have e9 : maxD (fun j => sp_size (sp_stress g n j)) (i + 1) = sp_size (sp_stress g n i) := by have c44 := cmp_nle c44; rw [← e38] at c44; exact if_pos c44
          rw [e38] at e9
          refine lv_dload hx hb dX7_keep_47 (lv_at hl 0 rfl) ?_
          refine lv_goto (tgt := 53) hx hb dX7_keep_49 (by decide) ?_
          refine lv_dstore_n (lv' := [(2, .double (FP.dneg (sp_stress g n i))), (5, .double (FP.dneg (sp_stress g n i))), (0, .ref (ad 16)), (1, .int (nI j)), (4, .int (nI i))]) hx hb dX7_keep_53 rfl hl (by decide) rfl (fun ls hl => ?_)
          refine lv_iinc (v := nI (i + 1)) (lv' := [(4, .int (nI (i + 1))), (2, .double (FP.dneg (sp_stress g n i))), (5, .double (FP.dneg (sp_stress g n i))), (0, .ref (ad 16)), (1, .int (nI j))]) hx hb dX7_keep_54 hl (k := 4) rfl (nI_1 i) (by decide) rfl (fun ls hl => ?_)
          refine lv_goto (tgt := 5) hx hb dX7_keep_57 (by decide) ?_
          exact ih (i + 1) (by omega) (by omega) _ _ hw ls (by rw [e9]; exact lv_sub hl [3, 4, 1, 0] rfl)
  exact loop n 0 (by have := hC.2.2.1; omega) (Nat.le_refl _) _ _ hw ls (lv_sub hl [2, 3, 1, 0] rfl)
