set_option maxHeartbeats 4000000 in
set_option maxRecDepth 100000 in
theorem c_X6_boardsThere (l : Launch) (G : va_G) (dA : Nat → ClassId) (L : List Nat) (f : Nat → va_E) (ad : Nat → Nat) (n nb : Nat) (q qk : Nat → Option Nat) (ai : sA) (le : sL) (bd : Nat → sB) (wt : Nat → Nat → UInt64) (kk : Nat → UInt64 × UInt64) (tt : sT) (pn : sP) (hr : Nat) (f0 : Nat → va_E)   (hC : Cx ad L n nb q qk) (hR : RC ad dA n nb q qk ai le bd wt kk tt pn hr f0 f)   : mI l yX6_boardsThere wsX6_boardsThere ({ frames := 0, cells := 0, slots := 0, locals := 0 }) G dA [.ref (ad 0)] L f (fun r f2 => r = nI (cntTh bd nb) ∧ f2 = f) := by
  refine mI_of (cc := cX6_boardsThere) (maxL := 3) (by decide) rfl (Nat.le_of_ble_eq_true rfl) ?_
  intro p e s m below meth c A ls Q hx hb hml hown hts hlocks hA hin0 hw hl hret
  have hown : s.vm.findClass RX6 = some m.cls := hown
  have hl : lv_has ls 3 [(0, .ref (ad 0))] := hl
  have hi1 : ∀ w ∈ u_ws RX1 TX1 7, w ∈ wsX6_boardsThere := by decide +kernel
  have hi6 : ∀ w ∈ u_ws RX6 TX6 8, w ∈ wsX6_boardsThere := by decide +kernel
  refine lv_iconst (v := 0) hx hb dX6_boardsThere_0 (by decide) ?_
  refine lv_istore_n (lv' := [(1, .int 0), (0, .ref (ad 0))]) hx hb dX6_boardsThere_1 rfl hl (by decide) rfl (fun ls hl => ?_)
  refine lv_iconst (v := 0) hx hb dX6_boardsThere_2 (by decide) ?_
  refine lv_istore_n (lv' := [(2, .int 0), (1, .int 0), (0, .ref (ad 0))]) hx hb dX6_boardsThere_3 rfl hl (by decide) rfl (fun ls hl => ?_)
  have loop : ∀ (kf i : Nat), i + kf = nb → ∀ (ls : Array Slot), lv_has ls 3 [(0, .ref (ad 0)), (1, .int (nI (cntTh bd i))), (2, .int (nI i))] → W p l e ({ frames := 0, cells := 0, slots := 0, locals := 0 } : Room) s m ([.ref (ad 0)] : List Value).toArray below meth c s.heap [] 0 0 Q (F0 m 4 ls []) := by
    intro kf
    induction kf with
    | zero =>
      intro i hik ls hl
      rw [show i = nb by omega] at hl
      refine lv_iload_n hx hb dX6_boardsThere_4 rfl (lv_at hl 2 rfl) ?_
      refine lv_aload_n hx hb dX6_boardsThere_5 rfl (lv_at hl 0 rfl) ?_
      refine wg (C := RX6) (T := TX6) (N := 8) hx hb hts hi6 hown hw (hC.m (by decide)) hR.x rfl 1 (by decide) (hts (.fieldLink RX6 31 "LayerMoisture" "boards" "[LLayerMoisture$Board;") (by decide +kernel)) (fun _ h9 => h9) (v := .ref (ad 1)) rfl dX6_boardsThere_6 ?_
      refine wlen hx hb 5 hw (hC.m (by decide)) hR.bs rfl dX6_boardsThere_9 ?_
      refine lv_icmp_ge (tgt := 34) hx hb dX6_boardsThere_10 (by decide) (fun _ => ?_) (fun c9 => absurd (nI_le (Nat.le_refl _) hC.nb31) c9)
      refine lv_iload_n hx hb dX6_boardsThere_34 rfl (lv_at hl 1 rfl) ?_
      exact hret _ _ _ _ _ _ hw ⟨rfl, rfl⟩ rfl dX6_boardsThere_35
    | succ kf ih =>
      intro i hik ls hl
      have hlt : i < nb := by omega
      refine lv_iload_n hx hb dX6_boardsThere_4 rfl (lv_at hl 2 rfl) ?_
      refine lv_aload_n hx hb dX6_boardsThere_5 rfl (lv_at hl 0 rfl) ?_
      refine wg (C := RX6) (T := TX6) (N := 8) hx hb hts hi6 hown hw (hC.m (by decide)) hR.x rfl 1 (by decide) (hts (.fieldLink RX6 31 "LayerMoisture" "boards" "[LLayerMoisture$Board;") (by decide +kernel)) (fun _ h9 => h9) (v := .ref (ad 1)) rfl dX6_boardsThere_6 ?_
      refine wlen hx hb 5 hw (hC.m (by decide)) hR.bs rfl dX6_boardsThere_9 ?_
      refine lv_icmp_ge (tgt := 34) hx hb dX6_boardsThere_10 (by decide) (fun c9 => absurd c9 (nI_ge hlt hC.nb31)) (fun _ => ?_)
      refine lv_aload_n hx hb dX6_boardsThere_13 rfl (lv_at hl 0 rfl) ?_
      refine wg (C := RX6) (T := TX6) (N := 8) hx hb hts hi6 hown hw (hC.m (by decide)) hR.x rfl 1 (by decide) (hts (.fieldLink RX6 31 "LayerMoisture" "boards" "[LLayerMoisture$Board;") (by decide +kernel)) (fun _ h9 => h9) (v := .ref (ad 1)) rfl dX6_boardsThere_14 ?_
      refine lv_iload_n hx hb dX6_boardsThere_17 rfl (lv_at hl 2 rfl) ?_
      refine wld_q5 hx hb hw (hC.m (by decide)) hR.bs i hlt hC.nb31 rfl dX6_boardsThere_18 (hC.2.2.2.2.1 i hlt) ?_
      refine wg (C := RX1) (T := TX1) (N := 7) hx hb hts hi1 hown hw (hC.mb hlt) (hR.brd hlt) rfl 2 (by decide) (hts (.fieldLink RX6 201 "LayerMoisture$Board" "there" "Z") (by decide +kernel)) (fun _ h9 => h9) (v := .int ((bd i).1)) rfl dX6_boardsThere_19 ?_
      refine lv_if_eq (tgt := 28) hx hb dX6_boardsThere_22 (by decide) (fun c22 => ?_) (fun c22 => ?_)
      · have e9 : cntTh bd (i + 1) = cntTh bd i := by rw [cntTh, if_pos c22]
        refine lv_iinc (v := nI (i + 1)) (lv' := [(2, .int (nI (i + 1))), (0, .ref (ad 0)), (1, .int (nI (cntTh bd i)))]) hx hb dX6_boardsThere_28 hl (k := 2) rfl (nI_1 i) (by decide) rfl (fun ls hl => ?_)
        refine lv_goto (tgt := 4) hx hb dX6_boardsThere_31 (by decide) ?_
        exact ih (i + 1) (by omega) ls (by rw [e9]; exact lv_sub hl [1, 2, 0] rfl)
      · have e9 : cntTh bd (i + 1) = cntTh bd i + 1 := by rw [cntTh, if_neg c22]
        refine lv_iinc (v := nI (cntTh bd i + 1)) (lv' := [(1, .int (nI (cntTh bd i + 1))), (0, .ref (ad 0)), (2, .int (nI i))]) hx hb dX6_boardsThere_25 hl (k := 1) rfl (nI_1 _) (by decide) rfl (fun ls hl => ?_)
        refine lv_iinc (v := nI (i + 1)) (lv' := [(2, .int (nI (i + 1))), (1, .int (nI (cntTh bd i + 1))), (0, .ref (ad 0))]) hx hb dX6_boardsThere_28 hl (k := 2) rfl (nI_1 i) (by decide) rfl (fun ls hl => ?_)
        refine lv_goto (tgt := 4) hx hb dX6_boardsThere_31 (by decide) ?_
        exact ih (i + 1) (by omega) ls (by rw [e9]; exact lv_sub hl [2, 1, 0] rfl)
  exact loop nb 0 (by omega) ls (lv_sub hl [2, 1, 0] rfl)

set_option maxHeartbeats 4000000 in
set_option maxRecDepth 100000 in
theorem c_X6_isAnyWetterThan (l : Launch) (G : va_G) (dA : Nat → ClassId) (L : List Nat) (f : Nat → va_E) (ad : Nat → Nat) (n nb : Nat) (q qk : Nat → Option Nat) (ai : sA) (le : sL) (bd : Nat → sB) (wt : Nat → Nat → UInt64) (kk : Nat → UInt64 × UInt64) (tt : sT) (pn : sP) (hr : Nat) (f0 : Nat → va_E) (x : UInt64)  (hC : Cx ad L n nb q qk) (hR : RC ad dA n nb q qk ai le bd wt kk tt pn hr f0 f) (K : Nat) (hK : KOk K) (hB : GB n nb K bd wt)  : mI l yX6_isAnyWetterThan wsX6_isAnyWetterThan ({ frames := 1, cells := 0, slots := 0, locals := 23 }) G dA [.ref (ad 0), .double x] L f (fun r f2 => r = b2i (anyF (wtP bd wt n x) nb 0) ∧ f2 = f) := by
  refine mI_of (cc := cX6_isAnyWetterThan) (maxL := 4) (by decide) rfl (Nat.le_of_ble_eq_true rfl) ?_
  intro p e s m below meth c A ls Q hx hb hml hown hts hlocks hA hin0 hw hl hret
  have hown : s.vm.findClass RX6 = some m.cls := hown
  have hl : lv_has ls 4 [(0, .ref (ad 0)), (1, .double x)] := hl
  have hi1 : ∀ w ∈ u_ws RX1 TX1 7, w ∈ wsX6_isAnyWetterThan := by decide +kernel
  have hi6 : ∀ w ∈ u_ws RX6 TX6 8, w ∈ wsX6_isAnyWetterThan := by decide +kernel
  refine lv_iconst (v := 0) hx hb dX6_isAnyWetterThan_0 (by decide) ?_
  refine lv_istore_n (lv' := [(3, .int 0), (0, .ref (ad 0)), (1, .double x)]) hx hb dX6_isAnyWetterThan_1 rfl hl (by decide) rfl (fun ls hl => ?_)
  have loop : ∀ (kf i : Nat), i + kf = nb → anyF (wtP bd wt n x) nb 0 = anyF (wtP bd wt n x) kf i → ∀ (H : Heap) (locs : List Loc), ww G dA A s L f H locs → ∀ (ls : Array Slot), lv_has ls 4 [(0, .ref (ad 0)), (1, .double x), (3, .int (nI i))] → W p l e ({ frames := 1, cells := 0, slots := 0, locals := 23 } : Room) s m ([.ref (ad 0), .double x] : List Value).toArray below meth c H locs 0 0 Q (F0 m 2 ls []) := by
    intro kf
    induction kf with
    | zero =>
      intro i hik hG H locs hw ls hl
      rw [show i = nb by omega] at hl
      have e9 : anyF (wtP bd wt n x) nb 0 = false := hG
      refine lv_iload_n hx hb dX6_isAnyWetterThan_2 rfl (lv_at hl 2 rfl) ?_
      refine lv_aload_n hx hb dX6_isAnyWetterThan_3 rfl (lv_at hl 0 rfl) ?_
      refine wg (C := RX6) (T := TX6) (N := 8) hx hb hts hi6 hown hw (hC.m (by decide)) hR.x rfl 1 (by decide) (hts (.fieldLink RX6 31 "LayerMoisture" "boards" "[LLayerMoisture$Board;") (by decide +kernel)) (fun _ h9 => h9) (v := .ref (ad 1)) rfl dX6_isAnyWetterThan_4 ?_
      refine wlen hx hb 5 hw (hC.m (by decide)) hR.bs rfl dX6_isAnyWetterThan_7 ?_
      refine lv_icmp_ge (tgt := 45) hx hb dX6_isAnyWetterThan_8 (by decide) (fun _ => ?_) (fun c9 => absurd (nI_le (Nat.le_refl _) hC.nb31) c9)
      refine lv_iconst (v := 0) hx hb dX6_isAnyWetterThan_45 (by decide) ?_
      exact hret _ _ _ _ _ _ hw ⟨by rw [e9]; rfl, rfl⟩ (by decide) dX6_isAnyWetterThan_46
    | succ kf ih =>
      intro i hik hG H locs hw ls hl
      have hlt : i < nb := by omega
      refine lv_iload_n hx hb dX6_isAnyWetterThan_2 rfl (lv_at hl 2 rfl) ?_
      refine lv_aload_n hx hb dX6_isAnyWetterThan_3 rfl (lv_at hl 0 rfl) ?_
      refine wg (C := RX6) (T := TX6) (N := 8) hx hb hts hi6 hown hw (hC.m (by decide)) hR.x rfl 1 (by decide) (hts (.fieldLink RX6 31 "LayerMoisture" "boards" "[LLayerMoisture$Board;") (by decide +kernel)) (fun _ h9 => h9) (v := .ref (ad 1)) rfl dX6_isAnyWetterThan_4 ?_
      refine wlen hx hb 5 hw (hC.m (by decide)) hR.bs rfl dX6_isAnyWetterThan_7 ?_
      refine lv_icmp_ge (tgt := 45) hx hb dX6_isAnyWetterThan_8 (by decide) (fun c9 => absurd c9 (nI_ge hlt hC.nb31)) (fun _ => ?_)
      refine lv_aload_n hx hb dX6_isAnyWetterThan_11 rfl (lv_at hl 0 rfl) ?_
      refine wg (C := RX6) (T := TX6) (N := 8) hx hb hts hi6 hown hw (hC.m (by decide)) hR.x rfl 1 (by decide) (hts (.fieldLink RX6 31 "LayerMoisture" "boards" "[LLayerMoisture$Board;") (by decide +kernel)) (fun _ h9 => h9) (v := .ref (ad 1)) rfl dX6_isAnyWetterThan_12 ?_
      refine lv_iload_n hx hb dX6_isAnyWetterThan_15 rfl (lv_at hl 2 rfl) ?_
      refine wld_q5 hx hb hw (hC.m (by decide)) hR.bs i hlt hC.nb31 rfl dX6_isAnyWetterThan_16 (hC.2.2.2.2.1 i hlt) ?_
      refine wg (C := RX1) (T := TX1) (N := 7) hx hb hts hi1 hown hw (hC.mb hlt) (hR.brd hlt) rfl 2 (by decide) (hts (.fieldLink RX6 201 "LayerMoisture$Board" "there" "Z") (by decide +kernel)) (fun _ h9 => h9) (v := .int ((bd i).1)) rfl dX6_isAnyWetterThan_17 ?_
      refine lv_if_eq (tgt := 39) hx hb dX6_isAnyWetterThan_20 (by decide) (fun c20 => ?_) (fun c20 => ?_)
      · have q9 : wtP bd wt n x i = false := by unfold wtP; rw [decide_eq_true c20]; rfl
        refine lv_iinc (v := nI (i + 1)) (lv' := [(3, .int (nI (i + 1))), (0, .ref (ad 0)), (1, .double x)]) hx hb dX6_isAnyWetterThan_39 hl (k := 2) rfl (nI_1 i) (by decide) rfl (fun ls hl => ?_)
        refine lv_goto (tgt := 2) hx hb dX6_isAnyWetterThan_42 (by decide) ?_
        exact ih (i + 1) (by omega) (by rw [hG, anyF, q9]; rfl) _ _ hw ls (lv_sub hl [1, 2, 0] rfl)
      · have hz := ((hB i hlt).2 c20).2.np hK
        refine lv_aload_n hx hb dX6_isAnyWetterThan_23 rfl (lv_at hl 0 rfl) ?_
        refine wg (C := RX6) (T := TX6) (N := 8) hx hb hts hi6 hown hw (hC.m (by decide)) hR.x rfl 1 (by decide) (hts (.fieldLink RX6 31 "LayerMoisture" "boards" "[LLayerMoisture$Board;") (by decide +kernel)) (fun _ h9 => h9) (v := .ref (ad 1)) rfl dX6_isAnyWetterThan_24 ?_
        refine lv_iload_n hx hb dX6_isAnyWetterThan_27 rfl (lv_at hl 2 rfl) ?_
        refine wld_q5 hx hb hw (hC.m (by decide)) hR.bs i hlt hC.nb31 rfl dX6_isAnyWetterThan_28 (hC.2.2.2.2.1 i hlt) ?_
        refine kV_D (C := RX1) (T := TX1) (N := 7) (As := []) (rest := []) ⟨hx, hb, hml, hown, hts⟩ (d_mean l G dA L f (ad (34 + 2 * i)) (ad (35 + 2 * i)) (ad (12 + (bd i).2.2.2.2.2)) (bd i).1 (bd i).2.2.1 (bd i).2.2.2.2.1 (bd i).2.1 (bd i).2.2.2.1 n (wt i) (hC.mb hlt) (hR.brd hlt) (hC.mw hlt) (hR.wet hlt) hC.2.2.1.1 hC.2.2.1.2 hz) (cwV 0 hts gX6_isAnyWetterThan_X1_meanWetness rfl rfl rfl (by decide +kernel) ⟨Nat.le_of_ble_eq_true rfl, Nat.le_of_ble_eq_true rfl⟩) hw hA (hC.mb hlt) (hR.brd hlt) rfl rfl hl.1 rfl (Nat.le_of_ble_eq_true rfl) dX6_isAnyWetterThan_29 ⟨Nat.zero_le _, Nat.zero_le _⟩ (fun r2 f1 H locs hp hw => ?_)
        obtain ⟨e1, e2⟩ := hp
        rw [e2] at hw
        rw [e1]
        refine lv_dload_n hx hb dX6_isAnyWetterThan_32 rfl (lv_at hl 1 rfl) ?_
        refine lv_dcmp hx hb dX6_isAnyWetterThan_33 ?_
        refine lv_if_le (tgt := 39) hx hb dX6_isAnyWetterThan_34 (by decide) (fun c34 => ?_) (fun c34 => ?_)
        · have q9 : wtP bd wt n x i = false := by unfold wtP; rw [decide_eq_false (cmp_le c34), Bool.and_false]
          refine lv_iinc (v := nI (i + 1)) (lv' := [(3, .int (nI (i + 1))), (0, .ref (ad 0)), (1, .double x)]) hx hb dX6_isAnyWetterThan_39 hl (k := 2) rfl (nI_1 i) (by decide) rfl (fun ls hl => ?_)
          refine lv_goto (tgt := 2) hx hb dX6_isAnyWetterThan_42 (by decide) ?_
          exact ih (i + 1) (by omega) (by rw [hG, anyF, q9]; rfl) _ _ hw ls (lv_sub hl [1, 2, 0] rfl)
        · have e9 : anyF (wtP bd wt n x) nb 0 = true := by rw [hG, anyF]; unfold wtP; rw [decide_eq_false c20, decide_eq_true (cmp_nle c34)]; rfl
          refine lv_iconst (v := 1) hx hb dX6_isAnyWetterThan_37 (by decide) ?_
          exact hret _ _ _ _ _ _ hw ⟨by rw [e9]; rfl, rfl⟩ (by decide) dX6_isAnyWetterThan_38
  exact loop nb 0 (by omega) rfl _ _ hw ls (lv_sub hl [1, 2, 0] rfl)

set_option maxHeartbeats 4000000 in
set_option maxRecDepth 100000 in
theorem c_X6_isRefused (l : Launch) (G : va_G) (dA : Nat → ClassId) (L : List Nat) (f : Nat → va_E) (ad : Nat → Nat) (n nb : Nat) (q qk : Nat → Option Nat) (ai : sA) (le : sL) (bd : Nat → sB) (wt : Nat → Nat → UInt64) (kk : Nat → UInt64 × UInt64) (tt : sT) (pn : sP) (hr : Nat) (f0 : Nat → va_E)   (hC : Cx ad L n nb q qk) (hR : RC ad dA n nb q qk ai le bd wt kk tt pn hr f0 f) (K : Nat) (hK : KOk K) (hB : GB n nb K bd wt) (hk4 : GK kk) (hs : Np (2 ^ 1078) ai.2.2.1)  : mI l yX6_isRefused wsX6_isRefused ({ frames := 2, cells := 0, slots := 0, locals := 45 }) G dA [.ref (ad 0)] L f (fun r f2 => r = b2i (anyF (rfP bd wt kk ai.2.2.1 n) nb 0) ∧ f2 = f) := by
  refine mI_of (cc := cX6_isRefused) (maxL := 2) (by decide) rfl (Nat.le_of_ble_eq_true rfl) ?_
  intro p e s m below meth c A ls Q hx hb hml hown hts hlocks hA hin0 hw hl hret
  have hown : s.vm.findClass RX6 = some m.cls := hown
  have hl : lv_has ls 2 [(0, .ref (ad 0))] := hl
  have hi0 : ∀ w ∈ u_ws RX0 TX0 4, w ∈ wsX6_isRefused := by decide +kernel
  have hi1 : ∀ w ∈ u_ws RX1 TX1 7, w ∈ wsX6_isRefused := by decide +kernel
  have hi6 : ∀ w ∈ u_ws RX6 TX6 8, w ∈ wsX6_isRefused := by decide +kernel
  refine lv_iconst (v := 0) hx hb dX6_isRefused_0 (by decide) ?_
  refine lv_istore_n (lv' := [(1, .int 0), (0, .ref (ad 0))]) hx hb dX6_isRefused_1 rfl hl (by decide) rfl (fun ls hl => ?_)
  have loop : ∀ (kf i : Nat), i + kf = nb → anyF (rfP bd wt kk ai.2.2.1 n) nb 0 = anyF (rfP bd wt kk ai.2.2.1 n) kf i → ∀ (H : Heap) (locs : List Loc), ww G dA A s L f H locs → ∀ (ls : Array Slot), lv_has ls 2 [(0, .ref (ad 0)), (1, .int (nI i))] → W p l e ({ frames := 2, cells := 0, slots := 0, locals := 45 } : Room) s m ([.ref (ad 0)] : List Value).toArray below meth c H locs 0 0 Q (F0 m 2 ls []) := by
    intro kf
    induction kf with
    | zero =>
      intro i hik hG H locs hw ls hl
      rw [show i = nb by omega] at hl
      have e9 : anyF (rfP bd wt kk ai.2.2.1 n) nb 0 = false := hG
      refine lv_iload_n hx hb dX6_isRefused_2 rfl (lv_at hl 1 rfl) ?_
      refine lv_aload_n hx hb dX6_isRefused_3 rfl (lv_at hl 0 rfl) ?_
      refine wg (C := RX6) (T := TX6) (N := 8) hx hb hts hi6 hown hw (hC.m (by decide)) hR.x rfl 1 (by decide) (hts (.fieldLink RX6 31 "LayerMoisture" "boards" "[LLayerMoisture$Board;") (by decide +kernel)) (fun _ h9 => h9) (v := .ref (ad 1)) rfl dX6_isRefused_4 ?_
      refine wlen hx hb 5 hw (hC.m (by decide)) hR.bs rfl dX6_isRefused_7 ?_
      refine lv_icmp_ge (tgt := 50) hx hb dX6_isRefused_8 (by decide) (fun _ => ?_) (fun c9 => absurd (nI_le (Nat.le_refl _) hC.nb31) c9)
      refine lv_iconst (v := 0) hx hb dX6_isRefused_50 (by decide) ?_
      exact hret _ _ _ _ _ _ hw ⟨by rw [e9]; rfl, rfl⟩ (by decide) dX6_isRefused_51
    | succ kf ih =>
      intro i hik hG H locs hw ls hl
      have hlt : i < nb := by omega
      refine lv_iload_n hx hb dX6_isRefused_2 rfl (lv_at hl 1 rfl) ?_
      refine lv_aload_n hx hb dX6_isRefused_3 rfl (lv_at hl 0 rfl) ?_
      refine wg (C := RX6) (T := TX6) (N := 8) hx hb hts hi6 hown hw (hC.m (by decide)) hR.x rfl 1 (by decide) (hts (.fieldLink RX6 31 "LayerMoisture" "boards" "[LLayerMoisture$Board;") (by decide +kernel)) (fun _ h9 => h9) (v := .ref (ad 1)) rfl dX6_isRefused_4 ?_
      refine wlen hx hb 5 hw (hC.m (by decide)) hR.bs rfl dX6_isRefused_7 ?_
      refine lv_icmp_ge (tgt := 50) hx hb dX6_isRefused_8 (by decide) (fun c9 => absurd c9 (nI_ge hlt hC.nb31)) (fun _ => ?_)
      refine lv_aload_n hx hb dX6_isRefused_11 rfl (lv_at hl 0 rfl) ?_
      refine wg (C := RX6) (T := TX6) (N := 8) hx hb hts hi6 hown hw (hC.m (by decide)) hR.x rfl 1 (by decide) (hts (.fieldLink RX6 31 "LayerMoisture" "boards" "[LLayerMoisture$Board;") (by decide +kernel)) (fun _ h9 => h9) (v := .ref (ad 1)) rfl dX6_isRefused_12 ?_
      refine lv_iload_n hx hb dX6_isRefused_15 rfl (lv_at hl 1 rfl) ?_
      refine wld_q5 hx hb hw (hC.m (by decide)) hR.bs i hlt hC.nb31 rfl dX6_isRefused_16 (hC.2.2.2.2.1 i hlt) ?_
      refine wg (C := RX1) (T := TX1) (N := 7) hx hb hts hi1 hown hw (hC.mb hlt) (hR.brd hlt) rfl 2 (by decide) (hts (.fieldLink RX6 201 "LayerMoisture$Board" "there" "Z") (by decide +kernel)) (fun _ h9 => h9) (v := .int ((bd i).1)) rfl dX6_isRefused_17 ?_
      refine lv_if_eq (tgt := 44) hx hb dX6_isRefused_20 (by decide) (fun c20 => ?_) (fun c20 => ?_)
      · have q9 : rfP bd wt kk ai.2.2.1 n i = false := by unfold rfP; rw [decide_eq_true c20]; rfl
        refine lv_iinc (v := nI (i + 1)) (lv' := [(1, .int (nI (i + 1))), (0, .ref (ad 0))]) hx hb dX6_isRefused_44 hl (k := 1) rfl (nI_1 i) (by decide) rfl (fun ls hl => ?_)
        refine lv_goto (tgt := 2) hx hb dX6_isRefused_47 (by decide) ?_
        exact ih (i + 1) (by omega) (by rw [hG, anyF, q9]; rfl) _ _ hw ls (lv_sub hl [1, 0] rfl)
      · obtain ⟨hd, hg⟩ := (hB i hlt).2 c20
        have hk := hk4 _ (hB i hlt).1
        refine lv_aload_n hx hb dX6_isRefused_23 rfl (lv_at hl 0 rfl) ?_
        refine wg (C := RX6) (T := TX6) (N := 8) hx hb hts hi6 hown hw (hC.m (by decide)) hR.x rfl 1 (by decide) (hts (.fieldLink RX6 31 "LayerMoisture" "boards" "[LLayerMoisture$Board;") (by decide +kernel)) (fun _ h9 => h9) (v := .ref (ad 1)) rfl dX6_isRefused_24 ?_
        refine lv_iload_n hx hb dX6_isRefused_27 rfl (lv_at hl 1 rfl) ?_
        refine wld_q5 hx hb hw (hC.m (by decide)) hR.bs i hlt hC.nb31 rfl dX6_isRefused_28 (hC.2.2.2.2.1 i hlt) ?_
        refine lv_aload_n hx hb dX6_isRefused_29 rfl (lv_at hl 0 rfl) ?_
        refine wg (C := RX6) (T := TX6) (N := 8) hx hb hts hi6 hown hw (hC.m (by decide)) hR.x rfl 3 (by decide) (hts (.fieldLink RX6 41 "LayerMoisture" "state" "LLayerMoisture$Air;") (by decide +kernel)) (fun _ h9 => h9) (v := .ref (ad 3)) rfl dX6_isRefused_30 ?_
        refine wg (C := RX0) (T := TX0) (N := 4) hx hb hts hi0 hown hw (hC.m (by decide)) hR.air rfl 2 (by decide) (hts (.fieldLink RX6 105 "LayerMoisture$Air" "speed" "D") (by decide +kernel)) (fun _ h9 => h9) (v := .double ai.2.2.1) rfl dX6_isRefused_33 ?_
        refine kV_I (C := RX1) (T := TX1) (N := 7) (As := [.double ai.2.2.1]) (rest := []) ⟨hx, hb, hml, hown, hts⟩ (d_refuses l G dA L f (ad (34 + 2 * i)) (ad (35 + 2 * i)) (ad (12 + (bd i).2.2.2.2.2)) (bd i).1 (bd i).2.2.1 (bd i).2.2.2.2.1 (bd i).2.1 (bd i).2.2.2.1 n K (wt i) ai.2.2.1 (kk (bd i).2.2.2.2.2).1 (kk (bd i).2.2.2.2.2).2 (hC.mb hlt) (hR.brd hlt) (hC.mw hlt) (hR.wet hlt) (hC.mk (hB i hlt).1) (hR.kd (hB i hlt).1) hC.2.2.1.2 hK hs hk.1 hk.2 hd hg) (cwV 1 hts gX6_isRefused_X1_refuses rfl rfl rfl (by decide +kernel) ⟨Nat.le_of_ble_eq_true rfl, Nat.le_of_ble_eq_true rfl⟩) hw hA (hC.mb hlt) (hR.brd hlt) rfl rfl hl.1 rfl (Nat.le_of_ble_eq_true rfl) dX6_isRefused_36 ⟨Nat.zero_le _, Nat.zero_le _⟩ (fun r2 f1 H locs hp hw => ?_)
        obtain ⟨e1, e2⟩ := hp
        rw [e2] at hw
        rw [e1]
        refine lv_if_eq (tgt := 44) hx hb dX6_isRefused_39 (by decide) (fun c39 => ?_) (fun c39 => ?_)
        · have q9 : rfP bd wt kk ai.2.2.1 n i = false := by unfold rfP; rw [show sp_ref ai.2.2.1 (bd i).2.1 (kk (bd i).2.2.2.2.2).1 (kk (bd i).2.2.2.2.2).2 (maxD (wt i) n) = false from (by cases h7 : sp_ref ai.2.2.1 (bd i).2.1 (kk (bd i).2.2.2.2.2).1 (kk (bd i).2.2.2.2.2).2 (maxD (wt i) n) with | false => rfl | true => rw [h7] at c39; exact absurd c39 (by decide)), Bool.and_false]
          refine lv_iinc (v := nI (i + 1)) (lv' := [(1, .int (nI (i + 1))), (0, .ref (ad 0))]) hx hb dX6_isRefused_44 hl (k := 1) rfl (nI_1 i) (by decide) rfl (fun ls hl => ?_)
          refine lv_goto (tgt := 2) hx hb dX6_isRefused_47 (by decide) ?_
          exact ih (i + 1) (by omega) (by rw [hG, anyF, q9]; rfl) _ _ hw ls (lv_sub hl [1, 0] rfl)
        · have e9 : anyF (rfP bd wt kk ai.2.2.1 n) nb 0 = true := by rw [hG, anyF]; unfold rfP; rw [decide_eq_false c20, show sp_ref ai.2.2.1 (bd i).2.1 (kk (bd i).2.2.2.2.2).1 (kk (bd i).2.2.2.2.2).2 (maxD (wt i) n) = true from (by cases h7 : sp_ref ai.2.2.1 (bd i).2.1 (kk (bd i).2.2.2.2.2).1 (kk (bd i).2.2.2.2.2).2 (maxD (wt i) n) with | true => rfl | false => rw [h7] at c39; exact absurd rfl c39)]; rfl
          refine lv_iconst (v := 1) hx hb dX6_isRefused_42 (by decide) ?_
          exact hret _ _ _ _ _ _ hw ⟨by rw [e9]; rfl, rfl⟩ (by decide) dX6_isRefused_43
  exact loop nb 0 (by omega) rfl _ _ hw ls (lv_sub hl [1, 0] rfl)

set_option maxHeartbeats 4000000 in
set_option maxRecDepth 100000 in
theorem c_X6_isStepDue (l : Launch) (G : va_G) (dA : Nat → ClassId) (L : List Nat) (f : Nat → va_E) (ad : Nat → Nat) (n nb : Nat) (q qk : Nat → Option Nat) (ai : sA) (le : sL) (bd : Nat → sB) (wt : Nat → Nat → UInt64) (kk : Nat → UInt64 × UInt64) (tt : sT) (pn : sP) (hr : Nat) (f0 : Nat → va_E)   (hC : Cx ad L n nb q qk) (hR : RC ad dA n nb q qk ai le bd wt kk tt pn hr f0 f) (K : Nat) (hK : KOk K) (hB : GB n nb K bd wt) (h12 : pn.2.1 < 12) (hnn : vf_n64 (FP.ddiv (FP.i2d (pn.2.2.2.1 pn.2.1)) 4636737291354636288))  : mI l yX6_isStepDue wsX6_isStepDue ({ frames := 2, cells := 0, slots := 0, locals := 46 }) G dA [.ref (ad 0), .int (nI pn.2.1)] L f (fun r f2 => r = b2i (dueS n nb bd wt pn hr) ∧ f2 = f) := by
  refine mI_of (cc := cX6_isStepDue) (maxL := 2) (by decide) rfl (Nat.le_of_ble_eq_true rfl) ?_
  intro p e s m below meth c A ls Q hx hb hml hown hts hlocks hA hin0 hw hl hret
  have hown : s.vm.findClass RX6 = some m.cls := hown
  have hl : lv_has ls 2 [(0, .ref (ad 0)), (1, .int (nI pn.2.1))] := hl
  have hi4 : ∀ w ∈ u_ws RX4 TX4 6, w ∈ wsX6_isStepDue := by decide +kernel
  have hi6 : ∀ w ∈ u_ws RX6 TX6 8, w ∈ wsX6_isStepDue := by decide +kernel
  refine lv_aload_n hx hb dX6_isStepDue_0 rfl (lv_at hl 0 rfl) ?_
  refine wg (C := RX6) (T := TX6) (N := 8) hx hb hts hi6 hown hw (hC.m (by decide)) hR.x rfl 6 (by decide) (hts (.fieldLink RX6 62 "LayerMoisture" "plan" "LLayerMoisture$Plan;") (by decide +kernel)) (fun _ h9 => h9) (v := .ref (ad 7)) rfl dX6_isStepDue_1 ?_
  refine wg (C := RX4) (T := TX4) (N := 6) hx hb hts hi4 hown hw (hC.m (by decide)) hR.pln rfl 0 (by decide) (hts (.fieldLink RX6 247 "LayerMoisture$Plan" "byHours" "[Z") (by decide +kernel)) (fun _ h9 => h9) (v := .ref (ad 8)) rfl dX6_isStepDue_4 ?_
  refine lv_iload_n hx hb dX6_isStepDue_7 rfl (lv_at hl 1 rfl) ?_
  refine wld_z hx hb hw (hC.m (by decide)) hR.pB pn.2.1 h12 (by decide) rfl dX6_isStepDue_8 ?_
  refine lv_if_eq (tgt := 34) hx hb dX6_isStepDue_9 (by decide) (fun c9 => ?_) (fun c9 => ?_)
  · refine lv_aload_n hx hb dX6_isStepDue_34 rfl (lv_at hl 0 rfl) ?_
    refine kV_I (C := RX6) (T := TX6) (N := 8) (As := []) (rest := []) ⟨hx, hb, hml, hown, hts⟩ (c_X6_boardsThere l G dA L f ad n nb q qk ai le bd wt kk tt pn hr f0 hC hR) (cwV 0 hts gX6_isStepDue_X6_boardsThere rfl rfl rfl (by decide +kernel) ⟨Nat.le_of_ble_eq_true rfl, Nat.le_of_ble_eq_true rfl⟩) hw hA (hC.m (by decide)) hR.x rfl rfl hl.1 rfl (Nat.le_of_ble_eq_true rfl) dX6_isStepDue_35 ⟨Nat.zero_le _, Nat.zero_le _⟩ (fun r2 f1 H locs hp hw => ?_)
    obtain ⟨e1, e2⟩ := hp
    rw [e2] at hw
    rw [e1]
    refine lv_if_le (tgt := 66) hx hb dX6_isStepDue_38 (by decide) (fun c38 => ?_) (fun c38 => ?_)
    · have e9 : dueS n nb bd wt pn hr = false := by unfold dueS; rw [if_pos c9, decide_eq_false (fun h7 => Int32.not_lt.mpr c38 (nI_lt (a := 0) h7 (by have := cntTh_le bd nb; have := hC.2.2.2.1; omega)))]; rfl
      refine lv_iconst (v := 0) hx hb dX6_isStepDue_66 (by decide) ?_
      exact hret _ _ _ _ _ _ hw ⟨by rw [e9]; rfl, rfl⟩ (by decide) dX6_isStepDue_67
    · have h0 : 0 < cntTh bd nb := Nat.pos_of_ne_zero fun h7 => c38 (by rw [h7]; decide)
      refine lv_aload_n hx hb dX6_isStepDue_41 rfl (lv_at hl 0 rfl) ?_
      refine lv_aload_n hx hb dX6_isStepDue_42 rfl (lv_at hl 0 rfl) ?_
      refine wg (C := RX6) (T := TX6) (N := 8) hx hb hts hi6 hown hw (hC.m (by decide)) hR.x rfl 6 (by decide) (hts (.fieldLink RX6 62 "LayerMoisture" "plan" "LLayerMoisture$Plan;") (by decide +kernel)) (fun _ h9 => h9) (v := .ref (ad 7)) rfl dX6_isStepDue_43 ?_
      refine wg (C := RX4) (T := TX4) (N := 6) hx hb hts hi4 hown hw (hC.m (by decide)) hR.pln rfl 1 (by decide) (hts (.fieldLink RX6 251 "LayerMoisture$Plan" "times" "[I") (by decide +kernel)) (fun _ h9 => h9) (v := .ref (ad 9)) rfl dX6_isStepDue_46 ?_
      refine lv_iload_n hx hb dX6_isStepDue_49 rfl (lv_at hl 1 rfl) ?_
      refine wld_i hx hb hw (hC.m (by decide)) hR.pT pn.2.1 h12 (by decide) rfl dX6_isStepDue_50 ?_
      refine lv_i2d hx hb dX6_isStepDue_51 ?_
      refine lv_ldc2d (v := 4636737291354636288) hx hb hown (hts (.constantDouble RX6 245 (4636737291354636288)) (by decide +kernel)) dX6_isStepDue_52 ?_
      refine lv_ddiv hx hb dX6_isStepDue_55 hnn ?_
      refine kV_I (C := RX6) (T := TX6) (N := 8) (As := [.double (FP.ddiv (FP.i2d (pn.2.2.2.1 pn.2.1)) 4636737291354636288)]) (rest := []) ⟨hx, hb, hml, hown, hts⟩ (c_X6_isAnyWetterThan l G dA L f ad n nb q qk ai le bd wt kk tt pn hr f0 (FP.ddiv (FP.i2d (pn.2.2.2.1 pn.2.1)) 4636737291354636288) hC hR K hK hB) (cwV 1 hts gX6_isStepDue_X6_isAnyWetterThan rfl rfl rfl (by decide +kernel) ⟨Nat.le_of_ble_eq_true rfl, Nat.le_of_ble_eq_true rfl⟩) hw hA (hC.m (by decide)) hR.x rfl rfl hl.1 rfl (Nat.le_of_ble_eq_true rfl) dX6_isStepDue_56 ⟨Nat.zero_le _, Nat.zero_le _⟩ (fun r4 f3 H locs hp hw => ?_)
      obtain ⟨e1, e2⟩ := hp
      rw [e2] at hw
      rw [e1]
      refine lv_if_ne (tgt := 66) hx hb dX6_isStepDue_59 (by decide) (fun c59 => ?_) (fun c59 => ?_)
      · have e9 : dueS n nb bd wt pn hr = false := by unfold dueS; rw [if_pos c9, show anyF (wtP bd wt n (FP.ddiv (FP.i2d (pn.2.2.2.1 pn.2.1)) 4636737291354636288)) nb 0 = true from (by cases h7 : anyF (wtP bd wt n (FP.ddiv (FP.i2d (pn.2.2.2.1 pn.2.1)) 4636737291354636288)) nb 0 with | true => rfl | false => rw [h7] at c59; exact absurd rfl c59), Bool.not_true, Bool.and_false]
        refine lv_iconst (v := 0) hx hb dX6_isStepDue_66 (by decide) ?_
        exact hret _ _ _ _ _ _ hw ⟨by rw [e9]; rfl, rfl⟩ (by decide) dX6_isStepDue_67
      · have e9 : dueS n nb bd wt pn hr = true := by unfold dueS; rw [if_pos c9, decide_eq_true h0, show anyF (wtP bd wt n (FP.ddiv (FP.i2d (pn.2.2.2.1 pn.2.1)) 4636737291354636288)) nb 0 = false from (by cases h7 : anyF (wtP bd wt n (FP.ddiv (FP.i2d (pn.2.2.2.1 pn.2.1)) 4636737291354636288)) nb 0 with | false => rfl | true => rw [h7] at c59; exact absurd c59 (by decide))]; rfl
        refine lv_iconst (v := 1) hx hb dX6_isStepDue_62 (by decide) ?_
        refine lv_goto (tgt := 67) hx hb dX6_isStepDue_63 (by decide) ?_
        exact hret _ _ _ _ _ _ hw ⟨by rw [e9]; rfl, rfl⟩ (by decide) dX6_isStepDue_67
  · refine lv_aload_n hx hb dX6_isStepDue_12 rfl (lv_at hl 0 rfl) ?_
    refine wg (C := RX6) (T := TX6) (N := 8) hx hb hts hi6 hown hw (hC.m (by decide)) hR.x rfl 7 (by decide) (hts (.fieldLink RX6 142 "LayerMoisture" "hoursPassed" "I") (by decide +kernel)) (fun _ h9 => h9) (v := .int (nI hr)) rfl dX6_isStepDue_13 ?_
    refine lv_aload_n hx hb dX6_isStepDue_16 rfl (lv_at hl 0 rfl) ?_
    refine wg (C := RX6) (T := TX6) (N := 8) hx hb hts hi6 hown hw (hC.m (by decide)) hR.x rfl 6 (by decide) (hts (.fieldLink RX6 62 "LayerMoisture" "plan" "LLayerMoisture$Plan;") (by decide +kernel)) (fun _ h9 => h9) (v := .ref (ad 7)) rfl dX6_isStepDue_17 ?_
    refine wg (C := RX4) (T := TX4) (N := 6) hx hb hts hi4 hown hw (hC.m (by decide)) hR.pln rfl 1 (by decide) (hts (.fieldLink RX6 251 "LayerMoisture$Plan" "times" "[I") (by decide +kernel)) (fun _ h9 => h9) (v := .ref (ad 9)) rfl dX6_isStepDue_20 ?_
    refine lv_iload_n hx hb dX6_isStepDue_23 rfl (lv_at hl 1 rfl) ?_
    refine wld_i hx hb hw (hC.m (by decide)) hR.pT pn.2.1 h12 (by decide) rfl dX6_isStepDue_24 ?_
    refine lv_icmp_lt (tgt := 32) hx hb dX6_isStepDue_25 (by decide) (fun c25 => ?_) (fun c25 => ?_)
    · have e9 : dueS n nb bd wt pn hr = false := by unfold dueS; rw [if_neg c9, decide_eq_false (Int32.not_le.mpr c25)]
      refine lv_iconst (v := 0) hx hb dX6_isStepDue_32 (by decide) ?_
      exact hret _ _ _ _ _ _ hw ⟨by rw [e9]; rfl, rfl⟩ (by decide) dX6_isStepDue_33
    · have e9 : dueS n nb bd wt pn hr = true := by unfold dueS; rw [if_neg c9, decide_eq_true (Int32.not_lt.mp c25)]
      refine lv_iconst (v := 1) hx hb dX6_isStepDue_28 (by decide) ?_
      refine lv_goto (tgt := 33) hx hb dX6_isStepDue_29 (by decide) ?_
      exact hret _ _ _ _ _ _ hw ⟨by rw [e9]; rfl, rfl⟩ (by decide) dX6_isStepDue_33

set_option maxHeartbeats 4000000 in
set_option maxRecDepth 100000 in
theorem c_X6_followPlan (l : Launch) (G : va_G) (dA : Nat → ClassId) (L : List Nat) (f : Nat → va_E) (ad : Nat → Nat) (n nb : Nat) (q qk : Nat → Option Nat) (ai : sA) (le : sL) (bd : Nat → sB) (wt : Nat → Nat → UInt64) (kk : Nat → UInt64 × UInt64) (tt : sT) (pn : sP) (hr : Nat) (f0 : Nat → va_E)   (hC : Cx ad L n nb q qk) (hR : RC ad dA n nb q qk ai le bd wt kk tt pn hr f0 f) (K : Nat) (hK : KOk K) (hB : GB n nb K bd wt) (hP : GP pn)  : mV l yX6_followPlan wsX6_followPlan ({ frames := 3, cells := 0, slots := 0, locals := 67 }) G dA [.ref (ad 0)] L f (fun f2 => RC ad dA n nb q qk (flS n nb ai bd wt pn hr).1 le bd wt kk tt (flS n nb ai bd wt pn hr).2 hr f0 f2) := by
  refine mV_of (cc := cX6_followPlan) (maxL := 1) (by decide) rfl (Nat.le_of_ble_eq_true rfl) ?_
  intro p e s m below meth c A ls Q hx hb hml hown hts hlocks hA hin0 hw hl hret
  have hown : s.vm.findClass RX6 = some m.cls := hown
  have hl : lv_has ls 1 [(0, .ref (ad 0))] := hl
  have hi0 : ∀ w ∈ u_ws RX0 TX0 4, w ∈ wsX6_followPlan := by decide +kernel
  have hi4 : ∀ w ∈ u_ws RX4 TX4 6, w ∈ wsX6_followPlan := by decide +kernel
  have hi6 : ∀ w ∈ u_ws RX6 TX6 8, w ∈ wsX6_followPlan := by decide +kernel
  refine lv_aload_n hx hb dX6_followPlan_0 rfl (lv_at hl 0 rfl) ?_
  refine wg (C := RX6) (T := TX6) (N := 8) hx hb hts hi6 hown hw (hC.m (by decide)) hR.x rfl 6 (by decide) (hts (.fieldLink RX6 62 "LayerMoisture" "plan" "LLayerMoisture$Plan;") (by decide +kernel)) (fun _ h9 => h9) (v := .ref (ad 7)) rfl dX6_followPlan_1 ?_
  refine wg (C := RX4) (T := TX4) (N := 6) hx hb hts hi4 hown hw (hC.m (by decide)) hR.pln rfl 5 (by decide) (hts (.fieldLink RX6 186 "LayerMoisture$Plan" "done" "I") (by decide +kernel)) (fun _ h9 => h9) (v := .int (nI pn.2.1)) rfl dX6_followPlan_4 ?_
  refine lv_aload_n hx hb dX6_followPlan_7 rfl (lv_at hl 0 rfl) ?_
  refine wg (C := RX6) (T := TX6) (N := 8) hx hb hts hi6 hown hw (hC.m (by decide)) hR.x rfl 6 (by decide) (hts (.fieldLink RX6 62 "LayerMoisture" "plan" "LLayerMoisture$Plan;") (by decide +kernel)) (fun _ h9 => h9) (v := .ref (ad 7)) rfl dX6_followPlan_8 ?_
  refine wg (C := RX4) (T := TX4) (N := 6) hx hb hts hi4 hown hw (hC.m (by decide)) hR.pln rfl 4 (by decide) (hts (.fieldLink RX6 232 "LayerMoisture$Plan" "steps" "I") (by decide +kernel)) (fun _ h9 => h9) (v := .int (nI pn.1)) rfl dX6_followPlan_11 ?_
  refine lv_icmp_ge (tgt := 94) hx hb dX6_followPlan_14 (by decide) (fun c14 => ?_) (fun c14 => ?_)
  · have e9 : flS n nb ai bd wt pn hr = (ai, pn) := if_neg (fun h7 => Nat.not_le.mpr h7.1 ((nI_leI (by have := hP.2.1; omega) (by have := hP.1; have := hP.2.1; omega)).mp c14))
    exact hret _ _ _ _ _ hw (by rw [e9]; exact hR) dX6_followPlan_94
  · have h7 : pn.2.1 < pn.1 := Nat.lt_of_not_le fun h8 => c14 ((nI_leI (by have := hP.2.1; omega) (by have := hP.1; have := hP.2.1; omega)).mpr h8)
    have h12 := hP.2.1
    obtain ⟨-, ⟨d9, hd9, ed9⟩, x9, hx9, ex9⟩ := hP.2.2 _ h7
    have hnt := (g_div100 hx9).1
    rw [← ex9] at hnt
    have hnd := (g_div100 (x := d9) (by omega)).1
    rw [← ed9] at hnd
    refine lv_aload_n hx hb dX6_followPlan_17 rfl (lv_at hl 0 rfl) ?_
    refine lv_aload_n hx hb dX6_followPlan_18 rfl (lv_at hl 0 rfl) ?_
    refine wg (C := RX6) (T := TX6) (N := 8) hx hb hts hi6 hown hw (hC.m (by decide)) hR.x rfl 6 (by decide) (hts (.fieldLink RX6 62 "LayerMoisture" "plan" "LLayerMoisture$Plan;") (by decide +kernel)) (fun _ h9 => h9) (v := .ref (ad 7)) rfl dX6_followPlan_19 ?_
    refine wg (C := RX4) (T := TX4) (N := 6) hx hb hts hi4 hown hw (hC.m (by decide)) hR.pln rfl 5 (by decide) (hts (.fieldLink RX6 186 "LayerMoisture$Plan" "done" "I") (by decide +kernel)) (fun _ h9 => h9) (v := .int (nI pn.2.1)) rfl dX6_followPlan_22 ?_
    refine kV_I (C := RX6) (T := TX6) (N := 8) (As := [.int (nI pn.2.1)]) (rest := []) ⟨hx, hb, hml, hown, hts⟩ (c_X6_isStepDue l G dA L f ad n nb q qk ai le bd wt kk tt pn hr f0 hC hR K hK hB (by have := hP.2.1; omega) hnt) (cwV 1 hts gX6_followPlan_X6_isStepDue rfl rfl rfl (by decide +kernel) ⟨Nat.le_of_ble_eq_true rfl, Nat.le_of_ble_eq_true rfl⟩) hw hA (hC.m (by decide)) hR.x rfl rfl hl.1 rfl (Nat.le_of_ble_eq_true rfl) dX6_followPlan_25 ⟨Nat.zero_le _, Nat.zero_le _⟩ (fun r2 f1 H locs hp hw => ?_)
    obtain ⟨e1, e2⟩ := hp
    rw [e2] at hw
    rw [e1]
    refine lv_if_eq (tgt := 94) hx hb dX6_followPlan_28 (by decide) (fun c28 => ?_) (fun c28 => ?_)
    · have e9 : flS n nb ai bd wt pn hr = (ai, pn) := if_neg (fun h8 => by rw [h8.2] at c28; exact absurd c28 (by decide))
      exact hret _ _ _ _ _ hw (by rw [e9]; exact hR) dX6_followPlan_94
    · have e9 : flS n nb ai bd wt pn hr = ((FP.i2d (pn.2.2.2.2.1 pn.2.1), FP.ddiv (FP.i2d (pn.2.2.2.2.2 pn.2.1)) 4636737291354636288, ai.2.2.1, ai.2.2.2), (pn.1, pn.2.1 + 1, pn.2.2)) := if_pos ⟨h7, by cases h8 : dueS n nb bd wt pn hr with | true => rfl | false => rw [h8] at c28; exact absurd rfl c28⟩
      refine lv_aload_n hx hb dX6_followPlan_31 rfl (lv_at hl 0 rfl) ?_
      refine wg (C := RX6) (T := TX6) (N := 8) hx hb hts hi6 hown hw (hC.m (by decide)) hR.x rfl 3 (by decide) (hts (.fieldLink RX6 41 "LayerMoisture" "state" "LLayerMoisture$Air;") (by decide +kernel)) (fun _ h9 => h9) (v := .ref (ad 3)) rfl dX6_followPlan_32 ?_
      refine lv_aload_n hx hb dX6_followPlan_35 rfl (lv_at hl 0 rfl) ?_
      refine wg (C := RX6) (T := TX6) (N := 8) hx hb hts hi6 hown hw (hC.m (by decide)) hR.x rfl 6 (by decide) (hts (.fieldLink RX6 62 "LayerMoisture" "plan" "LLayerMoisture$Plan;") (by decide +kernel)) (fun _ h9 => h9) (v := .ref (ad 7)) rfl dX6_followPlan_36 ?_
      refine wg (C := RX4) (T := TX4) (N := 6) hx hb hts hi4 hown hw (hC.m (by decide)) hR.pln rfl 2 (by decide) (hts (.fieldLink RX6 238 "LayerMoisture$Plan" "kelvins" "[I") (by decide +kernel)) (fun _ h9 => h9) (v := .ref (ad 10)) rfl dX6_followPlan_39 ?_
      refine lv_aload_n hx hb dX6_followPlan_42 rfl (lv_at hl 0 rfl) ?_
      refine wg (C := RX6) (T := TX6) (N := 8) hx hb hts hi6 hown hw (hC.m (by decide)) hR.x rfl 6 (by decide) (hts (.fieldLink RX6 62 "LayerMoisture" "plan" "LLayerMoisture$Plan;") (by decide +kernel)) (fun _ h9 => h9) (v := .ref (ad 7)) rfl dX6_followPlan_43 ?_
      refine wg (C := RX4) (T := TX4) (N := 6) hx hb hts hi4 hown hw (hC.m (by decide)) hR.pln rfl 5 (by decide) (hts (.fieldLink RX6 186 "LayerMoisture$Plan" "done" "I") (by decide +kernel)) (fun _ h9 => h9) (v := .int (nI pn.2.1)) rfl dX6_followPlan_46 ?_
      refine wld_i hx hb hw (hC.m (by decide)) hR.pK pn.2.1 (by omega) (by decide) rfl dX6_followPlan_49 ?_
      refine lv_i2d hx hb dX6_followPlan_50 ?_
      refine wp_ (C := RX0) (T := TX0) (N := 4) hx hb hts hi0 tyX0 tyX0_ok nmX0 hown hw (hC.m (by decide)) hR.air rfl 0 (by decide) (hts (.fieldLink RX6 99 "LayerMoisture$Air" "kelvin" "D") (by decide +kernel)) (fun _ h9 => h9) rfl (ty := .double) (v := .double (FP.i2d (pn.2.2.2.2.1 pn.2.1))) (by decide +kernel) rfl rfl (Nat.le_of_ble_eq_true rfl) dX6_followPlan_51 (fun H locs hw => ?_)
      obtain ⟨f3, ef3⟩ : ∃ z : Nat → va_E, z = va_up f (ad 3) (.inr (1, [.double (FP.i2d (pn.2.2.2.2.1 pn.2.1)), .double ai.2.1, .double ai.2.2.1, .double ai.2.2.2])) := ⟨_, rfl⟩
      have hw : ww G dA A s L f3 H locs := by rw [ef3]; exact hw
      have hR4 : RC ad dA n nb q qk ((FP.i2d (pn.2.2.2.2.1 pn.2.1), ai.2.1, ai.2.2.1, ai.2.2.2)) le bd wt kk tt pn hr f0 f3 := by rw [ef3]; exact hR.sAir hC (FP.i2d (pn.2.2.2.2.1 pn.2.1), ai.2.1, ai.2.2.1, ai.2.2.2)
      refine lv_aload_n hx hb dX6_followPlan_54 rfl (lv_at hl 0 rfl) ?_
      refine wg (C := RX6) (T := TX6) (N := 8) hx hb hts hi6 hown hw (hC.m (by decide)) hR4.x rfl 3 (by decide) (hts (.fieldLink RX6 41 "LayerMoisture" "state" "LLayerMoisture$Air;") (by decide +kernel)) (fun _ h9 => h9) (v := .ref (ad 3)) rfl dX6_followPlan_55 ?_
      refine lv_aload_n hx hb dX6_followPlan_58 rfl (lv_at hl 0 rfl) ?_
      refine wg (C := RX6) (T := TX6) (N := 8) hx hb hts hi6 hown hw (hC.m (by decide)) hR4.x rfl 6 (by decide) (hts (.fieldLink RX6 62 "LayerMoisture" "plan" "LLayerMoisture$Plan;") (by decide +kernel)) (fun _ h9 => h9) (v := .ref (ad 7)) rfl dX6_followPlan_59 ?_
      refine wg (C := RX4) (T := TX4) (N := 6) hx hb hts hi4 hown hw (hC.m (by decide)) hR4.pln rfl 3 (by decide) (hts (.fieldLink RX6 242 "LayerMoisture$Plan" "damps" "[I") (by decide +kernel)) (fun _ h9 => h9) (v := .ref (ad 11)) rfl dX6_followPlan_62 ?_
      refine lv_aload_n hx hb dX6_followPlan_65 rfl (lv_at hl 0 rfl) ?_
      refine wg (C := RX6) (T := TX6) (N := 8) hx hb hts hi6 hown hw (hC.m (by decide)) hR4.x rfl 6 (by decide) (hts (.fieldLink RX6 62 "LayerMoisture" "plan" "LLayerMoisture$Plan;") (by decide +kernel)) (fun _ h9 => h9) (v := .ref (ad 7)) rfl dX6_followPlan_66 ?_
      refine wg (C := RX4) (T := TX4) (N := 6) hx hb hts hi4 hown hw (hC.m (by decide)) hR4.pln rfl 5 (by decide) (hts (.fieldLink RX6 186 "LayerMoisture$Plan" "done" "I") (by decide +kernel)) (fun _ h9 => h9) (v := .int (nI pn.2.1)) rfl dX6_followPlan_69 ?_
      refine wld_i hx hb hw (hC.m (by decide)) hR4.pD pn.2.1 (by omega) (by decide) rfl dX6_followPlan_72 ?_
      refine lv_i2d hx hb dX6_followPlan_73 ?_
      refine lv_ldc2d (v := 4636737291354636288) hx hb hown (hts (.constantDouble RX6 245 (4636737291354636288)) (by decide +kernel)) dX6_followPlan_74 ?_
      refine lv_ddiv hx hb dX6_followPlan_77 hnd ?_
      refine wp_ (C := RX0) (T := TX0) (N := 4) hx hb hts hi0 tyX0 tyX0_ok nmX0 hown hw (hC.m (by decide)) hR4.air rfl 1 (by decide) (hts (.fieldLink RX6 102 "LayerMoisture$Air" "damp" "D") (by decide +kernel)) (fun _ h9 => h9) rfl (ty := .double) (v := .double (FP.ddiv (FP.i2d (pn.2.2.2.2.2 pn.2.1)) 4636737291354636288)) (by decide +kernel) rfl rfl (Nat.le_of_ble_eq_true rfl) dX6_followPlan_78 (fun H locs hw => ?_)
      obtain ⟨f5, ef5⟩ : ∃ z : Nat → va_E, z = va_up f3 (ad 3) (.inr (1, [.double (FP.i2d (pn.2.2.2.2.1 pn.2.1)), .double (FP.ddiv (FP.i2d (pn.2.2.2.2.2 pn.2.1)) 4636737291354636288), .double ai.2.2.1, .double ai.2.2.2])) := ⟨_, rfl⟩
      have hw : ww G dA A s L f5 H locs := by rw [ef5]; exact hw
      have hR6 : RC ad dA n nb q qk ((FP.i2d (pn.2.2.2.2.1 pn.2.1), FP.ddiv (FP.i2d (pn.2.2.2.2.2 pn.2.1)) 4636737291354636288, ai.2.2.1, ai.2.2.2)) le bd wt kk tt pn hr f0 f5 := by rw [ef5]; exact hR4.sAir hC (FP.i2d (pn.2.2.2.2.1 pn.2.1), FP.ddiv (FP.i2d (pn.2.2.2.2.2 pn.2.1)) 4636737291354636288, ai.2.2.1, ai.2.2.2)
      refine lv_aload_n hx hb dX6_followPlan_81 rfl (lv_at hl 0 rfl) ?_
      refine wg (C := RX6) (T := TX6) (N := 8) hx hb hts hi6 hown hw (hC.m (by decide)) hR6.x rfl 6 (by decide) (hts (.fieldLink RX6 62 "LayerMoisture" "plan" "LLayerMoisture$Plan;") (by decide +kernel)) (fun _ h9 => h9) (v := .ref (ad 7)) rfl dX6_followPlan_82 ?_
      refine lv_dup hx hb dX6_followPlan_85 rfl ?_
      refine wg (C := RX4) (T := TX4) (N := 6) hx hb hts hi4 hown hw (hC.m (by decide)) hR6.pln rfl 5 (by decide) (hts (.fieldLink RX6 186 "LayerMoisture$Plan" "done" "I") (by decide +kernel)) (fun _ h9 => h9) (v := .int (nI pn.2.1)) rfl dX6_followPlan_86 ?_
      refine lv_iconst (v := 1) hx hb dX6_followPlan_89 (by decide) ?_
      refine lv_iadd hx hb dX6_followPlan_90 ?_
      rw [show (nI pn.2.1) + 1 = nI (pn.2.1 + 1) from nI_1 _]
      refine wp_ (C := RX4) (T := TX4) (N := 6) hx hb hts hi4 tyX4 tyX4_ok nmX4 hown hw (hC.m (by decide)) hR6.pln rfl 5 (by decide) (hts (.fieldLink RX6 186 "LayerMoisture$Plan" "done" "I") (by decide +kernel)) (fun _ h9 => h9) rfl (ty := .int) (v := .int (nI (pn.2.1 + 1))) (by decide +kernel) rfl rfl (Nat.le_of_ble_eq_true rfl) dX6_followPlan_91 (fun H locs hw => ?_)
      obtain ⟨f7, ef7⟩ : ∃ z : Nat → va_E, z = va_up f5 (ad 7) (.inr (5, [.ref (ad 8), .ref (ad 9), .ref (ad 10), .ref (ad 11), .int (nI pn.1), .int (nI (pn.2.1 + 1))])) := ⟨_, rfl⟩
      have hw : ww G dA A s L f7 H locs := by rw [ef7]; exact hw
      have hR8 : RC ad dA n nb q qk ((FP.i2d (pn.2.2.2.2.1 pn.2.1), FP.ddiv (FP.i2d (pn.2.2.2.2.2 pn.2.1)) 4636737291354636288, ai.2.2.1, ai.2.2.2)) le bd wt kk tt ((pn.1, (pn.2.1 + 1), pn.2.2.1, pn.2.2.2.1, pn.2.2.2.2.1, pn.2.2.2.2.2)) hr f0 f7 := by rw [ef7]; exact hR6.sPln hC _ _
      exact hret _ _ _ _ _ hw (by rw [e9]; exact hR8) dX6_followPlan_94
