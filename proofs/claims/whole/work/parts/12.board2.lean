set_option maxHeartbeats 4000000 in
set_option maxRecDepth 100000 in
theorem c_X1_setLimit (l : Launch) (G : va_G) (dA : Nat → ClassId) (L : List Nat) (f : Nat → va_E) (b w k : Nat) (th lim kept : Int32) (dep load x : UInt64) (hLb : b ∈ L) (hfb : f b = .inr (2, [.ref w, .ref k, .int th, .double dep, .int lim, .double load, .int kept]))   : mV l yX1_setLimit wsX1_setLimit ({ frames := 0, cells := 0, slots := 0, locals := 0 }) G dA [.ref b, .double x] L f (fun f2 => f2 = va_up f b (.inr (2, [.ref w, .ref k, .int th, .double dep, .int 1, .double x, .int (-1)]))) := by
  refine mV_of (cc := cX1_setLimit) (maxL := 3) (by decide) rfl (Nat.le_of_ble_eq_true rfl) ?_
  intro p e s m below meth c A ls Q hx hb hml hown hts hlocks hA hin0 hw hl hret
  have hown : s.vm.findClass RX1 = some m.cls := hown
  have hl : lv_has ls 3 [(0, .ref b), (1, .double x)] := hl
  have hi1 : ∀ w ∈ u_ws RX1 TX1 7, w ∈ wsX1_setLimit := by decide +kernel
  refine lv_aload_n hx hb dX1_setLimit_0 rfl (lv_at hl 0 rfl) ?_
  refine lv_iconst (v := 1) hx hb dX1_setLimit_1 (by decide) ?_
  refine wp_ (C := RX1) (T := TX1) (N := 7) hx hb hts hi1 tyX1 tyX1_ok nmX1 hown hw hLb hfb rfl 4 (by decide) (hts (.fieldLink RX1 27 "LayerMoisture$Board" "limited" "Z") (by decide +kernel)) (fun _ h9 => h9) rfl (ty := .boolean) (v := .int 1) (by decide +kernel) (by decide) (by decide) (Nat.le_of_ble_eq_true rfl) dX1_setLimit_2 (fun H locs hw => ?_)
  obtain ⟨f1, ef1⟩ : ∃ z : Nat → va_E, z = va_up f b (.inr (2, [.ref w, .ref k, .int th, .double dep, .int 1, .double load, .int kept])) := ⟨_, rfl⟩
  have hw : ww G dA A s L f1 H locs := by rw [ef1]; exact hw
  have h2 : f1 b = .inr (2, [.ref w, .ref k, .int th, .double dep, .int 1, .double load, .int kept]) := by rw [ef1]; exact va_up_self _ _ _
  refine lv_aload_n hx hb dX1_setLimit_5 rfl (lv_at hl 0 rfl) ?_
  refine lv_dload_n hx hb dX1_setLimit_6 rfl (lv_at hl 1 rfl) ?_
  refine wp_ (C := RX1) (T := TX1) (N := 7) hx hb hts hi1 tyX1 tyX1_ok nmX1 hown hw hLb h2 rfl 5 (by decide) (hts (.fieldLink RX1 34 "LayerMoisture$Board" "loadLimit" "D") (by decide +kernel)) (fun _ h9 => h9) rfl (ty := .double) (v := .double x) (by decide +kernel) rfl rfl (Nat.le_of_ble_eq_true rfl) dX1_setLimit_7 (fun H locs hw => ?_)
  obtain ⟨f3, ef3⟩ : ∃ z : Nat → va_E, z = va_up f1 b (.inr (2, [.ref w, .ref k, .int th, .double dep, .int 1, .double x, .int kept])) := ⟨_, rfl⟩
  have hw : ww G dA A s L f3 H locs := by rw [ef3]; exact hw
  have h4 : f3 b = .inr (2, [.ref w, .ref k, .int th, .double dep, .int 1, .double x, .int kept]) := by rw [ef3]; exact va_up_self _ _ _
  refine lv_aload_n hx hb dX1_setLimit_10 rfl (lv_at hl 0 rfl) ?_
  refine lv_iconst (v := (-1)) hx hb dX1_setLimit_11 (by decide) ?_
  refine wp_ (C := RX1) (T := TX1) (N := 7) hx hb hts hi1 tyX1 tyX1_ok nmX1 hown hw hLb h4 rfl 6 (by decide) (hts (.fieldLink RX1 30 "LayerMoisture$Board" "keptHour" "I") (by decide +kernel)) (fun _ h9 => h9) rfl (ty := .int) (v := .int (-1)) (by decide +kernel) rfl rfl (Nat.le_of_ble_eq_true rfl) dX1_setLimit_12 (fun H locs hw => ?_)
  obtain ⟨f5, ef5⟩ : ∃ z : Nat → va_E, z = va_up f3 b (.inr (2, [.ref w, .ref k, .int th, .double dep, .int 1, .double x, .int (-1)])) := ⟨_, rfl⟩
  have hw : ww G dA A s L f5 H locs := by rw [ef5]; exact hw
  have h6 : f5 b = .inr (2, [.ref w, .ref k, .int th, .double dep, .int 1, .double x, .int (-1)]) := by rw [ef5]; exact va_up_self _ _ _
  exact hret _ _ _ _ _ hw (by rw [ef5, ef3, ef1]; funext z; by_cases h1 : z = b <;> simp [va_up, h1]) dX1_setLimit_15

set_option maxHeartbeats 4000000 in
set_option maxRecDepth 100000 in
theorem c_X1_lay (l : Launch) (G : va_G) (dA : Nat → ClassId) (L : List Nat) (f : Nat → va_E) (b w k : Nat) (th lim kept : Int32) (dep load : UInt64) (n : Nat) (g : Nat → UInt64) (thick wet : UInt64) (k2 : Nat) (hLb : b ∈ L) (hfb : f b = .inr (2, [.ref w, .ref k, .int th, .double dep, .int lim, .double load, .int kept])) (hLw : w ∈ L) (hfw : f w = aD (dA 1) n g) (hn31 : n < 2 ^ 31) (hwb : w ≠ b) (hbw : b ≠ w) (n13 : vf_n64 (FP.ddiv thick (FP.i2d (nI n)))) : mV l yX1_lay wsX1_lay ({ frames := 0, cells := 0, slots := 0, locals := 0 }) G dA [.ref b, .double thick, .double wet, .ref k2] L f (fun f2 => f2 = va_up (va_up f b (.inr (2, [.ref w, .ref k2, .int 1, .double (FP.ddiv thick (FP.i2d (nI n))), .int 0, .double load, .int (-1)]))) w (aD (dA 1) n (fillTo wet g n))) := by
  refine mV_of (cc := cX1_lay) (maxL := 7) (by decide) rfl (Nat.le_of_ble_eq_true rfl) ?_
  intro p e s m below meth c A ls Q hx hb hml hown hts hlocks hA hin0 hw hl hret
  have hown : s.vm.findClass RX1 = some m.cls := hown
  have hl : lv_has ls 7 [(0, .ref b), (1, .double thick), (3, .double wet), (5, .ref k2)] := hl
  have hi1 : ∀ w ∈ u_ws RX1 TX1 7, w ∈ wsX1_lay := by decide +kernel
  refine lv_aload_n hx hb dX1_lay_0 rfl (lv_at hl 0 rfl) ?_
  refine lv_iconst (v := 1) hx hb dX1_lay_1 (by decide) ?_
  refine wp_ (C := RX1) (T := TX1) (N := 7) hx hb hts hi1 tyX1 tyX1_ok nmX1 hown hw hLb hfb rfl 2 (by decide) (hts (.fieldLink RX1 19 "LayerMoisture$Board" "there" "Z") (by decide +kernel)) (fun _ h9 => h9) rfl (ty := .boolean) (v := .int 1) (by decide +kernel) (by decide) (by decide) (Nat.le_of_ble_eq_true rfl) dX1_lay_2 (fun H locs hw => ?_)
  obtain ⟨f1, ef1⟩ : ∃ z : Nat → va_E, z = va_up f b (.inr (2, [.ref w, .ref k, .int 1, .double dep, .int lim, .double load, .int kept])) := ⟨_, rfl⟩
  have hw : ww G dA A s L f1 H locs := by rw [ef1]; exact hw
  have h2 : f1 b = .inr (2, [.ref w, .ref k, .int 1, .double dep, .int lim, .double load, .int kept]) := by rw [ef1]; exact va_up_self _ _ _
  have h3 : f1 w = aD (dA 1) n g := by rw [ef1, va_up_ne _ _ hwb]; exact hfw
  refine lv_aload_n hx hb dX1_lay_5 rfl (lv_at hl 0 rfl) ?_
  refine lv_dload_n hx hb dX1_lay_6 rfl (lv_at hl 1 rfl) ?_
  refine lv_aload_n hx hb dX1_lay_7 rfl (lv_at hl 0 rfl) ?_
  refine wg (C := RX1) (T := TX1) (N := 7) hx hb hts hi1 hown hw hLb h2 rfl 0 (by decide) (hts (.fieldLink RX1 9 "LayerMoisture$Board" "wetness" "[D") (by decide +kernel)) (fun _ h9 => h9) (v := .ref w) rfl dX1_lay_8 ?_
  refine wlen hx hb 1 hw hLw h3 rfl dX1_lay_11 ?_
  refine lv_i2d hx hb dX1_lay_12 ?_
  refine lv_ddiv hx hb dX1_lay_13 n13 ?_
  refine wp_ (C := RX1) (T := TX1) (N := 7) hx hb hts hi1 tyX1 tyX1_ok nmX1 hown hw hLb h2 rfl 3 (by decide) (hts (.fieldLink RX1 23 "LayerMoisture$Board" "depth" "D") (by decide +kernel)) (fun _ h9 => h9) rfl (ty := .double) (v := .double (FP.ddiv thick (FP.i2d (nI n)))) (by decide +kernel) rfl rfl (Nat.le_of_ble_eq_true rfl) dX1_lay_14 (fun H locs hw => ?_)
  obtain ⟨f4, ef4⟩ : ∃ z : Nat → va_E, z = va_up f1 b (.inr (2, [.ref w, .ref k, .int 1, .double (FP.ddiv thick (FP.i2d (nI n))), .int lim, .double load, .int kept])) := ⟨_, rfl⟩
  have hw : ww G dA A s L f4 H locs := by rw [ef4]; exact hw
  have h5 : f4 b = .inr (2, [.ref w, .ref k, .int 1, .double (FP.ddiv thick (FP.i2d (nI n))), .int lim, .double load, .int kept]) := by rw [ef4]; exact va_up_self _ _ _
  have h6 : f4 w = aD (dA 1) n g := by rw [ef4, va_up_ne _ _ hwb]; exact h3
  refine lv_aload_n hx hb dX1_lay_17 rfl (lv_at hl 0 rfl) ?_
  refine lv_aload hx hb dX1_lay_18 (lv_at hl 3 rfl) ?_
  refine wp_ (C := RX1) (T := TX1) (N := 7) hx hb hts hi1 tyX1 tyX1_ok nmX1 hown hw hLb h5 rfl 1 (by decide) (hts (.fieldLink RX1 15 "LayerMoisture$Board" "kind" "LLayerMoisture$Kind;") (by decide +kernel)) (fun _ h9 => h9) rfl (ty := .object "LayerMoisture$Kind") (v := .ref k2) (by decide +kernel) rfl rfl (Nat.le_of_ble_eq_true rfl) dX1_lay_20 (fun H locs hw => ?_)
  obtain ⟨f7, ef7⟩ : ∃ z : Nat → va_E, z = va_up f4 b (.inr (2, [.ref w, .ref k2, .int 1, .double (FP.ddiv thick (FP.i2d (nI n))), .int lim, .double load, .int kept])) := ⟨_, rfl⟩
  have hw : ww G dA A s L f7 H locs := by rw [ef7]; exact hw
  have h8 : f7 b = .inr (2, [.ref w, .ref k2, .int 1, .double (FP.ddiv thick (FP.i2d (nI n))), .int lim, .double load, .int kept]) := by rw [ef7]; exact va_up_self _ _ _
  have h9 : f7 w = aD (dA 1) n g := by rw [ef7, va_up_ne _ _ hwb]; exact h6
  refine lv_iconst (v := 0) hx hb dX1_lay_23 (by decide) ?_
  refine lv_istore (lv' := [(6, .int 0), (0, .ref b), (1, .double thick), (3, .double wet), (5, .ref k2)]) hx hb dX1_lay_24 hl (by decide) rfl (fun ls hl => ?_)
  have loop : ∀ (kf i : Nat), i + kf = n → ∀ (H : Heap) (locs : List Loc), ww G dA A s L (va_up f7 w (aD (dA 1) n (fillTo wet g i))) H locs → ∀ (ls : Array Slot), lv_has ls 7 [(0, .ref b), (1, .double thick), (3, .double wet), (5, .ref k2), (6, .int (nI i))] → W p l e ({ frames := 0, cells := 0, slots := 0, locals := 0 } : Room) s m ([.ref b, .double thick, .double wet, .ref k2] : List Value).toArray below meth c H locs 0 0 Q (F0 m 26 ls []) := by
    intro kf
    induction kf with
    | zero =>
      intro i hik H locs hw ls hl
      rw [show i = n by omega] at hl hw
      obtain ⟨f10, ef10⟩ : ∃ z : Nat → va_E, z = va_up f7 w (aD (dA 1) n (fillTo wet g n)) := ⟨_, rfl⟩
      have hw : ww G dA A s L f10 H locs := by rw [ef10]; exact hw
      have h11 : f10 b = .inr (2, [.ref w, .ref k2, .int 1, .double (FP.ddiv thick (FP.i2d (nI n))), .int lim, .double load, .int kept]) := by rw [ef10, va_up_ne _ _ hbw]; exact h8
      have h12 : f10 w = aD (dA 1) n (fillTo wet g n) := by rw [ef10]; exact va_up_self _ _ _
      refine lv_iload hx hb dX1_lay_26 (lv_at hl 4 rfl) ?_
      refine lv_aload_n hx hb dX1_lay_28 rfl (lv_at hl 0 rfl) ?_
      refine wg (C := RX1) (T := TX1) (N := 7) hx hb hts hi1 hown hw hLb h11 rfl 0 (by decide) (hts (.fieldLink RX1 9 "LayerMoisture$Board" "wetness" "[D") (by decide +kernel)) (fun _ h9 => h9) (v := .ref w) rfl dX1_lay_29 ?_
      refine wlen hx hb 1 hw hLw h12 rfl dX1_lay_32 ?_
      refine lv_icmp_ge (tgt := 50) hx hb dX1_lay_33 (by decide) (fun _ => ?_) (fun c9 => absurd (nI_le (Nat.le_refl _) hn31) c9)
      refine lv_aload_n hx hb dX1_lay_50 rfl (lv_at hl 0 rfl) ?_
      refine lv_iconst (v := 0) hx hb dX1_lay_51 (by decide) ?_
      refine wp_ (C := RX1) (T := TX1) (N := 7) hx hb hts hi1 tyX1 tyX1_ok nmX1 hown hw hLb h11 rfl 4 (by decide) (hts (.fieldLink RX1 27 "LayerMoisture$Board" "limited" "Z") (by decide +kernel)) (fun _ h9 => h9) rfl (ty := .boolean) (v := .int 0) (by decide +kernel) (by decide) (by decide) (Nat.le_of_ble_eq_true rfl) dX1_lay_52 (fun H locs hw => ?_)
      obtain ⟨f13, ef13⟩ : ∃ z : Nat → va_E, z = va_up f10 b (.inr (2, [.ref w, .ref k2, .int 1, .double (FP.ddiv thick (FP.i2d (nI n))), .int 0, .double load, .int kept])) := ⟨_, rfl⟩
      have hw : ww G dA A s L f13 H locs := by rw [ef13]; exact hw
      have h14 : f13 b = .inr (2, [.ref w, .ref k2, .int 1, .double (FP.ddiv thick (FP.i2d (nI n))), .int 0, .double load, .int kept]) := by rw [ef13]; exact va_up_self _ _ _
      have h15 : f13 w = aD (dA 1) n ((fillTo wet g n)) := by rw [ef13, va_up_ne _ _ hwb]; exact h12
      refine lv_aload_n hx hb dX1_lay_55 rfl (lv_at hl 0 rfl) ?_
      refine lv_iconst (v := (-1)) hx hb dX1_lay_56 (by decide) ?_
      refine wp_ (C := RX1) (T := TX1) (N := 7) hx hb hts hi1 tyX1 tyX1_ok nmX1 hown hw hLb h14 rfl 6 (by decide) (hts (.fieldLink RX1 30 "LayerMoisture$Board" "keptHour" "I") (by decide +kernel)) (fun _ h9 => h9) rfl (ty := .int) (v := .int (-1)) (by decide +kernel) rfl rfl (Nat.le_of_ble_eq_true rfl) dX1_lay_57 (fun H locs hw => ?_)
      obtain ⟨f16, ef16⟩ : ∃ z : Nat → va_E, z = va_up f13 b (.inr (2, [.ref w, .ref k2, .int 1, .double (FP.ddiv thick (FP.i2d (nI n))), .int 0, .double load, .int (-1)])) := ⟨_, rfl⟩
      have hw : ww G dA A s L f16 H locs := by rw [ef16]; exact hw
      have h17 : f16 b = .inr (2, [.ref w, .ref k2, .int 1, .double (FP.ddiv thick (FP.i2d (nI n))), .int 0, .double load, .int (-1)]) := by rw [ef16]; exact va_up_self _ _ _
      have h18 : f16 w = aD (dA 1) n ((fillTo wet g n)) := by rw [ef16, va_up_ne _ _ hwb]; exact h15
      exact hret _ _ _ _ _ hw (by rw [ef16, ef13, ef10, ef7, ef4, ef1]; funext z; by_cases h1 : z = w <;> by_cases h2 : z = b <;> simp [va_up, h1, h2, hbw, hwb]) dX1_lay_60
    | succ kf ih =>
      intro i hik H locs hw ls hl
      have hlt : i < n := by omega
      obtain ⟨f19, ef19⟩ : ∃ z : Nat → va_E, z = va_up f7 w (aD (dA 1) n (fillTo wet g i)) := ⟨_, rfl⟩
      have hw : ww G dA A s L f19 H locs := by rw [ef19]; exact hw
      have h20 : f19 b = .inr (2, [.ref w, .ref k2, .int 1, .double (FP.ddiv thick (FP.i2d (nI n))), .int lim, .double load, .int kept]) := by rw [ef19, va_up_ne _ _ hbw]; exact h8
      have h21 : f19 w = aD (dA 1) n (fillTo wet g i) := by rw [ef19]; exact va_up_self _ _ _
      refine lv_iload hx hb dX1_lay_26 (lv_at hl 4 rfl) ?_
      refine lv_aload_n hx hb dX1_lay_28 rfl (lv_at hl 0 rfl) ?_
      refine wg (C := RX1) (T := TX1) (N := 7) hx hb hts hi1 hown hw hLb h20 rfl 0 (by decide) (hts (.fieldLink RX1 9 "LayerMoisture$Board" "wetness" "[D") (by decide +kernel)) (fun _ h9 => h9) (v := .ref w) rfl dX1_lay_29 ?_
      refine wlen hx hb 1 hw hLw h21 rfl dX1_lay_32 ?_
      refine lv_icmp_ge (tgt := 50) hx hb dX1_lay_33 (by decide) (fun c9 => absurd c9 (nI_ge hlt hn31)) (fun _ => ?_)
      refine lv_aload_n hx hb dX1_lay_36 rfl (lv_at hl 0 rfl) ?_
      refine wg (C := RX1) (T := TX1) (N := 7) hx hb hts hi1 hown hw hLb h20 rfl 0 (by decide) (hts (.fieldLink RX1 9 "LayerMoisture$Board" "wetness" "[D") (by decide +kernel)) (fun _ h9 => h9) (v := .ref w) rfl dX1_lay_37 ?_
      refine lv_iload hx hb dX1_lay_40 (lv_at hl 4 rfl) ?_
      refine lv_dload_n hx hb dX1_lay_42 rfl (lv_at hl 2 rfl) ?_
      refine wst_d hx hb hw hLw h21 i hlt hn31 rfl dX1_lay_43 (fun H locs hw => ?_)
      obtain ⟨f22, ef22⟩ : ∃ z : Nat → va_E, z = va_up f19 w (aD (dA 1) n (vf_upd ((fillTo wet g i)) i wet)) := ⟨_, rfl⟩
      have hw : ww G dA A s L f22 H locs := by rw [ef22]; exact hw
      have h23 : f22 b = .inr (2, [.ref w, .ref k2, .int 1, .double (FP.ddiv thick (FP.i2d (nI n))), .int lim, .double load, .int kept]) := by rw [ef22, va_up_ne _ _ hbw]; exact h20
      have h24 : f22 w = aD (dA 1) n (vf_upd ((fillTo wet g i)) i wet) := by rw [ef22]; exact va_up_self _ _ _
      refine lv_iinc (v := nI (i + 1)) (lv' := [(6, .int (nI (i + 1))), (0, .ref b), (1, .double thick), (3, .double wet), (5, .ref k2)]) hx hb dX1_lay_44 hl (k := 4) rfl (nI_1 i) (by decide) rfl (fun ls hl => ?_)
      refine lv_goto (tgt := 26) hx hb dX1_lay_47 (by decide) ?_
      rw [ef22, ef19, bx_uu, fillTo_s wet g i] at hw
      exact ih (i + 1) (by omega) _ _ hw ls (lv_sub hl [1, 2, 3, 4, 0] rfl)
  have hw : ww G dA A s L (va_up f7 w (aD (dA 1) n (fillTo wet g 0))) H locs := (show ww G dA A s L (va_up f7 w (aD (dA 1) n g)) H locs by rw [va_up_id h9]; exact hw)
  exact loop n 0 (by omega) _ _ hw ls (lv_sub hl [1, 2, 3, 4, 0] rfl)

set_option maxHeartbeats 4000000 in
set_option maxRecDepth 100000 in
theorem c_X1_meanShrinkage (l : Launch) (G : va_G) (dA : Nat → ClassId) (L : List Nat) (f : Nat → va_E) (b w k : Nat) (th lim kept : Int32) (dep load : UInt64) (n : Nat) (g : Nat → UInt64) (hLb : b ∈ L) (hfb : f b = .inr (2, [.ref w, .ref k, .int th, .double dep, .int lim, .double load, .int kept])) (hLw : w ∈ L) (hfw : f w = aD (dA 1) n g) (hn31 : n < 2 ^ 31) (hc1 : ∀ i, i < n → vf_n64 (FP.dsub 4599301119452119040 (sp_cut (g i)))) (hc2 : ∀ i, i < n → vf_n64 (FP.dmul 4598175219545276416 (FP.dsub 4599301119452119040 (sp_cut (g i))))) (hs : ∀ i, i < n → vf_n64 (FP.dadd (sumD (fun j => sp_shr (g j)) i) (sp_shr (g i)))) (hq : vf_n64 (FP.ddiv (sumD (fun j => sp_shr (g j)) n) (FP.i2d (nI n))))  : mD l yX1_meanShrinkage wsX1_meanShrinkage ({ frames := 1, cells := 0, slots := 0, locals := 21 }) G dA [.ref b] L f (fun r f2 => r = sp_mshr g n ∧ f2 = f) := by
  refine mD_of (cc := cX1_meanShrinkage) (maxL := 4) (by decide) rfl (Nat.le_of_ble_eq_true rfl) ?_
  intro p e s m below meth c A ls Q hx hb hml hown hts hlocks hA hin0 hw hl hret
  have hown : s.vm.findClass RX1 = some m.cls := hown
  have hl : lv_has ls 4 [(0, .ref b)] := hl
  have hi1 : ∀ w ∈ u_ws RX1 TX1 7, w ∈ wsX1_meanShrinkage := by decide +kernel
  refine lv_dconst0 hx hb dX1_meanShrinkage_0 ?_
  refine lv_dstore_n (lv' := [(1, .double FP.dconst0), (0, .ref b)]) hx hb dX1_meanShrinkage_1 rfl hl (by decide) rfl (fun ls hl => ?_)
  refine lv_iconst (v := 0) hx hb dX1_meanShrinkage_2 (by decide) ?_
  refine lv_istore_n (lv' := [(3, .int 0), (1, .double FP.dconst0), (0, .ref b)]) hx hb dX1_meanShrinkage_3 rfl hl (by decide) rfl (fun ls hl => ?_)
  have loop : ∀ (kf i : Nat), i + kf = n → ∀ (H : Heap) (locs : List Loc), ww G dA A s L f H locs → ∀ (ls : Array Slot), lv_has ls 4 [(0, .ref b), (1, .double (sumD (fun j => sp_shr (g j)) i)), (3, .int (nI i))] → W p l e ({ frames := 1, cells := 0, slots := 0, locals := 21 } : Room) s m ([.ref b] : List Value).toArray below meth c H locs 0 0 Q (F0 m 4 ls []) := by
    intro kf
    induction kf with
    | zero =>
      intro i hik H locs hw ls hl
      rw [show i = n by omega] at hl
      refine lv_iload_n hx hb dX1_meanShrinkage_4 rfl (lv_at hl 2 rfl) ?_
      refine lv_aload_n hx hb dX1_meanShrinkage_5 rfl (lv_at hl 0 rfl) ?_
      refine wg (C := RX1) (T := TX1) (N := 7) hx hb hts hi1 hown hw hLb hfb rfl 0 (by decide) (hts (.fieldLink RX1 9 "LayerMoisture$Board" "wetness" "[D") (by decide +kernel)) (fun _ h9 => h9) (v := .ref w) rfl dX1_meanShrinkage_6 ?_
      refine wlen hx hb 1 hw hLw hfw rfl dX1_meanShrinkage_9 ?_
      refine lv_icmp_ge (tgt := 31) hx hb dX1_meanShrinkage_10 (by decide) (fun _ => ?_) (fun c9 => absurd (nI_le (Nat.le_refl _) hn31) c9)
      refine lv_dload_n hx hb dX1_meanShrinkage_31 rfl (lv_at hl 1 rfl) ?_
      refine lv_aload_n hx hb dX1_meanShrinkage_32 rfl (lv_at hl 0 rfl) ?_
      refine wg (C := RX1) (T := TX1) (N := 7) hx hb hts hi1 hown hw hLb hfb rfl 0 (by decide) (hts (.fieldLink RX1 9 "LayerMoisture$Board" "wetness" "[D") (by decide +kernel)) (fun _ h9 => h9) (v := .ref w) rfl dX1_meanShrinkage_33 ?_
      refine wlen hx hb 1 hw hLw hfw rfl dX1_meanShrinkage_36 ?_
      refine lv_i2d hx hb dX1_meanShrinkage_37 ?_
      refine lv_ddiv hx hb dX1_meanShrinkage_38 hq ?_
      exact hret _ _ _ _ _ _ hw ⟨rfl, rfl⟩ dX1_meanShrinkage_39
    | succ kf ih =>
      intro i hik H locs hw ls hl
      have hlt : i < n := by omega
      refine lv_iload_n hx hb dX1_meanShrinkage_4 rfl (lv_at hl 2 rfl) ?_
      refine lv_aload_n hx hb dX1_meanShrinkage_5 rfl (lv_at hl 0 rfl) ?_
      refine wg (C := RX1) (T := TX1) (N := 7) hx hb hts hi1 hown hw hLb hfb rfl 0 (by decide) (hts (.fieldLink RX1 9 "LayerMoisture$Board" "wetness" "[D") (by decide +kernel)) (fun _ h9 => h9) (v := .ref w) rfl dX1_meanShrinkage_6 ?_
      refine wlen hx hb 1 hw hLw hfw rfl dX1_meanShrinkage_9 ?_
      refine lv_icmp_ge (tgt := 31) hx hb dX1_meanShrinkage_10 (by decide) (fun c9 => absurd c9 (nI_ge hlt hn31)) (fun _ => ?_)
      refine lv_dload_n hx hb dX1_meanShrinkage_13 rfl (lv_at hl 1 rfl) ?_
      refine lv_aload_n hx hb dX1_meanShrinkage_14 rfl (lv_at hl 0 rfl) ?_
      refine wg (C := RX1) (T := TX1) (N := 7) hx hb hts hi1 hown hw hLb hfb rfl 0 (by decide) (hts (.fieldLink RX1 9 "LayerMoisture$Board" "wetness" "[D") (by decide +kernel)) (fun _ h9 => h9) (v := .ref w) rfl dX1_meanShrinkage_15 ?_
      refine lv_iload_n hx hb dX1_meanShrinkage_18 rfl (lv_at hl 2 rfl) ?_
      refine wld_d hx hb hw hLw hfw i hlt hn31 rfl dX1_meanShrinkage_19 ?_
      refine kS_D (As := [.double (g i)]) (rest := [.double (sumD (fun j => sp_shr (g j)) i)]) ⟨hx, hb, hml, hown, hts⟩ (c_X1_shrinkage l G dA L f (g i) (hc1 i hlt) (hc2 i hlt)) (va_cwS 1 hts gX1_meanShrinkage_X1_shrinkage rfl rfl rfl (by decide +kernel) ⟨Nat.le_of_ble_eq_true rfl, Nat.le_of_ble_eq_true rfl⟩) hw hA rfl hl.1 rfl (Nat.le_of_ble_eq_true rfl) dX1_meanShrinkage_20 ⟨Nat.zero_le _, Nat.zero_le _⟩ (fun r1 f2 H locs hp hw => ?_)
      obtain ⟨e1, e2⟩ := hp
      rw [e2] at hw
      rw [e1]
      refine lv_dadd hx hb dX1_meanShrinkage_23 (hs i hlt) ?_
      refine lv_dstore_n (lv' := [(1, .double (FP.dadd (sumD (fun j => sp_shr (g j)) i) (sp_shr (g i)))), (0, .ref b), (3, .int (nI i))]) hx hb dX1_meanShrinkage_24 rfl hl (by decide) rfl (fun ls hl => ?_)
      refine lv_iinc (v := nI (i + 1)) (lv' := [(3, .int (nI (i + 1))), (1, .double (FP.dadd (sumD (fun j => sp_shr (g j)) i) (sp_shr (g i)))), (0, .ref b)]) hx hb dX1_meanShrinkage_25 hl (k := 2) rfl (nI_1 i) (by decide) rfl (fun ls hl => ?_)
      refine lv_goto (tgt := 4) hx hb dX1_meanShrinkage_28 (by decide) ?_
      exact ih (i + 1) (by omega) _ _ hw ls (lv_sub hl [2, 1, 0] rfl)
  exact loop n 0 (by omega) _ _ hw ls (lv_sub hl [2, 1, 0] rfl)

set_option maxHeartbeats 4000000 in
set_option maxRecDepth 100000 in
theorem c_X1_greatestLoad (l : Launch) (G : va_G) (dA : Nat → ClassId) (L : List Nat) (f : Nat → va_E) (b w k : Nat) (th lim kept : Int32) (dep load : UInt64) (n : Nat) (g : Nat → UInt64) (hLb : b ∈ L) (hfb : f b = .inr (2, [.ref w, .ref k, .int th, .double dep, .int lim, .double load, .int kept])) (hLw : w ∈ L) (hfw : f w = aD (dA 1) n g) (hn31 : n < 2 ^ 31) (hc1 : ∀ i, i < n → vf_n64 (FP.dsub 4599301119452119040 (sp_cut (g i)))) (hc2 : ∀ i, i < n → vf_n64 (FP.dmul 4598175219545276416 (FP.dsub 4599301119452119040 (sp_cut (g i))))) (hs : ∀ i, i < n → vf_n64 (FP.dadd (sumD (fun j => sp_shr (g j)) i) (sp_shr (g i)))) (hq : vf_n64 (FP.ddiv (sumD (fun j => sp_shr (g j)) n) (FP.i2d (nI n)))) (hst : ∀ i, i < n → vf_n64 (FP.dsub (sp_shr (g i)) (sp_mshr g n)))  : mD l yX1_greatestLoad wsX1_greatestLoad ({ frames := 2, cells := 0, slots := 0, locals := 44 }) G dA [.ref b] L f (fun r f2 => r = sp_load g n ∧ f2 = f) := by
  refine mD_of (cc := cX1_greatestLoad) (maxL := 10) (by decide) rfl (Nat.le_of_ble_eq_true rfl) ?_
  intro p e s m below meth c A ls Q hx hb hml hown hts hlocks hA hin0 hw hl hret
  have hown : s.vm.findClass RX1 = some m.cls := hown
  have hl : lv_has ls 10 [(0, .ref b)] := hl
  have hi1 : ∀ w ∈ u_ws RX1 TX1 7, w ∈ wsX1_greatestLoad := by decide +kernel
  refine lv_aload_n hx hb dX1_greatestLoad_0 rfl (lv_at hl 0 rfl) ?_
  refine kV_D (C := RX1) (T := TX1) (N := 7) (As := []) (rest := []) ⟨hx, hb, hml, hown, hts⟩ (c_X1_meanShrinkage l G dA L f b w k th lim kept dep load n g hLb hfb hLw hfw hn31 hc1 hc2 hs hq) (cwV 0 hts gX1_greatestLoad_X1_meanShrinkage rfl rfl rfl (by decide +kernel) ⟨Nat.le_of_ble_eq_true rfl, Nat.le_of_ble_eq_true rfl⟩) hw hA hLb hfb rfl rfl hl.1 rfl (Nat.le_of_ble_eq_true rfl) dX1_greatestLoad_1 ⟨Nat.zero_le _, Nat.zero_le _⟩ (fun r1 f2 H locs hp hw => ?_)
  obtain ⟨e1, e2⟩ := hp
  rw [e2] at hw
  rw [e1]
  refine lv_dstore_n (lv' := [(1, .double (sp_mshr g n)), (0, .ref b)]) hx hb dX1_greatestLoad_4 rfl hl (by decide) rfl (fun ls hl => ?_)
  refine lv_dconst0 hx hb dX1_greatestLoad_5 ?_
  refine lv_dstore_n (lv' := [(3, .double FP.dconst0), (1, .double (sp_mshr g n)), (0, .ref b)]) hx hb dX1_greatestLoad_6 rfl hl (by decide) rfl (fun ls hl => ?_)
  refine lv_iconst (v := 0) hx hb dX1_greatestLoad_7 (by decide) ?_
  refine lv_istore (lv' := [(5, .int 0), (3, .double FP.dconst0), (1, .double (sp_mshr g n)), (0, .ref b)]) hx hb dX1_greatestLoad_8 hl (by decide) rfl (fun ls hl => ?_)
  have loop : ∀ (kf i : Nat), i + kf = n → ∀ (H : Heap) (locs : List Loc), ww G dA A s L f H locs → ∀ (ls : Array Slot), lv_has ls 10 [(0, .ref b), (1, .double (sp_mshr g n)), (3, .double (maxD (fun j => sp_size (sp_stress g n j)) i)), (5, .int (nI i))] → W p l e ({ frames := 2, cells := 0, slots := 0, locals := 44 } : Room) s m ([.ref b] : List Value).toArray below meth c H locs 0 0 Q (F0 m 10 ls []) := by
    intro kf
    induction kf with
    | zero =>
      intro i hik H locs hw ls hl
      rw [show i = n by omega] at hl
      refine lv_iload hx hb dX1_greatestLoad_10 (lv_at hl 3 rfl) ?_
      refine lv_aload_n hx hb dX1_greatestLoad_12 rfl (lv_at hl 0 rfl) ?_
      refine wg (C := RX1) (T := TX1) (N := 7) hx hb hts hi1 hown hw hLb hfb rfl 0 (by decide) (hts (.fieldLink RX1 9 "LayerMoisture$Board" "wetness" "[D") (by decide +kernel)) (fun _ h9 => h9) (v := .ref w) rfl dX1_greatestLoad_13 ?_
      refine wlen hx hb 1 hw hLw hfw rfl dX1_greatestLoad_16 ?_
      refine lv_icmp_ge (tgt := 67) hx hb dX1_greatestLoad_17 (by decide) (fun _ => ?_) (fun c9 => absurd (nI_le (Nat.le_refl _) hn31) c9)
      refine lv_dload_n hx hb dX1_greatestLoad_67 rfl (lv_at hl 2 rfl) ?_
      exact hret _ _ _ _ _ _ hw ⟨rfl, rfl⟩ dX1_greatestLoad_68
    | succ kf ih =>
      intro i hik H locs hw ls hl
      have hlt : i < n := by omega
      refine lv_iload hx hb dX1_greatestLoad_10 (lv_at hl 3 rfl) ?_
      refine lv_aload_n hx hb dX1_greatestLoad_12 rfl (lv_at hl 0 rfl) ?_
      refine wg (C := RX1) (T := TX1) (N := 7) hx hb hts hi1 hown hw hLb hfb rfl 0 (by decide) (hts (.fieldLink RX1 9 "LayerMoisture$Board" "wetness" "[D") (by decide +kernel)) (fun _ h9 => h9) (v := .ref w) rfl dX1_greatestLoad_13 ?_
      refine wlen hx hb 1 hw hLw hfw rfl dX1_greatestLoad_16 ?_
      refine lv_icmp_ge (tgt := 67) hx hb dX1_greatestLoad_17 (by decide) (fun c9 => absurd c9 (nI_ge hlt hn31)) (fun _ => ?_)
      refine lv_aload_n hx hb dX1_greatestLoad_20 rfl (lv_at hl 0 rfl) ?_
      refine wg (C := RX1) (T := TX1) (N := 7) hx hb hts hi1 hown hw hLb hfb rfl 0 (by decide) (hts (.fieldLink RX1 9 "LayerMoisture$Board" "wetness" "[D") (by decide +kernel)) (fun _ h9 => h9) (v := .ref w) rfl dX1_greatestLoad_21 ?_
      refine lv_iload hx hb dX1_greatestLoad_24 (lv_at hl 3 rfl) ?_
      refine wld_d hx hb hw hLw hfw i hlt hn31 rfl dX1_greatestLoad_26 ?_
      refine kS_D (As := [.double (g i)]) (rest := []) ⟨hx, hb, hml, hown, hts⟩ (c_X1_shrinkage l G dA L f (g i) (hc1 i hlt) (hc2 i hlt)) (va_cwS 1 hts gX1_greatestLoad_X1_shrinkage rfl rfl rfl (by decide +kernel) ⟨Nat.le_of_ble_eq_true rfl, Nat.le_of_ble_eq_true rfl⟩) hw hA rfl hl.1 rfl (Nat.le_of_ble_eq_true rfl) dX1_greatestLoad_27 ⟨Nat.zero_le _, Nat.zero_le _⟩ (fun r3 f4 H locs hp hw => ?_)
      obtain ⟨e1, e2⟩ := hp
      rw [e2] at hw
      rw [e1]
      refine lv_dload_n hx hb dX1_greatestLoad_30 rfl (lv_at hl 1 rfl) ?_
      refine lv_dsub hx hb dX1_greatestLoad_31 (hst i hlt) ?_
      refine lv_dstore (lv' := [(6, .double (FP.dsub (sp_shr (g i)) (sp_mshr g n))), (0, .ref b), (1, .double (sp_mshr g n)), (3, .double (maxD (fun j => sp_size (sp_stress g n j)) i)), (5, .int (nI i))]) hx hb dX1_greatestLoad_32 hl (by decide) rfl (fun ls hl => ?_)
      refine lv_dload hx hb dX1_greatestLoad_34 (lv_at hl 0 rfl) ?_
      refine lv_dconst0 hx hb dX1_greatestLoad_36 ?_
      refine lv_dcmp hx hb dX1_greatestLoad_37 ?_
      refine lv_if_ge (tgt := 47) hx hb dX1_greatestLoad_38 (by decide) (fun c38 => ?_) (fun c38 => ?_)
      · have e38 : sp_size (sp_stress g n i) = FP.dsub (sp_shr (g i)) (sp_mshr g n) := by rw [sp_size, sp_stress]; exact if_neg (cmp_ge c38)
        refine lv_dload hx hb dX1_greatestLoad_47 (lv_at hl 0 rfl) ?_
        refine lv_dstore (lv' := [(8, .double (FP.dsub (sp_shr (g i)) (sp_mshr g n))), (6, .double (FP.dsub (sp_shr (g i)) (sp_mshr g n))), (0, .ref b), (1, .double (sp_mshr g n)), (3, .double (maxD (fun j => sp_size (sp_stress g n j)) i)), (5, .int (nI i))]) hx hb dX1_greatestLoad_49 hl (by decide) rfl (fun ls hl => ?_)
        refine lv_dload hx hb dX1_greatestLoad_51 (lv_at hl 0 rfl) ?_
        refine lv_dload_n hx hb dX1_greatestLoad_53 rfl (lv_at hl 4 rfl) ?_
        refine lv_dcmp hx hb dX1_greatestLoad_54 ?_
        refine lv_if_le (tgt := 61) hx hb dX1_greatestLoad_55 (by decide) (fun c55 => ?_) (fun c55 => ?_)
        · have e9 : maxD (fun j => sp_size (sp_stress g n j)) (i + 1) = maxD (fun j => sp_size (sp_stress g n j)) i := by have c55 := cmp_le c55; rw [← e38] at c55; exact if_neg c55
          refine lv_iinc (v := nI (i + 1)) (lv' := [(5, .int (nI (i + 1))), (8, .double (FP.dsub (sp_shr (g i)) (sp_mshr g n))), (6, .double (FP.dsub (sp_shr (g i)) (sp_mshr g n))), (0, .ref b), (1, .double (sp_mshr g n)), (3, .double (maxD (fun j => sp_size (sp_stress g n j)) i))]) hx hb dX1_greatestLoad_61 hl (k := 5) rfl (nI_1 i) (by decide) rfl (fun ls hl => ?_)
          refine lv_goto (tgt := 10) hx hb dX1_greatestLoad_64 (by decide) ?_
          exact ih (i + 1) (by omega) _ _ hw ls (by rw [e9]; exact lv_sub hl [3, 4, 5, 0] rfl)
        · have e9 : maxD (fun j => sp_size (sp_stress g n j)) (i + 1) = sp_size (sp_stress g n i) := by have c55 := cmp_nle c55; rw [← e38] at c55; exact if_pos c55
          rw [e38] at e9
          refine lv_dload hx hb dX1_greatestLoad_58 (lv_at hl 0 rfl) ?_
          refine lv_dstore_n (lv' := [(3, .double (FP.dsub (sp_shr (g i)) (sp_mshr g n))), (8, .double (FP.dsub (sp_shr (g i)) (sp_mshr g n))), (6, .double (FP.dsub (sp_shr (g i)) (sp_mshr g n))), (0, .ref b), (1, .double (sp_mshr g n)), (5, .int (nI i))]) hx hb dX1_greatestLoad_60 rfl hl (by decide) rfl (fun ls hl => ?_)
          refine lv_iinc (v := nI (i + 1)) (lv' := [(5, .int (nI (i + 1))), (3, .double (FP.dsub (sp_shr (g i)) (sp_mshr g n))), (8, .double (FP.dsub (sp_shr (g i)) (sp_mshr g n))), (6, .double (FP.dsub (sp_shr (g i)) (sp_mshr g n))), (0, .ref b), (1, .double (sp_mshr g n))]) hx hb dX1_greatestLoad_61 hl (k := 5) rfl (nI_1 i) (by decide) rfl (fun ls hl => ?_)
          refine lv_goto (tgt := 10) hx hb dX1_greatestLoad_64 (by decide) ?_
          exact ih (i + 1) (by omega) _ _ hw ls (by rw [e9]; exact lv_sub hl [4, 5, 1, 0] rfl)
      · have e38 : sp_size (sp_stress g n i) = FP.dneg (FP.dsub (sp_shr (g i)) (sp_mshr g n)) := by rw [sp_size, sp_stress]; exact if_pos (cmp_nge c38)
        refine lv_dload hx hb dX1_greatestLoad_41 (lv_at hl 0 rfl) ?_
        refine lv_dneg hx hb dX1_greatestLoad_43 ?_
        refine lv_goto (tgt := 49) hx hb dX1_greatestLoad_44 (by decide) ?_
        refine lv_dstore (lv' := [(8, .double (FP.dneg (FP.dsub (sp_shr (g i)) (sp_mshr g n)))), (6, .double (FP.dsub (sp_shr (g i)) (sp_mshr g n))), (0, .ref b), (1, .double (sp_mshr g n)), (3, .double (maxD (fun j => sp_size (sp_stress g n j)) i)), (5, .int (nI i))]) hx hb dX1_greatestLoad_49 hl (by decide) rfl (fun ls hl => ?_)
        refine lv_dload hx hb dX1_greatestLoad_51 (lv_at hl 0 rfl) ?_
        refine lv_dload_n hx hb dX1_greatestLoad_53 rfl (lv_at hl 4 rfl) ?_
        refine lv_dcmp hx hb dX1_greatestLoad_54 ?_
        refine lv_if_le (tgt := 61) hx hb dX1_greatestLoad_55 (by decide) (fun c55 => ?_) (fun c55 => ?_)
        · have e9 : maxD (fun j => sp_size (sp_stress g n j)) (i + 1) = maxD (fun j => sp_size (sp_stress g n j)) i := by have c55 := cmp_le c55; rw [← e38] at c55; exact if_neg c55
          refine lv_iinc (v := nI (i + 1)) (lv' := [(5, .int (nI (i + 1))), (8, .double (FP.dneg (FP.dsub (sp_shr (g i)) (sp_mshr g n)))), (6, .double (FP.dsub (sp_shr (g i)) (sp_mshr g n))), (0, .ref b), (1, .double (sp_mshr g n)), (3, .double (maxD (fun j => sp_size (sp_stress g n j)) i))]) hx hb dX1_greatestLoad_61 hl (k := 5) rfl (nI_1 i) (by decide) rfl (fun ls hl => ?_)
          refine lv_goto (tgt := 10) hx hb dX1_greatestLoad_64 (by decide) ?_
          exact ih (i + 1) (by omega) _ _ hw ls (by rw [e9]; exact lv_sub hl [3, 4, 5, 0] rfl)
        · have e9 : maxD (fun j => sp_size (sp_stress g n j)) (i + 1) = sp_size (sp_stress g n i) := by have c55 := cmp_nle c55; rw [← e38] at c55; exact if_pos c55
          rw [e38] at e9
          refine lv_dload hx hb dX1_greatestLoad_58 (lv_at hl 0 rfl) ?_
          refine lv_dstore_n (lv' := [(3, .double (FP.dneg (FP.dsub (sp_shr (g i)) (sp_mshr g n)))), (8, .double (FP.dneg (FP.dsub (sp_shr (g i)) (sp_mshr g n)))), (6, .double (FP.dsub (sp_shr (g i)) (sp_mshr g n))), (0, .ref b), (1, .double (sp_mshr g n)), (5, .int (nI i))]) hx hb dX1_greatestLoad_60 rfl hl (by decide) rfl (fun ls hl => ?_)
          refine lv_iinc (v := nI (i + 1)) (lv' := [(5, .int (nI (i + 1))), (3, .double (FP.dneg (FP.dsub (sp_shr (g i)) (sp_mshr g n)))), (8, .double (FP.dneg (FP.dsub (sp_shr (g i)) (sp_mshr g n)))), (6, .double (FP.dsub (sp_shr (g i)) (sp_mshr g n))), (0, .ref b), (1, .double (sp_mshr g n))]) hx hb dX1_greatestLoad_61 hl (k := 5) rfl (nI_1 i) (by decide) rfl (fun ls hl => ?_)
          refine lv_goto (tgt := 10) hx hb dX1_greatestLoad_64 (by decide) ?_
          exact ih (i + 1) (by omega) _ _ hw ls (by rw [e9]; exact lv_sub hl [4, 5, 1, 0] rfl)
  exact loop n 0 (by omega) _ _ hw ls (lv_sub hl [3, 2, 1, 0] rfl)

set_option maxHeartbeats 4000000 in
set_option maxRecDepth 100000 in
theorem c_X1_watchLoad (l : Launch) (G : va_G) (dA : Nat → ClassId) (L : List Nat) (f : Nat → va_E) (b w k : Nat) (th lim kept : Int32) (dep load : UInt64) (n : Nat) (g : Nat → UInt64) (hour : Int32) (hLb : b ∈ L) (hfb : f b = .inr (2, [.ref w, .ref k, .int th, .double dep, .int lim, .double load, .int kept])) (hLw : w ∈ L) (hfw : f w = aD (dA 1) n g) (hn31 : n < 2 ^ 31) (hc1 : ∀ i, i < n → vf_n64 (FP.dsub 4599301119452119040 (sp_cut (g i)))) (hc2 : ∀ i, i < n → vf_n64 (FP.dmul 4598175219545276416 (FP.dsub 4599301119452119040 (sp_cut (g i))))) (hs : ∀ i, i < n → vf_n64 (FP.dadd (sumD (fun j => sp_shr (g j)) i) (sp_shr (g i)))) (hq : vf_n64 (FP.ddiv (sumD (fun j => sp_shr (g j)) n) (FP.i2d (nI n)))) (hst : ∀ i, i < n → vf_n64 (FP.dsub (sp_shr (g i)) (sp_mshr g n)))  : mV l yX1_watchLoad wsX1_watchLoad ({ frames := 3, cells := 0, slots := 0, locals := 73 }) G dA [.ref b, .int hour] L f (fun f2 => f2 = va_up f b (.inr (2, [.ref w, .ref k, .int th, .double dep, .int lim, .double load, .int (sp_keep lim kept (sp_load g n) load hour)]))) := by
  refine mV_of (cc := cX1_watchLoad) (maxL := 2) (by decide) rfl (Nat.le_of_ble_eq_true rfl) ?_
  intro p e s m below meth c A ls Q hx hb hml hown hts hlocks hA hin0 hw hl hret
  have hown : s.vm.findClass RX1 = some m.cls := hown
  have hl : lv_has ls 2 [(0, .ref b), (1, .int hour)] := hl
  have hi1 : ∀ w ∈ u_ws RX1 TX1 7, w ∈ wsX1_watchLoad := by decide +kernel
  refine lv_aload_n hx hb dX1_watchLoad_0 rfl (lv_at hl 0 rfl) ?_
  refine wg (C := RX1) (T := TX1) (N := 7) hx hb hts hi1 hown hw hLb hfb rfl 4 (by decide) (hts (.fieldLink RX1 27 "LayerMoisture$Board" "limited" "Z") (by decide +kernel)) (fun _ h9 => h9) (v := .int lim) rfl dX1_watchLoad_1 ?_
  refine lv_if_eq (tgt := 32) hx hb dX1_watchLoad_4 (by decide) (fun c4 => ?_) (fun c4 => ?_)
  · have e9 : sp_keep lim kept (sp_load g n) load hour = kept := by simp [sp_keep, c4]
    exact hret _ _ _ _ _ hw (by rw [e9]; exact (va_up_id hfb).symm) dX1_watchLoad_32
  · refine lv_aload_n hx hb dX1_watchLoad_7 rfl (lv_at hl 0 rfl) ?_
    refine wg (C := RX1) (T := TX1) (N := 7) hx hb hts hi1 hown hw hLb hfb rfl 6 (by decide) (hts (.fieldLink RX1 30 "LayerMoisture$Board" "keptHour" "I") (by decide +kernel)) (fun _ h9 => h9) (v := .int kept) rfl dX1_watchLoad_8 ?_
    refine lv_iconst (v := (-1)) hx hb dX1_watchLoad_11 (by decide) ?_
    refine lv_icmp_ne (tgt := 32) hx hb dX1_watchLoad_12 (by decide) (fun c12 => ?_) (fun c12 => ?_)
    · have e9 : sp_keep lim kept (sp_load g n) load hour = kept := by simp [sp_keep, c12]
      exact hret _ _ _ _ _ hw (by rw [e9]; exact (va_up_id hfb).symm) dX1_watchLoad_32
    · refine lv_aload_n hx hb dX1_watchLoad_15 rfl (lv_at hl 0 rfl) ?_
      refine kV_D (C := RX1) (T := TX1) (N := 7) (As := []) (rest := []) ⟨hx, hb, hml, hown, hts⟩ (c_X1_greatestLoad l G dA L f b w k th lim kept dep load n g hLb hfb hLw hfw hn31 hc1 hc2 hs hq hst) (cwV 0 hts gX1_watchLoad_X1_greatestLoad rfl rfl rfl (by decide +kernel) ⟨Nat.le_of_ble_eq_true rfl, Nat.le_of_ble_eq_true rfl⟩) hw hA hLb hfb rfl rfl hl.1 rfl (Nat.le_of_ble_eq_true rfl) dX1_watchLoad_16 ⟨Nat.zero_le _, Nat.zero_le _⟩ (fun r1 f2 H locs hp hw => ?_)
      obtain ⟨e1, e2⟩ := hp
      rw [e2] at hw
      rw [e1]
      refine lv_aload_n hx hb dX1_watchLoad_19 rfl (lv_at hl 0 rfl) ?_
      refine wg (C := RX1) (T := TX1) (N := 7) hx hb hts hi1 hown hw hLb hfb rfl 5 (by decide) (hts (.fieldLink RX1 34 "LayerMoisture$Board" "loadLimit" "D") (by decide +kernel)) (fun _ h9 => h9) (v := .double load) rfl dX1_watchLoad_20 ?_
      refine lv_dcmp hx hb dX1_watchLoad_23 ?_
      refine lv_if_le (tgt := 32) hx hb dX1_watchLoad_24 (by decide) (fun c24 => ?_) (fun c24 => ?_)
      · have e9 : sp_keep lim kept (sp_load g n) load hour = kept := by simp [sp_keep, cmp_le c24]
        exact hret _ _ _ _ _ hw (by rw [e9]; exact (va_up_id hfb).symm) dX1_watchLoad_32
      · have e9 : sp_keep lim kept (sp_load g n) load hour = hour := by simp [sp_keep, c4, c12, cmp_nle c24]
        refine lv_aload_n hx hb dX1_watchLoad_27 rfl (lv_at hl 0 rfl) ?_
        refine lv_iload_n hx hb dX1_watchLoad_28 rfl (lv_at hl 1 rfl) ?_
        refine wp_ (C := RX1) (T := TX1) (N := 7) hx hb hts hi1 tyX1 tyX1_ok nmX1 hown hw hLb hfb rfl 6 (by decide) (hts (.fieldLink RX1 30 "LayerMoisture$Board" "keptHour" "I") (by decide +kernel)) (fun _ h9 => h9) rfl (ty := .int) (v := .int hour) (by decide +kernel) rfl rfl (Nat.le_of_ble_eq_true rfl) dX1_watchLoad_29 (fun H locs hw => ?_)
        obtain ⟨f3, ef3⟩ : ∃ z : Nat → va_E, z = va_up f b (.inr (2, [.ref w, .ref k, .int th, .double dep, .int lim, .double load, .int hour])) := ⟨_, rfl⟩
        have hw : ww G dA A s L f3 H locs := by rw [ef3]; exact hw
        have h4 : f3 b = .inr (2, [.ref w, .ref k, .int th, .double dep, .int lim, .double load, .int hour]) := by rw [ef3]; exact va_up_self _ _ _
        have h5 : f3 w = aD (dA 1) n g := by rw [ef3, va_up_ne _ _ (fun h => by have h1 := hfw; rw [h, hfb] at h1; cases h1)]; exact hfw
        exact hret _ _ _ _ _ hw (by rw [e9, ef3]) dX1_watchLoad_32

set_option maxHeartbeats 4000000 in
set_option maxRecDepth 100000 in
theorem c_X1_refuses (l : Launch) (G : va_G) (dA : Nat → ClassId) (L : List Nat) (f : Nat → va_E) (b w k : Nat) (th lim kept : Int32) (dep load : UInt64) (n : Nat) (g : Nat → UInt64) (spd ka kb : UInt64) (hLb : b ∈ L) (hfb : f b = .inr (2, [.ref w, .ref k, .int th, .double dep, .int lim, .double load, .int kept])) (hLw : w ∈ L) (hfw : f w = aD (dA 1) n g) (hLk : k ∈ L) (hfk : f k = .inr (3, [.double ka, .double kb])) (hn31 : n < 2 ^ 31) (hr1 : vf_n64 (FP.dmul 4620693217682128896 dep)) (hr2 : vf_n64 (FP.ddiv spd (FP.dmul 4620693217682128896 dep))) (hr3 : vf_n64 (FP.dmul dep dep)) (hr4 : vf_n64 (FP.ddiv (sp_speed ka kb (maxD g n)) (FP.dmul dep dep))) (hr5 : vf_n64 (FP.dmul kb (maxD g n))) (hr6 : vf_n64 (FP.dadd ka (FP.dmul kb (maxD g n))))  : mI l yX1_refuses wsX1_refuses ({ frames := 1, cells := 0, slots := 0, locals := 23 }) G dA [.ref b, .double spd] L f (fun r f2 => r = b2i (sp_ref spd dep ka kb (maxD g n)) ∧ f2 = f) := by
  refine mI_of (cc := cX1_refuses) (maxL := 3) (by decide) rfl (Nat.le_of_ble_eq_true rfl) ?_
  intro p e s m below meth c A ls Q hx hb hml hown hts hlocks hA hin0 hw hl hret
  have hown : s.vm.findClass RX1 = some m.cls := hown
  have hl : lv_has ls 3 [(0, .ref b), (1, .double spd)] := hl
  have hi1 : ∀ w ∈ u_ws RX1 TX1 7, w ∈ wsX1_refuses := by decide +kernel
  refine lv_dload_n hx hb dX1_refuses_0 rfl (lv_at hl 1 rfl) ?_
  refine lv_ldc2d (v := 4620693217682128896) hx hb hown (hts (.constantDouble RX1 37 (4620693217682128896)) (by decide +kernel)) dX1_refuses_1 ?_
  refine lv_aload_n hx hb dX1_refuses_4 rfl (lv_at hl 0 rfl) ?_
  refine wg (C := RX1) (T := TX1) (N := 7) hx hb hts hi1 hown hw hLb hfb rfl 3 (by decide) (hts (.fieldLink RX1 23 "LayerMoisture$Board" "depth" "D") (by decide +kernel)) (fun _ h9 => h9) (v := .double dep) rfl dX1_refuses_5 ?_
  refine lv_dmul hx hb dX1_refuses_8 hr1 ?_
  refine lv_ddiv hx hb dX1_refuses_9 hr2 ?_
  refine lv_ldc2d (v := 4598175219545276416) hx hb hown (hts (.constantDouble RX1 39 (4598175219545276416)) (by decide +kernel)) dX1_refuses_10 ?_
  refine lv_dcmp hx hb dX1_refuses_13 ?_
  refine lv_if_gt (tgt := 45) hx hb dX1_refuses_14 (by decide) (fun c14 => ?_) (fun c14 => ?_)
  · have e9 : sp_ref spd dep ka kb (maxD g n) = true := by simp [sp_ref, cmp_gt c14]
    refine lv_iconst (v := 1) hx hb dX1_refuses_45 (by decide) ?_
    refine lv_goto (tgt := 50) hx hb dX1_refuses_46 (by decide) ?_
    exact hret _ _ _ _ _ _ hw ⟨by rw [e9]; rfl, rfl⟩ (by decide) dX1_refuses_50
  · have q14 := cmp_ngt c14
    refine lv_aload_n hx hb dX1_refuses_17 rfl (lv_at hl 0 rfl) ?_
    refine wg (C := RX1) (T := TX1) (N := 7) hx hb hts hi1 hown hw hLb hfb rfl 1 (by decide) (hts (.fieldLink RX1 15 "LayerMoisture$Board" "kind" "LLayerMoisture$Kind;") (by decide +kernel)) (fun _ h9 => h9) (v := .ref k) rfl dX1_refuses_18 ?_
    refine lv_aload_n hx hb dX1_refuses_21 rfl (lv_at hl 0 rfl) ?_
    refine kV_D (C := RX1) (T := TX1) (N := 7) (As := []) (rest := [.ref k]) ⟨hx, hb, hml, hown, hts⟩ (c_X1_greatestWetness l G dA L f b w k th lim kept dep load n g hLb hfb hLw hfw hn31) (cwV 0 hts gX1_refuses_X1_greatestWetness rfl rfl rfl (by decide +kernel) ⟨Nat.le_of_ble_eq_true rfl, Nat.le_of_ble_eq_true rfl⟩) hw hA hLb hfb rfl rfl hl.1 rfl (Nat.le_of_ble_eq_true rfl) dX1_refuses_22 ⟨Nat.zero_le _, Nat.zero_le _⟩ (fun r1 f2 H locs hp hw => ?_)
    obtain ⟨e1, e2⟩ := hp
    rw [e2] at hw
    rw [e1]
    refine kV_D (C := RX2) (T := TX2) (N := 2) (As := [.double (maxD g n)]) (rest := []) ⟨hx, hb, hml, hown, hts⟩ (c_X2_speedAt l G dA L f k ka kb (maxD g n) hLk hfk hr5 hr6) (cwV 1 hts gX1_refuses_X2_speedAt rfl rfl rfl (by decide +kernel) ⟨Nat.le_of_ble_eq_true rfl, Nat.le_of_ble_eq_true rfl⟩) hw hA hLk hfk rfl rfl hl.1 rfl (Nat.le_of_ble_eq_true rfl) dX1_refuses_25 ⟨Nat.zero_le _, Nat.zero_le _⟩ (fun r3 f4 H locs hp hw => ?_)
    obtain ⟨e1, e2⟩ := hp
    rw [e2] at hw
    rw [e1]
    refine lv_aload_n hx hb dX1_refuses_28 rfl (lv_at hl 0 rfl) ?_
    refine wg (C := RX1) (T := TX1) (N := 7) hx hb hts hi1 hown hw hLb hfb rfl 3 (by decide) (hts (.fieldLink RX1 23 "LayerMoisture$Board" "depth" "D") (by decide +kernel)) (fun _ h9 => h9) (v := .double dep) rfl dX1_refuses_29 ?_
    refine lv_aload_n hx hb dX1_refuses_32 rfl (lv_at hl 0 rfl) ?_
    refine wg (C := RX1) (T := TX1) (N := 7) hx hb hts hi1 hown hw hLb hfb rfl 3 (by decide) (hts (.fieldLink RX1 23 "LayerMoisture$Board" "depth" "D") (by decide +kernel)) (fun _ h9 => h9) (v := .double dep) rfl dX1_refuses_33 ?_
    refine lv_dmul hx hb dX1_refuses_36 hr3 ?_
    refine lv_ddiv hx hb dX1_refuses_37 hr4 ?_
    refine lv_ldc2d (v := 4598175219545276416) hx hb hown (hts (.constantDouble RX1 39 (4598175219545276416)) (by decide +kernel)) dX1_refuses_38 ?_
    refine lv_dcmp hx hb dX1_refuses_41 ?_
    refine lv_if_le (tgt := 49) hx hb dX1_refuses_42 (by decide) (fun c42 => ?_) (fun c42 => ?_)
    · have e9 : sp_ref spd dep ka kb (maxD g n) = false := by simp [sp_ref, q14, cmp_le c42]
      refine lv_iconst (v := 0) hx hb dX1_refuses_49 (by decide) ?_
      exact hret _ _ _ _ _ _ hw ⟨by rw [e9]; rfl, rfl⟩ (by decide) dX1_refuses_50
    · have e9 : sp_ref spd dep ka kb (maxD g n) = true := by simp [sp_ref, cmp_nle c42]
      refine lv_iconst (v := 1) hx hb dX1_refuses_45 (by decide) ?_
      refine lv_goto (tgt := 50) hx hb dX1_refuses_46 (by decide) ?_
      exact hret _ _ _ _ _ _ hw ⟨by rw [e9]; rfl, rfl⟩ (by decide) dX1_refuses_50

set_option maxHeartbeats 4000000 in
set_option maxRecDepth 100000 in
theorem c_X1_dry (l : Launch) (G : va_G) (dA : Nat → ClassId) (L : List Nat) (f : Nat → va_E) (b w k : Nat) (th lim kept : Int32) (dep load : UInt64) (nl : Nat) (g : Nat → UInt64) (spd bal ka kb : UInt64) (hLb : b ∈ L) (hfb : f b = .inr (2, [.ref w, .ref k, .int th, .double dep, .int lim, .double load, .int kept])) (hLw : w ∈ L) (hfw : f w = aD (dA 1) (nl + 1) g) (hLk : k ∈ L) (hfk : f k = .inr (3, [.double ka, .double kb])) (hn31 : nl + 1 < 2 ^ 31) (hwb : w ≠ b) (hbw : b ≠ w) (hkw : k ≠ w) (hr1 : vf_n64 (FP.dmul 4620693217682128896 dep)) (hr3 : vf_n64 (FP.dmul dep dep)) (hf1 : vf_n64 (FP.dsub (g 0) bal)) (hf2 : vf_n64 (FP.dmul spd (FP.dsub (g 0) bal))) (hf3 : vf_n64 (FP.ddiv (FP.dmul spd (FP.dsub (g 0) bal)) (FP.dmul 4620693217682128896 dep))) (hf1' : vf_n64 (FP.dsub (g nl) bal)) (hf2' : vf_n64 (FP.dmul spd (FP.dsub (g nl) bal))) (hf3' : vf_n64 (FP.ddiv (FP.dmul spd (FP.dsub (g nl) bal)) (FP.dmul 4620693217682128896 dep))) (hs1 : ∀ i, i < nl → vf_n64 (FP.dadd (g i) (g (i + 1)))) (hs2 : ∀ i, i < nl → vf_n64 (FP.ddiv (FP.dadd (g i) (g (i + 1))) 4611686018427387904)) (hs3 : ∀ i, i < nl → vf_n64 (FP.dmul kb (FP.ddiv (FP.dadd (g i) (g (i + 1))) 4611686018427387904))) (hs4 : ∀ i, i < nl → vf_n64 (FP.dadd ka (FP.dmul kb (FP.ddiv (FP.dadd (g i) (g (i + 1))) 4611686018427387904)))) (hs5 : ∀ i, i < nl → vf_n64 (FP.dsub (g i) (g (i + 1)))) (hs6 : ∀ i, i < nl → vf_n64 (FP.dmul (sp_speed ka kb (FP.ddiv (FP.dadd (g i) (g (i + 1))) 4611686018427387904)) (FP.dsub (g i) (g (i + 1))))) (hs7 : ∀ i, i < nl → vf_n64 (sp_slope ka kb dep (g i) (g (i + 1)))) (hd1 : ∀ i, i < nl + 1 → vf_n64 (FP.dadd (g i) (sp_gain ka kb dep (sp_face dep (g 0) spd bal) (sp_face dep (g nl) spd bal) g nl i))) (hd2 : ∀ i, i < nl + 1 → vf_n64 (FP.dsub (FP.dadd (g i) (sp_gain ka kb dep (sp_face dep (g 0) spd bal) (sp_face dep (g nl) spd bal) g nl i)) (sp_fl ka kb dep (sp_face dep (g nl) spd bal) g nl i))) (hw1 : vf_n64 (FP.dadd (sp_face dep (g 0) spd bal) (sp_face dep (g nl) spd bal))) (hw2 : vf_n64 (FP.dmul (FP.dadd (sp_face dep (g 0) spd bal) (sp_face dep (g nl) spd bal)) dep)) (hw3 : vf_n64 (FP.dmul (FP.dmul (FP.dadd (sp_face dep (g 0) spd bal) (sp_face dep (g nl) spd bal)) dep) 4634204016564240384))  : mD l yX1_dry wsX1_dry ({ frames := 2, cells := 0, slots := 0, locals := 46 }) G dA [.ref b, .double spd, .double bal] L f (fun r f2 => r = FP.dmul (FP.dmul (FP.dadd (sp_face dep (g 0) spd bal) (sp_face dep (g nl) spd bal)) dep) 4634204016564240384 ∧ f2 = va_up f w (aD (dA 1) (nl + 1) (newTo ka kb dep (sp_face dep (g 0) spd bal) (sp_face dep (g nl) spd bal) g nl (nl + 1)))) := by
  refine mD_of (cc := cX1_dry) (maxL := 15) (by decide) rfl (Nat.le_of_ble_eq_true rfl) ?_
  intro p e s m below meth c A ls Q hx hb hml hown hts hlocks hA hin0 hw hl hret
  have hown : s.vm.findClass RX1 = some m.cls := hown
  have hl : lv_has ls 15 [(0, .ref b), (1, .double spd), (3, .double bal)] := hl
  have hi1 : ∀ w ∈ u_ws RX1 TX1 7, w ∈ wsX1_dry := by decide +kernel
  refine lv_aload_n hx hb dX1_dry_0 rfl (lv_at hl 0 rfl) ?_
  refine wg (C := RX1) (T := TX1) (N := 7) hx hb hts hi1 hown hw hLb hfb rfl 0 (by decide) (hts (.fieldLink RX1 9 "LayerMoisture$Board" "wetness" "[D") (by decide +kernel)) (fun _ h9 => h9) (v := .ref w) rfl dX1_dry_1 ?_
  refine wlen hx hb 1 hw hLw hfw rfl dX1_dry_4 ?_
  refine lv_iconst (v := 1) hx hb dX1_dry_5 (by decide) ?_
  refine lv_isub hx hb dX1_dry_6 ?_
  rw [show (nI (nl + 1)) - 1 = nI nl from nI_pred nl]
  refine lv_istore (lv' := [(5, .int (nI nl)), (0, .ref b), (1, .double spd), (3, .double bal)]) hx hb dX1_dry_7 hl (by decide) rfl (fun ls hl => ?_)
  refine lv_aload_n hx hb dX1_dry_9 rfl (lv_at hl 1 rfl) ?_
  refine lv_aload_n hx hb dX1_dry_10 rfl (lv_at hl 1 rfl) ?_
  refine wg (C := RX1) (T := TX1) (N := 7) hx hb hts hi1 hown hw hLb hfb rfl 0 (by decide) (hts (.fieldLink RX1 9 "LayerMoisture$Board" "wetness" "[D") (by decide +kernel)) (fun _ h9 => h9) (v := .ref w) rfl dX1_dry_11 ?_
  refine lv_iconst (v := 0) hx hb dX1_dry_14 (by decide) ?_
  refine wld_d hx hb hw hLw hfw 0 (Nat.succ_pos nl) hn31 nI_0.symm dX1_dry_15 ?_
  refine lv_dload_n hx hb dX1_dry_16 rfl (lv_at hl 2 rfl) ?_
  refine lv_dload_n hx hb dX1_dry_17 rfl (lv_at hl 3 rfl) ?_
  refine kV_D (C := RX1) (T := TX1) (N := 7) (As := [.double (g 0), .double spd, .double bal]) (rest := []) ⟨hx, hb, hml, hown, hts⟩ (c_X1_faceFlow l G dA L f b w k th lim kept dep load (g 0) spd bal hLb hfb hf1 hf2 hr1 hf3) (cwV 3 hts gX1_dry_X1_faceFlow rfl rfl rfl (by decide +kernel) ⟨Nat.le_of_ble_eq_true rfl, Nat.le_of_ble_eq_true rfl⟩) hw hA hLb hfb rfl rfl hl.1 rfl (Nat.le_of_ble_eq_true rfl) dX1_dry_18 ⟨Nat.zero_le _, Nat.zero_le _⟩ (fun r1 f2 H locs hp hw => ?_)
  obtain ⟨e1, e2⟩ := hp
  rw [e2] at hw
  rw [e1]
  refine lv_dstore (lv' := [(6, .double (sp_face dep (g 0) spd bal)), (5, .int (nI nl)), (0, .ref b), (1, .double spd), (3, .double bal)]) hx hb dX1_dry_21 hl (by decide) rfl (fun ls hl => ?_)
  refine lv_aload_n hx hb dX1_dry_23 rfl (lv_at hl 2 rfl) ?_
  refine lv_aload_n hx hb dX1_dry_24 rfl (lv_at hl 2 rfl) ?_
  refine wg (C := RX1) (T := TX1) (N := 7) hx hb hts hi1 hown hw hLb hfb rfl 0 (by decide) (hts (.fieldLink RX1 9 "LayerMoisture$Board" "wetness" "[D") (by decide +kernel)) (fun _ h9 => h9) (v := .ref w) rfl dX1_dry_25 ?_
  refine lv_iload hx hb dX1_dry_28 (lv_at hl 1 rfl) ?_
  refine wld_d hx hb hw hLw hfw nl (Nat.lt_succ_self nl) hn31 rfl dX1_dry_30 ?_
  refine lv_dload_n hx hb dX1_dry_31 rfl (lv_at hl 3 rfl) ?_
  refine lv_dload_n hx hb dX1_dry_32 rfl (lv_at hl 4 rfl) ?_
  refine kV_D (C := RX1) (T := TX1) (N := 7) (As := [.double (g nl), .double spd, .double bal]) (rest := []) ⟨hx, hb, hml, hown, hts⟩ (c_X1_faceFlow l G dA L f b w k th lim kept dep load (g nl) spd bal hLb hfb hf1' hf2' hr1 hf3') (cwV 3 hts gX1_dry_X1_faceFlow rfl rfl rfl (by decide +kernel) ⟨Nat.le_of_ble_eq_true rfl, Nat.le_of_ble_eq_true rfl⟩) hw hA hLb hfb rfl rfl hl.1 rfl (Nat.le_of_ble_eq_true rfl) dX1_dry_33 ⟨Nat.zero_le _, Nat.zero_le _⟩ (fun r3 f4 H locs hp hw => ?_)
  obtain ⟨e1, e2⟩ := hp
  rw [e2] at hw
  rw [e1]
  refine lv_dstore (lv' := [(8, .double (sp_face dep (g nl) spd bal)), (6, .double (sp_face dep (g 0) spd bal)), (5, .int (nI nl)), (0, .ref b), (1, .double spd), (3, .double bal)]) hx hb dX1_dry_36 hl (by decide) rfl (fun ls hl => ?_)
  refine lv_dload hx hb dX1_dry_38 (lv_at hl 1 rfl) ?_
  refine lv_dneg hx hb dX1_dry_40 ?_
  refine lv_dstore (lv' := [(10, .double (FP.dneg (sp_face dep (g 0) spd bal))), (8, .double (sp_face dep (g nl) spd bal)), (6, .double (sp_face dep (g 0) spd bal)), (5, .int (nI nl)), (0, .ref b), (1, .double spd), (3, .double bal)]) hx hb dX1_dry_41 hl (by decide) rfl (fun ls hl => ?_)
  refine lv_iconst (v := 0) hx hb dX1_dry_43 (by decide) ?_
  refine lv_istore (lv' := [(12, .int 0), (10, .double (FP.dneg (sp_face dep (g 0) spd bal))), (8, .double (sp_face dep (g nl) spd bal)), (6, .double (sp_face dep (g 0) spd bal)), (5, .int (nI nl)), (0, .ref b), (1, .double spd), (3, .double bal)]) hx hb dX1_dry_44 hl (by decide) rfl (fun ls hl => ?_)
  have loop : ∀ (kf i : Nat), i + kf = nl + 1 → ∀ (H : Heap) (locs : List Loc), ww G dA A s L (va_up f w (aD (dA 1) (nl + 1) (newTo ka kb dep (sp_face dep (g 0) spd bal) (sp_face dep (g nl) spd bal) g nl i))) H locs → ∀ (ls : Array Slot), lv_has ls 15 [(0, .ref b), (1, .double spd), (3, .double bal), (5, .int (nI nl)), (6, .double (sp_face dep (g 0) spd bal)), (8, .double (sp_face dep (g nl) spd bal)), (10, .double (sp_gain ka kb dep (sp_face dep (g 0) spd bal) (sp_face dep (g nl) spd bal) g nl i)), (12, .int (nI i))] → W p l e ({ frames := 2, cells := 0, slots := 0, locals := 46 } : Room) s m ([.ref b, .double spd, .double bal] : List Value).toArray below meth c H locs 0 0 Q (F0 m 46 ls []) := by
    intro kf
    induction kf with
    | zero =>
      intro i hik H locs hw ls hl
      rw [show i = nl + 1 by omega] at hl hw
      obtain ⟨f5, ef5⟩ : ∃ z : Nat → va_E, z = va_up f w (aD (dA 1) (nl + 1) (newTo ka kb dep (sp_face dep (g 0) spd bal) (sp_face dep (g nl) spd bal) g nl (nl + 1))) := ⟨_, rfl⟩
      have hw : ww G dA A s L f5 H locs := by rw [ef5]; exact hw
      have h6 : f5 b = .inr (2, [.ref w, .ref k, .int th, .double dep, .int lim, .double load, .int kept]) := by rw [ef5, va_up_ne _ _ hbw]; exact hfb
      have h7 : f5 w = aD (dA 1) (nl + 1) (newTo ka kb dep (sp_face dep (g 0) spd bal) (sp_face dep (g nl) spd bal) g nl (nl + 1)) := by rw [ef5]; exact va_up_self _ _ _
      have h8 : f5 k = .inr (3, [.double ka, .double kb]) := by rw [ef5, va_up_ne _ _ hkw]; exact hfk
      refine lv_iload hx hb dX1_dry_46 (lv_at hl 7 rfl) ?_
      refine lv_iload hx hb dX1_dry_48 (lv_at hl 3 rfl) ?_
      refine lv_icmp_gt (tgt := 117) hx hb dX1_dry_50 (by decide) (fun _ => ?_) (fun c9 => absurd (nI_lt (Nat.lt_succ_self nl) (by omega)) c9)
      refine lv_dload hx hb dX1_dry_117 (lv_at hl 4 rfl) ?_
      refine lv_dload hx hb dX1_dry_119 (lv_at hl 5 rfl) ?_
      refine lv_dadd hx hb dX1_dry_121 hw1 ?_
      refine lv_aload_n hx hb dX1_dry_122 rfl (lv_at hl 0 rfl) ?_
      refine wg (C := RX1) (T := TX1) (N := 7) hx hb hts hi1 hown hw hLb h6 rfl 3 (by decide) (hts (.fieldLink RX1 23 "LayerMoisture$Board" "depth" "D") (by decide +kernel)) (fun _ h9 => h9) (v := .double dep) rfl dX1_dry_123 ?_
      refine lv_dmul hx hb dX1_dry_126 hw2 ?_
      refine lv_ldc2d (v := 4634204016564240384) hx hb hown (hts (.constantDouble RX1 59 (4634204016564240384)) (by decide +kernel)) dX1_dry_127 ?_
      refine lv_dmul hx hb dX1_dry_130 hw3 ?_
      exact hret _ _ _ _ _ _ hw ⟨rfl, by rw [ef5]⟩ dX1_dry_131
    | succ kf ih =>
      intro i hik H locs hw ls hl
      have hlt : i < nl + 1 := by omega
      obtain ⟨f9, ef9⟩ : ∃ z : Nat → va_E, z = va_up f w (aD (dA 1) (nl + 1) (newTo ka kb dep (sp_face dep (g 0) spd bal) (sp_face dep (g nl) spd bal) g nl i)) := ⟨_, rfl⟩
      have hw : ww G dA A s L f9 H locs := by rw [ef9]; exact hw
      have h10 : f9 b = .inr (2, [.ref w, .ref k, .int th, .double dep, .int lim, .double load, .int kept]) := by rw [ef9, va_up_ne _ _ hbw]; exact hfb
      have h11 : f9 w = aD (dA 1) (nl + 1) (newTo ka kb dep (sp_face dep (g 0) spd bal) (sp_face dep (g nl) spd bal) g nl i) := by rw [ef9]; exact va_up_self _ _ _
      have h12 : f9 k = .inr (3, [.double ka, .double kb]) := by rw [ef9, va_up_ne _ _ hkw]; exact hfk
      refine lv_iload hx hb dX1_dry_46 (lv_at hl 7 rfl) ?_
      refine lv_iload hx hb dX1_dry_48 (lv_at hl 3 rfl) ?_
      refine lv_icmp_gt (tgt := 117) hx hb dX1_dry_50 (by decide) (fun c9 => absurd c9 (nI_nlt (show i ≤ nl by omega) (by omega))) (fun _ => ?_)
      refine lv_iload hx hb dX1_dry_53 (lv_at hl 7 rfl) ?_
      refine lv_iload hx hb dX1_dry_55 (lv_at hl 3 rfl) ?_
      refine lv_icmp_ge (tgt := 83) hx hb dX1_dry_57 (by decide) (fun c57 => ?_) (fun c57 => ?_)
      · have e57 : sp_fl ka kb dep (sp_face dep (g nl) spd bal) g nl i = sp_face dep (g nl) spd bal := by simp only [sp_fl, if_neg (Nat.not_lt.mpr ((nI_leI (by omega) (by omega)).mp c57))]
        refine lv_dload hx hb dX1_dry_83 (lv_at hl 5 rfl) ?_
        refine lv_dstore (lv' := [(13, .double (sp_face dep (g nl) spd bal)), (0, .ref b), (1, .double spd), (3, .double bal), (5, .int (nI nl)), (6, .double (sp_face dep (g 0) spd bal)), (8, .double (sp_face dep (g nl) spd bal)), (10, .double (sp_gain ka kb dep (sp_face dep (g 0) spd bal) (sp_face dep (g nl) spd bal) g nl i)), (12, .int (nI i))]) hx hb dX1_dry_85 hl (by decide) rfl (fun ls hl => ?_)
        refine lv_aload_n hx hb dX1_dry_87 rfl (lv_at hl 1 rfl) ?_
        refine wg (C := RX1) (T := TX1) (N := 7) hx hb hts hi1 hown hw hLb h10 rfl 0 (by decide) (hts (.fieldLink RX1 9 "LayerMoisture$Board" "wetness" "[D") (by decide +kernel)) (fun _ h9 => h9) (v := .ref w) rfl dX1_dry_88 ?_
        refine lv_iload hx hb dX1_dry_91 (lv_at hl 8 rfl) ?_
        refine lv_aload_n hx hb dX1_dry_93 rfl (lv_at hl 1 rfl) ?_
        refine wg (C := RX1) (T := TX1) (N := 7) hx hb hts hi1 hown hw hLb h10 rfl 0 (by decide) (hts (.fieldLink RX1 9 "LayerMoisture$Board" "wetness" "[D") (by decide +kernel)) (fun _ h9 => h9) (v := .ref w) rfl dX1_dry_94 ?_
        refine lv_iload hx hb dX1_dry_97 (lv_at hl 8 rfl) ?_
        refine wld_d hx hb hw hLw h11 i hlt hn31 rfl dX1_dry_99 ?_
        rw [show ((newTo ka kb dep (sp_face dep (g 0) spd bal) (sp_face dep (g nl) spd bal) g nl i)) i = g i from newTo_at ka kb dep (sp_face dep (g 0) spd bal) (sp_face dep (g nl) spd bal) g nl i i (Nat.le_refl i)]
        refine lv_dload hx hb dX1_dry_100 (lv_at hl 7 rfl) ?_
        refine lv_dadd hx hb dX1_dry_102 (hd1 i hlt) ?_
        refine lv_dload hx hb dX1_dry_103 (lv_at hl 0 rfl) ?_
        refine lv_dsub hx hb dX1_dry_105 (by have h9 := hd2 i hlt; rw [e57] at h9; exact h9) ?_
        refine wst_d hx hb hw hLw h11 i hlt hn31 rfl dX1_dry_106 (fun H locs hw => ?_)
        obtain ⟨f13, ef13⟩ : ∃ z : Nat → va_E, z = va_up f9 w (aD (dA 1) (nl + 1) (vf_upd ((newTo ka kb dep (sp_face dep (g 0) spd bal) (sp_face dep (g nl) spd bal) g nl i)) i (FP.dsub (FP.dadd (g i) (sp_gain ka kb dep (sp_face dep (g 0) spd bal) (sp_face dep (g nl) spd bal) g nl i)) (sp_face dep (g nl) spd bal)))) := ⟨_, rfl⟩
        have hw : ww G dA A s L f13 H locs := by rw [ef13]; exact hw
        have h14 : f13 b = .inr (2, [.ref w, .ref k, .int th, .double dep, .int lim, .double load, .int kept]) := by rw [ef13, va_up_ne _ _ hbw]; exact h10
        have h15 : f13 w = aD (dA 1) (nl + 1) (vf_upd ((newTo ka kb dep (sp_face dep (g 0) spd bal) (sp_face dep (g nl) spd bal) g nl i)) i (FP.dsub (FP.dadd (g i) (sp_gain ka kb dep (sp_face dep (g 0) spd bal) (sp_face dep (g nl) spd bal) g nl i)) (sp_face dep (g nl) spd bal))) := by rw [ef13]; exact va_up_self _ _ _
        have h16 : f13 k = .inr (3, [.double ka, .double kb]) := by rw [ef13, va_up_ne _ _ hkw]; exact h12
        refine lv_dload hx hb dX1_dry_107 (lv_at hl 0 rfl) ?_
        refine lv_dstore (lv' := [(10, .double (sp_face dep (g nl) spd bal)), (13, .double (sp_face dep (g nl) spd bal)), (0, .ref b), (1, .double spd), (3, .double bal), (5, .int (nI nl)), (6, .double (sp_face dep (g 0) spd bal)), (8, .double (sp_face dep (g nl) spd bal)), (12, .int (nI i))]) hx hb dX1_dry_109 hl (by decide) rfl (fun ls hl => ?_)
        refine lv_iinc (v := nI (i + 1)) (lv' := [(12, .int (nI (i + 1))), (10, .double (sp_face dep (g nl) spd bal)), (13, .double (sp_face dep (g nl) spd bal)), (0, .ref b), (1, .double spd), (3, .double bal), (5, .int (nI nl)), (6, .double (sp_face dep (g 0) spd bal)), (8, .double (sp_face dep (g nl) spd bal))]) hx hb dX1_dry_111 hl (k := 8) rfl (nI_1 i) (by decide) rfl (fun ls hl => ?_)
        refine lv_goto (tgt := 46) hx hb dX1_dry_114 (by decide) ?_
        rw [ef13, ef9, bx_uu, show vf_upd (newTo ka kb dep (sp_face dep (g 0) spd bal) (sp_face dep (g nl) spd bal) g nl i) i (FP.dsub (FP.dadd (g i) (sp_gain ka kb dep (sp_face dep (g 0) spd bal) (sp_face dep (g nl) spd bal) g nl i)) (sp_face dep (g nl) spd bal)) = newTo ka kb dep (sp_face dep (g 0) spd bal) (sp_face dep (g nl) spd bal) g nl (i + 1) by have h9 := newTo_s ka kb dep (sp_face dep (g 0) spd bal) (sp_face dep (g nl) spd bal) g nl i; rw [sp_new, e57] at h9; exact h9] at hw
        exact ih (i + 1) (by omega) _ _ hw ls (by rw [show sp_gain ka kb dep (sp_face dep (g 0) spd bal) (sp_face dep (g nl) spd bal) g nl (i + 1) = sp_face dep (g nl) spd bal from e57]; exact lv_sub hl [3, 4, 5, 6, 7, 8, 1, 0] rfl)
      · have hin : i < nl := Nat.lt_of_not_le fun q => c57 ((nI_leI (by omega) (by omega)).mpr q)
        have e57 : sp_fl ka kb dep (sp_face dep (g nl) spd bal) g nl i = sp_slope ka kb dep (g i) (g (i + 1)) := by simp only [sp_fl, if_pos hin]
        refine lv_aload_n hx hb dX1_dry_60 rfl (lv_at hl 0 rfl) ?_
        refine lv_aload_n hx hb dX1_dry_61 rfl (lv_at hl 0 rfl) ?_
        refine wg (C := RX1) (T := TX1) (N := 7) hx hb hts hi1 hown hw hLb h10 rfl 0 (by decide) (hts (.fieldLink RX1 9 "LayerMoisture$Board" "wetness" "[D") (by decide +kernel)) (fun _ h9 => h9) (v := .ref w) rfl dX1_dry_62 ?_
        refine lv_iload hx hb dX1_dry_65 (lv_at hl 7 rfl) ?_
        refine wld_d hx hb hw hLw h11 i hlt hn31 rfl dX1_dry_67 ?_
        rw [show ((newTo ka kb dep (sp_face dep (g 0) spd bal) (sp_face dep (g nl) spd bal) g nl i)) i = g i from newTo_at ka kb dep (sp_face dep (g 0) spd bal) (sp_face dep (g nl) spd bal) g nl i i (Nat.le_refl i)]
        refine lv_aload_n hx hb dX1_dry_68 rfl (lv_at hl 0 rfl) ?_
        refine wg (C := RX1) (T := TX1) (N := 7) hx hb hts hi1 hown hw hLb h10 rfl 0 (by decide) (hts (.fieldLink RX1 9 "LayerMoisture$Board" "wetness" "[D") (by decide +kernel)) (fun _ h9 => h9) (v := .ref w) rfl dX1_dry_69 ?_
        refine lv_iload hx hb dX1_dry_72 (lv_at hl 7 rfl) ?_
        refine lv_iconst (v := 1) hx hb dX1_dry_74 (by decide) ?_
        refine lv_iadd hx hb dX1_dry_75 ?_
        rw [show (nI i) + 1 = nI (i + 1) from nI_1 i]
        refine wld_d hx hb hw hLw h11 ((i + 1)) (Nat.succ_lt_succ hin) hn31 rfl dX1_dry_76 ?_
        rw [show ((newTo ka kb dep (sp_face dep (g 0) spd bal) (sp_face dep (g nl) spd bal) g nl i)) ((i + 1)) = g (i + 1) from newTo_at ka kb dep (sp_face dep (g 0) spd bal) (sp_face dep (g nl) spd bal) g nl i (i + 1) (Nat.le_succ i)]
        refine kV_D (C := RX1) (T := TX1) (N := 7) (As := [.double (g i), .double (g (i + 1))]) (rest := []) ⟨hx, hb, hml, hown, hts⟩ (c_X1_slopeFlow l G dA L f9 b w k th lim kept dep load ka kb (g i) (g (i + 1)) hLb h10 hLk h12 (hs1 i hin) (hs2 i hin) (hs3 i hin) (hs4 i hin) (hs5 i hin) (hs6 i hin) hr3 (hs7 i hin)) (cwV 2 hts gX1_dry_X1_slopeFlow rfl rfl rfl (by decide +kernel) ⟨Nat.le_of_ble_eq_true rfl, Nat.le_of_ble_eq_true rfl⟩) hw hA hLb h10 rfl rfl hl.1 rfl (Nat.le_of_ble_eq_true rfl) dX1_dry_77 ⟨Nat.zero_le _, Nat.zero_le _⟩ (fun r17 f18 H locs hp hw => ?_)
        obtain ⟨e1, e2⟩ := hp
        rw [e2] at hw
        rw [e1]
        refine lv_goto (tgt := 85) hx hb dX1_dry_80 (by decide) ?_
        refine lv_dstore (lv' := [(13, .double (sp_slope ka kb dep (g i) (g (i + 1)))), (0, .ref b), (1, .double spd), (3, .double bal), (5, .int (nI nl)), (6, .double (sp_face dep (g 0) spd bal)), (8, .double (sp_face dep (g nl) spd bal)), (10, .double (sp_gain ka kb dep (sp_face dep (g 0) spd bal) (sp_face dep (g nl) spd bal) g nl i)), (12, .int (nI i))]) hx hb dX1_dry_85 hl (by decide) rfl (fun ls hl => ?_)
        refine lv_aload_n hx hb dX1_dry_87 rfl (lv_at hl 1 rfl) ?_
        refine wg (C := RX1) (T := TX1) (N := 7) hx hb hts hi1 hown hw hLb h10 rfl 0 (by decide) (hts (.fieldLink RX1 9 "LayerMoisture$Board" "wetness" "[D") (by decide +kernel)) (fun _ h9 => h9) (v := .ref w) rfl dX1_dry_88 ?_
        refine lv_iload hx hb dX1_dry_91 (lv_at hl 8 rfl) ?_
        refine lv_aload_n hx hb dX1_dry_93 rfl (lv_at hl 1 rfl) ?_
        refine wg (C := RX1) (T := TX1) (N := 7) hx hb hts hi1 hown hw hLb h10 rfl 0 (by decide) (hts (.fieldLink RX1 9 "LayerMoisture$Board" "wetness" "[D") (by decide +kernel)) (fun _ h9 => h9) (v := .ref w) rfl dX1_dry_94 ?_
        refine lv_iload hx hb dX1_dry_97 (lv_at hl 8 rfl) ?_
        refine wld_d hx hb hw hLw h11 i hlt hn31 rfl dX1_dry_99 ?_
        rw [show ((newTo ka kb dep (sp_face dep (g 0) spd bal) (sp_face dep (g nl) spd bal) g nl i)) i = g i from newTo_at ka kb dep (sp_face dep (g 0) spd bal) (sp_face dep (g nl) spd bal) g nl i i (Nat.le_refl i)]
        refine lv_dload hx hb dX1_dry_100 (lv_at hl 7 rfl) ?_
        refine lv_dadd hx hb dX1_dry_102 (hd1 i hlt) ?_
        refine lv_dload hx hb dX1_dry_103 (lv_at hl 0 rfl) ?_
        refine lv_dsub hx hb dX1_dry_105 (by have h9 := hd2 i hlt; rw [e57] at h9; exact h9) ?_
        refine wst_d hx hb hw hLw h11 i hlt hn31 rfl dX1_dry_106 (fun H locs hw => ?_)
        obtain ⟨f19, ef19⟩ : ∃ z : Nat → va_E, z = va_up f9 w (aD (dA 1) (nl + 1) (vf_upd ((newTo ka kb dep (sp_face dep (g 0) spd bal) (sp_face dep (g nl) spd bal) g nl i)) i (FP.dsub (FP.dadd (g i) (sp_gain ka kb dep (sp_face dep (g 0) spd bal) (sp_face dep (g nl) spd bal) g nl i)) (sp_slope ka kb dep (g i) (g (i + 1)))))) := ⟨_, rfl⟩
        have hw : ww G dA A s L f19 H locs := by rw [ef19]; exact hw
        have h20 : f19 b = .inr (2, [.ref w, .ref k, .int th, .double dep, .int lim, .double load, .int kept]) := by rw [ef19, va_up_ne _ _ hbw]; exact h10
        have h21 : f19 w = aD (dA 1) (nl + 1) (vf_upd ((newTo ka kb dep (sp_face dep (g 0) spd bal) (sp_face dep (g nl) spd bal) g nl i)) i (FP.dsub (FP.dadd (g i) (sp_gain ka kb dep (sp_face dep (g 0) spd bal) (sp_face dep (g nl) spd bal) g nl i)) (sp_slope ka kb dep (g i) (g (i + 1))))) := by rw [ef19]; exact va_up_self _ _ _
        have h22 : f19 k = .inr (3, [.double ka, .double kb]) := by rw [ef19, va_up_ne _ _ hkw]; exact h12
        refine lv_dload hx hb dX1_dry_107 (lv_at hl 0 rfl) ?_
        refine lv_dstore (lv' := [(10, .double (sp_slope ka kb dep (g i) (g (i + 1)))), (13, .double (sp_slope ka kb dep (g i) (g (i + 1)))), (0, .ref b), (1, .double spd), (3, .double bal), (5, .int (nI nl)), (6, .double (sp_face dep (g 0) spd bal)), (8, .double (sp_face dep (g nl) spd bal)), (12, .int (nI i))]) hx hb dX1_dry_109 hl (by decide) rfl (fun ls hl => ?_)
        refine lv_iinc (v := nI (i + 1)) (lv' := [(12, .int (nI (i + 1))), (10, .double (sp_slope ka kb dep (g i) (g (i + 1)))), (13, .double (sp_slope ka kb dep (g i) (g (i + 1)))), (0, .ref b), (1, .double spd), (3, .double bal), (5, .int (nI nl)), (6, .double (sp_face dep (g 0) spd bal)), (8, .double (sp_face dep (g nl) spd bal))]) hx hb dX1_dry_111 hl (k := 8) rfl (nI_1 i) (by decide) rfl (fun ls hl => ?_)
        refine lv_goto (tgt := 46) hx hb dX1_dry_114 (by decide) ?_
        rw [ef19, ef9, bx_uu, show vf_upd (newTo ka kb dep (sp_face dep (g 0) spd bal) (sp_face dep (g nl) spd bal) g nl i) i (FP.dsub (FP.dadd (g i) (sp_gain ka kb dep (sp_face dep (g 0) spd bal) (sp_face dep (g nl) spd bal) g nl i)) (sp_slope ka kb dep (g i) (g (i + 1)))) = newTo ka kb dep (sp_face dep (g 0) spd bal) (sp_face dep (g nl) spd bal) g nl (i + 1) by have h9 := newTo_s ka kb dep (sp_face dep (g 0) spd bal) (sp_face dep (g nl) spd bal) g nl i; rw [sp_new, e57] at h9; exact h9] at hw
        exact ih (i + 1) (by omega) _ _ hw ls (by rw [show sp_gain ka kb dep (sp_face dep (g 0) spd bal) (sp_face dep (g nl) spd bal) g nl (i + 1) = sp_slope ka kb dep (g i) (g (i + 1)) from e57]; exact lv_sub hl [3, 4, 5, 6, 7, 8, 1, 0] rfl)
  have hw : ww G dA A s L (va_up f w (aD (dA 1) (nl + 1) (newTo ka kb dep (sp_face dep (g 0) spd bal) (sp_face dep (g nl) spd bal) g nl 0))) H locs := (show ww G dA A s L (va_up f w (aD (dA 1) (nl + 1) g)) H locs by rw [va_up_id hfw]; exact hw)
  exact loop (nl + 1) 0 (by omega) _ _ hw ls (lv_sub hl [5, 6, 7, 4, 3, 2, 1, 0] rfl)
