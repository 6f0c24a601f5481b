set_option maxHeartbeats 4000000 in
set_option maxRecDepth 100000 in
theorem c_X2_init (l : Launch) (G : va_G) (dA : Nat → ClassId) (L : List Nat) (f : Nat → va_E) (b : Nat) (hLb : b ∈ L) (hfb : f b = .inr (3, [.double 0, .double 0]))  : mN l yX2_init wsX2_init ({ frames := 1, cells := 0, slots := 0, locals := 20 }) G dA [.ref b] L f 0 0 (fun _ => True) (fun u => u.1 = L ∧ u.2 = f) := by
  refine mN_of (cc := cX2_init) (maxL := 1) (by decide) rfl (Nat.le_of_ble_eq_true rfl) ?_
  intro p e s m below meth c A ls Q hx hb hml hown hts hlocks hA hin0 hE hw hl hret
  have hown : s.vm.findClass RX2 = some m.cls := hown
  have hl : lv_has ls 1 [(0, .ref b)] := hl
  have hsub0 : ∀ z, z ∈ L → z ∈ L := fun _ h => h
  have hfr0 : ∀ z, z ∈ L → z ≠ b → f z = f z := fun _ _ _ => rfl
  refine lv_aload_n hx hb dX2_init_0 rfl (lv_at hl 0 rfl) ?_
  refine W.objInit hx hb hown (hts (.methodLink RX2 1 objectInit) (by decide +kernel)) (hts (.instanceMethod objectInit) (by decide +kernel)) (hts (.code objectInit ⟨#[0xb1]⟩ 1 none) (List.mem_of_getElem? (i := 3) rfl)) rfl (by rw [hml]; exact hl.1) rfl dX2_init_1 (Nat.le_of_ble_eq_true rfl) (Nat.le_of_ble_eq_true rfl) ?_
  refine W.eq (g2 := F0 m 4 ls []) rfl ?_
  refine W.widen (k := 0) (n := 0) (Nat.le_of_ble_eq_true rfl) (Nat.le_of_ble_eq_true rfl) ?_
  exact hret _ _ _ _ L f hw ⟨rfl, rfl⟩ dX2_init_4

set_option maxHeartbeats 4000000 in
set_option maxRecDepth 100000 in
theorem c_X3_init (l : Launch) (G : va_G) (dA : Nat → ClassId) (L : List Nat) (f : Nat → va_E) (b : Nat) (hLb : b ∈ L) (hfb : f b = .inr (4, [.double 0, .long 0]))  : mN l yX3_init wsX3_init ({ frames := 1, cells := 0, slots := 0, locals := 20 }) G dA [.ref b] L f 0 0 (fun _ => True) (fun u => u.1 = L ∧ u.2 = f) := by
  refine mN_of (cc := cX3_init) (maxL := 1) (by decide) rfl (Nat.le_of_ble_eq_true rfl) ?_
  intro p e s m below meth c A ls Q hx hb hml hown hts hlocks hA hin0 hE hw hl hret
  have hown : s.vm.findClass RX3 = some m.cls := hown
  have hl : lv_has ls 1 [(0, .ref b)] := hl
  have hsub0 : ∀ z, z ∈ L → z ∈ L := fun _ h => h
  have hfr0 : ∀ z, z ∈ L → z ≠ b → f z = f z := fun _ _ _ => rfl
  refine lv_aload_n hx hb dX3_init_0 rfl (lv_at hl 0 rfl) ?_
  refine W.objInit hx hb hown (hts (.methodLink RX3 1 objectInit) (by decide +kernel)) (hts (.instanceMethod objectInit) (by decide +kernel)) (hts (.code objectInit ⟨#[0xb1]⟩ 1 none) (List.mem_of_getElem? (i := 3) rfl)) rfl (by rw [hml]; exact hl.1) rfl dX3_init_1 (Nat.le_of_ble_eq_true rfl) (Nat.le_of_ble_eq_true rfl) ?_
  refine W.eq (g2 := F0 m 4 ls []) rfl ?_
  refine W.widen (k := 0) (n := 0) (Nat.le_of_ble_eq_true rfl) (Nat.le_of_ble_eq_true rfl) ?_
  exact hret _ _ _ _ L f hw ⟨rfl, rfl⟩ dX3_init_4

set_option maxHeartbeats 4000000 in
set_option maxRecDepth 100000 in
theorem c_X0_init (l : Launch) (G : va_G) (dA : Nat → ClassId) (L : List Nat) (f : Nat → va_E) (b : Nat) (hLb : b ∈ L) (hfb : f b = .inr (1, [.double 0, .double 0, .double 0, .double 0]))  : mN l yX0_init wsX0_init ({ frames := 1, cells := 0, slots := 0, locals := 20 }) G dA [.ref b] L f 0 0 (fun _ => True) (fun u => u.1 = L ∧ u.2 b = .inr (1, [.double 4643862126702624768, .double 4602678819172646912, .double FP.dconst1, .double FP.dconst0]) ∧ (∀ z, z ∈ L → z ≠ b → u.2 z = f z)) := by
  refine mN_of (cc := cX0_init) (maxL := 1) (by decide) rfl (Nat.le_of_ble_eq_true rfl) ?_
  intro p e s m below meth c A ls Q hx hb hml hown hts hlocks hA hin0 hE hw hl hret
  have hown : s.vm.findClass RX0 = some m.cls := hown
  have hl : lv_has ls 1 [(0, .ref b)] := hl
  have hi0 : ∀ w ∈ u_ws RX0 TX0 4, w ∈ wsX0_init := by decide +kernel
  have hsub0 : ∀ z, z ∈ L → z ∈ L := fun _ h => h
  have hfr0 : ∀ z, z ∈ L → z ≠ b → f z = f z := fun _ _ _ => rfl
  refine lv_aload_n hx hb dX0_init_0 rfl (lv_at hl 0 rfl) ?_
  refine W.objInit hx hb hown (hts (.methodLink RX0 1 objectInit) (by decide +kernel)) (hts (.instanceMethod objectInit) (by decide +kernel)) (hts (.code objectInit ⟨#[0xb1]⟩ 1 none) (List.mem_of_getElem? (i := 3) rfl)) rfl (by rw [hml]; exact hl.1) rfl dX0_init_1 (Nat.le_of_ble_eq_true rfl) (Nat.le_of_ble_eq_true rfl) ?_
  refine W.eq (g2 := F0 m 4 ls []) rfl ?_
  refine lv_aload_n hx hb dX0_init_4 rfl (lv_at hl 0 rfl) ?_
  refine lv_ldc2d (v := 4643862126702624768) hx hb hown (hts (.constantDouble RX0 7 (4643862126702624768)) (by decide +kernel)) dX0_init_5 ?_
  refine wp_ (C := RX0) (T := TX0) (N := 4) hx hb hts hi0 tyX0 tyX0_ok nmX0 hown hw hLb hfb rfl 0 (by decide) (hts (.fieldLink RX0 9 "LayerMoisture$Air" "kelvin" "D") (by decide +kernel)) (fun _ h9 => h9) rfl (ty := .double) (v := .double 4643862126702624768) (by decide +kernel) rfl rfl (Nat.le_of_ble_eq_true rfl) dX0_init_8 (fun H locs hw => ?_)
  obtain ⟨f1, ef1⟩ : ∃ z : Nat → va_E, z = va_up f b (.inr (1, [.double 4643862126702624768, .double 0, .double 0, .double 0])) := ⟨_, rfl⟩
  have hw : ww G dA A s L f1 H locs := by rw [ef1]; exact hw
  have h2 : f1 b = .inr (1, [.double 4643862126702624768, .double 0, .double 0, .double 0]) := by rw [ef1]; exact va_up_self _ _ _
  have hr3 : ∀ z, z ∈ L → z ≠ b → f1 z = f z := fun z hz hb => (congrFun ef1 z).trans ((va_up_ne _ _ hb).trans (hfr0 z hz hb))
  refine lv_aload_n hx hb dX0_init_11 rfl (lv_at hl 0 rfl) ?_
  refine lv_ldc2d (v := 4602678819172646912) hx hb hown (hts (.constantDouble RX0 15 (4602678819172646912)) (by decide +kernel)) dX0_init_12 ?_
  refine wp_ (C := RX0) (T := TX0) (N := 4) hx hb hts hi0 tyX0 tyX0_ok nmX0 hown hw hLb h2 rfl 1 (by decide) (hts (.fieldLink RX0 17 "LayerMoisture$Air" "damp" "D") (by decide +kernel)) (fun _ h9 => h9) rfl (ty := .double) (v := .double 4602678819172646912) (by decide +kernel) rfl rfl (Nat.le_of_ble_eq_true rfl) dX0_init_15 (fun H locs hw => ?_)
  obtain ⟨f4, ef4⟩ : ∃ z : Nat → va_E, z = va_up f1 b (.inr (1, [.double 4643862126702624768, .double 4602678819172646912, .double 0, .double 0])) := ⟨_, rfl⟩
  have hw : ww G dA A s L f4 H locs := by rw [ef4]; exact hw
  have h5 : f4 b = .inr (1, [.double 4643862126702624768, .double 4602678819172646912, .double 0, .double 0]) := by rw [ef4]; exact va_up_self _ _ _
  have hr6 : ∀ z, z ∈ L → z ≠ b → f4 z = f z := fun z hz hb => (congrFun ef4 z).trans ((va_up_ne _ _ hb).trans (hr3 z hz hb))
  refine lv_aload_n hx hb dX0_init_18 rfl (lv_at hl 0 rfl) ?_
  refine lv_dconst1 hx hb dX0_init_19 ?_
  refine wp_ (C := RX0) (T := TX0) (N := 4) hx hb hts hi0 tyX0 tyX0_ok nmX0 hown hw hLb h5 rfl 2 (by decide) (hts (.fieldLink RX0 20 "LayerMoisture$Air" "speed" "D") (by decide +kernel)) (fun _ h9 => h9) rfl (ty := .double) (v := .double FP.dconst1) (by decide +kernel) rfl rfl (Nat.le_of_ble_eq_true rfl) dX0_init_20 (fun H locs hw => ?_)
  obtain ⟨f7, ef7⟩ : ∃ z : Nat → va_E, z = va_up f4 b (.inr (1, [.double 4643862126702624768, .double 4602678819172646912, .double FP.dconst1, .double 0])) := ⟨_, rfl⟩
  have hw : ww G dA A s L f7 H locs := by rw [ef7]; exact hw
  have h8 : f7 b = .inr (1, [.double 4643862126702624768, .double 4602678819172646912, .double FP.dconst1, .double 0]) := by rw [ef7]; exact va_up_self _ _ _
  have hr9 : ∀ z, z ∈ L → z ≠ b → f7 z = f z := fun z hz hb => (congrFun ef7 z).trans ((va_up_ne _ _ hb).trans (hr6 z hz hb))
  refine lv_aload_n hx hb dX0_init_23 rfl (lv_at hl 0 rfl) ?_
  refine lv_dconst0 hx hb dX0_init_24 ?_
  refine wp_ (C := RX0) (T := TX0) (N := 4) hx hb hts hi0 tyX0 tyX0_ok nmX0 hown hw hLb h8 rfl 3 (by decide) (hts (.fieldLink RX0 23 "LayerMoisture$Air" "ventShare" "D") (by decide +kernel)) (fun _ h9 => h9) rfl (ty := .double) (v := .double FP.dconst0) (by decide +kernel) rfl rfl (Nat.le_of_ble_eq_true rfl) dX0_init_25 (fun H locs hw => ?_)
  obtain ⟨f10, ef10⟩ : ∃ z : Nat → va_E, z = va_up f7 b (.inr (1, [.double 4643862126702624768, .double 4602678819172646912, .double FP.dconst1, .double FP.dconst0])) := ⟨_, rfl⟩
  have hw : ww G dA A s L f10 H locs := by rw [ef10]; exact hw
  have h11 : f10 b = .inr (1, [.double 4643862126702624768, .double 4602678819172646912, .double FP.dconst1, .double FP.dconst0]) := by rw [ef10]; exact va_up_self _ _ _
  have hr12 : ∀ z, z ∈ L → z ≠ b → f10 z = f z := fun z hz hb => (congrFun ef10 z).trans ((va_up_ne _ _ hb).trans (hr9 z hz hb))
  refine W.widen (k := 0) (n := 0) (Nat.le_of_ble_eq_true rfl) (Nat.le_of_ble_eq_true rfl) ?_
  exact hret _ _ _ _ L f10 hw ⟨rfl, h11, hr12⟩ dX0_init_28

set_option maxHeartbeats 4000000 in
set_option maxRecDepth 100000 in
theorem c_X1_init (l : Launch) (G : va_G) (dA : Nat → ClassId) (L : List Nat) (f : Nat → va_E) (b n k : Nat) (hLb : b ∈ L) (hfb : f b = .inr (2, [.null, .null, .int 0, .double 0, .int 0, .double 0, .int 0])) (hn16 : n ≤ 16) : mN l yX1_init wsX1_init ({ frames := 1, cells := 1, slots := 16, locals := 20 }) G dA [.ref b, .int (nI n), .ref k] L f 1 16 (fun _ => True) (fun u => ∃ w9 : Nat, w9 ∉ L ∧ u.1 = L ++ [w9] ∧ u.2 b = .inr (2, [.ref w9, .ref k, .int 0, .double 0, .int 0, .double 0, .int 0]) ∧ u.2 w9 = aD (dA 1) n (fun _ => 0) ∧ (∀ z, z ∈ L → z ≠ b → u.2 z = f z)) := by
  refine mN_of (cc := cX1_init) (maxL := 3) (by decide) rfl (Nat.le_of_ble_eq_true rfl) ?_
  intro p e s m below meth c A ls Q hx hb hml hown hts hlocks hA hin0 hE hw hl hret
  have hown : s.vm.findClass RX1 = some m.cls := hown
  have hl : lv_has ls 3 [(0, .ref b), (1, .int (nI n)), (2, .ref k)] := hl
  have hi1 : ∀ w ∈ u_ws RX1 TX1 7, w ∈ wsX1_init := by decide +kernel
  have hsub0 : ∀ z, z ∈ L → z ∈ L := fun _ h => h
  have hfr0 : ∀ z, z ∈ L → z ≠ b → f z = f z := fun _ _ _ => rfl
  have hn31 : n < 2 ^ 31 := by omega
  refine lv_aload_n hx hb dX1_init_0 rfl (lv_at hl 0 rfl) ?_
  refine W.objInit hx hb hown (hts (.methodLink RX1 3 objectInit) (by decide +kernel)) (hts (.instanceMethod objectInit) (by decide +kernel)) (hts (.code objectInit ⟨#[0xb1]⟩ 1 none) (List.mem_of_getElem? (i := 3) rfl)) rfl (by rw [hml]; exact hl.1) rfl dX1_init_1 (Nat.le_of_ble_eq_true rfl) (Nat.le_of_ble_eq_true rfl) ?_
  refine W.eq (g2 := F0 m 4 ls []) rfl ?_
  refine lv_aload_n hx hb dX1_init_4 rfl (lv_at hl 0 rfl) ?_
  refine lv_iload_n hx hb dX1_init_5 rfl (lv_at hl 1 rfl) ?_
  refine wnewa_double (N' := n) hx hb (hts (.arrayClass .double) (by decide +kernel)) hw hA (nI_pos hn31) (nI_clamp hn31) (by show n * 8 ≤ 536870912; omega) (by decide) (by show 0 + n ≤ 16; omega) dX1_init_6 (fun w9 H hqw9 hw => ?_)
  obtain ⟨L1, eL1⟩ : ∃ z : List Nat, z = L ++ [w9] := ⟨_, rfl⟩
  obtain ⟨f2, ef2⟩ : ∃ z : Nat → va_E, z = va_up f w9 (aD (dA 1) n ((fun _ => 0))) := ⟨_, rfl⟩
  have hw : ww G dA A s L1 f2 H [] := by rw [eL1, ef2]; exact hw
  have nb_w9 : b ≠ w9 := fun h => hqw9 (h ▸ hLb)
  have m3 : b ∈ L1 := by rw [eL1]; exact List.mem_append_left _ hLb
  have h4 : f2 b = .inr (2, [.null, .null, .int 0, .double 0, .int 0, .double 0, .int 0]) := by rw [ef2, va_up_ne _ _ nb_w9]; exact hfb
  have m5 : w9 ∈ L1 := by rw [eL1]; exact List.mem_append_right _ List.mem_cons_self
  have h6 : f2 w9 = aD (dA 1) n ((fun _ => 0)) := by rw [ef2]; exact va_up_self _ _ _
  have ni7 : w9 ∉ L := fun h => hqw9 (hsub0 _ h)
  have hs8 : ∀ z, z ∈ L → z ∈ L1 := fun z h => by rw [eL1]; exact List.mem_append_left _ (hsub0 z h)
  have hr9 : ∀ z, z ∈ L → z ≠ b → f2 z = f z := fun z hz hb => (congrFun ef2 z).trans ((va_up_ne _ _ (fun h : z = w9 => ni7 (h ▸ hz))).trans (hfr0 z hz hb))
  refine W.widen (k := 1) (n := 16) (by omega) (by omega) ?_
  refine wpF_ (C := RX1) (T := TX1) (N := 7) hx hb hts hi1 tyX1 tyX1_ok nmX1 hown hw m3 h4 rfl 0 (by decide) (hts (.fieldLink RX1 9 "LayerMoisture$Board" "wetness" "[D") (by decide +kernel)) (fun _ h9 => h9) rfl hin0 rfl (ty := .array .double) (v := .ref w9) (by decide +kernel) rfl rfl (Nat.le_of_ble_eq_true rfl) dX1_init_8 (fun H locs hw => ?_)
  obtain ⟨f10, ef10⟩ : ∃ z : Nat → va_E, z = va_up f2 b (.inr (2, [.ref w9, .null, .int 0, .double 0, .int 0, .double 0, .int 0])) := ⟨_, rfl⟩
  have hw : ww G dA A s L1 f10 H locs := by rw [ef10]; exact hw
  have h11 : f10 b = .inr (2, [.ref w9, .null, .int 0, .double 0, .int 0, .double 0, .int 0]) := by rw [ef10]; exact va_up_self _ _ _
  have h12 : f10 w9 = aD (dA 1) n ((fun _ => 0)) := by rw [ef10, va_up_ne _ _ (Ne.symm nb_w9)]; exact h6
  have hr13 : ∀ z, z ∈ L → z ≠ b → f10 z = f z := fun z hz hb => (congrFun ef10 z).trans ((va_up_ne _ _ hb).trans (hr9 z hz hb))
  refine lv_aload_n hx hb dX1_init_11 rfl (lv_at hl 0 rfl) ?_
  refine lv_aload_n hx hb dX1_init_12 rfl (lv_at hl 2 rfl) ?_
  refine wp_ (C := RX1) (T := TX1) (N := 7) hx hb hts hi1 tyX1 tyX1_ok nmX1 hown hw m3 h11 rfl 1 (by decide) (hts (.fieldLink RX1 15 "LayerMoisture$Board" "kind" "LLayerMoisture$Kind;") (by decide +kernel)) (fun _ h9 => h9) rfl (ty := .object "LayerMoisture$Kind") (v := .ref k) (by decide +kernel) rfl rfl (Nat.le_of_ble_eq_true rfl) dX1_init_13 (fun H locs hw => ?_)
  obtain ⟨f14, ef14⟩ : ∃ z : Nat → va_E, z = va_up f10 b (.inr (2, [.ref w9, .ref k, .int 0, .double 0, .int 0, .double 0, .int 0])) := ⟨_, rfl⟩
  have hw : ww G dA A s L1 f14 H locs := by rw [ef14]; exact hw
  have h15 : f14 b = .inr (2, [.ref w9, .ref k, .int 0, .double 0, .int 0, .double 0, .int 0]) := by rw [ef14]; exact va_up_self _ _ _
  have h16 : f14 w9 = aD (dA 1) n ((fun _ => 0)) := by rw [ef14, va_up_ne _ _ (Ne.symm nb_w9)]; exact h12
  have hr17 : ∀ z, z ∈ L → z ≠ b → f14 z = f z := fun z hz hb => (congrFun ef14 z).trans ((va_up_ne _ _ hb).trans (hr13 z hz hb))
  refine W.widen (k := 1) (n := 16) (Nat.le_of_ble_eq_true rfl) (Nat.le_of_ble_eq_true rfl) ?_
  exact hret _ _ _ _ L1 f14 hw ⟨w9, hqw9, (by rw [eL1]), h15, h16, hr17⟩ dX1_init_16

set_option maxHeartbeats 4000000 in
set_option maxRecDepth 100000 in
theorem c_X4_init (l : Launch) (G : va_G) (dA : Nat → ClassId) (L : List Nat) (f : Nat → va_E) (b : Nat) (hLb : b ∈ L) (hfb : f b = .inr (5, [.null, .null, .null, .null, .int 0, .int 0]))  : mN l yX4_init wsX4_init ({ frames := 1, cells := 4, slots := 48, locals := 20 }) G dA [.ref b] L f 4 48 (fun _ => True) (fun u => ∃ pb pt pk pd : Nat, (pb ∉ L ∧ pt ∉ L ∧ pk ∉ L ∧ pd ∉ L) ∧ u.1 = L ++ [pb] ++ [pt] ++ [pk] ++ [pd] ∧ u.2 b = .inr (5, [.ref pb, .ref pt, .ref pk, .ref pd, .int 0, .int 0]) ∧ u.2 pb = aI (dA 3) 12 (fun _ => 0) ∧ u.2 pt = aI (dA 2) 12 (fun _ => 0) ∧ u.2 pk = aI (dA 2) 12 (fun _ => 0) ∧ u.2 pd = aI (dA 2) 12 (fun _ => 0) ∧ (∀ z, z ∈ L → z ≠ b → u.2 z = f z)) := by
  refine mN_of (cc := cX4_init) (maxL := 1) (by decide) rfl (Nat.le_of_ble_eq_true rfl) ?_
  intro p e s m below meth c A ls Q hx hb hml hown hts hlocks hA hin0 hE hw hl hret
  have hown : s.vm.findClass RX4 = some m.cls := hown
  have hl : lv_has ls 1 [(0, .ref b)] := hl
  have hi4 : ∀ w ∈ u_ws RX4 TX4 6, w ∈ wsX4_init := by decide +kernel
  have hsub0 : ∀ z, z ∈ L → z ∈ L := fun _ h => h
  have hfr0 : ∀ z, z ∈ L → z ≠ b → f z = f z := fun _ _ _ => rfl
  refine lv_aload_n hx hb dX4_init_0 rfl (lv_at hl 0 rfl) ?_
  refine W.objInit hx hb hown (hts (.methodLink RX4 3 objectInit) (by decide +kernel)) (hts (.instanceMethod objectInit) (by decide +kernel)) (hts (.code objectInit ⟨#[0xb1]⟩ 1 none) (List.mem_of_getElem? (i := 3) rfl)) rfl (by rw [hml]; exact hl.1) rfl dX4_init_1 (Nat.le_of_ble_eq_true rfl) (Nat.le_of_ble_eq_true rfl) ?_
  refine W.eq (g2 := F0 m 4 ls []) rfl ?_
  refine lv_aload_n hx hb dX4_init_4 rfl (lv_at hl 0 rfl) ?_
  refine lv_bipush (v := 12) hx hb dX4_init_5 (by decide) ?_
  refine wnewa_boolean (N' := 12) hx hb (hts (.arrayClass .boolean) (by decide +kernel)) hw hA (by decide) (by decide) (by decide) (by decide) (by decide) dX4_init_7 (fun pb H hqpb hw => ?_)
  obtain ⟨L1, eL1⟩ : ∃ z : List Nat, z = L ++ [pb] := ⟨_, rfl⟩
  obtain ⟨f2, ef2⟩ : ∃ z : Nat → va_E, z = va_up f pb (aI (dA 3) 12 ((fun _ => 0))) := ⟨_, rfl⟩
  have hw : ww G dA A s L1 f2 H [] := by rw [eL1, ef2]; exact hw
  have nb_pb : b ≠ pb := fun h => hqpb (h ▸ hLb)
  have m3 : b ∈ L1 := by rw [eL1]; exact List.mem_append_left _ hLb
  have h4 : f2 b = .inr (5, [.null, .null, .null, .null, .int 0, .int 0]) := by rw [ef2, va_up_ne _ _ nb_pb]; exact hfb
  have m5 : pb ∈ L1 := by rw [eL1]; exact List.mem_append_right _ List.mem_cons_self
  have h6 : f2 pb = aI (dA 3) 12 ((fun _ => 0)) := by rw [ef2]; exact va_up_self _ _ _
  have ni7 : pb ∉ L := fun h => hqpb (hsub0 _ h)
  have hs8 : ∀ z, z ∈ L → z ∈ L1 := fun z h => by rw [eL1]; exact List.mem_append_left _ (hsub0 z h)
  have hr9 : ∀ z, z ∈ L → z ≠ b → f2 z = f z := fun z hz hb => (congrFun ef2 z).trans ((va_up_ne _ _ (fun h : z = pb => ni7 (h ▸ hz))).trans (hfr0 z hz hb))
  refine wpF_ (C := RX4) (T := TX4) (N := 6) hx hb hts hi4 tyX4 tyX4_ok nmX4 hown hw m3 h4 rfl 0 (by decide) (hts (.fieldLink RX4 11 "LayerMoisture$Plan" "byHours" "[Z") (by decide +kernel)) (fun _ h9 => h9) rfl hin0 rfl (ty := .array .boolean) (v := .ref pb) (by decide +kernel) rfl rfl (Nat.le_of_ble_eq_true rfl) dX4_init_9 (fun H locs hw => ?_)
  obtain ⟨f10, ef10⟩ : ∃ z : Nat → va_E, z = va_up f2 b (.inr (5, [.ref pb, .null, .null, .null, .int 0, .int 0])) := ⟨_, rfl⟩
  have hw : ww G dA A s L1 f10 H locs := by rw [ef10]; exact hw
  have h11 : f10 b = .inr (5, [.ref pb, .null, .null, .null, .int 0, .int 0]) := by rw [ef10]; exact va_up_self _ _ _
  have h12 : f10 pb = aI (dA 3) 12 ((fun _ => 0)) := by rw [ef10, va_up_ne _ _ (Ne.symm nb_pb)]; exact h6
  have hr13 : ∀ z, z ∈ L → z ≠ b → f10 z = f z := fun z hz hb => (congrFun ef10 z).trans ((va_up_ne _ _ hb).trans (hr9 z hz hb))
  refine lv_aload_n hx hb dX4_init_12 rfl (lv_at hl 0 rfl) ?_
  refine lv_bipush (v := 12) hx hb dX4_init_13 (by decide) ?_
  refine wnewa_int (N' := 12) hx hb (hts (.arrayClass .int) (by decide +kernel)) hw hA (by decide) (by decide) (by decide) (by decide) (by decide) dX4_init_15 (fun pt H hqpt hw => ?_)
  obtain ⟨L14, eL14⟩ : ∃ z : List Nat, z = L1 ++ [pt] := ⟨_, rfl⟩
  obtain ⟨f15, ef15⟩ : ∃ z : Nat → va_E, z = va_up f10 pt (aI (dA 2) 12 ((fun _ => 0))) := ⟨_, rfl⟩
  have hw : ww G dA A s L14 f15 H locs := by rw [eL14, ef15]; exact hw
  have nb_pt : b ≠ pt := fun h => hqpt (h ▸ m3)
  have m16 : b ∈ L14 := by rw [eL14]; exact List.mem_append_left _ m3
  have h17 : f15 b = .inr (5, [.ref pb, .null, .null, .null, .int 0, .int 0]) := by rw [ef15, va_up_ne _ _ nb_pt]; exact h11
  have npb_pt : pb ≠ pt := fun h => hqpt (h ▸ m5)
  have m18 : pb ∈ L14 := by rw [eL14]; exact List.mem_append_left _ m5
  have h19 : f15 pb = aI (dA 3) 12 ((fun _ => 0)) := by rw [ef15, va_up_ne _ _ npb_pt]; exact h12
  have m20 : pt ∈ L14 := by rw [eL14]; exact List.mem_append_right _ List.mem_cons_self
  have h21 : f15 pt = aI (dA 2) 12 ((fun _ => 0)) := by rw [ef15]; exact va_up_self _ _ _
  have ni22 : pt ∉ L := fun h => hqpt (hs8 _ h)
  have hs23 : ∀ z, z ∈ L → z ∈ L14 := fun z h => by rw [eL14]; exact List.mem_append_left _ (hs8 z h)
  have hr24 : ∀ z, z ∈ L → z ≠ b → f15 z = f z := fun z hz hb => (congrFun ef15 z).trans ((va_up_ne _ _ (fun h : z = pt => ni22 (h ▸ hz))).trans (hr13 z hz hb))
  refine wpF_ (C := RX4) (T := TX4) (N := 6) hx hb hts hi4 tyX4 tyX4_ok nmX4 hown hw m16 h17 rfl 1 (by decide) (hts (.fieldLink RX4 15 "LayerMoisture$Plan" "times" "[I") (by decide +kernel)) (fun _ h9 => h9) rfl hin0 rfl (ty := .array .int) (v := .ref pt) (by decide +kernel) rfl rfl (Nat.le_of_ble_eq_true rfl) dX4_init_17 (fun H locs hw => ?_)
  obtain ⟨f25, ef25⟩ : ∃ z : Nat → va_E, z = va_up f15 b (.inr (5, [.ref pb, .ref pt, .null, .null, .int 0, .int 0])) := ⟨_, rfl⟩
  have hw : ww G dA A s L14 f25 H locs := by rw [ef25]; exact hw
  have h26 : f25 b = .inr (5, [.ref pb, .ref pt, .null, .null, .int 0, .int 0]) := by rw [ef25]; exact va_up_self _ _ _
  have h27 : f25 pb = aI (dA 3) 12 ((fun _ => 0)) := by rw [ef25, va_up_ne _ _ (Ne.symm nb_pb)]; exact h19
  have h28 : f25 pt = aI (dA 2) 12 ((fun _ => 0)) := by rw [ef25, va_up_ne _ _ (Ne.symm nb_pt)]; exact h21
  have hr29 : ∀ z, z ∈ L → z ≠ b → f25 z = f z := fun z hz hb => (congrFun ef25 z).trans ((va_up_ne _ _ hb).trans (hr24 z hz hb))
  refine lv_aload_n hx hb dX4_init_20 rfl (lv_at hl 0 rfl) ?_
  refine lv_bipush (v := 12) hx hb dX4_init_21 (by decide) ?_
  refine wnewa_int (N' := 12) hx hb (hts (.arrayClass .int) (by decide +kernel)) hw hA (by decide) (by decide) (by decide) (by decide) (by decide) dX4_init_23 (fun pk H hqpk hw => ?_)
  obtain ⟨L30, eL30⟩ : ∃ z : List Nat, z = L14 ++ [pk] := ⟨_, rfl⟩
  obtain ⟨f31, ef31⟩ : ∃ z : Nat → va_E, z = va_up f25 pk (aI (dA 2) 12 ((fun _ => 0))) := ⟨_, rfl⟩
  have hw : ww G dA A s L30 f31 H locs := by rw [eL30, ef31]; exact hw
  have nb_pk : b ≠ pk := fun h => hqpk (h ▸ m16)
  have m32 : b ∈ L30 := by rw [eL30]; exact List.mem_append_left _ m16
  have h33 : f31 b = .inr (5, [.ref pb, .ref pt, .null, .null, .int 0, .int 0]) := by rw [ef31, va_up_ne _ _ nb_pk]; exact h26
  have npb_pk : pb ≠ pk := fun h => hqpk (h ▸ m18)
  have m34 : pb ∈ L30 := by rw [eL30]; exact List.mem_append_left _ m18
  have h35 : f31 pb = aI (dA 3) 12 ((fun _ => 0)) := by rw [ef31, va_up_ne _ _ npb_pk]; exact h27
  have npt_pk : pt ≠ pk := fun h => hqpk (h ▸ m20)
  have m36 : pt ∈ L30 := by rw [eL30]; exact List.mem_append_left _ m20
  have h37 : f31 pt = aI (dA 2) 12 ((fun _ => 0)) := by rw [ef31, va_up_ne _ _ npt_pk]; exact h28
  have m38 : pk ∈ L30 := by rw [eL30]; exact List.mem_append_right _ List.mem_cons_self
  have h39 : f31 pk = aI (dA 2) 12 ((fun _ => 0)) := by rw [ef31]; exact va_up_self _ _ _
  have ni40 : pk ∉ L := fun h => hqpk (hs23 _ h)
  have hs41 : ∀ z, z ∈ L → z ∈ L30 := fun z h => by rw [eL30]; exact List.mem_append_left _ (hs23 z h)
  have hr42 : ∀ z, z ∈ L → z ≠ b → f31 z = f z := fun z hz hb => (congrFun ef31 z).trans ((va_up_ne _ _ (fun h : z = pk => ni40 (h ▸ hz))).trans (hr29 z hz hb))
  refine wpF_ (C := RX4) (T := TX4) (N := 6) hx hb hts hi4 tyX4 tyX4_ok nmX4 hown hw m32 h33 rfl 2 (by decide) (hts (.fieldLink RX4 19 "LayerMoisture$Plan" "kelvins" "[I") (by decide +kernel)) (fun _ h9 => h9) rfl hin0 rfl (ty := .array .int) (v := .ref pk) (by decide +kernel) rfl rfl (Nat.le_of_ble_eq_true rfl) dX4_init_25 (fun H locs hw => ?_)
  obtain ⟨f43, ef43⟩ : ∃ z : Nat → va_E, z = va_up f31 b (.inr (5, [.ref pb, .ref pt, .ref pk, .null, .int 0, .int 0])) := ⟨_, rfl⟩
  have hw : ww G dA A s L30 f43 H locs := by rw [ef43]; exact hw
  have h44 : f43 b = .inr (5, [.ref pb, .ref pt, .ref pk, .null, .int 0, .int 0]) := by rw [ef43]; exact va_up_self _ _ _
  have h45 : f43 pb = aI (dA 3) 12 ((fun _ => 0)) := by rw [ef43, va_up_ne _ _ (Ne.symm nb_pb)]; exact h35
  have h46 : f43 pt = aI (dA 2) 12 ((fun _ => 0)) := by rw [ef43, va_up_ne _ _ (Ne.symm nb_pt)]; exact h37
  have h47 : f43 pk = aI (dA 2) 12 ((fun _ => 0)) := by rw [ef43, va_up_ne _ _ (Ne.symm nb_pk)]; exact h39
  have hr48 : ∀ z, z ∈ L → z ≠ b → f43 z = f z := fun z hz hb => (congrFun ef43 z).trans ((va_up_ne _ _ hb).trans (hr42 z hz hb))
  refine lv_aload_n hx hb dX4_init_28 rfl (lv_at hl 0 rfl) ?_
  refine lv_bipush (v := 12) hx hb dX4_init_29 (by decide) ?_
  refine wnewa_int (N' := 12) hx hb (hts (.arrayClass .int) (by decide +kernel)) hw hA (by decide) (by decide) (by decide) (by decide) (by decide) dX4_init_31 (fun pd H hqpd hw => ?_)
  obtain ⟨L49, eL49⟩ : ∃ z : List Nat, z = L30 ++ [pd] := ⟨_, rfl⟩
  obtain ⟨f50, ef50⟩ : ∃ z : Nat → va_E, z = va_up f43 pd (aI (dA 2) 12 ((fun _ => 0))) := ⟨_, rfl⟩
  have hw : ww G dA A s L49 f50 H locs := by rw [eL49, ef50]; exact hw
  have nb_pd : b ≠ pd := fun h => hqpd (h ▸ m32)
  have m51 : b ∈ L49 := by rw [eL49]; exact List.mem_append_left _ m32
  have h52 : f50 b = .inr (5, [.ref pb, .ref pt, .ref pk, .null, .int 0, .int 0]) := by rw [ef50, va_up_ne _ _ nb_pd]; exact h44
  have npb_pd : pb ≠ pd := fun h => hqpd (h ▸ m34)
  have m53 : pb ∈ L49 := by rw [eL49]; exact List.mem_append_left _ m34
  have h54 : f50 pb = aI (dA 3) 12 ((fun _ => 0)) := by rw [ef50, va_up_ne _ _ npb_pd]; exact h45
  have npt_pd : pt ≠ pd := fun h => hqpd (h ▸ m36)
  have m55 : pt ∈ L49 := by rw [eL49]; exact List.mem_append_left _ m36
  have h56 : f50 pt = aI (dA 2) 12 ((fun _ => 0)) := by rw [ef50, va_up_ne _ _ npt_pd]; exact h46
  have npk_pd : pk ≠ pd := fun h => hqpd (h ▸ m38)
  have m57 : pk ∈ L49 := by rw [eL49]; exact List.mem_append_left _ m38
  have h58 : f50 pk = aI (dA 2) 12 ((fun _ => 0)) := by rw [ef50, va_up_ne _ _ npk_pd]; exact h47
  have m59 : pd ∈ L49 := by rw [eL49]; exact List.mem_append_right _ List.mem_cons_self
  have h60 : f50 pd = aI (dA 2) 12 ((fun _ => 0)) := by rw [ef50]; exact va_up_self _ _ _
  have ni61 : pd ∉ L := fun h => hqpd (hs41 _ h)
  have hs62 : ∀ z, z ∈ L → z ∈ L49 := fun z h => by rw [eL49]; exact List.mem_append_left _ (hs41 z h)
  have hr63 : ∀ z, z ∈ L → z ≠ b → f50 z = f z := fun z hz hb => (congrFun ef50 z).trans ((va_up_ne _ _ (fun h : z = pd => ni61 (h ▸ hz))).trans (hr48 z hz hb))
  refine wpF_ (C := RX4) (T := TX4) (N := 6) hx hb hts hi4 tyX4 tyX4_ok nmX4 hown hw m51 h52 rfl 3 (by decide) (hts (.fieldLink RX4 22 "LayerMoisture$Plan" "damps" "[I") (by decide +kernel)) (fun _ h9 => h9) rfl hin0 rfl (ty := .array .int) (v := .ref pd) (by decide +kernel) rfl rfl (Nat.le_of_ble_eq_true rfl) dX4_init_33 (fun H locs hw => ?_)
  obtain ⟨f64, ef64⟩ : ∃ z : Nat → va_E, z = va_up f50 b (.inr (5, [.ref pb, .ref pt, .ref pk, .ref pd, .int 0, .int 0])) := ⟨_, rfl⟩
  have hw : ww G dA A s L49 f64 H locs := by rw [ef64]; exact hw
  have h65 : f64 b = .inr (5, [.ref pb, .ref pt, .ref pk, .ref pd, .int 0, .int 0]) := by rw [ef64]; exact va_up_self _ _ _
  have h66 : f64 pb = aI (dA 3) 12 ((fun _ => 0)) := by rw [ef64, va_up_ne _ _ (Ne.symm nb_pb)]; exact h54
  have h67 : f64 pt = aI (dA 2) 12 ((fun _ => 0)) := by rw [ef64, va_up_ne _ _ (Ne.symm nb_pt)]; exact h56
  have h68 : f64 pk = aI (dA 2) 12 ((fun _ => 0)) := by rw [ef64, va_up_ne _ _ (Ne.symm nb_pk)]; exact h58
  have h69 : f64 pd = aI (dA 2) 12 ((fun _ => 0)) := by rw [ef64, va_up_ne _ _ (Ne.symm nb_pd)]; exact h60
  have hr70 : ∀ z, z ∈ L → z ≠ b → f64 z = f z := fun z hz hb => (congrFun ef64 z).trans ((va_up_ne _ _ hb).trans (hr63 z hz hb))
  refine W.widen (k := 4) (n := 48) (Nat.le_of_ble_eq_true rfl) (Nat.le_of_ble_eq_true rfl) ?_
  exact hret _ _ _ _ L49 f64 hw ⟨pb, pt, pk, pd, ⟨ni7, ni22, ni40, ni61⟩, (by rw [eL49, eL30, eL14, eL1]), h65, h66, h67, h68, h69, hr70⟩ dX4_init_36

set_option maxHeartbeats 4000000 in
set_option maxRecDepth 100000 in
theorem c_X5_init (l : Launch) (G : va_G) (dA : Nat → ClassId) (L : List Nat) (f : Nat → va_E) (b : Nat) (hLb : b ∈ L) (hfb : f b = .inr (6, [.null, .int 0, .int 0]))  : mN l yX5_init wsX5_init ({ frames := 1, cells := 1, slots := 200, locals := 20 }) G dA [.ref b] L f 1 200 (fun _ => True) (fun u => ∃ u9 : Nat, u9 ∉ L ∧ u.1 = L ++ [u9] ∧ u.2 b = .inr (6, [.ref u9, .int 0, .int 0]) ∧ u.2 u9 = aI (dA 0) 200 (fun _ => 0) ∧ (∀ z, z ∈ L → z ≠ b → u.2 z = f z)) := by
  refine mN_of (cc := cX5_init) (maxL := 1) (by decide) rfl (Nat.le_of_ble_eq_true rfl) ?_
  intro p e s m below meth c A ls Q hx hb hml hown hts hlocks hA hin0 hE hw hl hret
  have hown : s.vm.findClass RX5 = some m.cls := hown
  have hl : lv_has ls 1 [(0, .ref b)] := hl
  have hi5 : ∀ w ∈ u_ws RX5 TX5 3, w ∈ wsX5_init := by decide +kernel
  have hsub0 : ∀ z, z ∈ L → z ∈ L := fun _ h => h
  have hfr0 : ∀ z, z ∈ L → z ≠ b → f z = f z := fun _ _ _ => rfl
  refine lv_aload_n hx hb dX5_init_0 rfl (lv_at hl 0 rfl) ?_
  refine W.objInit hx hb hown (hts (.methodLink RX5 3 objectInit) (by decide +kernel)) (hts (.instanceMethod objectInit) (by decide +kernel)) (hts (.code objectInit ⟨#[0xb1]⟩ 1 none) (List.mem_of_getElem? (i := 3) rfl)) rfl (by rw [hml]; exact hl.1) rfl dX5_init_1 (Nat.le_of_ble_eq_true rfl) (Nat.le_of_ble_eq_true rfl) ?_
  refine W.eq (g2 := F0 m 4 ls []) rfl ?_
  refine lv_aload_n hx hb dX5_init_4 rfl (lv_at hl 0 rfl) ?_
  refine lv_sipush (v := 200) hx hb dX5_init_5 (by decide) ?_
  refine wnewa_char (N' := 200) hx hb (hts (.arrayClass .char) (by decide +kernel)) hw hA (by decide) (by decide) (by decide) (by decide) (by decide) dX5_init_8 (fun u9 H hqu9 hw => ?_)
  obtain ⟨L1, eL1⟩ : ∃ z : List Nat, z = L ++ [u9] := ⟨_, rfl⟩
  obtain ⟨f2, ef2⟩ : ∃ z : Nat → va_E, z = va_up f u9 (aI (dA 0) 200 ((fun _ => 0))) := ⟨_, rfl⟩
  have hw : ww G dA A s L1 f2 H [] := by rw [eL1, ef2]; exact hw
  have nb_u9 : b ≠ u9 := fun h => hqu9 (h ▸ hLb)
  have m3 : b ∈ L1 := by rw [eL1]; exact List.mem_append_left _ hLb
  have h4 : f2 b = .inr (6, [.null, .int 0, .int 0]) := by rw [ef2, va_up_ne _ _ nb_u9]; exact hfb
  have m5 : u9 ∈ L1 := by rw [eL1]; exact List.mem_append_right _ List.mem_cons_self
  have h6 : f2 u9 = aI (dA 0) 200 ((fun _ => 0)) := by rw [ef2]; exact va_up_self _ _ _
  have ni7 : u9 ∉ L := fun h => hqu9 (hsub0 _ h)
  have hs8 : ∀ z, z ∈ L → z ∈ L1 := fun z h => by rw [eL1]; exact List.mem_append_left _ (hsub0 z h)
  have hr9 : ∀ z, z ∈ L → z ≠ b → f2 z = f z := fun z hz hb => (congrFun ef2 z).trans ((va_up_ne _ _ (fun h : z = u9 => ni7 (h ▸ hz))).trans (hfr0 z hz hb))
  refine wpF_ (C := RX5) (T := TX5) (N := 3) hx hb hts hi5 tyX5 tyX5_ok nmX5 hown hw m3 h4 rfl 0 (by decide) (hts (.fieldLink RX5 11 "LayerMoisture$Text" "units" "[C") (by decide +kernel)) (fun _ h9 => h9) rfl hin0 rfl (ty := .array .char) (v := .ref u9) (by decide +kernel) rfl rfl (Nat.le_of_ble_eq_true rfl) dX5_init_10 (fun H locs hw => ?_)
  obtain ⟨f10, ef10⟩ : ∃ z : Nat → va_E, z = va_up f2 b (.inr (6, [.ref u9, .int 0, .int 0])) := ⟨_, rfl⟩
  have hw : ww G dA A s L1 f10 H locs := by rw [ef10]; exact hw
  have h11 : f10 b = .inr (6, [.ref u9, .int 0, .int 0]) := by rw [ef10]; exact va_up_self _ _ _
  have h12 : f10 u9 = aI (dA 0) 200 ((fun _ => 0)) := by rw [ef10, va_up_ne _ _ (Ne.symm nb_u9)]; exact h6
  have hr13 : ∀ z, z ∈ L → z ≠ b → f10 z = f z := fun z hz hb => (congrFun ef10 z).trans ((va_up_ne _ _ hb).trans (hr9 z hz hb))
  refine W.widen (k := 1) (n := 200) (Nat.le_of_ble_eq_true rfl) (Nat.le_of_ble_eq_true rfl) ?_
  exact hret _ _ _ _ L1 f10 hw ⟨u9, ni7, (by rw [eL1]), h11, h12, hr13⟩ dX5_init_13

set_option maxHeartbeats 4000000 in
set_option maxRecDepth 100000 in
theorem c_X7_init (l : Launch) (G : va_G) (dA : Nat → ClassId) (L : List Nat) (f : Nat → va_E) (b : Nat) (v1 v2 : Int32) (hLb : b ∈ L) (hfb : f b = .inr (8, [.int 0, .int 0, .int 0, .null, .null, .double 0, .double 0, .double 0, .double 0, .double 0, .long 0, .int 0, .null, .null, .null, .null, .null, .null, .null, .null, .null, .int 0, .int 0, .int 0, .int 0, .null, .null, .null, .null, .int 0, .int 0]))  : mN l yX7_init wsX7_init ({ frames := 1, cells := 15, slots := 448, locals := 20 }) G dA [.ref b, .int v1, .int v2] L f 15 448 (fun _ => True) (fun u => ∃ aRA aRB aTH aDE aKI aWE aNX aLI aLM aKE aTX aBW aTI aKV aDM : Nat, u.1 = L ++ [aRA] ++ [aRB] ++ [aTH] ++ [aDE] ++ [aKI] ++ [aWE] ++ [aNX] ++ [aLI] ++ [aLM] ++ [aKE] ++ [aTX] ++ [aBW] ++ [aTI] ++ [aKV] ++ [aDM] ∧ u.2 b = .inr (8, [.int 0, .int (nI (clN 16 v1)), .int (nI (clN 8 v2)), .ref aRA, .ref aRB, .double 4643862126702624768, .double 4602678819172646912, .double FP.dconst1, .double 0, .double 0, .long 0, .int 0, .ref aTH, .ref aDE, .ref aKI, .ref aWE, .ref aNX, .ref aLI, .ref aLM, .ref aKE, .ref aTX, .int 0, .int 0, .int 0, .int 0, .ref aBW, .ref aTI, .ref aKV, .ref aDM, .int 0, .int 0]) ∧ u.2 aRA = aD (dA 1) 4 (fun _ => 0) ∧ u.2 aRB = aD (dA 1) 4 (fun _ => 0) ∧ u.2 aTH = aI (dA 3) 8 (fun _ => 0) ∧ u.2 aDE = aD (dA 1) 8 (fun _ => 0) ∧ u.2 aKI = aI (dA 2) 8 (fun _ => 0) ∧ u.2 aWE = aD (dA 1) 128 (fun _ => 0) ∧ u.2 aNX = aD (dA 1) 16 (fun _ => 0) ∧ u.2 aLI = aI (dA 3) 8 (fun _ => 0) ∧ u.2 aLM = aD (dA 1) 8 (fun _ => 0) ∧ u.2 aKE = aI (dA 2) 8 (fun _ => 0) ∧ u.2 aTX = aI (dA 2) 200 (fun _ => 0) ∧ u.2 aBW = aI (dA 3) 12 (fun _ => 0) ∧ u.2 aTI = aI (dA 2) 12 (fun _ => 0) ∧ u.2 aKV = aI (dA 2) 12 (fun _ => 0) ∧ u.2 aDM = aI (dA 2) 12 (fun _ => 0) ∧ (∀ z, z ∈ L → z ≠ b → u.2 z = f z)) := by
  refine mN_of (cc := cX7_init) (maxL := 3) (by decide) rfl (Nat.le_of_ble_eq_true rfl) ?_
  intro p e s m below meth c A ls Q hx hb hml hown hts hlocks hA hin0 hE hw hl hret
  have hown : s.vm.findClass RX7 = some m.cls := hown
  have hl : lv_has ls 3 [(0, .ref b), (1, .int v1), (2, .int v2)] := hl
  have hi7 : ∀ w ∈ u_ws RX7 TX7 31, w ∈ wsX7_init := by decide +kernel
  have hsub0 : ∀ z, z ∈ L → z ∈ L := fun _ h => h
  have hfr0 : ∀ z, z ∈ L → z ≠ b → f z = f z := fun _ _ _ => rfl
  refine lv_aload_n hx hb dX7_init_0 rfl (lv_at hl 0 rfl) ?_
  refine W.objInit hx hb hown (hts (.methodLink RX7 1 objectInit) (by decide +kernel)) (hts (.instanceMethod objectInit) (by decide +kernel)) (hts (.code objectInit ⟨#[0xb1]⟩ 1 none) (List.mem_of_getElem? (i := 3) rfl)) rfl (by rw [hml]; exact hl.1) rfl dX7_init_1 (Nat.le_of_ble_eq_true rfl) (Nat.le_of_ble_eq_true rfl) ?_
  refine W.eq (g2 := F0 m 4 ls []) rfl ?_
  refine lv_aload_n hx hb dX7_init_4 rfl (lv_at hl 0 rfl) ?_
  refine lv_iconst (v := 4) hx hb dX7_init_5 (by decide) ?_
  refine wnewa_double (N' := 4) hx hb (hts (.arrayClass .double) (by decide +kernel)) hw hA (by decide) (by decide) (by decide) (by decide) (by decide) dX7_init_6 (fun aRA H hqaRA hw => ?_)
  obtain ⟨L1, eL1⟩ : ∃ z : List Nat, z = L ++ [aRA] := ⟨_, rfl⟩
  obtain ⟨f2, ef2⟩ : ∃ z : Nat → va_E, z = va_up f aRA (aD (dA 1) 4 ((fun _ => 0))) := ⟨_, rfl⟩
  have hw : ww G dA A s L1 f2 H [] := by rw [eL1, ef2]; exact hw
  have nb_aRA : b ≠ aRA := fun h => hqaRA (h ▸ hLb)
  have m3 : b ∈ L1 := by rw [eL1]; exact List.mem_append_left _ hLb
  have h4 : f2 b = .inr (8, [.int 0, .int 0, .int 0, .null, .null, .double 0, .double 0, .double 0, .double 0, .double 0, .long 0, .int 0, .null, .null, .null, .null, .null, .null, .null, .null, .null, .int 0, .int 0, .int 0, .int 0, .null, .null, .null, .null, .int 0, .int 0]) := by rw [ef2, va_up_ne _ _ nb_aRA]; exact hfb
  have m5 : aRA ∈ L1 := by rw [eL1]; exact List.mem_append_right _ List.mem_cons_self
  have h6 : f2 aRA = aD (dA 1) 4 ((fun _ => 0)) := by rw [ef2]; exact va_up_self _ _ _
  have ni7 : aRA ∉ L := fun h => hqaRA (hsub0 _ h)
  have hs8 : ∀ z, z ∈ L → z ∈ L1 := fun z h => by rw [eL1]; exact List.mem_append_left _ (hsub0 z h)
  have hr9 : ∀ z, z ∈ L → z ≠ b → f2 z = f z := fun z hz hb => (congrFun ef2 z).trans ((va_up_ne _ _ (fun h : z = aRA => ni7 (h ▸ hz))).trans (hfr0 z hz hb))
  refine wpF_ (C := RX7) (T := TX7) (N := 31) hx hb hts hi7 tyX7 tyX7_ok nmX7 hown hw m3 h4 rfl 3 (by decide) (hts (.fieldLink RX7 7 "LayerMoistureModel" "rateA" "[D") (by decide +kernel)) (fun _ h9 => h9) rfl hin0 rfl (ty := .array .double) (v := .ref aRA) (by decide +kernel) rfl rfl (Nat.le_of_ble_eq_true rfl) dX7_init_8 (fun H locs hw => ?_)
  obtain ⟨f10, ef10⟩ : ∃ z : Nat → va_E, z = va_up f2 b (.inr (8, [.int 0, .int 0, .int 0, .ref aRA, .null, .double 0, .double 0, .double 0, .double 0, .double 0, .long 0, .int 0, .null, .null, .null, .null, .null, .null, .null, .null, .null, .int 0, .int 0, .int 0, .int 0, .null, .null, .null, .null, .int 0, .int 0])) := ⟨_, rfl⟩
  have hw : ww G dA A s L1 f10 H locs := by rw [ef10]; exact hw
  have h11 : f10 b = .inr (8, [.int 0, .int 0, .int 0, .ref aRA, .null, .double 0, .double 0, .double 0, .double 0, .double 0, .long 0, .int 0, .null, .null, .null, .null, .null, .null, .null, .null, .null, .int 0, .int 0, .int 0, .int 0, .null, .null, .null, .null, .int 0, .int 0]) := by rw [ef10]; exact va_up_self _ _ _
  have h12 : f10 aRA = aD (dA 1) 4 ((fun _ => 0)) := by rw [ef10, va_up_ne _ _ (Ne.symm nb_aRA)]; exact h6
  have hr13 : ∀ z, z ∈ L → z ≠ b → f10 z = f z := fun z hz hb => (congrFun ef10 z).trans ((va_up_ne _ _ hb).trans (hr9 z hz hb))
  refine lv_aload_n hx hb dX7_init_11 rfl (lv_at hl 0 rfl) ?_
  refine lv_iconst (v := 4) hx hb dX7_init_12 (by decide) ?_
  refine wnewa_double (N' := 4) hx hb (hts (.arrayClass .double) (by decide +kernel)) hw hA (by decide) (by decide) (by decide) (by decide) (by decide) dX7_init_13 (fun aRB H hqaRB hw => ?_)
  obtain ⟨L14, eL14⟩ : ∃ z : List Nat, z = L1 ++ [aRB] := ⟨_, rfl⟩
  obtain ⟨f15, ef15⟩ : ∃ z : Nat → va_E, z = va_up f10 aRB (aD (dA 1) 4 ((fun _ => 0))) := ⟨_, rfl⟩
  have hw : ww G dA A s L14 f15 H locs := by rw [eL14, ef15]; exact hw
  have nb_aRB : b ≠ aRB := fun h => hqaRB (h ▸ m3)
  have m16 : b ∈ L14 := by rw [eL14]; exact List.mem_append_left _ m3
  have h17 : f15 b = .inr (8, [.int 0, .int 0, .int 0, .ref aRA, .null, .double 0, .double 0, .double 0, .double 0, .double 0, .long 0, .int 0, .null, .null, .null, .null, .null, .null, .null, .null, .null, .int 0, .int 0, .int 0, .int 0, .null, .null, .null, .null, .int 0, .int 0]) := by rw [ef15, va_up_ne _ _ nb_aRB]; exact h11
  have naRA_aRB : aRA ≠ aRB := fun h => hqaRB (h ▸ m5)
  have m18 : aRA ∈ L14 := by rw [eL14]; exact List.mem_append_left _ m5
  have h19 : f15 aRA = aD (dA 1) 4 ((fun _ => 0)) := by rw [ef15, va_up_ne _ _ naRA_aRB]; exact h12
  have m20 : aRB ∈ L14 := by rw [eL14]; exact List.mem_append_right _ List.mem_cons_self
  have h21 : f15 aRB = aD (dA 1) 4 ((fun _ => 0)) := by rw [ef15]; exact va_up_self _ _ _
  have ni22 : aRB ∉ L := fun h => hqaRB (hs8 _ h)
  have hs23 : ∀ z, z ∈ L → z ∈ L14 := fun z h => by rw [eL14]; exact List.mem_append_left _ (hs8 z h)
  have hr24 : ∀ z, z ∈ L → z ≠ b → f15 z = f z := fun z hz hb => (congrFun ef15 z).trans ((va_up_ne _ _ (fun h : z = aRB => ni22 (h ▸ hz))).trans (hr13 z hz hb))
  refine wpF_ (C := RX7) (T := TX7) (N := 31) hx hb hts hi7 tyX7 tyX7_ok nmX7 hown hw m16 h17 rfl 4 (by decide) (hts (.fieldLink RX7 13 "LayerMoistureModel" "rateB" "[D") (by decide +kernel)) (fun _ h9 => h9) rfl hin0 rfl (ty := .array .double) (v := .ref aRB) (by decide +kernel) rfl rfl (Nat.le_of_ble_eq_true rfl) dX7_init_15 (fun H locs hw => ?_)
  obtain ⟨f25, ef25⟩ : ∃ z : Nat → va_E, z = va_up f15 b (.inr (8, [.int 0, .int 0, .int 0, .ref aRA, .ref aRB, .double 0, .double 0, .double 0, .double 0, .double 0, .long 0, .int 0, .null, .null, .null, .null, .null, .null, .null, .null, .null, .int 0, .int 0, .int 0, .int 0, .null, .null, .null, .null, .int 0, .int 0])) := ⟨_, rfl⟩
  have hw : ww G dA A s L14 f25 H locs := by rw [ef25]; exact hw
  have h26 : f25 b = .inr (8, [.int 0, .int 0, .int 0, .ref aRA, .ref aRB, .double 0, .double 0, .double 0, .double 0, .double 0, .long 0, .int 0, .null, .null, .null, .null, .null, .null, .null, .null, .null, .int 0, .int 0, .int 0, .int 0, .null, .null, .null, .null, .int 0, .int 0]) := by rw [ef25]; exact va_up_self _ _ _
  have h27 : f25 aRA = aD (dA 1) 4 ((fun _ => 0)) := by rw [ef25, va_up_ne _ _ (Ne.symm nb_aRA)]; exact h19
  have h28 : f25 aRB = aD (dA 1) 4 ((fun _ => 0)) := by rw [ef25, va_up_ne _ _ (Ne.symm nb_aRB)]; exact h21
  have hr29 : ∀ z, z ∈ L → z ≠ b → f25 z = f z := fun z hz hb => (congrFun ef25 z).trans ((va_up_ne _ _ hb).trans (hr24 z hz hb))
  refine lv_aload_n hx hb dX7_init_18 rfl (lv_at hl 0 rfl) ?_
  refine lv_ldc2d (v := 4643862126702624768) hx hb hown (hts (.constantDouble RX7 16 (4643862126702624768)) (by decide +kernel)) dX7_init_19 ?_
  refine wp_ (C := RX7) (T := TX7) (N := 31) hx hb hts hi7 tyX7 tyX7_ok nmX7 hown hw m16 h26 rfl 5 (by decide) (hts (.fieldLink RX7 18 "LayerMoistureModel" "kelvin" "D") (by decide +kernel)) (fun _ h9 => h9) rfl (ty := .double) (v := .double 4643862126702624768) (by decide +kernel) rfl rfl (Nat.le_of_ble_eq_true rfl) dX7_init_22 (fun H locs hw => ?_)
  obtain ⟨f30, ef30⟩ : ∃ z : Nat → va_E, z = va_up f25 b (.inr (8, [.int 0, .int 0, .int 0, .ref aRA, .ref aRB, .double 4643862126702624768, .double 0, .double 0, .double 0, .double 0, .long 0, .int 0, .null, .null, .null, .null, .null, .null, .null, .null, .null, .int 0, .int 0, .int 0, .int 0, .null, .null, .null, .null, .int 0, .int 0])) := ⟨_, rfl⟩
  have hw : ww G dA A s L14 f30 H locs := by rw [ef30]; exact hw
  have h31 : f30 b = .inr (8, [.int 0, .int 0, .int 0, .ref aRA, .ref aRB, .double 4643862126702624768, .double 0, .double 0, .double 0, .double 0, .long 0, .int 0, .null, .null, .null, .null, .null, .null, .null, .null, .null, .int 0, .int 0, .int 0, .int 0, .null, .null, .null, .null, .int 0, .int 0]) := by rw [ef30]; exact va_up_self _ _ _
  have h32 : f30 aRA = aD (dA 1) 4 ((fun _ => 0)) := by rw [ef30, va_up_ne _ _ (Ne.symm nb_aRA)]; exact h27
  have h33 : f30 aRB = aD (dA 1) 4 ((fun _ => 0)) := by rw [ef30, va_up_ne _ _ (Ne.symm nb_aRB)]; exact h28
  have hr34 : ∀ z, z ∈ L → z ≠ b → f30 z = f z := fun z hz hb => (congrFun ef30 z).trans ((va_up_ne _ _ hb).trans (hr29 z hz hb))
  refine lv_aload_n hx hb dX7_init_25 rfl (lv_at hl 0 rfl) ?_
  refine lv_ldc2d (v := 4602678819172646912) hx hb hown (hts (.constantDouble RX7 22 (4602678819172646912)) (by decide +kernel)) dX7_init_26 ?_
  refine wp_ (C := RX7) (T := TX7) (N := 31) hx hb hts hi7 tyX7 tyX7_ok nmX7 hown hw m16 h31 rfl 6 (by decide) (hts (.fieldLink RX7 24 "LayerMoistureModel" "damp" "D") (by decide +kernel)) (fun _ h9 => h9) rfl (ty := .double) (v := .double 4602678819172646912) (by decide +kernel) rfl rfl (Nat.le_of_ble_eq_true rfl) dX7_init_29 (fun H locs hw => ?_)
  obtain ⟨f35, ef35⟩ : ∃ z : Nat → va_E, z = va_up f30 b (.inr (8, [.int 0, .int 0, .int 0, .ref aRA, .ref aRB, .double 4643862126702624768, .double 4602678819172646912, .double 0, .double 0, .double 0, .long 0, .int 0, .null, .null, .null, .null, .null, .null, .null, .null, .null, .int 0, .int 0, .int 0, .int 0, .null, .null, .null, .null, .int 0, .int 0])) := ⟨_, rfl⟩
  have hw : ww G dA A s L14 f35 H locs := by rw [ef35]; exact hw
  have h36 : f35 b = .inr (8, [.int 0, .int 0, .int 0, .ref aRA, .ref aRB, .double 4643862126702624768, .double 4602678819172646912, .double 0, .double 0, .double 0, .long 0, .int 0, .null, .null, .null, .null, .null, .null, .null, .null, .null, .int 0, .int 0, .int 0, .int 0, .null, .null, .null, .null, .int 0, .int 0]) := by rw [ef35]; exact va_up_self _ _ _
  have h37 : f35 aRA = aD (dA 1) 4 ((fun _ => 0)) := by rw [ef35, va_up_ne _ _ (Ne.symm nb_aRA)]; exact h32
  have h38 : f35 aRB = aD (dA 1) 4 ((fun _ => 0)) := by rw [ef35, va_up_ne _ _ (Ne.symm nb_aRB)]; exact h33
  have hr39 : ∀ z, z ∈ L → z ≠ b → f35 z = f z := fun z hz hb => (congrFun ef35 z).trans ((va_up_ne _ _ hb).trans (hr34 z hz hb))
  refine lv_aload_n hx hb dX7_init_32 rfl (lv_at hl 0 rfl) ?_
  refine lv_dconst1 hx hb dX7_init_33 ?_
  refine wp_ (C := RX7) (T := TX7) (N := 31) hx hb hts hi7 tyX7 tyX7_ok nmX7 hown hw m16 h36 rfl 7 (by decide) (hts (.fieldLink RX7 27 "LayerMoistureModel" "speed" "D") (by decide +kernel)) (fun _ h9 => h9) rfl (ty := .double) (v := .double FP.dconst1) (by decide +kernel) rfl rfl (Nat.le_of_ble_eq_true rfl) dX7_init_34 (fun H locs hw => ?_)
  obtain ⟨f40, ef40⟩ : ∃ z : Nat → va_E, z = va_up f35 b (.inr (8, [.int 0, .int 0, .int 0, .ref aRA, .ref aRB, .double 4643862126702624768, .double 4602678819172646912, .double FP.dconst1, .double 0, .double 0, .long 0, .int 0, .null, .null, .null, .null, .null, .null, .null, .null, .null, .int 0, .int 0, .int 0, .int 0, .null, .null, .null, .null, .int 0, .int 0])) := ⟨_, rfl⟩
  have hw : ww G dA A s L14 f40 H locs := by rw [ef40]; exact hw
  have h41 : f40 b = .inr (8, [.int 0, .int 0, .int 0, .ref aRA, .ref aRB, .double 4643862126702624768, .double 4602678819172646912, .double FP.dconst1, .double 0, .double 0, .long 0, .int 0, .null, .null, .null, .null, .null, .null, .null, .null, .null, .int 0, .int 0, .int 0, .int 0, .null, .null, .null, .null, .int 0, .int 0]) := by rw [ef40]; exact va_up_self _ _ _
  have h42 : f40 aRA = aD (dA 1) 4 ((fun _ => 0)) := by rw [ef40, va_up_ne _ _ (Ne.symm nb_aRA)]; exact h37
  have h43 : f40 aRB = aD (dA 1) 4 ((fun _ => 0)) := by rw [ef40, va_up_ne _ _ (Ne.symm nb_aRB)]; exact h38
  have hr44 : ∀ z, z ∈ L → z ≠ b → f40 z = f z := fun z hz hb => (congrFun ef40 z).trans ((va_up_ne _ _ hb).trans (hr39 z hz hb))
  refine lv_aload_n hx hb dX7_init_37 rfl (lv_at hl 0 rfl) ?_
  refine lv_bipush (v := 8) hx hb dX7_init_38 (by decide) ?_
  refine wnewa_boolean (N' := 8) hx hb (hts (.arrayClass .boolean) (by decide +kernel)) hw hA (by decide) (by decide) (by decide) (by decide) (by decide) dX7_init_40 (fun aTH H hqaTH hw => ?_)
  obtain ⟨L45, eL45⟩ : ∃ z : List Nat, z = L14 ++ [aTH] := ⟨_, rfl⟩
  obtain ⟨f46, ef46⟩ : ∃ z : Nat → va_E, z = va_up f40 aTH (aI (dA 3) 8 ((fun _ => 0))) := ⟨_, rfl⟩
  have hw : ww G dA A s L45 f46 H locs := by rw [eL45, ef46]; exact hw
  have nb_aTH : b ≠ aTH := fun h => hqaTH (h ▸ m16)
  have m47 : b ∈ L45 := by rw [eL45]; exact List.mem_append_left _ m16
  have h48 : f46 b = .inr (8, [.int 0, .int 0, .int 0, .ref aRA, .ref aRB, .double 4643862126702624768, .double 4602678819172646912, .double FP.dconst1, .double 0, .double 0, .long 0, .int 0, .null, .null, .null, .null, .null, .null, .null, .null, .null, .int 0, .int 0, .int 0, .int 0, .null, .null, .null, .null, .int 0, .int 0]) := by rw [ef46, va_up_ne _ _ nb_aTH]; exact h41
  have naRA_aTH : aRA ≠ aTH := fun h => hqaTH (h ▸ m18)
  have m49 : aRA ∈ L45 := by rw [eL45]; exact List.mem_append_left _ m18
  have h50 : f46 aRA = aD (dA 1) 4 ((fun _ => 0)) := by rw [ef46, va_up_ne _ _ naRA_aTH]; exact h42
  have naRB_aTH : aRB ≠ aTH := fun h => hqaTH (h ▸ m20)
  have m51 : aRB ∈ L45 := by rw [eL45]; exact List.mem_append_left _ m20
  have h52 : f46 aRB = aD (dA 1) 4 ((fun _ => 0)) := by rw [ef46, va_up_ne _ _ naRB_aTH]; exact h43
  have m53 : aTH ∈ L45 := by rw [eL45]; exact List.mem_append_right _ List.mem_cons_self
  have h54 : f46 aTH = aI (dA 3) 8 ((fun _ => 0)) := by rw [ef46]; exact va_up_self _ _ _
  have ni55 : aTH ∉ L := fun h => hqaTH (hs23 _ h)
  have hs56 : ∀ z, z ∈ L → z ∈ L45 := fun z h => by rw [eL45]; exact List.mem_append_left _ (hs23 z h)
  have hr57 : ∀ z, z ∈ L → z ≠ b → f46 z = f z := fun z hz hb => (congrFun ef46 z).trans ((va_up_ne _ _ (fun h : z = aTH => ni55 (h ▸ hz))).trans (hr44 z hz hb))
  refine wpF_ (C := RX7) (T := TX7) (N := 31) hx hb hts hi7 tyX7 tyX7_ok nmX7 hown hw m47 h48 rfl 12 (by decide) (hts (.fieldLink RX7 30 "LayerMoistureModel" "there" "[Z") (by decide +kernel)) (fun _ h9 => h9) rfl hin0 rfl (ty := .array .boolean) (v := .ref aTH) (by decide +kernel) rfl rfl (Nat.le_of_ble_eq_true rfl) dX7_init_42 (fun H locs hw => ?_)
  obtain ⟨f58, ef58⟩ : ∃ z : Nat → va_E, z = va_up f46 b (.inr (8, [.int 0, .int 0, .int 0, .ref aRA, .ref aRB, .double 4643862126702624768, .double 4602678819172646912, .double FP.dconst1, .double 0, .double 0, .long 0, .int 0, .ref aTH, .null, .null, .null, .null, .null, .null, .null, .null, .int 0, .int 0, .int 0, .int 0, .null, .null, .null, .null, .int 0, .int 0])) := ⟨_, rfl⟩
  have hw : ww G dA A s L45 f58 H locs := by rw [ef58]; exact hw
  have h59 : f58 b = .inr (8, [.int 0, .int 0, .int 0, .ref aRA, .ref aRB, .double 4643862126702624768, .double 4602678819172646912, .double FP.dconst1, .double 0, .double 0, .long 0, .int 0, .ref aTH, .null, .null, .null, .null, .null, .null, .null, .null, .int 0, .int 0, .int 0, .int 0, .null, .null, .null, .null, .int 0, .int 0]) := by rw [ef58]; exact va_up_self _ _ _
  have h60 : f58 aRA = aD (dA 1) 4 ((fun _ => 0)) := by rw [ef58, va_up_ne _ _ (Ne.symm nb_aRA)]; exact h50
  have h61 : f58 aRB = aD (dA 1) 4 ((fun _ => 0)) := by rw [ef58, va_up_ne _ _ (Ne.symm nb_aRB)]; exact h52
  have h62 : f58 aTH = aI (dA 3) 8 ((fun _ => 0)) := by rw [ef58, va_up_ne _ _ (Ne.symm nb_aTH)]; exact h54
  have hr63 : ∀ z, z ∈ L → z ≠ b → f58 z = f z := fun z hz hb => (congrFun ef58 z).trans ((va_up_ne _ _ hb).trans (hr57 z hz hb))
  refine lv_aload_n hx hb dX7_init_45 rfl (lv_at hl 0 rfl) ?_
  refine lv_bipush (v := 8) hx hb dX7_init_46 (by decide) ?_
  refine wnewa_double (N' := 8) hx hb (hts (.arrayClass .double) (by decide +kernel)) hw hA (by decide) (by decide) (by decide) (by decide) (by decide) dX7_init_48 (fun aDE H hqaDE hw => ?_)
  obtain ⟨L64, eL64⟩ : ∃ z : List Nat, z = L45 ++ [aDE] := ⟨_, rfl⟩
  obtain ⟨f65, ef65⟩ : ∃ z : Nat → va_E, z = va_up f58 aDE (aD (dA 1) 8 ((fun _ => 0))) := ⟨_, rfl⟩
  have hw : ww G dA A s L64 f65 H locs := by rw [eL64, ef65]; exact hw
  have nb_aDE : b ≠ aDE := fun h => hqaDE (h ▸ m47)
  have m66 : b ∈ L64 := by rw [eL64]; exact List.mem_append_left _ m47
  have h67 : f65 b = .inr (8, [.int 0, .int 0, .int 0, .ref aRA, .ref aRB, .double 4643862126702624768, .double 4602678819172646912, .double FP.dconst1, .double 0, .double 0, .long 0, .int 0, .ref aTH, .null, .null, .null, .null, .null, .null, .null, .null, .int 0, .int 0, .int 0, .int 0, .null, .null, .null, .null, .int 0, .int 0]) := by rw [ef65, va_up_ne _ _ nb_aDE]; exact h59
  have naRA_aDE : aRA ≠ aDE := fun h => hqaDE (h ▸ m49)
  have m68 : aRA ∈ L64 := by rw [eL64]; exact List.mem_append_left _ m49
  have h69 : f65 aRA = aD (dA 1) 4 ((fun _ => 0)) := by rw [ef65, va_up_ne _ _ naRA_aDE]; exact h60
  have naRB_aDE : aRB ≠ aDE := fun h => hqaDE (h ▸ m51)
  have m70 : aRB ∈ L64 := by rw [eL64]; exact List.mem_append_left _ m51
  have h71 : f65 aRB = aD (dA 1) 4 ((fun _ => 0)) := by rw [ef65, va_up_ne _ _ naRB_aDE]; exact h61
  have naTH_aDE : aTH ≠ aDE := fun h => hqaDE (h ▸ m53)
  have m72 : aTH ∈ L64 := by rw [eL64]; exact List.mem_append_left _ m53
  have h73 : f65 aTH = aI (dA 3) 8 ((fun _ => 0)) := by rw [ef65, va_up_ne _ _ naTH_aDE]; exact h62
  have m74 : aDE ∈ L64 := by rw [eL64]; exact List.mem_append_right _ List.mem_cons_self
  have h75 : f65 aDE = aD (dA 1) 8 ((fun _ => 0)) := by rw [ef65]; exact va_up_self _ _ _
  have ni76 : aDE ∉ L := fun h => hqaDE (hs56 _ h)
  have hs77 : ∀ z, z ∈ L → z ∈ L64 := fun z h => by rw [eL64]; exact List.mem_append_left _ (hs56 z h)
  have hr78 : ∀ z, z ∈ L → z ≠ b → f65 z = f z := fun z hz hb => (congrFun ef65 z).trans ((va_up_ne _ _ (fun h : z = aDE => ni76 (h ▸ hz))).trans (hr63 z hz hb))
  refine wpF_ (C := RX7) (T := TX7) (N := 31) hx hb hts hi7 tyX7 tyX7_ok nmX7 hown hw m66 h67 rfl 13 (by decide) (hts (.fieldLink RX7 34 "LayerMoistureModel" "depths" "[D") (by decide +kernel)) (fun _ h9 => h9) rfl hin0 rfl (ty := .array .double) (v := .ref aDE) (by decide +kernel) rfl rfl (Nat.le_of_ble_eq_true rfl) dX7_init_50 (fun H locs hw => ?_)
  obtain ⟨f79, ef79⟩ : ∃ z : Nat → va_E, z = va_up f65 b (.inr (8, [.int 0, .int 0, .int 0, .ref aRA, .ref aRB, .double 4643862126702624768, .double 4602678819172646912, .double FP.dconst1, .double 0, .double 0, .long 0, .int 0, .ref aTH, .ref aDE, .null, .null, .null, .null, .null, .null, .null, .int 0, .int 0, .int 0, .int 0, .null, .null, .null, .null, .int 0, .int 0])) := ⟨_, rfl⟩
  have hw : ww G dA A s L64 f79 H locs := by rw [ef79]; exact hw
  have h80 : f79 b = .inr (8, [.int 0, .int 0, .int 0, .ref aRA, .ref aRB, .double 4643862126702624768, .double 4602678819172646912, .double FP.dconst1, .double 0, .double 0, .long 0, .int 0, .ref aTH, .ref aDE, .null, .null, .null, .null, .null, .null, .null, .int 0, .int 0, .int 0, .int 0, .null, .null, .null, .null, .int 0, .int 0]) := by rw [ef79]; exact va_up_self _ _ _
  have h81 : f79 aRA = aD (dA 1) 4 ((fun _ => 0)) := by rw [ef79, va_up_ne _ _ (Ne.symm nb_aRA)]; exact h69
  have h82 : f79 aRB = aD (dA 1) 4 ((fun _ => 0)) := by rw [ef79, va_up_ne _ _ (Ne.symm nb_aRB)]; exact h71
  have h83 : f79 aTH = aI (dA 3) 8 ((fun _ => 0)) := by rw [ef79, va_up_ne _ _ (Ne.symm nb_aTH)]; exact h73
  have h84 : f79 aDE = aD (dA 1) 8 ((fun _ => 0)) := by rw [ef79, va_up_ne _ _ (Ne.symm nb_aDE)]; exact h75
  have hr85 : ∀ z, z ∈ L → z ≠ b → f79 z = f z := fun z hz hb => (congrFun ef79 z).trans ((va_up_ne _ _ hb).trans (hr78 z hz hb))
  refine lv_aload_n hx hb dX7_init_53 rfl (lv_at hl 0 rfl) ?_
  refine lv_bipush (v := 8) hx hb dX7_init_54 (by decide) ?_
  refine wnewa_int (N' := 8) hx hb (hts (.arrayClass .int) (by decide +kernel)) hw hA (by decide) (by decide) (by decide) (by decide) (by decide) dX7_init_56 (fun aKI H hqaKI hw => ?_)
  obtain ⟨L86, eL86⟩ : ∃ z : List Nat, z = L64 ++ [aKI] := ⟨_, rfl⟩
  obtain ⟨f87, ef87⟩ : ∃ z : Nat → va_E, z = va_up f79 aKI (aI (dA 2) 8 ((fun _ => 0))) := ⟨_, rfl⟩
  have hw : ww G dA A s L86 f87 H locs := by rw [eL86, ef87]; exact hw
  have nb_aKI : b ≠ aKI := fun h => hqaKI (h ▸ m66)
  have m88 : b ∈ L86 := by rw [eL86]; exact List.mem_append_left _ m66
  have h89 : f87 b = .inr (8, [.int 0, .int 0, .int 0, .ref aRA, .ref aRB, .double 4643862126702624768, .double 4602678819172646912, .double FP.dconst1, .double 0, .double 0, .long 0, .int 0, .ref aTH, .ref aDE, .null, .null, .null, .null, .null, .null, .null, .int 0, .int 0, .int 0, .int 0, .null, .null, .null, .null, .int 0, .int 0]) := by rw [ef87, va_up_ne _ _ nb_aKI]; exact h80
  have naRA_aKI : aRA ≠ aKI := fun h => hqaKI (h ▸ m68)
  have m90 : aRA ∈ L86 := by rw [eL86]; exact List.mem_append_left _ m68
  have h91 : f87 aRA = aD (dA 1) 4 ((fun _ => 0)) := by rw [ef87, va_up_ne _ _ naRA_aKI]; exact h81
  have naRB_aKI : aRB ≠ aKI := fun h => hqaKI (h ▸ m70)
  have m92 : aRB ∈ L86 := by rw [eL86]; exact List.mem_append_left _ m70
  have h93 : f87 aRB = aD (dA 1) 4 ((fun _ => 0)) := by rw [ef87, va_up_ne _ _ naRB_aKI]; exact h82
  have naTH_aKI : aTH ≠ aKI := fun h => hqaKI (h ▸ m72)
  have m94 : aTH ∈ L86 := by rw [eL86]; exact List.mem_append_left _ m72
  have h95 : f87 aTH = aI (dA 3) 8 ((fun _ => 0)) := by rw [ef87, va_up_ne _ _ naTH_aKI]; exact h83
  have naDE_aKI : aDE ≠ aKI := fun h => hqaKI (h ▸ m74)
  have m96 : aDE ∈ L86 := by rw [eL86]; exact List.mem_append_left _ m74
  have h97 : f87 aDE = aD (dA 1) 8 ((fun _ => 0)) := by rw [ef87, va_up_ne _ _ naDE_aKI]; exact h84
  have m98 : aKI ∈ L86 := by rw [eL86]; exact List.mem_append_right _ List.mem_cons_self
  have h99 : f87 aKI = aI (dA 2) 8 ((fun _ => 0)) := by rw [ef87]; exact va_up_self _ _ _
  have ni100 : aKI ∉ L := fun h => hqaKI (hs77 _ h)
  have hs101 : ∀ z, z ∈ L → z ∈ L86 := fun z h => by rw [eL86]; exact List.mem_append_left _ (hs77 z h)
  have hr102 : ∀ z, z ∈ L → z ≠ b → f87 z = f z := fun z hz hb => (congrFun ef87 z).trans ((va_up_ne _ _ (fun h : z = aKI => ni100 (h ▸ hz))).trans (hr85 z hz hb))
  refine wpF_ (C := RX7) (T := TX7) (N := 31) hx hb hts hi7 tyX7 tyX7_ok nmX7 hown hw m88 h89 rfl 14 (by decide) (hts (.fieldLink RX7 37 "LayerMoistureModel" "kinds" "[I") (by decide +kernel)) (fun _ h9 => h9) rfl hin0 rfl (ty := .array .int) (v := .ref aKI) (by decide +kernel) rfl rfl (Nat.le_of_ble_eq_true rfl) dX7_init_58 (fun H locs hw => ?_)
  obtain ⟨f103, ef103⟩ : ∃ z : Nat → va_E, z = va_up f87 b (.inr (8, [.int 0, .int 0, .int 0, .ref aRA, .ref aRB, .double 4643862126702624768, .double 4602678819172646912, .double FP.dconst1, .double 0, .double 0, .long 0, .int 0, .ref aTH, .ref aDE, .ref aKI, .null, .null, .null, .null, .null, .null, .int 0, .int 0, .int 0, .int 0, .null, .null, .null, .null, .int 0, .int 0])) := ⟨_, rfl⟩
  have hw : ww G dA A s L86 f103 H locs := by rw [ef103]; exact hw
  have h104 : f103 b = .inr (8, [.int 0, .int 0, .int 0, .ref aRA, .ref aRB, .double 4643862126702624768, .double 4602678819172646912, .double FP.dconst1, .double 0, .double 0, .long 0, .int 0, .ref aTH, .ref aDE, .ref aKI, .null, .null, .null, .null, .null, .null, .int 0, .int 0, .int 0, .int 0, .null, .null, .null, .null, .int 0, .int 0]) := by rw [ef103]; exact va_up_self _ _ _
  have h105 : f103 aRA = aD (dA 1) 4 ((fun _ => 0)) := by rw [ef103, va_up_ne _ _ (Ne.symm nb_aRA)]; exact h91
  have h106 : f103 aRB = aD (dA 1) 4 ((fun _ => 0)) := by rw [ef103, va_up_ne _ _ (Ne.symm nb_aRB)]; exact h93
  have h107 : f103 aTH = aI (dA 3) 8 ((fun _ => 0)) := by rw [ef103, va_up_ne _ _ (Ne.symm nb_aTH)]; exact h95
  have h108 : f103 aDE = aD (dA 1) 8 ((fun _ => 0)) := by rw [ef103, va_up_ne _ _ (Ne.symm nb_aDE)]; exact h97
  have h109 : f103 aKI = aI (dA 2) 8 ((fun _ => 0)) := by rw [ef103, va_up_ne _ _ (Ne.symm nb_aKI)]; exact h99
  have hr110 : ∀ z, z ∈ L → z ≠ b → f103 z = f z := fun z hz hb => (congrFun ef103 z).trans ((va_up_ne _ _ hb).trans (hr102 z hz hb))
  refine lv_aload_n hx hb dX7_init_61 rfl (lv_at hl 0 rfl) ?_
  refine lv_sipush (v := 128) hx hb dX7_init_62 (by decide) ?_
  refine wnewa_double (N' := 128) hx hb (hts (.arrayClass .double) (by decide +kernel)) hw hA (by decide) (by decide) (by decide) (by decide) (by decide) dX7_init_65 (fun aWE H hqaWE hw => ?_)
  obtain ⟨L111, eL111⟩ : ∃ z : List Nat, z = L86 ++ [aWE] := ⟨_, rfl⟩
  obtain ⟨f112, ef112⟩ : ∃ z : Nat → va_E, z = va_up f103 aWE (aD (dA 1) 128 ((fun _ => 0))) := ⟨_, rfl⟩
  have hw : ww G dA A s L111 f112 H locs := by rw [eL111, ef112]; exact hw
  have nb_aWE : b ≠ aWE := fun h => hqaWE (h ▸ m88)
  have m113 : b ∈ L111 := by rw [eL111]; exact List.mem_append_left _ m88
  have h114 : f112 b = .inr (8, [.int 0, .int 0, .int 0, .ref aRA, .ref aRB, .double 4643862126702624768, .double 4602678819172646912, .double FP.dconst1, .double 0, .double 0, .long 0, .int 0, .ref aTH, .ref aDE, .ref aKI, .null, .null, .null, .null, .null, .null, .int 0, .int 0, .int 0, .int 0, .null, .null, .null, .null, .int 0, .int 0]) := by rw [ef112, va_up_ne _ _ nb_aWE]; exact h104
  have naRA_aWE : aRA ≠ aWE := fun h => hqaWE (h ▸ m90)
  have m115 : aRA ∈ L111 := by rw [eL111]; exact List.mem_append_left _ m90
  have h116 : f112 aRA = aD (dA 1) 4 ((fun _ => 0)) := by rw [ef112, va_up_ne _ _ naRA_aWE]; exact h105
  have naRB_aWE : aRB ≠ aWE := fun h => hqaWE (h ▸ m92)
  have m117 : aRB ∈ L111 := by rw [eL111]; exact List.mem_append_left _ m92
  have h118 : f112 aRB = aD (dA 1) 4 ((fun _ => 0)) := by rw [ef112, va_up_ne _ _ naRB_aWE]; exact h106
  have naTH_aWE : aTH ≠ aWE := fun h => hqaWE (h ▸ m94)
  have m119 : aTH ∈ L111 := by rw [eL111]; exact List.mem_append_left _ m94
  have h120 : f112 aTH = aI (dA 3) 8 ((fun _ => 0)) := by rw [ef112, va_up_ne _ _ naTH_aWE]; exact h107
  have naDE_aWE : aDE ≠ aWE := fun h => hqaWE (h ▸ m96)
  have m121 : aDE ∈ L111 := by rw [eL111]; exact List.mem_append_left _ m96
  have h122 : f112 aDE = aD (dA 1) 8 ((fun _ => 0)) := by rw [ef112, va_up_ne _ _ naDE_aWE]; exact h108
  have naKI_aWE : aKI ≠ aWE := fun h => hqaWE (h ▸ m98)
  have m123 : aKI ∈ L111 := by rw [eL111]; exact List.mem_append_left _ m98
  have h124 : f112 aKI = aI (dA 2) 8 ((fun _ => 0)) := by rw [ef112, va_up_ne _ _ naKI_aWE]; exact h109
  have m125 : aWE ∈ L111 := by rw [eL111]; exact List.mem_append_right _ List.mem_cons_self
  have h126 : f112 aWE = aD (dA 1) 128 ((fun _ => 0)) := by rw [ef112]; exact va_up_self _ _ _
  have ni127 : aWE ∉ L := fun h => hqaWE (hs101 _ h)
  have hs128 : ∀ z, z ∈ L → z ∈ L111 := fun z h => by rw [eL111]; exact List.mem_append_left _ (hs101 z h)
  have hr129 : ∀ z, z ∈ L → z ≠ b → f112 z = f z := fun z hz hb => (congrFun ef112 z).trans ((va_up_ne _ _ (fun h : z = aWE => ni127 (h ▸ hz))).trans (hr110 z hz hb))
  refine wpF_ (C := RX7) (T := TX7) (N := 31) hx hb hts hi7 tyX7 tyX7_ok nmX7 hown hw m113 h114 rfl 15 (by decide) (hts (.fieldLink RX7 41 "LayerMoistureModel" "wets" "[D") (by decide +kernel)) (fun _ h9 => h9) rfl hin0 rfl (ty := .array .double) (v := .ref aWE) (by decide +kernel) rfl rfl (Nat.le_of_ble_eq_true rfl) dX7_init_67 (fun H locs hw => ?_)
  obtain ⟨f130, ef130⟩ : ∃ z : Nat → va_E, z = va_up f112 b (.inr (8, [.int 0, .int 0, .int 0, .ref aRA, .ref aRB, .double 4643862126702624768, .double 4602678819172646912, .double FP.dconst1, .double 0, .double 0, .long 0, .int 0, .ref aTH, .ref aDE, .ref aKI, .ref aWE, .null, .null, .null, .null, .null, .int 0, .int 0, .int 0, .int 0, .null, .null, .null, .null, .int 0, .int 0])) := ⟨_, rfl⟩
  have hw : ww G dA A s L111 f130 H locs := by rw [ef130]; exact hw
  have h131 : f130 b = .inr (8, [.int 0, .int 0, .int 0, .ref aRA, .ref aRB, .double 4643862126702624768, .double 4602678819172646912, .double FP.dconst1, .double 0, .double 0, .long 0, .int 0, .ref aTH, .ref aDE, .ref aKI, .ref aWE, .null, .null, .null, .null, .null, .int 0, .int 0, .int 0, .int 0, .null, .null, .null, .null, .int 0, .int 0]) := by rw [ef130]; exact va_up_self _ _ _
  have h132 : f130 aRA = aD (dA 1) 4 ((fun _ => 0)) := by rw [ef130, va_up_ne _ _ (Ne.symm nb_aRA)]; exact h116
  have h133 : f130 aRB = aD (dA 1) 4 ((fun _ => 0)) := by rw [ef130, va_up_ne _ _ (Ne.symm nb_aRB)]; exact h118
  have h134 : f130 aTH = aI (dA 3) 8 ((fun _ => 0)) := by rw [ef130, va_up_ne _ _ (Ne.symm nb_aTH)]; exact h120
  have h135 : f130 aDE = aD (dA 1) 8 ((fun _ => 0)) := by rw [ef130, va_up_ne _ _ (Ne.symm nb_aDE)]; exact h122
  have h136 : f130 aKI = aI (dA 2) 8 ((fun _ => 0)) := by rw [ef130, va_up_ne _ _ (Ne.symm nb_aKI)]; exact h124
  have h137 : f130 aWE = aD (dA 1) 128 ((fun _ => 0)) := by rw [ef130, va_up_ne _ _ (Ne.symm nb_aWE)]; exact h126
  have hr138 : ∀ z, z ∈ L → z ≠ b → f130 z = f z := fun z hz hb => (congrFun ef130 z).trans ((va_up_ne _ _ hb).trans (hr129 z hz hb))
  refine lv_aload_n hx hb dX7_init_70 rfl (lv_at hl 0 rfl) ?_
  refine lv_bipush (v := 16) hx hb dX7_init_71 (by decide) ?_
  refine wnewa_double (N' := 16) hx hb (hts (.arrayClass .double) (by decide +kernel)) hw hA (by decide) (by decide) (by decide) (by decide) (by decide) dX7_init_73 (fun aNX H hqaNX hw => ?_)
  obtain ⟨L139, eL139⟩ : ∃ z : List Nat, z = L111 ++ [aNX] := ⟨_, rfl⟩
  obtain ⟨f140, ef140⟩ : ∃ z : Nat → va_E, z = va_up f130 aNX (aD (dA 1) 16 ((fun _ => 0))) := ⟨_, rfl⟩
  have hw : ww G dA A s L139 f140 H locs := by rw [eL139, ef140]; exact hw
  have nb_aNX : b ≠ aNX := fun h => hqaNX (h ▸ m113)
  have m141 : b ∈ L139 := by rw [eL139]; exact List.mem_append_left _ m113
  have h142 : f140 b = .inr (8, [.int 0, .int 0, .int 0, .ref aRA, .ref aRB, .double 4643862126702624768, .double 4602678819172646912, .double FP.dconst1, .double 0, .double 0, .long 0, .int 0, .ref aTH, .ref aDE, .ref aKI, .ref aWE, .null, .null, .null, .null, .null, .int 0, .int 0, .int 0, .int 0, .null, .null, .null, .null, .int 0, .int 0]) := by rw [ef140, va_up_ne _ _ nb_aNX]; exact h131
  have naRA_aNX : aRA ≠ aNX := fun h => hqaNX (h ▸ m115)
  have m143 : aRA ∈ L139 := by rw [eL139]; exact List.mem_append_left _ m115
  have h144 : f140 aRA = aD (dA 1) 4 ((fun _ => 0)) := by rw [ef140, va_up_ne _ _ naRA_aNX]; exact h132
  have naRB_aNX : aRB ≠ aNX := fun h => hqaNX (h ▸ m117)
  have m145 : aRB ∈ L139 := by rw [eL139]; exact List.mem_append_left _ m117
  have h146 : f140 aRB = aD (dA 1) 4 ((fun _ => 0)) := by rw [ef140, va_up_ne _ _ naRB_aNX]; exact h133
  have naTH_aNX : aTH ≠ aNX := fun h => hqaNX (h ▸ m119)
  have m147 : aTH ∈ L139 := by rw [eL139]; exact List.mem_append_left _ m119
  have h148 : f140 aTH = aI (dA 3) 8 ((fun _ => 0)) := by rw [ef140, va_up_ne _ _ naTH_aNX]; exact h134
  have naDE_aNX : aDE ≠ aNX := fun h => hqaNX (h ▸ m121)
  have m149 : aDE ∈ L139 := by rw [eL139]; exact List.mem_append_left _ m121
  have h150 : f140 aDE = aD (dA 1) 8 ((fun _ => 0)) := by rw [ef140, va_up_ne _ _ naDE_aNX]; exact h135
  have naKI_aNX : aKI ≠ aNX := fun h => hqaNX (h ▸ m123)
  have m151 : aKI ∈ L139 := by rw [eL139]; exact List.mem_append_left _ m123
  have h152 : f140 aKI = aI (dA 2) 8 ((fun _ => 0)) := by rw [ef140, va_up_ne _ _ naKI_aNX]; exact h136
  have naWE_aNX : aWE ≠ aNX := fun h => hqaNX (h ▸ m125)
  have m153 : aWE ∈ L139 := by rw [eL139]; exact List.mem_append_left _ m125
  have h154 : f140 aWE = aD (dA 1) 128 ((fun _ => 0)) := by rw [ef140, va_up_ne _ _ naWE_aNX]; exact h137
  have m155 : aNX ∈ L139 := by rw [eL139]; exact List.mem_append_right _ List.mem_cons_self
  have h156 : f140 aNX = aD (dA 1) 16 ((fun _ => 0)) := by rw [ef140]; exact va_up_self _ _ _
  have ni157 : aNX ∉ L := fun h => hqaNX (hs128 _ h)
  have hs158 : ∀ z, z ∈ L → z ∈ L139 := fun z h => by rw [eL139]; exact List.mem_append_left _ (hs128 z h)
  have hr159 : ∀ z, z ∈ L → z ≠ b → f140 z = f z := fun z hz hb => (congrFun ef140 z).trans ((va_up_ne _ _ (fun h : z = aNX => ni157 (h ▸ hz))).trans (hr138 z hz hb))
  refine wpF_ (C := RX7) (T := TX7) (N := 31) hx hb hts hi7 tyX7 tyX7_ok nmX7 hown hw m141 h142 rfl 16 (by decide) (hts (.fieldLink RX7 44 "LayerMoistureModel" "next" "[D") (by decide +kernel)) (fun _ h9 => h9) rfl hin0 rfl (ty := .array .double) (v := .ref aNX) (by decide +kernel) rfl rfl (Nat.le_of_ble_eq_true rfl) dX7_init_75 (fun H locs hw => ?_)
  obtain ⟨f160, ef160⟩ : ∃ z : Nat → va_E, z = va_up f140 b (.inr (8, [.int 0, .int 0, .int 0, .ref aRA, .ref aRB, .double 4643862126702624768, .double 4602678819172646912, .double FP.dconst1, .double 0, .double 0, .long 0, .int 0, .ref aTH, .ref aDE, .ref aKI, .ref aWE, .ref aNX, .null, .null, .null, .null, .int 0, .int 0, .int 0, .int 0, .null, .null, .null, .null, .int 0, .int 0])) := ⟨_, rfl⟩
  have hw : ww G dA A s L139 f160 H locs := by rw [ef160]; exact hw
  have h161 : f160 b = .inr (8, [.int 0, .int 0, .int 0, .ref aRA, .ref aRB, .double 4643862126702624768, .double 4602678819172646912, .double FP.dconst1, .double 0, .double 0, .long 0, .int 0, .ref aTH, .ref aDE, .ref aKI, .ref aWE, .ref aNX, .null, .null, .null, .null, .int 0, .int 0, .int 0, .int 0, .null, .null, .null, .null, .int 0, .int 0]) := by rw [ef160]; exact va_up_self _ _ _
  have h162 : f160 aRA = aD (dA 1) 4 ((fun _ => 0)) := by rw [ef160, va_up_ne _ _ (Ne.symm nb_aRA)]; exact h144
  have h163 : f160 aRB = aD (dA 1) 4 ((fun _ => 0)) := by rw [ef160, va_up_ne _ _ (Ne.symm nb_aRB)]; exact h146
  have h164 : f160 aTH = aI (dA 3) 8 ((fun _ => 0)) := by rw [ef160, va_up_ne _ _ (Ne.symm nb_aTH)]; exact h148
  have h165 : f160 aDE = aD (dA 1) 8 ((fun _ => 0)) := by rw [ef160, va_up_ne _ _ (Ne.symm nb_aDE)]; exact h150
  have h166 : f160 aKI = aI (dA 2) 8 ((fun _ => 0)) := by rw [ef160, va_up_ne _ _ (Ne.symm nb_aKI)]; exact h152
  have h167 : f160 aWE = aD (dA 1) 128 ((fun _ => 0)) := by rw [ef160, va_up_ne _ _ (Ne.symm nb_aWE)]; exact h154
  have h168 : f160 aNX = aD (dA 1) 16 ((fun _ => 0)) := by rw [ef160, va_up_ne _ _ (Ne.symm nb_aNX)]; exact h156
  have hr169 : ∀ z, z ∈ L → z ≠ b → f160 z = f z := fun z hz hb => (congrFun ef160 z).trans ((va_up_ne _ _ hb).trans (hr159 z hz hb))
  refine lv_aload_n hx hb dX7_init_78 rfl (lv_at hl 0 rfl) ?_
  refine lv_bipush (v := 8) hx hb dX7_init_79 (by decide) ?_
  refine wnewa_boolean (N' := 8) hx hb (hts (.arrayClass .boolean) (by decide +kernel)) hw hA (by decide) (by decide) (by decide) (by decide) (by decide) dX7_init_81 (fun aLI H hqaLI hw => ?_)
  obtain ⟨L170, eL170⟩ : ∃ z : List Nat, z = L139 ++ [aLI] := ⟨_, rfl⟩
  obtain ⟨f171, ef171⟩ : ∃ z : Nat → va_E, z = va_up f160 aLI (aI (dA 3) 8 ((fun _ => 0))) := ⟨_, rfl⟩
  have hw : ww G dA A s L170 f171 H locs := by rw [eL170, ef171]; exact hw
  have nb_aLI : b ≠ aLI := fun h => hqaLI (h ▸ m141)
  have m172 : b ∈ L170 := by rw [eL170]; exact List.mem_append_left _ m141
  have h173 : f171 b = .inr (8, [.int 0, .int 0, .int 0, .ref aRA, .ref aRB, .double 4643862126702624768, .double 4602678819172646912, .double FP.dconst1, .double 0, .double 0, .long 0, .int 0, .ref aTH, .ref aDE, .ref aKI, .ref aWE, .ref aNX, .null, .null, .null, .null, .int 0, .int 0, .int 0, .int 0, .null, .null, .null, .null, .int 0, .int 0]) := by rw [ef171, va_up_ne _ _ nb_aLI]; exact h161
  have naRA_aLI : aRA ≠ aLI := fun h => hqaLI (h ▸ m143)
  have m174 : aRA ∈ L170 := by rw [eL170]; exact List.mem_append_left _ m143
  have h175 : f171 aRA = aD (dA 1) 4 ((fun _ => 0)) := by rw [ef171, va_up_ne _ _ naRA_aLI]; exact h162
  have naRB_aLI : aRB ≠ aLI := fun h => hqaLI (h ▸ m145)
  have m176 : aRB ∈ L170 := by rw [eL170]; exact List.mem_append_left _ m145
  have h177 : f171 aRB = aD (dA 1) 4 ((fun _ => 0)) := by rw [ef171, va_up_ne _ _ naRB_aLI]; exact h163
  have naTH_aLI : aTH ≠ aLI := fun h => hqaLI (h ▸ m147)
  have m178 : aTH ∈ L170 := by rw [eL170]; exact List.mem_append_left _ m147
  have h179 : f171 aTH = aI (dA 3) 8 ((fun _ => 0)) := by rw [ef171, va_up_ne _ _ naTH_aLI]; exact h164
  have naDE_aLI : aDE ≠ aLI := fun h => hqaLI (h ▸ m149)
  have m180 : aDE ∈ L170 := by rw [eL170]; exact List.mem_append_left _ m149
  have h181 : f171 aDE = aD (dA 1) 8 ((fun _ => 0)) := by rw [ef171, va_up_ne _ _ naDE_aLI]; exact h165
  have naKI_aLI : aKI ≠ aLI := fun h => hqaLI (h ▸ m151)
  have m182 : aKI ∈ L170 := by rw [eL170]; exact List.mem_append_left _ m151
  have h183 : f171 aKI = aI (dA 2) 8 ((fun _ => 0)) := by rw [ef171, va_up_ne _ _ naKI_aLI]; exact h166
  have naWE_aLI : aWE ≠ aLI := fun h => hqaLI (h ▸ m153)
  have m184 : aWE ∈ L170 := by rw [eL170]; exact List.mem_append_left _ m153
  have h185 : f171 aWE = aD (dA 1) 128 ((fun _ => 0)) := by rw [ef171, va_up_ne _ _ naWE_aLI]; exact h167
  have naNX_aLI : aNX ≠ aLI := fun h => hqaLI (h ▸ m155)
  have m186 : aNX ∈ L170 := by rw [eL170]; exact List.mem_append_left _ m155
  have h187 : f171 aNX = aD (dA 1) 16 ((fun _ => 0)) := by rw [ef171, va_up_ne _ _ naNX_aLI]; exact h168
  have m188 : aLI ∈ L170 := by rw [eL170]; exact List.mem_append_right _ List.mem_cons_self
  have h189 : f171 aLI = aI (dA 3) 8 ((fun _ => 0)) := by rw [ef171]; exact va_up_self _ _ _
  have ni190 : aLI ∉ L := fun h => hqaLI (hs158 _ h)
  have hs191 : ∀ z, z ∈ L → z ∈ L170 := fun z h => by rw [eL170]; exact List.mem_append_left _ (hs158 z h)
  have hr192 : ∀ z, z ∈ L → z ≠ b → f171 z = f z := fun z hz hb => (congrFun ef171 z).trans ((va_up_ne _ _ (fun h : z = aLI => ni190 (h ▸ hz))).trans (hr169 z hz hb))
  refine wpF_ (C := RX7) (T := TX7) (N := 31) hx hb hts hi7 tyX7 tyX7_ok nmX7 hown hw m172 h173 rfl 17 (by decide) (hts (.fieldLink RX7 47 "LayerMoistureModel" "limited" "[Z") (by decide +kernel)) (fun _ h9 => h9) rfl hin0 rfl (ty := .array .boolean) (v := .ref aLI) (by decide +kernel) rfl rfl (Nat.le_of_ble_eq_true rfl) dX7_init_83 (fun H locs hw => ?_)
  obtain ⟨f193, ef193⟩ : ∃ z : Nat → va_E, z = va_up f171 b (.inr (8, [.int 0, .int 0, .int 0, .ref aRA, .ref aRB, .double 4643862126702624768, .double 4602678819172646912, .double FP.dconst1, .double 0, .double 0, .long 0, .int 0, .ref aTH, .ref aDE, .ref aKI, .ref aWE, .ref aNX, .ref aLI, .null, .null, .null, .int 0, .int 0, .int 0, .int 0, .null, .null, .null, .null, .int 0, .int 0])) := ⟨_, rfl⟩
  have hw : ww G dA A s L170 f193 H locs := by rw [ef193]; exact hw
  have h194 : f193 b = .inr (8, [.int 0, .int 0, .int 0, .ref aRA, .ref aRB, .double 4643862126702624768, .double 4602678819172646912, .double FP.dconst1, .double 0, .double 0, .long 0, .int 0, .ref aTH, .ref aDE, .ref aKI, .ref aWE, .ref aNX, .ref aLI, .null, .null, .null, .int 0, .int 0, .int 0, .int 0, .null, .null, .null, .null, .int 0, .int 0]) := by rw [ef193]; exact va_up_self _ _ _
  have h195 : f193 aRA = aD (dA 1) 4 ((fun _ => 0)) := by rw [ef193, va_up_ne _ _ (Ne.symm nb_aRA)]; exact h175
  have h196 : f193 aRB = aD (dA 1) 4 ((fun _ => 0)) := by rw [ef193, va_up_ne _ _ (Ne.symm nb_aRB)]; exact h177
  have h197 : f193 aTH = aI (dA 3) 8 ((fun _ => 0)) := by rw [ef193, va_up_ne _ _ (Ne.symm nb_aTH)]; exact h179
  have h198 : f193 aDE = aD (dA 1) 8 ((fun _ => 0)) := by rw [ef193, va_up_ne _ _ (Ne.symm nb_aDE)]; exact h181
  have h199 : f193 aKI = aI (dA 2) 8 ((fun _ => 0)) := by rw [ef193, va_up_ne _ _ (Ne.symm nb_aKI)]; exact h183
  have h200 : f193 aWE = aD (dA 1) 128 ((fun _ => 0)) := by rw [ef193, va_up_ne _ _ (Ne.symm nb_aWE)]; exact h185
  have h201 : f193 aNX = aD (dA 1) 16 ((fun _ => 0)) := by rw [ef193, va_up_ne _ _ (Ne.symm nb_aNX)]; exact h187
  have h202 : f193 aLI = aI (dA 3) 8 ((fun _ => 0)) := by rw [ef193, va_up_ne _ _ (Ne.symm nb_aLI)]; exact h189
  have hr203 : ∀ z, z ∈ L → z ≠ b → f193 z = f z := fun z hz hb => (congrFun ef193 z).trans ((va_up_ne _ _ hb).trans (hr192 z hz hb))
  refine lv_aload_n hx hb dX7_init_86 rfl (lv_at hl 0 rfl) ?_
  refine lv_bipush (v := 8) hx hb dX7_init_87 (by decide) ?_
  refine wnewa_double (N' := 8) hx hb (hts (.arrayClass .double) (by decide +kernel)) hw hA (by decide) (by decide) (by decide) (by decide) (by decide) dX7_init_89 (fun aLM H hqaLM hw => ?_)
  obtain ⟨L204, eL204⟩ : ∃ z : List Nat, z = L170 ++ [aLM] := ⟨_, rfl⟩
  obtain ⟨f205, ef205⟩ : ∃ z : Nat → va_E, z = va_up f193 aLM (aD (dA 1) 8 ((fun _ => 0))) := ⟨_, rfl⟩
  have hw : ww G dA A s L204 f205 H locs := by rw [eL204, ef205]; exact hw
  have nb_aLM : b ≠ aLM := fun h => hqaLM (h ▸ m172)
  have m206 : b ∈ L204 := by rw [eL204]; exact List.mem_append_left _ m172
  have h207 : f205 b = .inr (8, [.int 0, .int 0, .int 0, .ref aRA, .ref aRB, .double 4643862126702624768, .double 4602678819172646912, .double FP.dconst1, .double 0, .double 0, .long 0, .int 0, .ref aTH, .ref aDE, .ref aKI, .ref aWE, .ref aNX, .ref aLI, .null, .null, .null, .int 0, .int 0, .int 0, .int 0, .null, .null, .null, .null, .int 0, .int 0]) := by rw [ef205, va_up_ne _ _ nb_aLM]; exact h194
  have naRA_aLM : aRA ≠ aLM := fun h => hqaLM (h ▸ m174)
  have m208 : aRA ∈ L204 := by rw [eL204]; exact List.mem_append_left _ m174
  have h209 : f205 aRA = aD (dA 1) 4 ((fun _ => 0)) := by rw [ef205, va_up_ne _ _ naRA_aLM]; exact h195
  have naRB_aLM : aRB ≠ aLM := fun h => hqaLM (h ▸ m176)
  have m210 : aRB ∈ L204 := by rw [eL204]; exact List.mem_append_left _ m176
  have h211 : f205 aRB = aD (dA 1) 4 ((fun _ => 0)) := by rw [ef205, va_up_ne _ _ naRB_aLM]; exact h196
  have naTH_aLM : aTH ≠ aLM := fun h => hqaLM (h ▸ m178)
  have m212 : aTH ∈ L204 := by rw [eL204]; exact List.mem_append_left _ m178
  have h213 : f205 aTH = aI (dA 3) 8 ((fun _ => 0)) := by rw [ef205, va_up_ne _ _ naTH_aLM]; exact h197
  have naDE_aLM : aDE ≠ aLM := fun h => hqaLM (h ▸ m180)
  have m214 : aDE ∈ L204 := by rw [eL204]; exact List.mem_append_left _ m180
  have h215 : f205 aDE = aD (dA 1) 8 ((fun _ => 0)) := by rw [ef205, va_up_ne _ _ naDE_aLM]; exact h198
  have naKI_aLM : aKI ≠ aLM := fun h => hqaLM (h ▸ m182)
  have m216 : aKI ∈ L204 := by rw [eL204]; exact List.mem_append_left _ m182
  have h217 : f205 aKI = aI (dA 2) 8 ((fun _ => 0)) := by rw [ef205, va_up_ne _ _ naKI_aLM]; exact h199
  have naWE_aLM : aWE ≠ aLM := fun h => hqaLM (h ▸ m184)
  have m218 : aWE ∈ L204 := by rw [eL204]; exact List.mem_append_left _ m184
  have h219 : f205 aWE = aD (dA 1) 128 ((fun _ => 0)) := by rw [ef205, va_up_ne _ _ naWE_aLM]; exact h200
  have naNX_aLM : aNX ≠ aLM := fun h => hqaLM (h ▸ m186)
  have m220 : aNX ∈ L204 := by rw [eL204]; exact List.mem_append_left _ m186
  have h221 : f205 aNX = aD (dA 1) 16 ((fun _ => 0)) := by rw [ef205, va_up_ne _ _ naNX_aLM]; exact h201
  have naLI_aLM : aLI ≠ aLM := fun h => hqaLM (h ▸ m188)
  have m222 : aLI ∈ L204 := by rw [eL204]; exact List.mem_append_left _ m188
  have h223 : f205 aLI = aI (dA 3) 8 ((fun _ => 0)) := by rw [ef205, va_up_ne _ _ naLI_aLM]; exact h202
  have m224 : aLM ∈ L204 := by rw [eL204]; exact List.mem_append_right _ List.mem_cons_self
  have h225 : f205 aLM = aD (dA 1) 8 ((fun _ => 0)) := by rw [ef205]; exact va_up_self _ _ _
  have ni226 : aLM ∉ L := fun h => hqaLM (hs191 _ h)
  have hs227 : ∀ z, z ∈ L → z ∈ L204 := fun z h => by rw [eL204]; exact List.mem_append_left _ (hs191 z h)
  have hr228 : ∀ z, z ∈ L → z ≠ b → f205 z = f z := fun z hz hb => (congrFun ef205 z).trans ((va_up_ne _ _ (fun h : z = aLM => ni226 (h ▸ hz))).trans (hr203 z hz hb))
  refine wpF_ (C := RX7) (T := TX7) (N := 31) hx hb hts hi7 tyX7 tyX7_ok nmX7 hown hw m206 h207 rfl 18 (by decide) (hts (.fieldLink RX7 50 "LayerMoistureModel" "limits" "[D") (by decide +kernel)) (fun _ h9 => h9) rfl hin0 rfl (ty := .array .double) (v := .ref aLM) (by decide +kernel) rfl rfl (Nat.le_of_ble_eq_true rfl) dX7_init_91 (fun H locs hw => ?_)
  obtain ⟨f229, ef229⟩ : ∃ z : Nat → va_E, z = va_up f205 b (.inr (8, [.int 0, .int 0, .int 0, .ref aRA, .ref aRB, .double 4643862126702624768, .double 4602678819172646912, .double FP.dconst1, .double 0, .double 0, .long 0, .int 0, .ref aTH, .ref aDE, .ref aKI, .ref aWE, .ref aNX, .ref aLI, .ref aLM, .null, .null, .int 0, .int 0, .int 0, .int 0, .null, .null, .null, .null, .int 0, .int 0])) := ⟨_, rfl⟩
  have hw : ww G dA A s L204 f229 H locs := by rw [ef229]; exact hw
  have h230 : f229 b = .inr (8, [.int 0, .int 0, .int 0, .ref aRA, .ref aRB, .double 4643862126702624768, .double 4602678819172646912, .double FP.dconst1, .double 0, .double 0, .long 0, .int 0, .ref aTH, .ref aDE, .ref aKI, .ref aWE, .ref aNX, .ref aLI, .ref aLM, .null, .null, .int 0, .int 0, .int 0, .int 0, .null, .null, .null, .null, .int 0, .int 0]) := by rw [ef229]; exact va_up_self _ _ _
  have h231 : f229 aRA = aD (dA 1) 4 ((fun _ => 0)) := by rw [ef229, va_up_ne _ _ (Ne.symm nb_aRA)]; exact h209
  have h232 : f229 aRB = aD (dA 1) 4 ((fun _ => 0)) := by rw [ef229, va_up_ne _ _ (Ne.symm nb_aRB)]; exact h211
  have h233 : f229 aTH = aI (dA 3) 8 ((fun _ => 0)) := by rw [ef229, va_up_ne _ _ (Ne.symm nb_aTH)]; exact h213
  have h234 : f229 aDE = aD (dA 1) 8 ((fun _ => 0)) := by rw [ef229, va_up_ne _ _ (Ne.symm nb_aDE)]; exact h215
  have h235 : f229 aKI = aI (dA 2) 8 ((fun _ => 0)) := by rw [ef229, va_up_ne _ _ (Ne.symm nb_aKI)]; exact h217
  have h236 : f229 aWE = aD (dA 1) 128 ((fun _ => 0)) := by rw [ef229, va_up_ne _ _ (Ne.symm nb_aWE)]; exact h219
  have h237 : f229 aNX = aD (dA 1) 16 ((fun _ => 0)) := by rw [ef229, va_up_ne _ _ (Ne.symm nb_aNX)]; exact h221
  have h238 : f229 aLI = aI (dA 3) 8 ((fun _ => 0)) := by rw [ef229, va_up_ne _ _ (Ne.symm nb_aLI)]; exact h223
  have h239 : f229 aLM = aD (dA 1) 8 ((fun _ => 0)) := by rw [ef229, va_up_ne _ _ (Ne.symm nb_aLM)]; exact h225
  have hr240 : ∀ z, z ∈ L → z ≠ b → f229 z = f z := fun z hz hb => (congrFun ef229 z).trans ((va_up_ne _ _ hb).trans (hr228 z hz hb))
  refine lv_aload_n hx hb dX7_init_94 rfl (lv_at hl 0 rfl) ?_
  refine lv_bipush (v := 8) hx hb dX7_init_95 (by decide) ?_
  refine wnewa_int (N' := 8) hx hb (hts (.arrayClass .int) (by decide +kernel)) hw hA (by decide) (by decide) (by decide) (by decide) (by decide) dX7_init_97 (fun aKE H hqaKE hw => ?_)
  obtain ⟨L241, eL241⟩ : ∃ z : List Nat, z = L204 ++ [aKE] := ⟨_, rfl⟩
  obtain ⟨f242, ef242⟩ : ∃ z : Nat → va_E, z = va_up f229 aKE (aI (dA 2) 8 ((fun _ => 0))) := ⟨_, rfl⟩
  have hw : ww G dA A s L241 f242 H locs := by rw [eL241, ef242]; exact hw
  have nb_aKE : b ≠ aKE := fun h => hqaKE (h ▸ m206)
  have m243 : b ∈ L241 := by rw [eL241]; exact List.mem_append_left _ m206
  have h244 : f242 b = .inr (8, [.int 0, .int 0, .int 0, .ref aRA, .ref aRB, .double 4643862126702624768, .double 4602678819172646912, .double FP.dconst1, .double 0, .double 0, .long 0, .int 0, .ref aTH, .ref aDE, .ref aKI, .ref aWE, .ref aNX, .ref aLI, .ref aLM, .null, .null, .int 0, .int 0, .int 0, .int 0, .null, .null, .null, .null, .int 0, .int 0]) := by rw [ef242, va_up_ne _ _ nb_aKE]; exact h230
  have naRA_aKE : aRA ≠ aKE := fun h => hqaKE (h ▸ m208)
  have m245 : aRA ∈ L241 := by rw [eL241]; exact List.mem_append_left _ m208
  have h246 : f242 aRA = aD (dA 1) 4 ((fun _ => 0)) := by rw [ef242, va_up_ne _ _ naRA_aKE]; exact h231
  have naRB_aKE : aRB ≠ aKE := fun h => hqaKE (h ▸ m210)
  have m247 : aRB ∈ L241 := by rw [eL241]; exact List.mem_append_left _ m210
  have h248 : f242 aRB = aD (dA 1) 4 ((fun _ => 0)) := by rw [ef242, va_up_ne _ _ naRB_aKE]; exact h232
  have naTH_aKE : aTH ≠ aKE := fun h => hqaKE (h ▸ m212)
  have m249 : aTH ∈ L241 := by rw [eL241]; exact List.mem_append_left _ m212
  have h250 : f242 aTH = aI (dA 3) 8 ((fun _ => 0)) := by rw [ef242, va_up_ne _ _ naTH_aKE]; exact h233
  have naDE_aKE : aDE ≠ aKE := fun h => hqaKE (h ▸ m214)
  have m251 : aDE ∈ L241 := by rw [eL241]; exact List.mem_append_left _ m214
  have h252 : f242 aDE = aD (dA 1) 8 ((fun _ => 0)) := by rw [ef242, va_up_ne _ _ naDE_aKE]; exact h234
  have naKI_aKE : aKI ≠ aKE := fun h => hqaKE (h ▸ m216)
  have m253 : aKI ∈ L241 := by rw [eL241]; exact List.mem_append_left _ m216
  have h254 : f242 aKI = aI (dA 2) 8 ((fun _ => 0)) := by rw [ef242, va_up_ne _ _ naKI_aKE]; exact h235
  have naWE_aKE : aWE ≠ aKE := fun h => hqaKE (h ▸ m218)
  have m255 : aWE ∈ L241 := by rw [eL241]; exact List.mem_append_left _ m218
  have h256 : f242 aWE = aD (dA 1) 128 ((fun _ => 0)) := by rw [ef242, va_up_ne _ _ naWE_aKE]; exact h236
  have naNX_aKE : aNX ≠ aKE := fun h => hqaKE (h ▸ m220)
  have m257 : aNX ∈ L241 := by rw [eL241]; exact List.mem_append_left _ m220
  have h258 : f242 aNX = aD (dA 1) 16 ((fun _ => 0)) := by rw [ef242, va_up_ne _ _ naNX_aKE]; exact h237
  have naLI_aKE : aLI ≠ aKE := fun h => hqaKE (h ▸ m222)
  have m259 : aLI ∈ L241 := by rw [eL241]; exact List.mem_append_left _ m222
  have h260 : f242 aLI = aI (dA 3) 8 ((fun _ => 0)) := by rw [ef242, va_up_ne _ _ naLI_aKE]; exact h238
  have naLM_aKE : aLM ≠ aKE := fun h => hqaKE (h ▸ m224)
  have m261 : aLM ∈ L241 := by rw [eL241]; exact List.mem_append_left _ m224
  have h262 : f242 aLM = aD (dA 1) 8 ((fun _ => 0)) := by rw [ef242, va_up_ne _ _ naLM_aKE]; exact h239
  have m263 : aKE ∈ L241 := by rw [eL241]; exact List.mem_append_right _ List.mem_cons_self
  have h264 : f242 aKE = aI (dA 2) 8 ((fun _ => 0)) := by rw [ef242]; exact va_up_self _ _ _
  have ni265 : aKE ∉ L := fun h => hqaKE (hs227 _ h)
  have hs266 : ∀ z, z ∈ L → z ∈ L241 := fun z h => by rw [eL241]; exact List.mem_append_left _ (hs227 z h)
  have hr267 : ∀ z, z ∈ L → z ≠ b → f242 z = f z := fun z hz hb => (congrFun ef242 z).trans ((va_up_ne _ _ (fun h : z = aKE => ni265 (h ▸ hz))).trans (hr240 z hz hb))
  refine wpF_ (C := RX7) (T := TX7) (N := 31) hx hb hts hi7 tyX7 tyX7_ok nmX7 hown hw m243 h244 rfl 19 (by decide) (hts (.fieldLink RX7 53 "LayerMoistureModel" "kept" "[I") (by decide +kernel)) (fun _ h9 => h9) rfl hin0 rfl (ty := .array .int) (v := .ref aKE) (by decide +kernel) rfl rfl (Nat.le_of_ble_eq_true rfl) dX7_init_99 (fun H locs hw => ?_)
  obtain ⟨f268, ef268⟩ : ∃ z : Nat → va_E, z = va_up f242 b (.inr (8, [.int 0, .int 0, .int 0, .ref aRA, .ref aRB, .double 4643862126702624768, .double 4602678819172646912, .double FP.dconst1, .double 0, .double 0, .long 0, .int 0, .ref aTH, .ref aDE, .ref aKI, .ref aWE, .ref aNX, .ref aLI, .ref aLM, .ref aKE, .null, .int 0, .int 0, .int 0, .int 0, .null, .null, .null, .null, .int 0, .int 0])) := ⟨_, rfl⟩
  have hw : ww G dA A s L241 f268 H locs := by rw [ef268]; exact hw
  have h269 : f268 b = .inr (8, [.int 0, .int 0, .int 0, .ref aRA, .ref aRB, .double 4643862126702624768, .double 4602678819172646912, .double FP.dconst1, .double 0, .double 0, .long 0, .int 0, .ref aTH, .ref aDE, .ref aKI, .ref aWE, .ref aNX, .ref aLI, .ref aLM, .ref aKE, .null, .int 0, .int 0, .int 0, .int 0, .null, .null, .null, .null, .int 0, .int 0]) := by rw [ef268]; exact va_up_self _ _ _
  have h270 : f268 aRA = aD (dA 1) 4 ((fun _ => 0)) := by rw [ef268, va_up_ne _ _ (Ne.symm nb_aRA)]; exact h246
  have h271 : f268 aRB = aD (dA 1) 4 ((fun _ => 0)) := by rw [ef268, va_up_ne _ _ (Ne.symm nb_aRB)]; exact h248
  have h272 : f268 aTH = aI (dA 3) 8 ((fun _ => 0)) := by rw [ef268, va_up_ne _ _ (Ne.symm nb_aTH)]; exact h250
  have h273 : f268 aDE = aD (dA 1) 8 ((fun _ => 0)) := by rw [ef268, va_up_ne _ _ (Ne.symm nb_aDE)]; exact h252
  have h274 : f268 aKI = aI (dA 2) 8 ((fun _ => 0)) := by rw [ef268, va_up_ne _ _ (Ne.symm nb_aKI)]; exact h254
  have h275 : f268 aWE = aD (dA 1) 128 ((fun _ => 0)) := by rw [ef268, va_up_ne _ _ (Ne.symm nb_aWE)]; exact h256
  have h276 : f268 aNX = aD (dA 1) 16 ((fun _ => 0)) := by rw [ef268, va_up_ne _ _ (Ne.symm nb_aNX)]; exact h258
  have h277 : f268 aLI = aI (dA 3) 8 ((fun _ => 0)) := by rw [ef268, va_up_ne _ _ (Ne.symm nb_aLI)]; exact h260
  have h278 : f268 aLM = aD (dA 1) 8 ((fun _ => 0)) := by rw [ef268, va_up_ne _ _ (Ne.symm nb_aLM)]; exact h262
  have h279 : f268 aKE = aI (dA 2) 8 ((fun _ => 0)) := by rw [ef268, va_up_ne _ _ (Ne.symm nb_aKE)]; exact h264
  have hr280 : ∀ z, z ∈ L → z ≠ b → f268 z = f z := fun z hz hb => (congrFun ef268 z).trans ((va_up_ne _ _ hb).trans (hr267 z hz hb))
  refine lv_aload_n hx hb dX7_init_102 rfl (lv_at hl 0 rfl) ?_
  refine lv_sipush (v := 200) hx hb dX7_init_103 (by decide) ?_
  refine wnewa_int (N' := 200) hx hb (hts (.arrayClass .int) (by decide +kernel)) hw hA (by decide) (by decide) (by decide) (by decide) (by decide) dX7_init_106 (fun aTX H hqaTX hw => ?_)
  obtain ⟨L281, eL281⟩ : ∃ z : List Nat, z = L241 ++ [aTX] := ⟨_, rfl⟩
  obtain ⟨f282, ef282⟩ : ∃ z : Nat → va_E, z = va_up f268 aTX (aI (dA 2) 200 ((fun _ => 0))) := ⟨_, rfl⟩
  have hw : ww G dA A s L281 f282 H locs := by rw [eL281, ef282]; exact hw
  have nb_aTX : b ≠ aTX := fun h => hqaTX (h ▸ m243)
  have m283 : b ∈ L281 := by rw [eL281]; exact List.mem_append_left _ m243
  have h284 : f282 b = .inr (8, [.int 0, .int 0, .int 0, .ref aRA, .ref aRB, .double 4643862126702624768, .double 4602678819172646912, .double FP.dconst1, .double 0, .double 0, .long 0, .int 0, .ref aTH, .ref aDE, .ref aKI, .ref aWE, .ref aNX, .ref aLI, .ref aLM, .ref aKE, .null, .int 0, .int 0, .int 0, .int 0, .null, .null, .null, .null, .int 0, .int 0]) := by rw [ef282, va_up_ne _ _ nb_aTX]; exact h269
  have naRA_aTX : aRA ≠ aTX := fun h => hqaTX (h ▸ m245)
  have m285 : aRA ∈ L281 := by rw [eL281]; exact List.mem_append_left _ m245
  have h286 : f282 aRA = aD (dA 1) 4 ((fun _ => 0)) := by rw [ef282, va_up_ne _ _ naRA_aTX]; exact h270
  have naRB_aTX : aRB ≠ aTX := fun h => hqaTX (h ▸ m247)
  have m287 : aRB ∈ L281 := by rw [eL281]; exact List.mem_append_left _ m247
  have h288 : f282 aRB = aD (dA 1) 4 ((fun _ => 0)) := by rw [ef282, va_up_ne _ _ naRB_aTX]; exact h271
  have naTH_aTX : aTH ≠ aTX := fun h => hqaTX (h ▸ m249)
  have m289 : aTH ∈ L281 := by rw [eL281]; exact List.mem_append_left _ m249
  have h290 : f282 aTH = aI (dA 3) 8 ((fun _ => 0)) := by rw [ef282, va_up_ne _ _ naTH_aTX]; exact h272
  have naDE_aTX : aDE ≠ aTX := fun h => hqaTX (h ▸ m251)
  have m291 : aDE ∈ L281 := by rw [eL281]; exact List.mem_append_left _ m251
  have h292 : f282 aDE = aD (dA 1) 8 ((fun _ => 0)) := by rw [ef282, va_up_ne _ _ naDE_aTX]; exact h273
  have naKI_aTX : aKI ≠ aTX := fun h => hqaTX (h ▸ m253)
  have m293 : aKI ∈ L281 := by rw [eL281]; exact List.mem_append_left _ m253
  have h294 : f282 aKI = aI (dA 2) 8 ((fun _ => 0)) := by rw [ef282, va_up_ne _ _ naKI_aTX]; exact h274
  have naWE_aTX : aWE ≠ aTX := fun h => hqaTX (h ▸ m255)
  have m295 : aWE ∈ L281 := by rw [eL281]; exact List.mem_append_left _ m255
  have h296 : f282 aWE = aD (dA 1) 128 ((fun _ => 0)) := by rw [ef282, va_up_ne _ _ naWE_aTX]; exact h275
  have naNX_aTX : aNX ≠ aTX := fun h => hqaTX (h ▸ m257)
  have m297 : aNX ∈ L281 := by rw [eL281]; exact List.mem_append_left _ m257
  have h298 : f282 aNX = aD (dA 1) 16 ((fun _ => 0)) := by rw [ef282, va_up_ne _ _ naNX_aTX]; exact h276
  have naLI_aTX : aLI ≠ aTX := fun h => hqaTX (h ▸ m259)
  have m299 : aLI ∈ L281 := by rw [eL281]; exact List.mem_append_left _ m259
  have h300 : f282 aLI = aI (dA 3) 8 ((fun _ => 0)) := by rw [ef282, va_up_ne _ _ naLI_aTX]; exact h277
  have naLM_aTX : aLM ≠ aTX := fun h => hqaTX (h ▸ m261)
  have m301 : aLM ∈ L281 := by rw [eL281]; exact List.mem_append_left _ m261
  have h302 : f282 aLM = aD (dA 1) 8 ((fun _ => 0)) := by rw [ef282, va_up_ne _ _ naLM_aTX]; exact h278
  have naKE_aTX : aKE ≠ aTX := fun h => hqaTX (h ▸ m263)
  have m303 : aKE ∈ L281 := by rw [eL281]; exact List.mem_append_left _ m263
  have h304 : f282 aKE = aI (dA 2) 8 ((fun _ => 0)) := by rw [ef282, va_up_ne _ _ naKE_aTX]; exact h279
  have m305 : aTX ∈ L281 := by rw [eL281]; exact List.mem_append_right _ List.mem_cons_self
  have h306 : f282 aTX = aI (dA 2) 200 ((fun _ => 0)) := by rw [ef282]; exact va_up_self _ _ _
  have ni307 : aTX ∉ L := fun h => hqaTX (hs266 _ h)
  have hs308 : ∀ z, z ∈ L → z ∈ L281 := fun z h => by rw [eL281]; exact List.mem_append_left _ (hs266 z h)
  have hr309 : ∀ z, z ∈ L → z ≠ b → f282 z = f z := fun z hz hb => (congrFun ef282 z).trans ((va_up_ne _ _ (fun h : z = aTX => ni307 (h ▸ hz))).trans (hr280 z hz hb))
  refine wpF_ (C := RX7) (T := TX7) (N := 31) hx hb hts hi7 tyX7 tyX7_ok nmX7 hown hw m283 h284 rfl 20 (by decide) (hts (.fieldLink RX7 56 "LayerMoistureModel" "text" "[I") (by decide +kernel)) (fun _ h9 => h9) rfl hin0 rfl (ty := .array .int) (v := .ref aTX) (by decide +kernel) rfl rfl (Nat.le_of_ble_eq_true rfl) dX7_init_108 (fun H locs hw => ?_)
  obtain ⟨f310, ef310⟩ : ∃ z : Nat → va_E, z = va_up f282 b (.inr (8, [.int 0, .int 0, .int 0, .ref aRA, .ref aRB, .double 4643862126702624768, .double 4602678819172646912, .double FP.dconst1, .double 0, .double 0, .long 0, .int 0, .ref aTH, .ref aDE, .ref aKI, .ref aWE, .ref aNX, .ref aLI, .ref aLM, .ref aKE, .ref aTX, .int 0, .int 0, .int 0, .int 0, .null, .null, .null, .null, .int 0, .int 0])) := ⟨_, rfl⟩
  have hw : ww G dA A s L281 f310 H locs := by rw [ef310]; exact hw
  have h311 : f310 b = .inr (8, [.int 0, .int 0, .int 0, .ref aRA, .ref aRB, .double 4643862126702624768, .double 4602678819172646912, .double FP.dconst1, .double 0, .double 0, .long 0, .int 0, .ref aTH, .ref aDE, .ref aKI, .ref aWE, .ref aNX, .ref aLI, .ref aLM, .ref aKE, .ref aTX, .int 0, .int 0, .int 0, .int 0, .null, .null, .null, .null, .int 0, .int 0]) := by rw [ef310]; exact va_up_self _ _ _
  have h312 : f310 aRA = aD (dA 1) 4 ((fun _ => 0)) := by rw [ef310, va_up_ne _ _ (Ne.symm nb_aRA)]; exact h286
  have h313 : f310 aRB = aD (dA 1) 4 ((fun _ => 0)) := by rw [ef310, va_up_ne _ _ (Ne.symm nb_aRB)]; exact h288
  have h314 : f310 aTH = aI (dA 3) 8 ((fun _ => 0)) := by rw [ef310, va_up_ne _ _ (Ne.symm nb_aTH)]; exact h290
  have h315 : f310 aDE = aD (dA 1) 8 ((fun _ => 0)) := by rw [ef310, va_up_ne _ _ (Ne.symm nb_aDE)]; exact h292
  have h316 : f310 aKI = aI (dA 2) 8 ((fun _ => 0)) := by rw [ef310, va_up_ne _ _ (Ne.symm nb_aKI)]; exact h294
  have h317 : f310 aWE = aD (dA 1) 128 ((fun _ => 0)) := by rw [ef310, va_up_ne _ _ (Ne.symm nb_aWE)]; exact h296
  have h318 : f310 aNX = aD (dA 1) 16 ((fun _ => 0)) := by rw [ef310, va_up_ne _ _ (Ne.symm nb_aNX)]; exact h298
  have h319 : f310 aLI = aI (dA 3) 8 ((fun _ => 0)) := by rw [ef310, va_up_ne _ _ (Ne.symm nb_aLI)]; exact h300
  have h320 : f310 aLM = aD (dA 1) 8 ((fun _ => 0)) := by rw [ef310, va_up_ne _ _ (Ne.symm nb_aLM)]; exact h302
  have h321 : f310 aKE = aI (dA 2) 8 ((fun _ => 0)) := by rw [ef310, va_up_ne _ _ (Ne.symm nb_aKE)]; exact h304
  have h322 : f310 aTX = aI (dA 2) 200 ((fun _ => 0)) := by rw [ef310, va_up_ne _ _ (Ne.symm nb_aTX)]; exact h306
  have hr323 : ∀ z, z ∈ L → z ≠ b → f310 z = f z := fun z hz hb => (congrFun ef310 z).trans ((va_up_ne _ _ hb).trans (hr309 z hz hb))
  refine lv_aload_n hx hb dX7_init_111 rfl (lv_at hl 0 rfl) ?_
  refine lv_bipush (v := 12) hx hb dX7_init_112 (by decide) ?_
  refine wnewa_boolean (N' := 12) hx hb (hts (.arrayClass .boolean) (by decide +kernel)) hw hA (by decide) (by decide) (by decide) (by decide) (by decide) dX7_init_114 (fun aBW H hqaBW hw => ?_)
  obtain ⟨L324, eL324⟩ : ∃ z : List Nat, z = L281 ++ [aBW] := ⟨_, rfl⟩
  obtain ⟨f325, ef325⟩ : ∃ z : Nat → va_E, z = va_up f310 aBW (aI (dA 3) 12 ((fun _ => 0))) := ⟨_, rfl⟩
  have hw : ww G dA A s L324 f325 H locs := by rw [eL324, ef325]; exact hw
  have nb_aBW : b ≠ aBW := fun h => hqaBW (h ▸ m283)
  have m326 : b ∈ L324 := by rw [eL324]; exact List.mem_append_left _ m283
  have h327 : f325 b = .inr (8, [.int 0, .int 0, .int 0, .ref aRA, .ref aRB, .double 4643862126702624768, .double 4602678819172646912, .double FP.dconst1, .double 0, .double 0, .long 0, .int 0, .ref aTH, .ref aDE, .ref aKI, .ref aWE, .ref aNX, .ref aLI, .ref aLM, .ref aKE, .ref aTX, .int 0, .int 0, .int 0, .int 0, .null, .null, .null, .null, .int 0, .int 0]) := by rw [ef325, va_up_ne _ _ nb_aBW]; exact h311
  have naRA_aBW : aRA ≠ aBW := fun h => hqaBW (h ▸ m285)
  have m328 : aRA ∈ L324 := by rw [eL324]; exact List.mem_append_left _ m285
  have h329 : f325 aRA = aD (dA 1) 4 ((fun _ => 0)) := by rw [ef325, va_up_ne _ _ naRA_aBW]; exact h312
  have naRB_aBW : aRB ≠ aBW := fun h => hqaBW (h ▸ m287)
  have m330 : aRB ∈ L324 := by rw [eL324]; exact List.mem_append_left _ m287
  have h331 : f325 aRB = aD (dA 1) 4 ((fun _ => 0)) := by rw [ef325, va_up_ne _ _ naRB_aBW]; exact h313
  have naTH_aBW : aTH ≠ aBW := fun h => hqaBW (h ▸ m289)
  have m332 : aTH ∈ L324 := by rw [eL324]; exact List.mem_append_left _ m289
  have h333 : f325 aTH = aI (dA 3) 8 ((fun _ => 0)) := by rw [ef325, va_up_ne _ _ naTH_aBW]; exact h314
  have naDE_aBW : aDE ≠ aBW := fun h => hqaBW (h ▸ m291)
  have m334 : aDE ∈ L324 := by rw [eL324]; exact List.mem_append_left _ m291
  have h335 : f325 aDE = aD (dA 1) 8 ((fun _ => 0)) := by rw [ef325, va_up_ne _ _ naDE_aBW]; exact h315
  have naKI_aBW : aKI ≠ aBW := fun h => hqaBW (h ▸ m293)
  have m336 : aKI ∈ L324 := by rw [eL324]; exact List.mem_append_left _ m293
  have h337 : f325 aKI = aI (dA 2) 8 ((fun _ => 0)) := by rw [ef325, va_up_ne _ _ naKI_aBW]; exact h316
  have naWE_aBW : aWE ≠ aBW := fun h => hqaBW (h ▸ m295)
  have m338 : aWE ∈ L324 := by rw [eL324]; exact List.mem_append_left _ m295
  have h339 : f325 aWE = aD (dA 1) 128 ((fun _ => 0)) := by rw [ef325, va_up_ne _ _ naWE_aBW]; exact h317
  have naNX_aBW : aNX ≠ aBW := fun h => hqaBW (h ▸ m297)
  have m340 : aNX ∈ L324 := by rw [eL324]; exact List.mem_append_left _ m297
  have h341 : f325 aNX = aD (dA 1) 16 ((fun _ => 0)) := by rw [ef325, va_up_ne _ _ naNX_aBW]; exact h318
  have naLI_aBW : aLI ≠ aBW := fun h => hqaBW (h ▸ m299)
  have m342 : aLI ∈ L324 := by rw [eL324]; exact List.mem_append_left _ m299
  have h343 : f325 aLI = aI (dA 3) 8 ((fun _ => 0)) := by rw [ef325, va_up_ne _ _ naLI_aBW]; exact h319
  have naLM_aBW : aLM ≠ aBW := fun h => hqaBW (h ▸ m301)
  have m344 : aLM ∈ L324 := by rw [eL324]; exact List.mem_append_left _ m301
  have h345 : f325 aLM = aD (dA 1) 8 ((fun _ => 0)) := by rw [ef325, va_up_ne _ _ naLM_aBW]; exact h320
  have naKE_aBW : aKE ≠ aBW := fun h => hqaBW (h ▸ m303)
  have m346 : aKE ∈ L324 := by rw [eL324]; exact List.mem_append_left _ m303
  have h347 : f325 aKE = aI (dA 2) 8 ((fun _ => 0)) := by rw [ef325, va_up_ne _ _ naKE_aBW]; exact h321
  have naTX_aBW : aTX ≠ aBW := fun h => hqaBW (h ▸ m305)
  have m348 : aTX ∈ L324 := by rw [eL324]; exact List.mem_append_left _ m305
  have h349 : f325 aTX = aI (dA 2) 200 ((fun _ => 0)) := by rw [ef325, va_up_ne _ _ naTX_aBW]; exact h322
  have m350 : aBW ∈ L324 := by rw [eL324]; exact List.mem_append_right _ List.mem_cons_self
  have h351 : f325 aBW = aI (dA 3) 12 ((fun _ => 0)) := by rw [ef325]; exact va_up_self _ _ _
  have ni352 : aBW ∉ L := fun h => hqaBW (hs308 _ h)
  have hs353 : ∀ z, z ∈ L → z ∈ L324 := fun z h => by rw [eL324]; exact List.mem_append_left _ (hs308 z h)
  have hr354 : ∀ z, z ∈ L → z ≠ b → f325 z = f z := fun z hz hb => (congrFun ef325 z).trans ((va_up_ne _ _ (fun h : z = aBW => ni352 (h ▸ hz))).trans (hr323 z hz hb))
  refine wpF_ (C := RX7) (T := TX7) (N := 31) hx hb hts hi7 tyX7 tyX7_ok nmX7 hown hw m326 h327 rfl 25 (by decide) (hts (.fieldLink RX7 59 "LayerMoistureModel" "byWet" "[Z") (by decide +kernel)) (fun _ h9 => h9) rfl hin0 rfl (ty := .array .boolean) (v := .ref aBW) (by decide +kernel) rfl rfl (Nat.le_of_ble_eq_true rfl) dX7_init_116 (fun H locs hw => ?_)
  obtain ⟨f355, ef355⟩ : ∃ z : Nat → va_E, z = va_up f325 b (.inr (8, [.int 0, .int 0, .int 0, .ref aRA, .ref aRB, .double 4643862126702624768, .double 4602678819172646912, .double FP.dconst1, .double 0, .double 0, .long 0, .int 0, .ref aTH, .ref aDE, .ref aKI, .ref aWE, .ref aNX, .ref aLI, .ref aLM, .ref aKE, .ref aTX, .int 0, .int 0, .int 0, .int 0, .ref aBW, .null, .null, .null, .int 0, .int 0])) := ⟨_, rfl⟩
  have hw : ww G dA A s L324 f355 H locs := by rw [ef355]; exact hw
  have h356 : f355 b = .inr (8, [.int 0, .int 0, .int 0, .ref aRA, .ref aRB, .double 4643862126702624768, .double 4602678819172646912, .double FP.dconst1, .double 0, .double 0, .long 0, .int 0, .ref aTH, .ref aDE, .ref aKI, .ref aWE, .ref aNX, .ref aLI, .ref aLM, .ref aKE, .ref aTX, .int 0, .int 0, .int 0, .int 0, .ref aBW, .null, .null, .null, .int 0, .int 0]) := by rw [ef355]; exact va_up_self _ _ _
  have h357 : f355 aRA = aD (dA 1) 4 ((fun _ => 0)) := by rw [ef355, va_up_ne _ _ (Ne.symm nb_aRA)]; exact h329
  have h358 : f355 aRB = aD (dA 1) 4 ((fun _ => 0)) := by rw [ef355, va_up_ne _ _ (Ne.symm nb_aRB)]; exact h331
  have h359 : f355 aTH = aI (dA 3) 8 ((fun _ => 0)) := by rw [ef355, va_up_ne _ _ (Ne.symm nb_aTH)]; exact h333
  have h360 : f355 aDE = aD (dA 1) 8 ((fun _ => 0)) := by rw [ef355, va_up_ne _ _ (Ne.symm nb_aDE)]; exact h335
  have h361 : f355 aKI = aI (dA 2) 8 ((fun _ => 0)) := by rw [ef355, va_up_ne _ _ (Ne.symm nb_aKI)]; exact h337
  have h362 : f355 aWE = aD (dA 1) 128 ((fun _ => 0)) := by rw [ef355, va_up_ne _ _ (Ne.symm nb_aWE)]; exact h339
  have h363 : f355 aNX = aD (dA 1) 16 ((fun _ => 0)) := by rw [ef355, va_up_ne _ _ (Ne.symm nb_aNX)]; exact h341
  have h364 : f355 aLI = aI (dA 3) 8 ((fun _ => 0)) := by rw [ef355, va_up_ne _ _ (Ne.symm nb_aLI)]; exact h343
  have h365 : f355 aLM = aD (dA 1) 8 ((fun _ => 0)) := by rw [ef355, va_up_ne _ _ (Ne.symm nb_aLM)]; exact h345
  have h366 : f355 aKE = aI (dA 2) 8 ((fun _ => 0)) := by rw [ef355, va_up_ne _ _ (Ne.symm nb_aKE)]; exact h347
  have h367 : f355 aTX = aI (dA 2) 200 ((fun _ => 0)) := by rw [ef355, va_up_ne _ _ (Ne.symm nb_aTX)]; exact h349
  have h368 : f355 aBW = aI (dA 3) 12 ((fun _ => 0)) := by rw [ef355, va_up_ne _ _ (Ne.symm nb_aBW)]; exact h351
  have hr369 : ∀ z, z ∈ L → z ≠ b → f355 z = f z := fun z hz hb => (congrFun ef355 z).trans ((va_up_ne _ _ hb).trans (hr354 z hz hb))
  refine lv_aload_n hx hb dX7_init_119 rfl (lv_at hl 0 rfl) ?_
  refine lv_bipush (v := 12) hx hb dX7_init_120 (by decide) ?_
  refine wnewa_int (N' := 12) hx hb (hts (.arrayClass .int) (by decide +kernel)) hw hA (by decide) (by decide) (by decide) (by decide) (by decide) dX7_init_122 (fun aTI H hqaTI hw => ?_)
  obtain ⟨L370, eL370⟩ : ∃ z : List Nat, z = L324 ++ [aTI] := ⟨_, rfl⟩
  obtain ⟨f371, ef371⟩ : ∃ z : Nat → va_E, z = va_up f355 aTI (aI (dA 2) 12 ((fun _ => 0))) := ⟨_, rfl⟩
  have hw : ww G dA A s L370 f371 H locs := by rw [eL370, ef371]; exact hw
  have nb_aTI : b ≠ aTI := fun h => hqaTI (h ▸ m326)
  have m372 : b ∈ L370 := by rw [eL370]; exact List.mem_append_left _ m326
  have h373 : f371 b = .inr (8, [.int 0, .int 0, .int 0, .ref aRA, .ref aRB, .double 4643862126702624768, .double 4602678819172646912, .double FP.dconst1, .double 0, .double 0, .long 0, .int 0, .ref aTH, .ref aDE, .ref aKI, .ref aWE, .ref aNX, .ref aLI, .ref aLM, .ref aKE, .ref aTX, .int 0, .int 0, .int 0, .int 0, .ref aBW, .null, .null, .null, .int 0, .int 0]) := by rw [ef371, va_up_ne _ _ nb_aTI]; exact h356
  have naRA_aTI : aRA ≠ aTI := fun h => hqaTI (h ▸ m328)
  have m374 : aRA ∈ L370 := by rw [eL370]; exact List.mem_append_left _ m328
  have h375 : f371 aRA = aD (dA 1) 4 ((fun _ => 0)) := by rw [ef371, va_up_ne _ _ naRA_aTI]; exact h357
  have naRB_aTI : aRB ≠ aTI := fun h => hqaTI (h ▸ m330)
  have m376 : aRB ∈ L370 := by rw [eL370]; exact List.mem_append_left _ m330
  have h377 : f371 aRB = aD (dA 1) 4 ((fun _ => 0)) := by rw [ef371, va_up_ne _ _ naRB_aTI]; exact h358
  have naTH_aTI : aTH ≠ aTI := fun h => hqaTI (h ▸ m332)
  have m378 : aTH ∈ L370 := by rw [eL370]; exact List.mem_append_left _ m332
  have h379 : f371 aTH = aI (dA 3) 8 ((fun _ => 0)) := by rw [ef371, va_up_ne _ _ naTH_aTI]; exact h359
  have naDE_aTI : aDE ≠ aTI := fun h => hqaTI (h ▸ m334)
  have m380 : aDE ∈ L370 := by rw [eL370]; exact List.mem_append_left _ m334
  have h381 : f371 aDE = aD (dA 1) 8 ((fun _ => 0)) := by rw [ef371, va_up_ne _ _ naDE_aTI]; exact h360
  have naKI_aTI : aKI ≠ aTI := fun h => hqaTI (h ▸ m336)
  have m382 : aKI ∈ L370 := by rw [eL370]; exact List.mem_append_left _ m336
  have h383 : f371 aKI = aI (dA 2) 8 ((fun _ => 0)) := by rw [ef371, va_up_ne _ _ naKI_aTI]; exact h361
  have naWE_aTI : aWE ≠ aTI := fun h => hqaTI (h ▸ m338)
  have m384 : aWE ∈ L370 := by rw [eL370]; exact List.mem_append_left _ m338
  have h385 : f371 aWE = aD (dA 1) 128 ((fun _ => 0)) := by rw [ef371, va_up_ne _ _ naWE_aTI]; exact h362
  have naNX_aTI : aNX ≠ aTI := fun h => hqaTI (h ▸ m340)
  have m386 : aNX ∈ L370 := by rw [eL370]; exact List.mem_append_left _ m340
  have h387 : f371 aNX = aD (dA 1) 16 ((fun _ => 0)) := by rw [ef371, va_up_ne _ _ naNX_aTI]; exact h363
  have naLI_aTI : aLI ≠ aTI := fun h => hqaTI (h ▸ m342)
  have m388 : aLI ∈ L370 := by rw [eL370]; exact List.mem_append_left _ m342
  have h389 : f371 aLI = aI (dA 3) 8 ((fun _ => 0)) := by rw [ef371, va_up_ne _ _ naLI_aTI]; exact h364
  have naLM_aTI : aLM ≠ aTI := fun h => hqaTI (h ▸ m344)
  have m390 : aLM ∈ L370 := by rw [eL370]; exact List.mem_append_left _ m344
  have h391 : f371 aLM = aD (dA 1) 8 ((fun _ => 0)) := by rw [ef371, va_up_ne _ _ naLM_aTI]; exact h365
  have naKE_aTI : aKE ≠ aTI := fun h => hqaTI (h ▸ m346)
  have m392 : aKE ∈ L370 := by rw [eL370]; exact List.mem_append_left _ m346
  have h393 : f371 aKE = aI (dA 2) 8 ((fun _ => 0)) := by rw [ef371, va_up_ne _ _ naKE_aTI]; exact h366
  have naTX_aTI : aTX ≠ aTI := fun h => hqaTI (h ▸ m348)
  have m394 : aTX ∈ L370 := by rw [eL370]; exact List.mem_append_left _ m348
  have h395 : f371 aTX = aI (dA 2) 200 ((fun _ => 0)) := by rw [ef371, va_up_ne _ _ naTX_aTI]; exact h367
  have naBW_aTI : aBW ≠ aTI := fun h => hqaTI (h ▸ m350)
  have m396 : aBW ∈ L370 := by rw [eL370]; exact List.mem_append_left _ m350
  have h397 : f371 aBW = aI (dA 3) 12 ((fun _ => 0)) := by rw [ef371, va_up_ne _ _ naBW_aTI]; exact h368
  have m398 : aTI ∈ L370 := by rw [eL370]; exact List.mem_append_right _ List.mem_cons_self
  have h399 : f371 aTI = aI (dA 2) 12 ((fun _ => 0)) := by rw [ef371]; exact va_up_self _ _ _
  have ni400 : aTI ∉ L := fun h => hqaTI (hs353 _ h)
  have hs401 : ∀ z, z ∈ L → z ∈ L370 := fun z h => by rw [eL370]; exact List.mem_append_left _ (hs353 z h)
  have hr402 : ∀ z, z ∈ L → z ≠ b → f371 z = f z := fun z hz hb => (congrFun ef371 z).trans ((va_up_ne _ _ (fun h : z = aTI => ni400 (h ▸ hz))).trans (hr369 z hz hb))
  refine wpF_ (C := RX7) (T := TX7) (N := 31) hx hb hts hi7 tyX7 tyX7_ok nmX7 hown hw m372 h373 rfl 26 (by decide) (hts (.fieldLink RX7 62 "LayerMoistureModel" "times" "[I") (by decide +kernel)) (fun _ h9 => h9) rfl hin0 rfl (ty := .array .int) (v := .ref aTI) (by decide +kernel) rfl rfl (Nat.le_of_ble_eq_true rfl) dX7_init_124 (fun H locs hw => ?_)
  obtain ⟨f403, ef403⟩ : ∃ z : Nat → va_E, z = va_up f371 b (.inr (8, [.int 0, .int 0, .int 0, .ref aRA, .ref aRB, .double 4643862126702624768, .double 4602678819172646912, .double FP.dconst1, .double 0, .double 0, .long 0, .int 0, .ref aTH, .ref aDE, .ref aKI, .ref aWE, .ref aNX, .ref aLI, .ref aLM, .ref aKE, .ref aTX, .int 0, .int 0, .int 0, .int 0, .ref aBW, .ref aTI, .null, .null, .int 0, .int 0])) := ⟨_, rfl⟩
  have hw : ww G dA A s L370 f403 H locs := by rw [ef403]; exact hw
  have h404 : f403 b = .inr (8, [.int 0, .int 0, .int 0, .ref aRA, .ref aRB, .double 4643862126702624768, .double 4602678819172646912, .double FP.dconst1, .double 0, .double 0, .long 0, .int 0, .ref aTH, .ref aDE, .ref aKI, .ref aWE, .ref aNX, .ref aLI, .ref aLM, .ref aKE, .ref aTX, .int 0, .int 0, .int 0, .int 0, .ref aBW, .ref aTI, .null, .null, .int 0, .int 0]) := by rw [ef403]; exact va_up_self _ _ _
  have h405 : f403 aRA = aD (dA 1) 4 ((fun _ => 0)) := by rw [ef403, va_up_ne _ _ (Ne.symm nb_aRA)]; exact h375
  have h406 : f403 aRB = aD (dA 1) 4 ((fun _ => 0)) := by rw [ef403, va_up_ne _ _ (Ne.symm nb_aRB)]; exact h377
  have h407 : f403 aTH = aI (dA 3) 8 ((fun _ => 0)) := by rw [ef403, va_up_ne _ _ (Ne.symm nb_aTH)]; exact h379
  have h408 : f403 aDE = aD (dA 1) 8 ((fun _ => 0)) := by rw [ef403, va_up_ne _ _ (Ne.symm nb_aDE)]; exact h381
  have h409 : f403 aKI = aI (dA 2) 8 ((fun _ => 0)) := by rw [ef403, va_up_ne _ _ (Ne.symm nb_aKI)]; exact h383
  have h410 : f403 aWE = aD (dA 1) 128 ((fun _ => 0)) := by rw [ef403, va_up_ne _ _ (Ne.symm nb_aWE)]; exact h385
  have h411 : f403 aNX = aD (dA 1) 16 ((fun _ => 0)) := by rw [ef403, va_up_ne _ _ (Ne.symm nb_aNX)]; exact h387
  have h412 : f403 aLI = aI (dA 3) 8 ((fun _ => 0)) := by rw [ef403, va_up_ne _ _ (Ne.symm nb_aLI)]; exact h389
  have h413 : f403 aLM = aD (dA 1) 8 ((fun _ => 0)) := by rw [ef403, va_up_ne _ _ (Ne.symm nb_aLM)]; exact h391
  have h414 : f403 aKE = aI (dA 2) 8 ((fun _ => 0)) := by rw [ef403, va_up_ne _ _ (Ne.symm nb_aKE)]; exact h393
  have h415 : f403 aTX = aI (dA 2) 200 ((fun _ => 0)) := by rw [ef403, va_up_ne _ _ (Ne.symm nb_aTX)]; exact h395
  have h416 : f403 aBW = aI (dA 3) 12 ((fun _ => 0)) := by rw [ef403, va_up_ne _ _ (Ne.symm nb_aBW)]; exact h397
  have h417 : f403 aTI = aI (dA 2) 12 ((fun _ => 0)) := by rw [ef403, va_up_ne _ _ (Ne.symm nb_aTI)]; exact h399
  have hr418 : ∀ z, z ∈ L → z ≠ b → f403 z = f z := fun z hz hb => (congrFun ef403 z).trans ((va_up_ne _ _ hb).trans (hr402 z hz hb))
  refine lv_aload_n hx hb dX7_init_127 rfl (lv_at hl 0 rfl) ?_
  refine lv_bipush (v := 12) hx hb dX7_init_128 (by decide) ?_
  refine wnewa_int (N' := 12) hx hb (hts (.arrayClass .int) (by decide +kernel)) hw hA (by decide) (by decide) (by decide) (by decide) (by decide) dX7_init_130 (fun aKV H hqaKV hw => ?_)
  obtain ⟨L419, eL419⟩ : ∃ z : List Nat, z = L370 ++ [aKV] := ⟨_, rfl⟩
  obtain ⟨f420, ef420⟩ : ∃ z : Nat → va_E, z = va_up f403 aKV (aI (dA 2) 12 ((fun _ => 0))) := ⟨_, rfl⟩
  have hw : ww G dA A s L419 f420 H locs := by rw [eL419, ef420]; exact hw
  have nb_aKV : b ≠ aKV := fun h => hqaKV (h ▸ m372)
  have m421 : b ∈ L419 := by rw [eL419]; exact List.mem_append_left _ m372
  have h422 : f420 b = .inr (8, [.int 0, .int 0, .int 0, .ref aRA, .ref aRB, .double 4643862126702624768, .double 4602678819172646912, .double FP.dconst1, .double 0, .double 0, .long 0, .int 0, .ref aTH, .ref aDE, .ref aKI, .ref aWE, .ref aNX, .ref aLI, .ref aLM, .ref aKE, .ref aTX, .int 0, .int 0, .int 0, .int 0, .ref aBW, .ref aTI, .null, .null, .int 0, .int 0]) := by rw [ef420, va_up_ne _ _ nb_aKV]; exact h404
  have naRA_aKV : aRA ≠ aKV := fun h => hqaKV (h ▸ m374)
  have m423 : aRA ∈ L419 := by rw [eL419]; exact List.mem_append_left _ m374
  have h424 : f420 aRA = aD (dA 1) 4 ((fun _ => 0)) := by rw [ef420, va_up_ne _ _ naRA_aKV]; exact h405
  have naRB_aKV : aRB ≠ aKV := fun h => hqaKV (h ▸ m376)
  have m425 : aRB ∈ L419 := by rw [eL419]; exact List.mem_append_left _ m376
  have h426 : f420 aRB = aD (dA 1) 4 ((fun _ => 0)) := by rw [ef420, va_up_ne _ _ naRB_aKV]; exact h406
  have naTH_aKV : aTH ≠ aKV := fun h => hqaKV (h ▸ m378)
  have m427 : aTH ∈ L419 := by rw [eL419]; exact List.mem_append_left _ m378
  have h428 : f420 aTH = aI (dA 3) 8 ((fun _ => 0)) := by rw [ef420, va_up_ne _ _ naTH_aKV]; exact h407
  have naDE_aKV : aDE ≠ aKV := fun h => hqaKV (h ▸ m380)
  have m429 : aDE ∈ L419 := by rw [eL419]; exact List.mem_append_left _ m380
  have h430 : f420 aDE = aD (dA 1) 8 ((fun _ => 0)) := by rw [ef420, va_up_ne _ _ naDE_aKV]; exact h408
  have naKI_aKV : aKI ≠ aKV := fun h => hqaKV (h ▸ m382)
  have m431 : aKI ∈ L419 := by rw [eL419]; exact List.mem_append_left _ m382
  have h432 : f420 aKI = aI (dA 2) 8 ((fun _ => 0)) := by rw [ef420, va_up_ne _ _ naKI_aKV]; exact h409
  have naWE_aKV : aWE ≠ aKV := fun h => hqaKV (h ▸ m384)
  have m433 : aWE ∈ L419 := by rw [eL419]; exact List.mem_append_left _ m384
  have h434 : f420 aWE = aD (dA 1) 128 ((fun _ => 0)) := by rw [ef420, va_up_ne _ _ naWE_aKV]; exact h410
  have naNX_aKV : aNX ≠ aKV := fun h => hqaKV (h ▸ m386)
  have m435 : aNX ∈ L419 := by rw [eL419]; exact List.mem_append_left _ m386
  have h436 : f420 aNX = aD (dA 1) 16 ((fun _ => 0)) := by rw [ef420, va_up_ne _ _ naNX_aKV]; exact h411
  have naLI_aKV : aLI ≠ aKV := fun h => hqaKV (h ▸ m388)
  have m437 : aLI ∈ L419 := by rw [eL419]; exact List.mem_append_left _ m388
  have h438 : f420 aLI = aI (dA 3) 8 ((fun _ => 0)) := by rw [ef420, va_up_ne _ _ naLI_aKV]; exact h412
  have naLM_aKV : aLM ≠ aKV := fun h => hqaKV (h ▸ m390)
  have m439 : aLM ∈ L419 := by rw [eL419]; exact List.mem_append_left _ m390
  have h440 : f420 aLM = aD (dA 1) 8 ((fun _ => 0)) := by rw [ef420, va_up_ne _ _ naLM_aKV]; exact h413
  have naKE_aKV : aKE ≠ aKV := fun h => hqaKV (h ▸ m392)
  have m441 : aKE ∈ L419 := by rw [eL419]; exact List.mem_append_left _ m392
  have h442 : f420 aKE = aI (dA 2) 8 ((fun _ => 0)) := by rw [ef420, va_up_ne _ _ naKE_aKV]; exact h414
  have naTX_aKV : aTX ≠ aKV := fun h => hqaKV (h ▸ m394)
  have m443 : aTX ∈ L419 := by rw [eL419]; exact List.mem_append_left _ m394
  have h444 : f420 aTX = aI (dA 2) 200 ((fun _ => 0)) := by rw [ef420, va_up_ne _ _ naTX_aKV]; exact h415
  have naBW_aKV : aBW ≠ aKV := fun h => hqaKV (h ▸ m396)
  have m445 : aBW ∈ L419 := by rw [eL419]; exact List.mem_append_left _ m396
  have h446 : f420 aBW = aI (dA 3) 12 ((fun _ => 0)) := by rw [ef420, va_up_ne _ _ naBW_aKV]; exact h416
  have naTI_aKV : aTI ≠ aKV := fun h => hqaKV (h ▸ m398)
  have m447 : aTI ∈ L419 := by rw [eL419]; exact List.mem_append_left _ m398
  have h448 : f420 aTI = aI (dA 2) 12 ((fun _ => 0)) := by rw [ef420, va_up_ne _ _ naTI_aKV]; exact h417
  have m449 : aKV ∈ L419 := by rw [eL419]; exact List.mem_append_right _ List.mem_cons_self
  have h450 : f420 aKV = aI (dA 2) 12 ((fun _ => 0)) := by rw [ef420]; exact va_up_self _ _ _
  have ni451 : aKV ∉ L := fun h => hqaKV (hs401 _ h)
  have hs452 : ∀ z, z ∈ L → z ∈ L419 := fun z h => by rw [eL419]; exact List.mem_append_left _ (hs401 z h)
  have hr453 : ∀ z, z ∈ L → z ≠ b → f420 z = f z := fun z hz hb => (congrFun ef420 z).trans ((va_up_ne _ _ (fun h : z = aKV => ni451 (h ▸ hz))).trans (hr418 z hz hb))
  refine wpF_ (C := RX7) (T := TX7) (N := 31) hx hb hts hi7 tyX7 tyX7_ok nmX7 hown hw m421 h422 rfl 27 (by decide) (hts (.fieldLink RX7 65 "LayerMoistureModel" "kelvins" "[I") (by decide +kernel)) (fun _ h9 => h9) rfl hin0 rfl (ty := .array .int) (v := .ref aKV) (by decide +kernel) rfl rfl (Nat.le_of_ble_eq_true rfl) dX7_init_132 (fun H locs hw => ?_)
  obtain ⟨f454, ef454⟩ : ∃ z : Nat → va_E, z = va_up f420 b (.inr (8, [.int 0, .int 0, .int 0, .ref aRA, .ref aRB, .double 4643862126702624768, .double 4602678819172646912, .double FP.dconst1, .double 0, .double 0, .long 0, .int 0, .ref aTH, .ref aDE, .ref aKI, .ref aWE, .ref aNX, .ref aLI, .ref aLM, .ref aKE, .ref aTX, .int 0, .int 0, .int 0, .int 0, .ref aBW, .ref aTI, .ref aKV, .null, .int 0, .int 0])) := ⟨_, rfl⟩
  have hw : ww G dA A s L419 f454 H locs := by rw [ef454]; exact hw
  have h455 : f454 b = .inr (8, [.int 0, .int 0, .int 0, .ref aRA, .ref aRB, .double 4643862126702624768, .double 4602678819172646912, .double FP.dconst1, .double 0, .double 0, .long 0, .int 0, .ref aTH, .ref aDE, .ref aKI, .ref aWE, .ref aNX, .ref aLI, .ref aLM, .ref aKE, .ref aTX, .int 0, .int 0, .int 0, .int 0, .ref aBW, .ref aTI, .ref aKV, .null, .int 0, .int 0]) := by rw [ef454]; exact va_up_self _ _ _
  have h456 : f454 aRA = aD (dA 1) 4 ((fun _ => 0)) := by rw [ef454, va_up_ne _ _ (Ne.symm nb_aRA)]; exact h424
  have h457 : f454 aRB = aD (dA 1) 4 ((fun _ => 0)) := by rw [ef454, va_up_ne _ _ (Ne.symm nb_aRB)]; exact h426
  have h458 : f454 aTH = aI (dA 3) 8 ((fun _ => 0)) := by rw [ef454, va_up_ne _ _ (Ne.symm nb_aTH)]; exact h428
  have h459 : f454 aDE = aD (dA 1) 8 ((fun _ => 0)) := by rw [ef454, va_up_ne _ _ (Ne.symm nb_aDE)]; exact h430
  have h460 : f454 aKI = aI (dA 2) 8 ((fun _ => 0)) := by rw [ef454, va_up_ne _ _ (Ne.symm nb_aKI)]; exact h432
  have h461 : f454 aWE = aD (dA 1) 128 ((fun _ => 0)) := by rw [ef454, va_up_ne _ _ (Ne.symm nb_aWE)]; exact h434
  have h462 : f454 aNX = aD (dA 1) 16 ((fun _ => 0)) := by rw [ef454, va_up_ne _ _ (Ne.symm nb_aNX)]; exact h436
  have h463 : f454 aLI = aI (dA 3) 8 ((fun _ => 0)) := by rw [ef454, va_up_ne _ _ (Ne.symm nb_aLI)]; exact h438
  have h464 : f454 aLM = aD (dA 1) 8 ((fun _ => 0)) := by rw [ef454, va_up_ne _ _ (Ne.symm nb_aLM)]; exact h440
  have h465 : f454 aKE = aI (dA 2) 8 ((fun _ => 0)) := by rw [ef454, va_up_ne _ _ (Ne.symm nb_aKE)]; exact h442
  have h466 : f454 aTX = aI (dA 2) 200 ((fun _ => 0)) := by rw [ef454, va_up_ne _ _ (Ne.symm nb_aTX)]; exact h444
  have h467 : f454 aBW = aI (dA 3) 12 ((fun _ => 0)) := by rw [ef454, va_up_ne _ _ (Ne.symm nb_aBW)]; exact h446
  have h468 : f454 aTI = aI (dA 2) 12 ((fun _ => 0)) := by rw [ef454, va_up_ne _ _ (Ne.symm nb_aTI)]; exact h448
  have h469 : f454 aKV = aI (dA 2) 12 ((fun _ => 0)) := by rw [ef454, va_up_ne _ _ (Ne.symm nb_aKV)]; exact h450
  have hr470 : ∀ z, z ∈ L → z ≠ b → f454 z = f z := fun z hz hb => (congrFun ef454 z).trans ((va_up_ne _ _ hb).trans (hr453 z hz hb))
  refine lv_aload_n hx hb dX7_init_135 rfl (lv_at hl 0 rfl) ?_
  refine lv_bipush (v := 12) hx hb dX7_init_136 (by decide) ?_
  refine wnewa_int (N' := 12) hx hb (hts (.arrayClass .int) (by decide +kernel)) hw hA (by decide) (by decide) (by decide) (by decide) (by decide) dX7_init_138 (fun aDM H hqaDM hw => ?_)
  obtain ⟨L471, eL471⟩ : ∃ z : List Nat, z = L419 ++ [aDM] := ⟨_, rfl⟩
  obtain ⟨f472, ef472⟩ : ∃ z : Nat → va_E, z = va_up f454 aDM (aI (dA 2) 12 ((fun _ => 0))) := ⟨_, rfl⟩
  have hw : ww G dA A s L471 f472 H locs := by rw [eL471, ef472]; exact hw
  have nb_aDM : b ≠ aDM := fun h => hqaDM (h ▸ m421)
  have m473 : b ∈ L471 := by rw [eL471]; exact List.mem_append_left _ m421
  have h474 : f472 b = .inr (8, [.int 0, .int 0, .int 0, .ref aRA, .ref aRB, .double 4643862126702624768, .double 4602678819172646912, .double FP.dconst1, .double 0, .double 0, .long 0, .int 0, .ref aTH, .ref aDE, .ref aKI, .ref aWE, .ref aNX, .ref aLI, .ref aLM, .ref aKE, .ref aTX, .int 0, .int 0, .int 0, .int 0, .ref aBW, .ref aTI, .ref aKV, .null, .int 0, .int 0]) := by rw [ef472, va_up_ne _ _ nb_aDM]; exact h455
  have naRA_aDM : aRA ≠ aDM := fun h => hqaDM (h ▸ m423)
  have m475 : aRA ∈ L471 := by rw [eL471]; exact List.mem_append_left _ m423
  have h476 : f472 aRA = aD (dA 1) 4 ((fun _ => 0)) := by rw [ef472, va_up_ne _ _ naRA_aDM]; exact h456
  have naRB_aDM : aRB ≠ aDM := fun h => hqaDM (h ▸ m425)
  have m477 : aRB ∈ L471 := by rw [eL471]; exact List.mem_append_left _ m425
  have h478 : f472 aRB = aD (dA 1) 4 ((fun _ => 0)) := by rw [ef472, va_up_ne _ _ naRB_aDM]; exact h457
  have naTH_aDM : aTH ≠ aDM := fun h => hqaDM (h ▸ m427)
  have m479 : aTH ∈ L471 := by rw [eL471]; exact List.mem_append_left _ m427
  have h480 : f472 aTH = aI (dA 3) 8 ((fun _ => 0)) := by rw [ef472, va_up_ne _ _ naTH_aDM]; exact h458
  have naDE_aDM : aDE ≠ aDM := fun h => hqaDM (h ▸ m429)
  have m481 : aDE ∈ L471 := by rw [eL471]; exact List.mem_append_left _ m429
  have h482 : f472 aDE = aD (dA 1) 8 ((fun _ => 0)) := by rw [ef472, va_up_ne _ _ naDE_aDM]; exact h459
  have naKI_aDM : aKI ≠ aDM := fun h => hqaDM (h ▸ m431)
  have m483 : aKI ∈ L471 := by rw [eL471]; exact List.mem_append_left _ m431
  have h484 : f472 aKI = aI (dA 2) 8 ((fun _ => 0)) := by rw [ef472, va_up_ne _ _ naKI_aDM]; exact h460
  have naWE_aDM : aWE ≠ aDM := fun h => hqaDM (h ▸ m433)
  have m485 : aWE ∈ L471 := by rw [eL471]; exact List.mem_append_left _ m433
  have h486 : f472 aWE = aD (dA 1) 128 ((fun _ => 0)) := by rw [ef472, va_up_ne _ _ naWE_aDM]; exact h461
  have naNX_aDM : aNX ≠ aDM := fun h => hqaDM (h ▸ m435)
  have m487 : aNX ∈ L471 := by rw [eL471]; exact List.mem_append_left _ m435
  have h488 : f472 aNX = aD (dA 1) 16 ((fun _ => 0)) := by rw [ef472, va_up_ne _ _ naNX_aDM]; exact h462
  have naLI_aDM : aLI ≠ aDM := fun h => hqaDM (h ▸ m437)
  have m489 : aLI ∈ L471 := by rw [eL471]; exact List.mem_append_left _ m437
  have h490 : f472 aLI = aI (dA 3) 8 ((fun _ => 0)) := by rw [ef472, va_up_ne _ _ naLI_aDM]; exact h463
  have naLM_aDM : aLM ≠ aDM := fun h => hqaDM (h ▸ m439)
  have m491 : aLM ∈ L471 := by rw [eL471]; exact List.mem_append_left _ m439
  have h492 : f472 aLM = aD (dA 1) 8 ((fun _ => 0)) := by rw [ef472, va_up_ne _ _ naLM_aDM]; exact h464
  have naKE_aDM : aKE ≠ aDM := fun h => hqaDM (h ▸ m441)
  have m493 : aKE ∈ L471 := by rw [eL471]; exact List.mem_append_left _ m441
  have h494 : f472 aKE = aI (dA 2) 8 ((fun _ => 0)) := by rw [ef472, va_up_ne _ _ naKE_aDM]; exact h465
  have naTX_aDM : aTX ≠ aDM := fun h => hqaDM (h ▸ m443)
  have m495 : aTX ∈ L471 := by rw [eL471]; exact List.mem_append_left _ m443
  have h496 : f472 aTX = aI (dA 2) 200 ((fun _ => 0)) := by rw [ef472, va_up_ne _ _ naTX_aDM]; exact h466
  have naBW_aDM : aBW ≠ aDM := fun h => hqaDM (h ▸ m445)
  have m497 : aBW ∈ L471 := by rw [eL471]; exact List.mem_append_left _ m445
  have h498 : f472 aBW = aI (dA 3) 12 ((fun _ => 0)) := by rw [ef472, va_up_ne _ _ naBW_aDM]; exact h467
  have naTI_aDM : aTI ≠ aDM := fun h => hqaDM (h ▸ m447)
  have m499 : aTI ∈ L471 := by rw [eL471]; exact List.mem_append_left _ m447
  have h500 : f472 aTI = aI (dA 2) 12 ((fun _ => 0)) := by rw [ef472, va_up_ne _ _ naTI_aDM]; exact h468
  have naKV_aDM : aKV ≠ aDM := fun h => hqaDM (h ▸ m449)
  have m501 : aKV ∈ L471 := by rw [eL471]; exact List.mem_append_left _ m449
  have h502 : f472 aKV = aI (dA 2) 12 ((fun _ => 0)) := by rw [ef472, va_up_ne _ _ naKV_aDM]; exact h469
  have m503 : aDM ∈ L471 := by rw [eL471]; exact List.mem_append_right _ List.mem_cons_self
  have h504 : f472 aDM = aI (dA 2) 12 ((fun _ => 0)) := by rw [ef472]; exact va_up_self _ _ _
  have ni505 : aDM ∉ L := fun h => hqaDM (hs452 _ h)
  have hs506 : ∀ z, z ∈ L → z ∈ L471 := fun z h => by rw [eL471]; exact List.mem_append_left _ (hs452 z h)
  have hr507 : ∀ z, z ∈ L → z ≠ b → f472 z = f z := fun z hz hb => (congrFun ef472 z).trans ((va_up_ne _ _ (fun h : z = aDM => ni505 (h ▸ hz))).trans (hr470 z hz hb))
  refine wpF_ (C := RX7) (T := TX7) (N := 31) hx hb hts hi7 tyX7 tyX7_ok nmX7 hown hw m473 h474 rfl 28 (by decide) (hts (.fieldLink RX7 68 "LayerMoistureModel" "damps" "[I") (by decide +kernel)) (fun _ h9 => h9) rfl hin0 rfl (ty := .array .int) (v := .ref aDM) (by decide +kernel) rfl rfl (Nat.le_of_ble_eq_true rfl) dX7_init_140 (fun H locs hw => ?_)
  obtain ⟨f508, ef508⟩ : ∃ z : Nat → va_E, z = va_up f472 b (.inr (8, [.int 0, .int 0, .int 0, .ref aRA, .ref aRB, .double 4643862126702624768, .double 4602678819172646912, .double FP.dconst1, .double 0, .double 0, .long 0, .int 0, .ref aTH, .ref aDE, .ref aKI, .ref aWE, .ref aNX, .ref aLI, .ref aLM, .ref aKE, .ref aTX, .int 0, .int 0, .int 0, .int 0, .ref aBW, .ref aTI, .ref aKV, .ref aDM, .int 0, .int 0])) := ⟨_, rfl⟩
  have hw : ww G dA A s L471 f508 H locs := by rw [ef508]; exact hw
  have h509 : f508 b = .inr (8, [.int 0, .int 0, .int 0, .ref aRA, .ref aRB, .double 4643862126702624768, .double 4602678819172646912, .double FP.dconst1, .double 0, .double 0, .long 0, .int 0, .ref aTH, .ref aDE, .ref aKI, .ref aWE, .ref aNX, .ref aLI, .ref aLM, .ref aKE, .ref aTX, .int 0, .int 0, .int 0, .int 0, .ref aBW, .ref aTI, .ref aKV, .ref aDM, .int 0, .int 0]) := by rw [ef508]; exact va_up_self _ _ _
  have h510 : f508 aRA = aD (dA 1) 4 ((fun _ => 0)) := by rw [ef508, va_up_ne _ _ (Ne.symm nb_aRA)]; exact h476
  have h511 : f508 aRB = aD (dA 1) 4 ((fun _ => 0)) := by rw [ef508, va_up_ne _ _ (Ne.symm nb_aRB)]; exact h478
  have h512 : f508 aTH = aI (dA 3) 8 ((fun _ => 0)) := by rw [ef508, va_up_ne _ _ (Ne.symm nb_aTH)]; exact h480
  have h513 : f508 aDE = aD (dA 1) 8 ((fun _ => 0)) := by rw [ef508, va_up_ne _ _ (Ne.symm nb_aDE)]; exact h482
  have h514 : f508 aKI = aI (dA 2) 8 ((fun _ => 0)) := by rw [ef508, va_up_ne _ _ (Ne.symm nb_aKI)]; exact h484
  have h515 : f508 aWE = aD (dA 1) 128 ((fun _ => 0)) := by rw [ef508, va_up_ne _ _ (Ne.symm nb_aWE)]; exact h486
  have h516 : f508 aNX = aD (dA 1) 16 ((fun _ => 0)) := by rw [ef508, va_up_ne _ _ (Ne.symm nb_aNX)]; exact h488
  have h517 : f508 aLI = aI (dA 3) 8 ((fun _ => 0)) := by rw [ef508, va_up_ne _ _ (Ne.symm nb_aLI)]; exact h490
  have h518 : f508 aLM = aD (dA 1) 8 ((fun _ => 0)) := by rw [ef508, va_up_ne _ _ (Ne.symm nb_aLM)]; exact h492
  have h519 : f508 aKE = aI (dA 2) 8 ((fun _ => 0)) := by rw [ef508, va_up_ne _ _ (Ne.symm nb_aKE)]; exact h494
  have h520 : f508 aTX = aI (dA 2) 200 ((fun _ => 0)) := by rw [ef508, va_up_ne _ _ (Ne.symm nb_aTX)]; exact h496
  have h521 : f508 aBW = aI (dA 3) 12 ((fun _ => 0)) := by rw [ef508, va_up_ne _ _ (Ne.symm nb_aBW)]; exact h498
  have h522 : f508 aTI = aI (dA 2) 12 ((fun _ => 0)) := by rw [ef508, va_up_ne _ _ (Ne.symm nb_aTI)]; exact h500
  have h523 : f508 aKV = aI (dA 2) 12 ((fun _ => 0)) := by rw [ef508, va_up_ne _ _ (Ne.symm nb_aKV)]; exact h502
  have h524 : f508 aDM = aI (dA 2) 12 ((fun _ => 0)) := by rw [ef508, va_up_ne _ _ (Ne.symm nb_aDM)]; exact h504
  have hr525 : ∀ z, z ∈ L → z ≠ b → f508 z = f z := fun z hz hb => (congrFun ef508 z).trans ((va_up_ne _ _ hb).trans (hr507 z hz hb))
  refine lv_aload_n hx hb dX7_init_143 rfl (lv_at hl 0 rfl) ?_
  refine lv_iload_n hx hb dX7_init_144 rfl (lv_at hl 1 rfl) ?_
  refine lv_iconst (v := 1) hx hb dX7_init_145 (by decide) ?_
  refine lv_icmp_ge (tgt := 153) hx hb dX7_init_146 (by decide) (fun c146 => ?_) (fun c146 => ?_)
  · have hv1 : ¬ v1 < 1 := Int32.not_lt.mpr c146
    refine lv_iload_n hx hb dX7_init_153 rfl (lv_at hl 1 rfl) ?_
    refine lv_bipush (v := 16) hx hb dX7_init_154 (by decide) ?_
    refine lv_icmp_le (tgt := 164) hx hb dX7_init_156 (by decide) (fun c156 => ?_) (fun c156 => ?_)
    · have en := (clN_ok (hi := 16) (by decide) (by decide) v1).2.2.2.2 hv1 (Int32.not_lt.mpr c156)
      refine lv_iload_n hx hb dX7_init_164 rfl (lv_at hl 1 rfl) ?_
      refine wp_ (C := RX7) (T := TX7) (N := 31) hx hb hts hi7 tyX7 tyX7_ok nmX7 hown hw m473 h509 rfl 1 (by decide) (hts (.fieldLink RX7 71 "LayerMoistureModel" "layers" "I") (by decide +kernel)) (fun _ h9 => h9) rfl (ty := .int) (v := .int v1) (by decide +kernel) rfl rfl (Nat.le_of_ble_eq_true rfl) dX7_init_165 (fun H locs hw => ?_)
      obtain ⟨f526, ef526⟩ : ∃ z : Nat → va_E, z = va_up f508 b (.inr (8, [.int 0, .int v1, .int 0, .ref aRA, .ref aRB, .double 4643862126702624768, .double 4602678819172646912, .double FP.dconst1, .double 0, .double 0, .long 0, .int 0, .ref aTH, .ref aDE, .ref aKI, .ref aWE, .ref aNX, .ref aLI, .ref aLM, .ref aKE, .ref aTX, .int 0, .int 0, .int 0, .int 0, .ref aBW, .ref aTI, .ref aKV, .ref aDM, .int 0, .int 0])) := ⟨_, rfl⟩
      have hw : ww G dA A s L471 f526 H locs := by rw [ef526]; exact hw
      have h527 : f526 b = .inr (8, [.int 0, .int v1, .int 0, .ref aRA, .ref aRB, .double 4643862126702624768, .double 4602678819172646912, .double FP.dconst1, .double 0, .double 0, .long 0, .int 0, .ref aTH, .ref aDE, .ref aKI, .ref aWE, .ref aNX, .ref aLI, .ref aLM, .ref aKE, .ref aTX, .int 0, .int 0, .int 0, .int 0, .ref aBW, .ref aTI, .ref aKV, .ref aDM, .int 0, .int 0]) := by rw [ef526]; exact va_up_self _ _ _
      have h528 : f526 aRA = aD (dA 1) 4 ((fun _ => 0)) := by rw [ef526, va_up_ne _ _ (Ne.symm nb_aRA)]; exact h510
      have h529 : f526 aRB = aD (dA 1) 4 ((fun _ => 0)) := by rw [ef526, va_up_ne _ _ (Ne.symm nb_aRB)]; exact h511
      have h530 : f526 aTH = aI (dA 3) 8 ((fun _ => 0)) := by rw [ef526, va_up_ne _ _ (Ne.symm nb_aTH)]; exact h512
      have h531 : f526 aDE = aD (dA 1) 8 ((fun _ => 0)) := by rw [ef526, va_up_ne _ _ (Ne.symm nb_aDE)]; exact h513
      have h532 : f526 aKI = aI (dA 2) 8 ((fun _ => 0)) := by rw [ef526, va_up_ne _ _ (Ne.symm nb_aKI)]; exact h514
      have h533 : f526 aWE = aD (dA 1) 128 ((fun _ => 0)) := by rw [ef526, va_up_ne _ _ (Ne.symm nb_aWE)]; exact h515
      have h534 : f526 aNX = aD (dA 1) 16 ((fun _ => 0)) := by rw [ef526, va_up_ne _ _ (Ne.symm nb_aNX)]; exact h516
      have h535 : f526 aLI = aI (dA 3) 8 ((fun _ => 0)) := by rw [ef526, va_up_ne _ _ (Ne.symm nb_aLI)]; exact h517
      have h536 : f526 aLM = aD (dA 1) 8 ((fun _ => 0)) := by rw [ef526, va_up_ne _ _ (Ne.symm nb_aLM)]; exact h518
      have h537 : f526 aKE = aI (dA 2) 8 ((fun _ => 0)) := by rw [ef526, va_up_ne _ _ (Ne.symm nb_aKE)]; exact h519
      have h538 : f526 aTX = aI (dA 2) 200 ((fun _ => 0)) := by rw [ef526, va_up_ne _ _ (Ne.symm nb_aTX)]; exact h520
      have h539 : f526 aBW = aI (dA 3) 12 ((fun _ => 0)) := by rw [ef526, va_up_ne _ _ (Ne.symm nb_aBW)]; exact h521
      have h540 : f526 aTI = aI (dA 2) 12 ((fun _ => 0)) := by rw [ef526, va_up_ne _ _ (Ne.symm nb_aTI)]; exact h522
      have h541 : f526 aKV = aI (dA 2) 12 ((fun _ => 0)) := by rw [ef526, va_up_ne _ _ (Ne.symm nb_aKV)]; exact h523
      have h542 : f526 aDM = aI (dA 2) 12 ((fun _ => 0)) := by rw [ef526, va_up_ne _ _ (Ne.symm nb_aDM)]; exact h524
      have hr543 : ∀ z, z ∈ L → z ≠ b → f526 z = f z := fun z hz hb => (congrFun ef526 z).trans ((va_up_ne _ _ hb).trans (hr525 z hz hb))
      refine lv_aload_n hx hb dX7_init_168 rfl (lv_at hl 0 rfl) ?_
      refine lv_iload_n hx hb dX7_init_169 rfl (lv_at hl 2 rfl) ?_
      refine lv_iconst (v := 1) hx hb dX7_init_170 (by decide) ?_
      refine lv_icmp_ge (tgt := 178) hx hb dX7_init_171 (by decide) (fun c171 => ?_) (fun c171 => ?_)
      · have hv2 : ¬ v2 < 1 := Int32.not_lt.mpr c171
        refine lv_iload_n hx hb dX7_init_178 rfl (lv_at hl 2 rfl) ?_
        refine lv_bipush (v := 8) hx hb dX7_init_179 (by decide) ?_
        refine lv_icmp_le (tgt := 189) hx hb dX7_init_181 (by decide) (fun c181 => ?_) (fun c181 => ?_)
        · have eb := (clN_ok (hi := 8) (by decide) (by decide) v2).2.2.2.2 hv2 (Int32.not_lt.mpr c181)
          refine lv_iload_n hx hb dX7_init_189 rfl (lv_at hl 2 rfl) ?_
          refine wp_ (C := RX7) (T := TX7) (N := 31) hx hb hts hi7 tyX7 tyX7_ok nmX7 hown hw m473 h527 rfl 2 (by decide) (hts (.fieldLink RX7 75 "LayerMoistureModel" "boards" "I") (by decide +kernel)) (fun _ h9 => h9) rfl (ty := .int) (v := .int v2) (by decide +kernel) rfl rfl (Nat.le_of_ble_eq_true rfl) dX7_init_190 (fun H locs hw => ?_)
          obtain ⟨f544, ef544⟩ : ∃ z : Nat → va_E, z = va_up f526 b (.inr (8, [.int 0, .int v1, .int v2, .ref aRA, .ref aRB, .double 4643862126702624768, .double 4602678819172646912, .double FP.dconst1, .double 0, .double 0, .long 0, .int 0, .ref aTH, .ref aDE, .ref aKI, .ref aWE, .ref aNX, .ref aLI, .ref aLM, .ref aKE, .ref aTX, .int 0, .int 0, .int 0, .int 0, .ref aBW, .ref aTI, .ref aKV, .ref aDM, .int 0, .int 0])) := ⟨_, rfl⟩
          have hw : ww G dA A s L471 f544 H locs := by rw [ef544]; exact hw
          have h545 : f544 b = .inr (8, [.int 0, .int v1, .int v2, .ref aRA, .ref aRB, .double 4643862126702624768, .double 4602678819172646912, .double FP.dconst1, .double 0, .double 0, .long 0, .int 0, .ref aTH, .ref aDE, .ref aKI, .ref aWE, .ref aNX, .ref aLI, .ref aLM, .ref aKE, .ref aTX, .int 0, .int 0, .int 0, .int 0, .ref aBW, .ref aTI, .ref aKV, .ref aDM, .int 0, .int 0]) := by rw [ef544]; exact va_up_self _ _ _
          have h546 : f544 aRA = aD (dA 1) 4 ((fun _ => 0)) := by rw [ef544, va_up_ne _ _ (Ne.symm nb_aRA)]; exact h528
          have h547 : f544 aRB = aD (dA 1) 4 ((fun _ => 0)) := by rw [ef544, va_up_ne _ _ (Ne.symm nb_aRB)]; exact h529
          have h548 : f544 aTH = aI (dA 3) 8 ((fun _ => 0)) := by rw [ef544, va_up_ne _ _ (Ne.symm nb_aTH)]; exact h530
          have h549 : f544 aDE = aD (dA 1) 8 ((fun _ => 0)) := by rw [ef544, va_up_ne _ _ (Ne.symm nb_aDE)]; exact h531
          have h550 : f544 aKI = aI (dA 2) 8 ((fun _ => 0)) := by rw [ef544, va_up_ne _ _ (Ne.symm nb_aKI)]; exact h532
          have h551 : f544 aWE = aD (dA 1) 128 ((fun _ => 0)) := by rw [ef544, va_up_ne _ _ (Ne.symm nb_aWE)]; exact h533
          have h552 : f544 aNX = aD (dA 1) 16 ((fun _ => 0)) := by rw [ef544, va_up_ne _ _ (Ne.symm nb_aNX)]; exact h534
          have h553 : f544 aLI = aI (dA 3) 8 ((fun _ => 0)) := by rw [ef544, va_up_ne _ _ (Ne.symm nb_aLI)]; exact h535
          have h554 : f544 aLM = aD (dA 1) 8 ((fun _ => 0)) := by rw [ef544, va_up_ne _ _ (Ne.symm nb_aLM)]; exact h536
          have h555 : f544 aKE = aI (dA 2) 8 ((fun _ => 0)) := by rw [ef544, va_up_ne _ _ (Ne.symm nb_aKE)]; exact h537
          have h556 : f544 aTX = aI (dA 2) 200 ((fun _ => 0)) := by rw [ef544, va_up_ne _ _ (Ne.symm nb_aTX)]; exact h538
          have h557 : f544 aBW = aI (dA 3) 12 ((fun _ => 0)) := by rw [ef544, va_up_ne _ _ (Ne.symm nb_aBW)]; exact h539
          have h558 : f544 aTI = aI (dA 2) 12 ((fun _ => 0)) := by rw [ef544, va_up_ne _ _ (Ne.symm nb_aTI)]; exact h540
          have h559 : f544 aKV = aI (dA 2) 12 ((fun _ => 0)) := by rw [ef544, va_up_ne _ _ (Ne.symm nb_aKV)]; exact h541
          have h560 : f544 aDM = aI (dA 2) 12 ((fun _ => 0)) := by rw [ef544, va_up_ne _ _ (Ne.symm nb_aDM)]; exact h542
          have hr561 : ∀ z, z ∈ L → z ≠ b → f544 z = f z := fun z hz hb => (congrFun ef544 z).trans ((va_up_ne _ _ hb).trans (hr543 z hz hb))
          refine W.widen (k := 15) (n := 448) (Nat.le_of_ble_eq_true rfl) (Nat.le_of_ble_eq_true rfl) ?_
          exact hret _ _ _ _ L471 f544 hw ⟨aRA, aRB, aTH, aDE, aKI, aWE, aNX, aLI, aLM, aKE, aTX, aBW, aTI, aKV, aDM, (by rw [eL471, eL419, eL370, eL324, eL281, eL241, eL204, eL170, eL139, eL111, eL86, eL64, eL45, eL14, eL1]), by rw [en, eb]; exact h545, h546, h547, h548, h549, h550, h551, h552, h553, h554, h555, h556, h557, h558, h559, h560, hr561⟩ dX7_init_193
        · have eb := (clN_ok (hi := 8) (by decide) (by decide) v2).2.2.2.1 hv2 (Int32.not_le.mp c181)
          refine lv_bipush (v := 8) hx hb dX7_init_184 (by decide) ?_
          refine lv_goto (tgt := 190) hx hb dX7_init_186 (by decide) ?_
          refine wp_ (C := RX7) (T := TX7) (N := 31) hx hb hts hi7 tyX7 tyX7_ok nmX7 hown hw m473 h527 rfl 2 (by decide) (hts (.fieldLink RX7 75 "LayerMoistureModel" "boards" "I") (by decide +kernel)) (fun _ h9 => h9) rfl (ty := .int) (v := .int 8) (by decide +kernel) rfl rfl (Nat.le_of_ble_eq_true rfl) dX7_init_190 (fun H locs hw => ?_)
          obtain ⟨f562, ef562⟩ : ∃ z : Nat → va_E, z = va_up f526 b (.inr (8, [.int 0, .int v1, .int 8, .ref aRA, .ref aRB, .double 4643862126702624768, .double 4602678819172646912, .double FP.dconst1, .double 0, .double 0, .long 0, .int 0, .ref aTH, .ref aDE, .ref aKI, .ref aWE, .ref aNX, .ref aLI, .ref aLM, .ref aKE, .ref aTX, .int 0, .int 0, .int 0, .int 0, .ref aBW, .ref aTI, .ref aKV, .ref aDM, .int 0, .int 0])) := ⟨_, rfl⟩
          have hw : ww G dA A s L471 f562 H locs := by rw [ef562]; exact hw
          have h563 : f562 b = .inr (8, [.int 0, .int v1, .int 8, .ref aRA, .ref aRB, .double 4643862126702624768, .double 4602678819172646912, .double FP.dconst1, .double 0, .double 0, .long 0, .int 0, .ref aTH, .ref aDE, .ref aKI, .ref aWE, .ref aNX, .ref aLI, .ref aLM, .ref aKE, .ref aTX, .int 0, .int 0, .int 0, .int 0, .ref aBW, .ref aTI, .ref aKV, .ref aDM, .int 0, .int 0]) := by rw [ef562]; exact va_up_self _ _ _
          have h564 : f562 aRA = aD (dA 1) 4 ((fun _ => 0)) := by rw [ef562, va_up_ne _ _ (Ne.symm nb_aRA)]; exact h528
          have h565 : f562 aRB = aD (dA 1) 4 ((fun _ => 0)) := by rw [ef562, va_up_ne _ _ (Ne.symm nb_aRB)]; exact h529
          have h566 : f562 aTH = aI (dA 3) 8 ((fun _ => 0)) := by rw [ef562, va_up_ne _ _ (Ne.symm nb_aTH)]; exact h530
          have h567 : f562 aDE = aD (dA 1) 8 ((fun _ => 0)) := by rw [ef562, va_up_ne _ _ (Ne.symm nb_aDE)]; exact h531
          have h568 : f562 aKI = aI (dA 2) 8 ((fun _ => 0)) := by rw [ef562, va_up_ne _ _ (Ne.symm nb_aKI)]; exact h532
          have h569 : f562 aWE = aD (dA 1) 128 ((fun _ => 0)) := by rw [ef562, va_up_ne _ _ (Ne.symm nb_aWE)]; exact h533
          have h570 : f562 aNX = aD (dA 1) 16 ((fun _ => 0)) := by rw [ef562, va_up_ne _ _ (Ne.symm nb_aNX)]; exact h534
          have h571 : f562 aLI = aI (dA 3) 8 ((fun _ => 0)) := by rw [ef562, va_up_ne _ _ (Ne.symm nb_aLI)]; exact h535
          have h572 : f562 aLM = aD (dA 1) 8 ((fun _ => 0)) := by rw [ef562, va_up_ne _ _ (Ne.symm nb_aLM)]; exact h536
          have h573 : f562 aKE = aI (dA 2) 8 ((fun _ => 0)) := by rw [ef562, va_up_ne _ _ (Ne.symm nb_aKE)]; exact h537
          have h574 : f562 aTX = aI (dA 2) 200 ((fun _ => 0)) := by rw [ef562, va_up_ne _ _ (Ne.symm nb_aTX)]; exact h538
          have h575 : f562 aBW = aI (dA 3) 12 ((fun _ => 0)) := by rw [ef562, va_up_ne _ _ (Ne.symm nb_aBW)]; exact h539
          have h576 : f562 aTI = aI (dA 2) 12 ((fun _ => 0)) := by rw [ef562, va_up_ne _ _ (Ne.symm nb_aTI)]; exact h540
          have h577 : f562 aKV = aI (dA 2) 12 ((fun _ => 0)) := by rw [ef562, va_up_ne _ _ (Ne.symm nb_aKV)]; exact h541
          have h578 : f562 aDM = aI (dA 2) 12 ((fun _ => 0)) := by rw [ef562, va_up_ne _ _ (Ne.symm nb_aDM)]; exact h542
          have hr579 : ∀ z, z ∈ L → z ≠ b → f562 z = f z := fun z hz hb => (congrFun ef562 z).trans ((va_up_ne _ _ hb).trans (hr543 z hz hb))
          refine W.widen (k := 15) (n := 448) (Nat.le_of_ble_eq_true rfl) (Nat.le_of_ble_eq_true rfl) ?_
          exact hret _ _ _ _ L471 f562 hw ⟨aRA, aRB, aTH, aDE, aKI, aWE, aNX, aLI, aLM, aKE, aTX, aBW, aTI, aKV, aDM, (by rw [eL471, eL419, eL370, eL324, eL281, eL241, eL204, eL170, eL139, eL111, eL86, eL64, eL45, eL14, eL1]), by rw [en, eb]; exact h563, h564, h565, h566, h567, h568, h569, h570, h571, h572, h573, h574, h575, h576, h577, h578, hr579⟩ dX7_init_193
      · have hv2 : v2 < 1 := Int32.not_le.mp c171
        have eb := (clN_ok (hi := 8) (by decide) (by decide) v2).2.2.1 hv2
        refine lv_iconst (v := 1) hx hb dX7_init_174 (by decide) ?_
        refine lv_goto (tgt := 190) hx hb dX7_init_175 (by decide) ?_
        refine wp_ (C := RX7) (T := TX7) (N := 31) hx hb hts hi7 tyX7 tyX7_ok nmX7 hown hw m473 h527 rfl 2 (by decide) (hts (.fieldLink RX7 75 "LayerMoistureModel" "boards" "I") (by decide +kernel)) (fun _ h9 => h9) rfl (ty := .int) (v := .int 1) (by decide +kernel) rfl rfl (Nat.le_of_ble_eq_true rfl) dX7_init_190 (fun H locs hw => ?_)
        obtain ⟨f580, ef580⟩ : ∃ z : Nat → va_E, z = va_up f526 b (.inr (8, [.int 0, .int v1, .int 1, .ref aRA, .ref aRB, .double 4643862126702624768, .double 4602678819172646912, .double FP.dconst1, .double 0, .double 0, .long 0, .int 0, .ref aTH, .ref aDE, .ref aKI, .ref aWE, .ref aNX, .ref aLI, .ref aLM, .ref aKE, .ref aTX, .int 0, .int 0, .int 0, .int 0, .ref aBW, .ref aTI, .ref aKV, .ref aDM, .int 0, .int 0])) := ⟨_, rfl⟩
        have hw : ww G dA A s L471 f580 H locs := by rw [ef580]; exact hw
        have h581 : f580 b = .inr (8, [.int 0, .int v1, .int 1, .ref aRA, .ref aRB, .double 4643862126702624768, .double 4602678819172646912, .double FP.dconst1, .double 0, .double 0, .long 0, .int 0, .ref aTH, .ref aDE, .ref aKI, .ref aWE, .ref aNX, .ref aLI, .ref aLM, .ref aKE, .ref aTX, .int 0, .int 0, .int 0, .int 0, .ref aBW, .ref aTI, .ref aKV, .ref aDM, .int 0, .int 0]) := by rw [ef580]; exact va_up_self _ _ _
        have h582 : f580 aRA = aD (dA 1) 4 ((fun _ => 0)) := by rw [ef580, va_up_ne _ _ (Ne.symm nb_aRA)]; exact h528
        have h583 : f580 aRB = aD (dA 1) 4 ((fun _ => 0)) := by rw [ef580, va_up_ne _ _ (Ne.symm nb_aRB)]; exact h529
        have h584 : f580 aTH = aI (dA 3) 8 ((fun _ => 0)) := by rw [ef580, va_up_ne _ _ (Ne.symm nb_aTH)]; exact h530
        have h585 : f580 aDE = aD (dA 1) 8 ((fun _ => 0)) := by rw [ef580, va_up_ne _ _ (Ne.symm nb_aDE)]; exact h531
        have h586 : f580 aKI = aI (dA 2) 8 ((fun _ => 0)) := by rw [ef580, va_up_ne _ _ (Ne.symm nb_aKI)]; exact h532
        have h587 : f580 aWE = aD (dA 1) 128 ((fun _ => 0)) := by rw [ef580, va_up_ne _ _ (Ne.symm nb_aWE)]; exact h533
        have h588 : f580 aNX = aD (dA 1) 16 ((fun _ => 0)) := by rw [ef580, va_up_ne _ _ (Ne.symm nb_aNX)]; exact h534
        have h589 : f580 aLI = aI (dA 3) 8 ((fun _ => 0)) := by rw [ef580, va_up_ne _ _ (Ne.symm nb_aLI)]; exact h535
        have h590 : f580 aLM = aD (dA 1) 8 ((fun _ => 0)) := by rw [ef580, va_up_ne _ _ (Ne.symm nb_aLM)]; exact h536
        have h591 : f580 aKE = aI (dA 2) 8 ((fun _ => 0)) := by rw [ef580, va_up_ne _ _ (Ne.symm nb_aKE)]; exact h537
        have h592 : f580 aTX = aI (dA 2) 200 ((fun _ => 0)) := by rw [ef580, va_up_ne _ _ (Ne.symm nb_aTX)]; exact h538
        have h593 : f580 aBW = aI (dA 3) 12 ((fun _ => 0)) := by rw [ef580, va_up_ne _ _ (Ne.symm nb_aBW)]; exact h539
        have h594 : f580 aTI = aI (dA 2) 12 ((fun _ => 0)) := by rw [ef580, va_up_ne _ _ (Ne.symm nb_aTI)]; exact h540
        have h595 : f580 aKV = aI (dA 2) 12 ((fun _ => 0)) := by rw [ef580, va_up_ne _ _ (Ne.symm nb_aKV)]; exact h541
        have h596 : f580 aDM = aI (dA 2) 12 ((fun _ => 0)) := by rw [ef580, va_up_ne _ _ (Ne.symm nb_aDM)]; exact h542
        have hr597 : ∀ z, z ∈ L → z ≠ b → f580 z = f z := fun z hz hb => (congrFun ef580 z).trans ((va_up_ne _ _ hb).trans (hr543 z hz hb))
        refine W.widen (k := 15) (n := 448) (Nat.le_of_ble_eq_true rfl) (Nat.le_of_ble_eq_true rfl) ?_
        exact hret _ _ _ _ L471 f580 hw ⟨aRA, aRB, aTH, aDE, aKI, aWE, aNX, aLI, aLM, aKE, aTX, aBW, aTI, aKV, aDM, (by rw [eL471, eL419, eL370, eL324, eL281, eL241, eL204, eL170, eL139, eL111, eL86, eL64, eL45, eL14, eL1]), by rw [en, eb]; exact h581, h582, h583, h584, h585, h586, h587, h588, h589, h590, h591, h592, h593, h594, h595, h596, hr597⟩ dX7_init_193
    · have en := (clN_ok (hi := 16) (by decide) (by decide) v1).2.2.2.1 hv1 (Int32.not_le.mp c156)
      refine lv_bipush (v := 16) hx hb dX7_init_159 (by decide) ?_
      refine lv_goto (tgt := 165) hx hb dX7_init_161 (by decide) ?_
      refine wp_ (C := RX7) (T := TX7) (N := 31) hx hb hts hi7 tyX7 tyX7_ok nmX7 hown hw m473 h509 rfl 1 (by decide) (hts (.fieldLink RX7 71 "LayerMoistureModel" "layers" "I") (by decide +kernel)) (fun _ h9 => h9) rfl (ty := .int) (v := .int 16) (by decide +kernel) rfl rfl (Nat.le_of_ble_eq_true rfl) dX7_init_165 (fun H locs hw => ?_)
      obtain ⟨f598, ef598⟩ : ∃ z : Nat → va_E, z = va_up f508 b (.inr (8, [.int 0, .int 16, .int 0, .ref aRA, .ref aRB, .double 4643862126702624768, .double 4602678819172646912, .double FP.dconst1, .double 0, .double 0, .long 0, .int 0, .ref aTH, .ref aDE, .ref aKI, .ref aWE, .ref aNX, .ref aLI, .ref aLM, .ref aKE, .ref aTX, .int 0, .int 0, .int 0, .int 0, .ref aBW, .ref aTI, .ref aKV, .ref aDM, .int 0, .int 0])) := ⟨_, rfl⟩
      have hw : ww G dA A s L471 f598 H locs := by rw [ef598]; exact hw
      have h599 : f598 b = .inr (8, [.int 0, .int 16, .int 0, .ref aRA, .ref aRB, .double 4643862126702624768, .double 4602678819172646912, .double FP.dconst1, .double 0, .double 0, .long 0, .int 0, .ref aTH, .ref aDE, .ref aKI, .ref aWE, .ref aNX, .ref aLI, .ref aLM, .ref aKE, .ref aTX, .int 0, .int 0, .int 0, .int 0, .ref aBW, .ref aTI, .ref aKV, .ref aDM, .int 0, .int 0]) := by rw [ef598]; exact va_up_self _ _ _
      have h600 : f598 aRA = aD (dA 1) 4 ((fun _ => 0)) := by rw [ef598, va_up_ne _ _ (Ne.symm nb_aRA)]; exact h510
      have h601 : f598 aRB = aD (dA 1) 4 ((fun _ => 0)) := by rw [ef598, va_up_ne _ _ (Ne.symm nb_aRB)]; exact h511
      have h602 : f598 aTH = aI (dA 3) 8 ((fun _ => 0)) := by rw [ef598, va_up_ne _ _ (Ne.symm nb_aTH)]; exact h512
      have h603 : f598 aDE = aD (dA 1) 8 ((fun _ => 0)) := by rw [ef598, va_up_ne _ _ (Ne.symm nb_aDE)]; exact h513
      have h604 : f598 aKI = aI (dA 2) 8 ((fun _ => 0)) := by rw [ef598, va_up_ne _ _ (Ne.symm nb_aKI)]; exact h514
      have h605 : f598 aWE = aD (dA 1) 128 ((fun _ => 0)) := by rw [ef598, va_up_ne _ _ (Ne.symm nb_aWE)]; exact h515
      have h606 : f598 aNX = aD (dA 1) 16 ((fun _ => 0)) := by rw [ef598, va_up_ne _ _ (Ne.symm nb_aNX)]; exact h516
      have h607 : f598 aLI = aI (dA 3) 8 ((fun _ => 0)) := by rw [ef598, va_up_ne _ _ (Ne.symm nb_aLI)]; exact h517
      have h608 : f598 aLM = aD (dA 1) 8 ((fun _ => 0)) := by rw [ef598, va_up_ne _ _ (Ne.symm nb_aLM)]; exact h518
      have h609 : f598 aKE = aI (dA 2) 8 ((fun _ => 0)) := by rw [ef598, va_up_ne _ _ (Ne.symm nb_aKE)]; exact h519
      have h610 : f598 aTX = aI (dA 2) 200 ((fun _ => 0)) := by rw [ef598, va_up_ne _ _ (Ne.symm nb_aTX)]; exact h520
      have h611 : f598 aBW = aI (dA 3) 12 ((fun _ => 0)) := by rw [ef598, va_up_ne _ _ (Ne.symm nb_aBW)]; exact h521
      have h612 : f598 aTI = aI (dA 2) 12 ((fun _ => 0)) := by rw [ef598, va_up_ne _ _ (Ne.symm nb_aTI)]; exact h522
      have h613 : f598 aKV = aI (dA 2) 12 ((fun _ => 0)) := by rw [ef598, va_up_ne _ _ (Ne.symm nb_aKV)]; exact h523
      have h614 : f598 aDM = aI (dA 2) 12 ((fun _ => 0)) := by rw [ef598, va_up_ne _ _ (Ne.symm nb_aDM)]; exact h524
      have hr615 : ∀ z, z ∈ L → z ≠ b → f598 z = f z := fun z hz hb => (congrFun ef598 z).trans ((va_up_ne _ _ hb).trans (hr525 z hz hb))
      refine lv_aload_n hx hb dX7_init_168 rfl (lv_at hl 0 rfl) ?_
      refine lv_iload_n hx hb dX7_init_169 rfl (lv_at hl 2 rfl) ?_
      refine lv_iconst (v := 1) hx hb dX7_init_170 (by decide) ?_
      refine lv_icmp_ge (tgt := 178) hx hb dX7_init_171 (by decide) (fun c171 => ?_) (fun c171 => ?_)
      · have hv2 : ¬ v2 < 1 := Int32.not_lt.mpr c171
        refine lv_iload_n hx hb dX7_init_178 rfl (lv_at hl 2 rfl) ?_
        refine lv_bipush (v := 8) hx hb dX7_init_179 (by decide) ?_
        refine lv_icmp_le (tgt := 189) hx hb dX7_init_181 (by decide) (fun c181 => ?_) (fun c181 => ?_)
        · have eb := (clN_ok (hi := 8) (by decide) (by decide) v2).2.2.2.2 hv2 (Int32.not_lt.mpr c181)
          refine lv_iload_n hx hb dX7_init_189 rfl (lv_at hl 2 rfl) ?_
          refine wp_ (C := RX7) (T := TX7) (N := 31) hx hb hts hi7 tyX7 tyX7_ok nmX7 hown hw m473 h599 rfl 2 (by decide) (hts (.fieldLink RX7 75 "LayerMoistureModel" "boards" "I") (by decide +kernel)) (fun _ h9 => h9) rfl (ty := .int) (v := .int v2) (by decide +kernel) rfl rfl (Nat.le_of_ble_eq_true rfl) dX7_init_190 (fun H locs hw => ?_)
          obtain ⟨f616, ef616⟩ : ∃ z : Nat → va_E, z = va_up f598 b (.inr (8, [.int 0, .int 16, .int v2, .ref aRA, .ref aRB, .double 4643862126702624768, .double 4602678819172646912, .double FP.dconst1, .double 0, .double 0, .long 0, .int 0, .ref aTH, .ref aDE, .ref aKI, .ref aWE, .ref aNX, .ref aLI, .ref aLM, .ref aKE, .ref aTX, .int 0, .int 0, .int 0, .int 0, .ref aBW, .ref aTI, .ref aKV, .ref aDM, .int 0, .int 0])) := ⟨_, rfl⟩
          have hw : ww G dA A s L471 f616 H locs := by rw [ef616]; exact hw
          have h617 : f616 b = .inr (8, [.int 0, .int 16, .int v2, .ref aRA, .ref aRB, .double 4643862126702624768, .double 4602678819172646912, .double FP.dconst1, .double 0, .double 0, .long 0, .int 0, .ref aTH, .ref aDE, .ref aKI, .ref aWE, .ref aNX, .ref aLI, .ref aLM, .ref aKE, .ref aTX, .int 0, .int 0, .int 0, .int 0, .ref aBW, .ref aTI, .ref aKV, .ref aDM, .int 0, .int 0]) := by rw [ef616]; exact va_up_self _ _ _
          have h618 : f616 aRA = aD (dA 1) 4 ((fun _ => 0)) := by rw [ef616, va_up_ne _ _ (Ne.symm nb_aRA)]; exact h600
          have h619 : f616 aRB = aD (dA 1) 4 ((fun _ => 0)) := by rw [ef616, va_up_ne _ _ (Ne.symm nb_aRB)]; exact h601
          have h620 : f616 aTH = aI (dA 3) 8 ((fun _ => 0)) := by rw [ef616, va_up_ne _ _ (Ne.symm nb_aTH)]; exact h602
          have h621 : f616 aDE = aD (dA 1) 8 ((fun _ => 0)) := by rw [ef616, va_up_ne _ _ (Ne.symm nb_aDE)]; exact h603
          have h622 : f616 aKI = aI (dA 2) 8 ((fun _ => 0)) := by rw [ef616, va_up_ne _ _ (Ne.symm nb_aKI)]; exact h604
          have h623 : f616 aWE = aD (dA 1) 128 ((fun _ => 0)) := by rw [ef616, va_up_ne _ _ (Ne.symm nb_aWE)]; exact h605
          have h624 : f616 aNX = aD (dA 1) 16 ((fun _ => 0)) := by rw [ef616, va_up_ne _ _ (Ne.symm nb_aNX)]; exact h606
          have h625 : f616 aLI = aI (dA 3) 8 ((fun _ => 0)) := by rw [ef616, va_up_ne _ _ (Ne.symm nb_aLI)]; exact h607
          have h626 : f616 aLM = aD (dA 1) 8 ((fun _ => 0)) := by rw [ef616, va_up_ne _ _ (Ne.symm nb_aLM)]; exact h608
          have h627 : f616 aKE = aI (dA 2) 8 ((fun _ => 0)) := by rw [ef616, va_up_ne _ _ (Ne.symm nb_aKE)]; exact h609
          have h628 : f616 aTX = aI (dA 2) 200 ((fun _ => 0)) := by rw [ef616, va_up_ne _ _ (Ne.symm nb_aTX)]; exact h610
          have h629 : f616 aBW = aI (dA 3) 12 ((fun _ => 0)) := by rw [ef616, va_up_ne _ _ (Ne.symm nb_aBW)]; exact h611
          have h630 : f616 aTI = aI (dA 2) 12 ((fun _ => 0)) := by rw [ef616, va_up_ne _ _ (Ne.symm nb_aTI)]; exact h612
          have h631 : f616 aKV = aI (dA 2) 12 ((fun _ => 0)) := by rw [ef616, va_up_ne _ _ (Ne.symm nb_aKV)]; exact h613
          have h632 : f616 aDM = aI (dA 2) 12 ((fun _ => 0)) := by rw [ef616, va_up_ne _ _ (Ne.symm nb_aDM)]; exact h614
          have hr633 : ∀ z, z ∈ L → z ≠ b → f616 z = f z := fun z hz hb => (congrFun ef616 z).trans ((va_up_ne _ _ hb).trans (hr615 z hz hb))
          refine W.widen (k := 15) (n := 448) (Nat.le_of_ble_eq_true rfl) (Nat.le_of_ble_eq_true rfl) ?_
          exact hret _ _ _ _ L471 f616 hw ⟨aRA, aRB, aTH, aDE, aKI, aWE, aNX, aLI, aLM, aKE, aTX, aBW, aTI, aKV, aDM, (by rw [eL471, eL419, eL370, eL324, eL281, eL241, eL204, eL170, eL139, eL111, eL86, eL64, eL45, eL14, eL1]), by rw [en, eb]; exact h617, h618, h619, h620, h621, h622, h623, h624, h625, h626, h627, h628, h629, h630, h631, h632, hr633⟩ dX7_init_193
        · have eb := (clN_ok (hi := 8) (by decide) (by decide) v2).2.2.2.1 hv2 (Int32.not_le.mp c181)
          refine lv_bipush (v := 8) hx hb dX7_init_184 (by decide) ?_
          refine lv_goto (tgt := 190) hx hb dX7_init_186 (by decide) ?_
          refine wp_ (C := RX7) (T := TX7) (N := 31) hx hb hts hi7 tyX7 tyX7_ok nmX7 hown hw m473 h599 rfl 2 (by decide) (hts (.fieldLink RX7 75 "LayerMoistureModel" "boards" "I") (by decide +kernel)) (fun _ h9 => h9) rfl (ty := .int) (v := .int 8) (by decide +kernel) rfl rfl (Nat.le_of_ble_eq_true rfl) dX7_init_190 (fun H locs hw => ?_)
          obtain ⟨f634, ef634⟩ : ∃ z : Nat → va_E, z = va_up f598 b (.inr (8, [.int 0, .int 16, .int 8, .ref aRA, .ref aRB, .double 4643862126702624768, .double 4602678819172646912, .double FP.dconst1, .double 0, .double 0, .long 0, .int 0, .ref aTH, .ref aDE, .ref aKI, .ref aWE, .ref aNX, .ref aLI, .ref aLM, .ref aKE, .ref aTX, .int 0, .int 0, .int 0, .int 0, .ref aBW, .ref aTI, .ref aKV, .ref aDM, .int 0, .int 0])) := ⟨_, rfl⟩
          have hw : ww G dA A s L471 f634 H locs := by rw [ef634]; exact hw
          have h635 : f634 b = .inr (8, [.int 0, .int 16, .int 8, .ref aRA, .ref aRB, .double 4643862126702624768, .double 4602678819172646912, .double FP.dconst1, .double 0, .double 0, .long 0, .int 0, .ref aTH, .ref aDE, .ref aKI, .ref aWE, .ref aNX, .ref aLI, .ref aLM, .ref aKE, .ref aTX, .int 0, .int 0, .int 0, .int 0, .ref aBW, .ref aTI, .ref aKV, .ref aDM, .int 0, .int 0]) := by rw [ef634]; exact va_up_self _ _ _
          have h636 : f634 aRA = aD (dA 1) 4 ((fun _ => 0)) := by rw [ef634, va_up_ne _ _ (Ne.symm nb_aRA)]; exact h600
          have h637 : f634 aRB = aD (dA 1) 4 ((fun _ => 0)) := by rw [ef634, va_up_ne _ _ (Ne.symm nb_aRB)]; exact h601
          have h638 : f634 aTH = aI (dA 3) 8 ((fun _ => 0)) := by rw [ef634, va_up_ne _ _ (Ne.symm nb_aTH)]; exact h602
          have h639 : f634 aDE = aD (dA 1) 8 ((fun _ => 0)) := by rw [ef634, va_up_ne _ _ (Ne.symm nb_aDE)]; exact h603
          have h640 : f634 aKI = aI (dA 2) 8 ((fun _ => 0)) := by rw [ef634, va_up_ne _ _ (Ne.symm nb_aKI)]; exact h604
          have h641 : f634 aWE = aD (dA 1) 128 ((fun _ => 0)) := by rw [ef634, va_up_ne _ _ (Ne.symm nb_aWE)]; exact h605
          have h642 : f634 aNX = aD (dA 1) 16 ((fun _ => 0)) := by rw [ef634, va_up_ne _ _ (Ne.symm nb_aNX)]; exact h606
          have h643 : f634 aLI = aI (dA 3) 8 ((fun _ => 0)) := by rw [ef634, va_up_ne _ _ (Ne.symm nb_aLI)]; exact h607
          have h644 : f634 aLM = aD (dA 1) 8 ((fun _ => 0)) := by rw [ef634, va_up_ne _ _ (Ne.symm nb_aLM)]; exact h608
          have h645 : f634 aKE = aI (dA 2) 8 ((fun _ => 0)) := by rw [ef634, va_up_ne _ _ (Ne.symm nb_aKE)]; exact h609
          have h646 : f634 aTX = aI (dA 2) 200 ((fun _ => 0)) := by rw [ef634, va_up_ne _ _ (Ne.symm nb_aTX)]; exact h610
          have h647 : f634 aBW = aI (dA 3) 12 ((fun _ => 0)) := by rw [ef634, va_up_ne _ _ (Ne.symm nb_aBW)]; exact h611
          have h648 : f634 aTI = aI (dA 2) 12 ((fun _ => 0)) := by rw [ef634, va_up_ne _ _ (Ne.symm nb_aTI)]; exact h612
          have h649 : f634 aKV = aI (dA 2) 12 ((fun _ => 0)) := by rw [ef634, va_up_ne _ _ (Ne.symm nb_aKV)]; exact h613
          have h650 : f634 aDM = aI (dA 2) 12 ((fun _ => 0)) := by rw [ef634, va_up_ne _ _ (Ne.symm nb_aDM)]; exact h614
          have hr651 : ∀ z, z ∈ L → z ≠ b → f634 z = f z := fun z hz hb => (congrFun ef634 z).trans ((va_up_ne _ _ hb).trans (hr615 z hz hb))
          refine W.widen (k := 15) (n := 448) (Nat.le_of_ble_eq_true rfl) (Nat.le_of_ble_eq_true rfl) ?_
          exact hret _ _ _ _ L471 f634 hw ⟨aRA, aRB, aTH, aDE, aKI, aWE, aNX, aLI, aLM, aKE, aTX, aBW, aTI, aKV, aDM, (by rw [eL471, eL419, eL370, eL324, eL281, eL241, eL204, eL170, eL139, eL111, eL86, eL64, eL45, eL14, eL1]), by rw [en, eb]; exact h635, h636, h637, h638, h639, h640, h641, h642, h643, h644, h645, h646, h647, h648, h649, h650, hr651⟩ dX7_init_193
      · have hv2 : v2 < 1 := Int32.not_le.mp c171
        have eb := (clN_ok (hi := 8) (by decide) (by decide) v2).2.2.1 hv2
        refine lv_iconst (v := 1) hx hb dX7_init_174 (by decide) ?_
        refine lv_goto (tgt := 190) hx hb dX7_init_175 (by decide) ?_
        refine wp_ (C := RX7) (T := TX7) (N := 31) hx hb hts hi7 tyX7 tyX7_ok nmX7 hown hw m473 h599 rfl 2 (by decide) (hts (.fieldLink RX7 75 "LayerMoistureModel" "boards" "I") (by decide +kernel)) (fun _ h9 => h9) rfl (ty := .int) (v := .int 1) (by decide +kernel) rfl rfl (Nat.le_of_ble_eq_true rfl) dX7_init_190 (fun H locs hw => ?_)
        obtain ⟨f652, ef652⟩ : ∃ z : Nat → va_E, z = va_up f598 b (.inr (8, [.int 0, .int 16, .int 1, .ref aRA, .ref aRB, .double 4643862126702624768, .double 4602678819172646912, .double FP.dconst1, .double 0, .double 0, .long 0, .int 0, .ref aTH, .ref aDE, .ref aKI, .ref aWE, .ref aNX, .ref aLI, .ref aLM, .ref aKE, .ref aTX, .int 0, .int 0, .int 0, .int 0, .ref aBW, .ref aTI, .ref aKV, .ref aDM, .int 0, .int 0])) := ⟨_, rfl⟩
        have hw : ww G dA A s L471 f652 H locs := by rw [ef652]; exact hw
        have h653 : f652 b = .inr (8, [.int 0, .int 16, .int 1, .ref aRA, .ref aRB, .double 4643862126702624768, .double 4602678819172646912, .double FP.dconst1, .double 0, .double 0, .long 0, .int 0, .ref aTH, .ref aDE, .ref aKI, .ref aWE, .ref aNX, .ref aLI, .ref aLM, .ref aKE, .ref aTX, .int 0, .int 0, .int 0, .int 0, .ref aBW, .ref aTI, .ref aKV, .ref aDM, .int 0, .int 0]) := by rw [ef652]; exact va_up_self _ _ _
        have h654 : f652 aRA = aD (dA 1) 4 ((fun _ => 0)) := by rw [ef652, va_up_ne _ _ (Ne.symm nb_aRA)]; exact h600
        have h655 : f652 aRB = aD (dA 1) 4 ((fun _ => 0)) := by rw [ef652, va_up_ne _ _ (Ne.symm nb_aRB)]; exact h601
        have h656 : f652 aTH = aI (dA 3) 8 ((fun _ => 0)) := by rw [ef652, va_up_ne _ _ (Ne.symm nb_aTH)]; exact h602
        have h657 : f652 aDE = aD (dA 1) 8 ((fun _ => 0)) := by rw [ef652, va_up_ne _ _ (Ne.symm nb_aDE)]; exact h603
        have h658 : f652 aKI = aI (dA 2) 8 ((fun _ => 0)) := by rw [ef652, va_up_ne _ _ (Ne.symm nb_aKI)]; exact h604
        have h659 : f652 aWE = aD (dA 1) 128 ((fun _ => 0)) := by rw [ef652, va_up_ne _ _ (Ne.symm nb_aWE)]; exact h605
        have h660 : f652 aNX = aD (dA 1) 16 ((fun _ => 0)) := by rw [ef652, va_up_ne _ _ (Ne.symm nb_aNX)]; exact h606
        have h661 : f652 aLI = aI (dA 3) 8 ((fun _ => 0)) := by rw [ef652, va_up_ne _ _ (Ne.symm nb_aLI)]; exact h607
        have h662 : f652 aLM = aD (dA 1) 8 ((fun _ => 0)) := by rw [ef652, va_up_ne _ _ (Ne.symm nb_aLM)]; exact h608
        have h663 : f652 aKE = aI (dA 2) 8 ((fun _ => 0)) := by rw [ef652, va_up_ne _ _ (Ne.symm nb_aKE)]; exact h609
        have h664 : f652 aTX = aI (dA 2) 200 ((fun _ => 0)) := by rw [ef652, va_up_ne _ _ (Ne.symm nb_aTX)]; exact h610
        have h665 : f652 aBW = aI (dA 3) 12 ((fun _ => 0)) := by rw [ef652, va_up_ne _ _ (Ne.symm nb_aBW)]; exact h611
        have h666 : f652 aTI = aI (dA 2) 12 ((fun _ => 0)) := by rw [ef652, va_up_ne _ _ (Ne.symm nb_aTI)]; exact h612
        have h667 : f652 aKV = aI (dA 2) 12 ((fun _ => 0)) := by rw [ef652, va_up_ne _ _ (Ne.symm nb_aKV)]; exact h613
        have h668 : f652 aDM = aI (dA 2) 12 ((fun _ => 0)) := by rw [ef652, va_up_ne _ _ (Ne.symm nb_aDM)]; exact h614
        have hr669 : ∀ z, z ∈ L → z ≠ b → f652 z = f z := fun z hz hb => (congrFun ef652 z).trans ((va_up_ne _ _ hb).trans (hr615 z hz hb))
        refine W.widen (k := 15) (n := 448) (Nat.le_of_ble_eq_true rfl) (Nat.le_of_ble_eq_true rfl) ?_
        exact hret _ _ _ _ L471 f652 hw ⟨aRA, aRB, aTH, aDE, aKI, aWE, aNX, aLI, aLM, aKE, aTX, aBW, aTI, aKV, aDM, (by rw [eL471, eL419, eL370, eL324, eL281, eL241, eL204, eL170, eL139, eL111, eL86, eL64, eL45, eL14, eL1]), by rw [en, eb]; exact h653, h654, h655, h656, h657, h658, h659, h660, h661, h662, h663, h664, h665, h666, h667, h668, hr669⟩ dX7_init_193
  · have hv1 : v1 < 1 := Int32.not_le.mp c146
    have en := (clN_ok (hi := 16) (by decide) (by decide) v1).2.2.1 hv1
    refine lv_iconst (v := 1) hx hb dX7_init_149 (by decide) ?_
    refine lv_goto (tgt := 165) hx hb dX7_init_150 (by decide) ?_
    refine wp_ (C := RX7) (T := TX7) (N := 31) hx hb hts hi7 tyX7 tyX7_ok nmX7 hown hw m473 h509 rfl 1 (by decide) (hts (.fieldLink RX7 71 "LayerMoistureModel" "layers" "I") (by decide +kernel)) (fun _ h9 => h9) rfl (ty := .int) (v := .int 1) (by decide +kernel) rfl rfl (Nat.le_of_ble_eq_true rfl) dX7_init_165 (fun H locs hw => ?_)
    obtain ⟨f670, ef670⟩ : ∃ z : Nat → va_E, z = va_up f508 b (.inr (8, [.int 0, .int 1, .int 0, .ref aRA, .ref aRB, .double 4643862126702624768, .double 4602678819172646912, .double FP.dconst1, .double 0, .double 0, .long 0, .int 0, .ref aTH, .ref aDE, .ref aKI, .ref aWE, .ref aNX, .ref aLI, .ref aLM, .ref aKE, .ref aTX, .int 0, .int 0, .int 0, .int 0, .ref aBW, .ref aTI, .ref aKV, .ref aDM, .int 0, .int 0])) := ⟨_, rfl⟩
    have hw : ww G dA A s L471 f670 H locs := by rw [ef670]; exact hw
    have h671 : f670 b = .inr (8, [.int 0, .int 1, .int 0, .ref aRA, .ref aRB, .double 4643862126702624768, .double 4602678819172646912, .double FP.dconst1, .double 0, .double 0, .long 0, .int 0, .ref aTH, .ref aDE, .ref aKI, .ref aWE, .ref aNX, .ref aLI, .ref aLM, .ref aKE, .ref aTX, .int 0, .int 0, .int 0, .int 0, .ref aBW, .ref aTI, .ref aKV, .ref aDM, .int 0, .int 0]) := by rw [ef670]; exact va_up_self _ _ _
    have h672 : f670 aRA = aD (dA 1) 4 ((fun _ => 0)) := by rw [ef670, va_up_ne _ _ (Ne.symm nb_aRA)]; exact h510
    have h673 : f670 aRB = aD (dA 1) 4 ((fun _ => 0)) := by rw [ef670, va_up_ne _ _ (Ne.symm nb_aRB)]; exact h511
    have h674 : f670 aTH = aI (dA 3) 8 ((fun _ => 0)) := by rw [ef670, va_up_ne _ _ (Ne.symm nb_aTH)]; exact h512
    have h675 : f670 aDE = aD (dA 1) 8 ((fun _ => 0)) := by rw [ef670, va_up_ne _ _ (Ne.symm nb_aDE)]; exact h513
    have h676 : f670 aKI = aI (dA 2) 8 ((fun _ => 0)) := by rw [ef670, va_up_ne _ _ (Ne.symm nb_aKI)]; exact h514
    have h677 : f670 aWE = aD (dA 1) 128 ((fun _ => 0)) := by rw [ef670, va_up_ne _ _ (Ne.symm nb_aWE)]; exact h515
    have h678 : f670 aNX = aD (dA 1) 16 ((fun _ => 0)) := by rw [ef670, va_up_ne _ _ (Ne.symm nb_aNX)]; exact h516
    have h679 : f670 aLI = aI (dA 3) 8 ((fun _ => 0)) := by rw [ef670, va_up_ne _ _ (Ne.symm nb_aLI)]; exact h517
    have h680 : f670 aLM = aD (dA 1) 8 ((fun _ => 0)) := by rw [ef670, va_up_ne _ _ (Ne.symm nb_aLM)]; exact h518
    have h681 : f670 aKE = aI (dA 2) 8 ((fun _ => 0)) := by rw [ef670, va_up_ne _ _ (Ne.symm nb_aKE)]; exact h519
    have h682 : f670 aTX = aI (dA 2) 200 ((fun _ => 0)) := by rw [ef670, va_up_ne _ _ (Ne.symm nb_aTX)]; exact h520
    have h683 : f670 aBW = aI (dA 3) 12 ((fun _ => 0)) := by rw [ef670, va_up_ne _ _ (Ne.symm nb_aBW)]; exact h521
    have h684 : f670 aTI = aI (dA 2) 12 ((fun _ => 0)) := by rw [ef670, va_up_ne _ _ (Ne.symm nb_aTI)]; exact h522
    have h685 : f670 aKV = aI (dA 2) 12 ((fun _ => 0)) := by rw [ef670, va_up_ne _ _ (Ne.symm nb_aKV)]; exact h523
    have h686 : f670 aDM = aI (dA 2) 12 ((fun _ => 0)) := by rw [ef670, va_up_ne _ _ (Ne.symm nb_aDM)]; exact h524
    have hr687 : ∀ z, z ∈ L → z ≠ b → f670 z = f z := fun z hz hb => (congrFun ef670 z).trans ((va_up_ne _ _ hb).trans (hr525 z hz hb))
    refine lv_aload_n hx hb dX7_init_168 rfl (lv_at hl 0 rfl) ?_
    refine lv_iload_n hx hb dX7_init_169 rfl (lv_at hl 2 rfl) ?_
    refine lv_iconst (v := 1) hx hb dX7_init_170 (by decide) ?_
    refine lv_icmp_ge (tgt := 178) hx hb dX7_init_171 (by decide) (fun c171 => ?_) (fun c171 => ?_)
    · have hv2 : ¬ v2 < 1 := Int32.not_lt.mpr c171
      refine lv_iload_n hx hb dX7_init_178 rfl (lv_at hl 2 rfl) ?_
      refine lv_bipush (v := 8) hx hb dX7_init_179 (by decide) ?_
      refine lv_icmp_le (tgt := 189) hx hb dX7_init_181 (by decide) (fun c181 => ?_) (fun c181 => ?_)
      · have eb := (clN_ok (hi := 8) (by decide) (by decide) v2).2.2.2.2 hv2 (Int32.not_lt.mpr c181)
        refine lv_iload_n hx hb dX7_init_189 rfl (lv_at hl 2 rfl) ?_
        refine wp_ (C := RX7) (T := TX7) (N := 31) hx hb hts hi7 tyX7 tyX7_ok nmX7 hown hw m473 h671 rfl 2 (by decide) (hts (.fieldLink RX7 75 "LayerMoistureModel" "boards" "I") (by decide +kernel)) (fun _ h9 => h9) rfl (ty := .int) (v := .int v2) (by decide +kernel) rfl rfl (Nat.le_of_ble_eq_true rfl) dX7_init_190 (fun H locs hw => ?_)
        obtain ⟨f688, ef688⟩ : ∃ z : Nat → va_E, z = va_up f670 b (.inr (8, [.int 0, .int 1, .int v2, .ref aRA, .ref aRB, .double 4643862126702624768, .double 4602678819172646912, .double FP.dconst1, .double 0, .double 0, .long 0, .int 0, .ref aTH, .ref aDE, .ref aKI, .ref aWE, .ref aNX, .ref aLI, .ref aLM, .ref aKE, .ref aTX, .int 0, .int 0, .int 0, .int 0, .ref aBW, .ref aTI, .ref aKV, .ref aDM, .int 0, .int 0])) := ⟨_, rfl⟩
        have hw : ww G dA A s L471 f688 H locs := by rw [ef688]; exact hw
        have h689 : f688 b = .inr (8, [.int 0, .int 1, .int v2, .ref aRA, .ref aRB, .double 4643862126702624768, .double 4602678819172646912, .double FP.dconst1, .double 0, .double 0, .long 0, .int 0, .ref aTH, .ref aDE, .ref aKI, .ref aWE, .ref aNX, .ref aLI, .ref aLM, .ref aKE, .ref aTX, .int 0, .int 0, .int 0, .int 0, .ref aBW, .ref aTI, .ref aKV, .ref aDM, .int 0, .int 0]) := by rw [ef688]; exact va_up_self _ _ _
        have h690 : f688 aRA = aD (dA 1) 4 ((fun _ => 0)) := by rw [ef688, va_up_ne _ _ (Ne.symm nb_aRA)]; exact h672
        have h691 : f688 aRB = aD (dA 1) 4 ((fun _ => 0)) := by rw [ef688, va_up_ne _ _ (Ne.symm nb_aRB)]; exact h673
        have h692 : f688 aTH = aI (dA 3) 8 ((fun _ => 0)) := by rw [ef688, va_up_ne _ _ (Ne.symm nb_aTH)]; exact h674
        have h693 : f688 aDE = aD (dA 1) 8 ((fun _ => 0)) := by rw [ef688, va_up_ne _ _ (Ne.symm nb_aDE)]; exact h675
        have h694 : f688 aKI = aI (dA 2) 8 ((fun _ => 0)) := by rw [ef688, va_up_ne _ _ (Ne.symm nb_aKI)]; exact h676
        have h695 : f688 aWE = aD (dA 1) 128 ((fun _ => 0)) := by rw [ef688, va_up_ne _ _ (Ne.symm nb_aWE)]; exact h677
        have h696 : f688 aNX = aD (dA 1) 16 ((fun _ => 0)) := by rw [ef688, va_up_ne _ _ (Ne.symm nb_aNX)]; exact h678
        have h697 : f688 aLI = aI (dA 3) 8 ((fun _ => 0)) := by rw [ef688, va_up_ne _ _ (Ne.symm nb_aLI)]; exact h679
        have h698 : f688 aLM = aD (dA 1) 8 ((fun _ => 0)) := by rw [ef688, va_up_ne _ _ (Ne.symm nb_aLM)]; exact h680
        have h699 : f688 aKE = aI (dA 2) 8 ((fun _ => 0)) := by rw [ef688, va_up_ne _ _ (Ne.symm nb_aKE)]; exact h681
        have h700 : f688 aTX = aI (dA 2) 200 ((fun _ => 0)) := by rw [ef688, va_up_ne _ _ (Ne.symm nb_aTX)]; exact h682
        have h701 : f688 aBW = aI (dA 3) 12 ((fun _ => 0)) := by rw [ef688, va_up_ne _ _ (Ne.symm nb_aBW)]; exact h683
        have h702 : f688 aTI = aI (dA 2) 12 ((fun _ => 0)) := by rw [ef688, va_up_ne _ _ (Ne.symm nb_aTI)]; exact h684
        have h703 : f688 aKV = aI (dA 2) 12 ((fun _ => 0)) := by rw [ef688, va_up_ne _ _ (Ne.symm nb_aKV)]; exact h685
        have h704 : f688 aDM = aI (dA 2) 12 ((fun _ => 0)) := by rw [ef688, va_up_ne _ _ (Ne.symm nb_aDM)]; exact h686
        have hr705 : ∀ z, z ∈ L → z ≠ b → f688 z = f z := fun z hz hb => (congrFun ef688 z).trans ((va_up_ne _ _ hb).trans (hr687 z hz hb))
        refine W.widen (k := 15) (n := 448) (Nat.le_of_ble_eq_true rfl) (Nat.le_of_ble_eq_true rfl) ?_
        exact hret _ _ _ _ L471 f688 hw ⟨aRA, aRB, aTH, aDE, aKI, aWE, aNX, aLI, aLM, aKE, aTX, aBW, aTI, aKV, aDM, (by rw [eL471, eL419, eL370, eL324, eL281, eL241, eL204, eL170, eL139, eL111, eL86, eL64, eL45, eL14, eL1]), by rw [en, eb]; exact h689, h690, h691, h692, h693, h694, h695, h696, h697, h698, h699, h700, h701, h702, h703, h704, hr705⟩ dX7_init_193
      · have eb := (clN_ok (hi := 8) (by decide) (by decide) v2).2.2.2.1 hv2 (Int32.not_le.mp c181)
        refine lv_bipush (v := 8) hx hb dX7_init_184 (by decide) ?_
        refine lv_goto (tgt := 190) hx hb dX7_init_186 (by decide) ?_
        refine wp_ (C := RX7) (T := TX7) (N := 31) hx hb hts hi7 tyX7 tyX7_ok nmX7 hown hw m473 h671 rfl 2 (by decide) (hts (.fieldLink RX7 75 "LayerMoistureModel" "boards" "I") (by decide +kernel)) (fun _ h9 => h9) rfl (ty := .int) (v := .int 8) (by decide +kernel) rfl rfl (Nat.le_of_ble_eq_true rfl) dX7_init_190 (fun H locs hw => ?_)
        obtain ⟨f706, ef706⟩ : ∃ z : Nat → va_E, z = va_up f670 b (.inr (8, [.int 0, .int 1, .int 8, .ref aRA, .ref aRB, .double 4643862126702624768, .double 4602678819172646912, .double FP.dconst1, .double 0, .double 0, .long 0, .int 0, .ref aTH, .ref aDE, .ref aKI, .ref aWE, .ref aNX, .ref aLI, .ref aLM, .ref aKE, .ref aTX, .int 0, .int 0, .int 0, .int 0, .ref aBW, .ref aTI, .ref aKV, .ref aDM, .int 0, .int 0])) := ⟨_, rfl⟩
        have hw : ww G dA A s L471 f706 H locs := by rw [ef706]; exact hw
        have h707 : f706 b = .inr (8, [.int 0, .int 1, .int 8, .ref aRA, .ref aRB, .double 4643862126702624768, .double 4602678819172646912, .double FP.dconst1, .double 0, .double 0, .long 0, .int 0, .ref aTH, .ref aDE, .ref aKI, .ref aWE, .ref aNX, .ref aLI, .ref aLM, .ref aKE, .ref aTX, .int 0, .int 0, .int 0, .int 0, .ref aBW, .ref aTI, .ref aKV, .ref aDM, .int 0, .int 0]) := by rw [ef706]; exact va_up_self _ _ _
        have h708 : f706 aRA = aD (dA 1) 4 ((fun _ => 0)) := by rw [ef706, va_up_ne _ _ (Ne.symm nb_aRA)]; exact h672
        have h709 : f706 aRB = aD (dA 1) 4 ((fun _ => 0)) := by rw [ef706, va_up_ne _ _ (Ne.symm nb_aRB)]; exact h673
        have h710 : f706 aTH = aI (dA 3) 8 ((fun _ => 0)) := by rw [ef706, va_up_ne _ _ (Ne.symm nb_aTH)]; exact h674
        have h711 : f706 aDE = aD (dA 1) 8 ((fun _ => 0)) := by rw [ef706, va_up_ne _ _ (Ne.symm nb_aDE)]; exact h675
        have h712 : f706 aKI = aI (dA 2) 8 ((fun _ => 0)) := by rw [ef706, va_up_ne _ _ (Ne.symm nb_aKI)]; exact h676
        have h713 : f706 aWE = aD (dA 1) 128 ((fun _ => 0)) := by rw [ef706, va_up_ne _ _ (Ne.symm nb_aWE)]; exact h677
        have h714 : f706 aNX = aD (dA 1) 16 ((fun _ => 0)) := by rw [ef706, va_up_ne _ _ (Ne.symm nb_aNX)]; exact h678
        have h715 : f706 aLI = aI (dA 3) 8 ((fun _ => 0)) := by rw [ef706, va_up_ne _ _ (Ne.symm nb_aLI)]; exact h679
        have h716 : f706 aLM = aD (dA 1) 8 ((fun _ => 0)) := by rw [ef706, va_up_ne _ _ (Ne.symm nb_aLM)]; exact h680
        have h717 : f706 aKE = aI (dA 2) 8 ((fun _ => 0)) := by rw [ef706, va_up_ne _ _ (Ne.symm nb_aKE)]; exact h681
        have h718 : f706 aTX = aI (dA 2) 200 ((fun _ => 0)) := by rw [ef706, va_up_ne _ _ (Ne.symm nb_aTX)]; exact h682
        have h719 : f706 aBW = aI (dA 3) 12 ((fun _ => 0)) := by rw [ef706, va_up_ne _ _ (Ne.symm nb_aBW)]; exact h683
        have h720 : f706 aTI = aI (dA 2) 12 ((fun _ => 0)) := by rw [ef706, va_up_ne _ _ (Ne.symm nb_aTI)]; exact h684
        have h721 : f706 aKV = aI (dA 2) 12 ((fun _ => 0)) := by rw [ef706, va_up_ne _ _ (Ne.symm nb_aKV)]; exact h685
        have h722 : f706 aDM = aI (dA 2) 12 ((fun _ => 0)) := by rw [ef706, va_up_ne _ _ (Ne.symm nb_aDM)]; exact h686
        have hr723 : ∀ z, z ∈ L → z ≠ b → f706 z = f z := fun z hz hb => (congrFun ef706 z).trans ((va_up_ne _ _ hb).trans (hr687 z hz hb))
        refine W.widen (k := 15) (n := 448) (Nat.le_of_ble_eq_true rfl) (Nat.le_of_ble_eq_true rfl) ?_
        exact hret _ _ _ _ L471 f706 hw ⟨aRA, aRB, aTH, aDE, aKI, aWE, aNX, aLI, aLM, aKE, aTX, aBW, aTI, aKV, aDM, (by rw [eL471, eL419, eL370, eL324, eL281, eL241, eL204, eL170, eL139, eL111, eL86, eL64, eL45, eL14, eL1]), by rw [en, eb]; exact h707, h708, h709, h710, h711, h712, h713, h714, h715, h716, h717, h718, h719, h720, h721, h722, hr723⟩ dX7_init_193
    · have hv2 : v2 < 1 := Int32.not_le.mp c171
      have eb := (clN_ok (hi := 8) (by decide) (by decide) v2).2.2.1 hv2
      refine lv_iconst (v := 1) hx hb dX7_init_174 (by decide) ?_
      refine lv_goto (tgt := 190) hx hb dX7_init_175 (by decide) ?_
      refine wp_ (C := RX7) (T := TX7) (N := 31) hx hb hts hi7 tyX7 tyX7_ok nmX7 hown hw m473 h671 rfl 2 (by decide) (hts (.fieldLink RX7 75 "LayerMoistureModel" "boards" "I") (by decide +kernel)) (fun _ h9 => h9) rfl (ty := .int) (v := .int 1) (by decide +kernel) rfl rfl (Nat.le_of_ble_eq_true rfl) dX7_init_190 (fun H locs hw => ?_)
      obtain ⟨f724, ef724⟩ : ∃ z : Nat → va_E, z = va_up f670 b (.inr (8, [.int 0, .int 1, .int 1, .ref aRA, .ref aRB, .double 4643862126702624768, .double 4602678819172646912, .double FP.dconst1, .double 0, .double 0, .long 0, .int 0, .ref aTH, .ref aDE, .ref aKI, .ref aWE, .ref aNX, .ref aLI, .ref aLM, .ref aKE, .ref aTX, .int 0, .int 0, .int 0, .int 0, .ref aBW, .ref aTI, .ref aKV, .ref aDM, .int 0, .int 0])) := ⟨_, rfl⟩
      have hw : ww G dA A s L471 f724 H locs := by rw [ef724]; exact hw
      have h725 : f724 b = .inr (8, [.int 0, .int 1, .int 1, .ref aRA, .ref aRB, .double 4643862126702624768, .double 4602678819172646912, .double FP.dconst1, .double 0, .double 0, .long 0, .int 0, .ref aTH, .ref aDE, .ref aKI, .ref aWE, .ref aNX, .ref aLI, .ref aLM, .ref aKE, .ref aTX, .int 0, .int 0, .int 0, .int 0, .ref aBW, .ref aTI, .ref aKV, .ref aDM, .int 0, .int 0]) := by rw [ef724]; exact va_up_self _ _ _
      have h726 : f724 aRA = aD (dA 1) 4 ((fun _ => 0)) := by rw [ef724, va_up_ne _ _ (Ne.symm nb_aRA)]; exact h672
      have h727 : f724 aRB = aD (dA 1) 4 ((fun _ => 0)) := by rw [ef724, va_up_ne _ _ (Ne.symm nb_aRB)]; exact h673
      have h728 : f724 aTH = aI (dA 3) 8 ((fun _ => 0)) := by rw [ef724, va_up_ne _ _ (Ne.symm nb_aTH)]; exact h674
      have h729 : f724 aDE = aD (dA 1) 8 ((fun _ => 0)) := by rw [ef724, va_up_ne _ _ (Ne.symm nb_aDE)]; exact h675
      have h730 : f724 aKI = aI (dA 2) 8 ((fun _ => 0)) := by rw [ef724, va_up_ne _ _ (Ne.symm nb_aKI)]; exact h676
      have h731 : f724 aWE = aD (dA 1) 128 ((fun _ => 0)) := by rw [ef724, va_up_ne _ _ (Ne.symm nb_aWE)]; exact h677
      have h732 : f724 aNX = aD (dA 1) 16 ((fun _ => 0)) := by rw [ef724, va_up_ne _ _ (Ne.symm nb_aNX)]; exact h678
      have h733 : f724 aLI = aI (dA 3) 8 ((fun _ => 0)) := by rw [ef724, va_up_ne _ _ (Ne.symm nb_aLI)]; exact h679
      have h734 : f724 aLM = aD (dA 1) 8 ((fun _ => 0)) := by rw [ef724, va_up_ne _ _ (Ne.symm nb_aLM)]; exact h680
      have h735 : f724 aKE = aI (dA 2) 8 ((fun _ => 0)) := by rw [ef724, va_up_ne _ _ (Ne.symm nb_aKE)]; exact h681
      have h736 : f724 aTX = aI (dA 2) 200 ((fun _ => 0)) := by rw [ef724, va_up_ne _ _ (Ne.symm nb_aTX)]; exact h682
      have h737 : f724 aBW = aI (dA 3) 12 ((fun _ => 0)) := by rw [ef724, va_up_ne _ _ (Ne.symm nb_aBW)]; exact h683
      have h738 : f724 aTI = aI (dA 2) 12 ((fun _ => 0)) := by rw [ef724, va_up_ne _ _ (Ne.symm nb_aTI)]; exact h684
      have h739 : f724 aKV = aI (dA 2) 12 ((fun _ => 0)) := by rw [ef724, va_up_ne _ _ (Ne.symm nb_aKV)]; exact h685
      have h740 : f724 aDM = aI (dA 2) 12 ((fun _ => 0)) := by rw [ef724, va_up_ne _ _ (Ne.symm nb_aDM)]; exact h686
      have hr741 : ∀ z, z ∈ L → z ≠ b → f724 z = f z := fun z hz hb => (congrFun ef724 z).trans ((va_up_ne _ _ hb).trans (hr687 z hz hb))
      refine W.widen (k := 15) (n := 448) (Nat.le_of_ble_eq_true rfl) (Nat.le_of_ble_eq_true rfl) ?_
      exact hret _ _ _ _ L471 f724 hw ⟨aRA, aRB, aTH, aDE, aKI, aWE, aNX, aLI, aLM, aKE, aTX, aBW, aTI, aKV, aDM, (by rw [eL471, eL419, eL370, eL324, eL281, eL241, eL204, eL170, eL139, eL111, eL86, eL64, eL45, eL14, eL1]), by rw [en, eb]; exact h725, h726, h727, h728, h729, h730, h731, h732, h733, h734, h735, h736, h737, h738, h739, h740, hr741⟩ dX7_init_193
