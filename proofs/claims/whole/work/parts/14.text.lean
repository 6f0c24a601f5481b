set_option maxHeartbeats 4000000 in
set_option maxRecDepth 100000 in
theorem c_X5_append (l : Launch) (G : va_G) (dA : Nat → ClassId) (L : List Nat) (f : Nat → va_E) (t u tl tp : Nat) (tx : Nat → Int32) (x : Int32) (hLt : t ∈ L) (hft : f t = .inr (6, [.ref u, .int (nI tl), .int (nI tp)])) (hLu : u ∈ L) (hfu : f u = aI (dA 0) 200 tx) (htl : tl ≤ 200) (htu : t ≠ u) (hut : u ≠ t)  : mI l yX5_append wsX5_append ({ frames := 0, cells := 0, slots := 0, locals := 0 }) G dA [.ref t, .int x] L f (fun r f2 => r = b2i (sp_app tl x) ∧ f2 = if (sp_app tl x) = true then va_up (va_up f u (aI (dA 0) 200 (upd tx tl x))) t (.inr (6, [.ref u, .int (nI (tl + 1)), .int (nI tp)])) else f) := by
  refine mI_of (cc := cX5_append) (maxL := 2) (by decide) rfl (Nat.le_of_ble_eq_true rfl) ?_
  intro p e s m below meth c A ls Q hx hb hml hown hts hlocks hA hin0 hw hl hret
  have hown : s.vm.findClass RX5 = some m.cls := hown
  have hl : lv_has ls 2 [(0, .ref t), (1, .int x)] := hl
  have hi5 : ∀ w ∈ u_ws RX5 TX5 3, w ∈ wsX5_append := by decide +kernel
  refine lv_aload_n hx hb dX5_append_0 rfl (lv_at hl 0 rfl) ?_
  refine wg (C := RX5) (T := TX5) (N := 3) hx hb hts hi5 hown hw hLt hft rfl 1 (by decide) (hts (.fieldLink RX5 15 "LayerMoisture$Text" "length" "I") (by decide +kernel)) (fun _ h9 => h9) (v := .int (nI tl)) rfl dX5_append_1 ?_
  refine lv_aload_n hx hb dX5_append_4 rfl (lv_at hl 0 rfl) ?_
  refine wg (C := RX5) (T := TX5) (N := 3) hx hb hts hi5 hown hw hLt hft rfl 0 (by decide) (hts (.fieldLink RX5 11 "LayerMoisture$Text" "units" "[C") (by decide +kernel)) (fun _ h9 => h9) (v := .ref u) rfl dX5_append_5 ?_
  refine wlen hx hb 0 hw hLu hfu rfl dX5_append_8 ?_
  refine lv_icmp_ge (tgt := 24) hx hb dX5_append_9 (by decide) (fun c9 => ?_) (fun c9 => ?_)
  · have e9 : sp_app tl x = false := by simp [sp_app, Nat.not_lt.mpr ((nI_leI (by decide) (by omega)).mp (show nI 200 ≤ nI tl from c9))]
    refine lv_iconst (v := 0) hx hb dX5_append_24 (by decide) ?_
    exact hret _ _ _ _ _ _ hw ⟨by rw [e9]; rfl, by rw [e9]; rfl⟩ (by decide) dX5_append_25
  · have h200 : tl < 200 := Nat.lt_of_not_le fun q => c9 (show nI 200 ≤ nI tl from (nI_leI (by decide) (by omega)).mpr q)
    refine lv_iload_n hx hb dX5_append_12 rfl (lv_at hl 1 rfl) ?_
    refine lv_bipush (v := 32) hx hb dX5_append_13 (by decide) ?_
    refine lv_icmp_lt (tgt := 24) hx hb dX5_append_15 (by decide) (fun c15 => ?_) (fun c15 => ?_)
    · have e9 : sp_app tl x = false := by simp [sp_app, c15]
      refine lv_iconst (v := 0) hx hb dX5_append_24 (by decide) ?_
      exact hret _ _ _ _ _ _ hw ⟨by rw [e9]; rfl, by rw [e9]; rfl⟩ (by decide) dX5_append_25
    · refine lv_iload_n hx hb dX5_append_18 rfl (lv_at hl 1 rfl) ?_
      refine lv_bipush (v := 126) hx hb dX5_append_19 (by decide) ?_
      refine lv_icmp_le (tgt := 26) hx hb dX5_append_21 (by decide) (fun c21 => ?_) (fun c21 => ?_)
      · have e9 : sp_app tl x = true := by simp [sp_app, h200, c15, Int32.not_lt.mpr c21]
        refine lv_aload_n hx hb dX5_append_26 rfl (lv_at hl 0 rfl) ?_
        refine wg (C := RX5) (T := TX5) (N := 3) hx hb hts hi5 hown hw hLt hft rfl 0 (by decide) (hts (.fieldLink RX5 11 "LayerMoisture$Text" "units" "[C") (by decide +kernel)) (fun _ h9 => h9) (v := .ref u) rfl dX5_append_27 ?_
        refine lv_aload_n hx hb dX5_append_30 rfl (lv_at hl 0 rfl) ?_
        refine wg (C := RX5) (T := TX5) (N := 3) hx hb hts hi5 hown hw hLt hft rfl 1 (by decide) (hts (.fieldLink RX5 15 "LayerMoisture$Text" "length" "I") (by decide +kernel)) (fun _ h9 => h9) (v := .int (nI tl)) rfl dX5_append_31 ?_
        refine lv_iload_n hx hb dX5_append_34 rfl (lv_at hl 1 rfl) ?_
        refine lv_i2c (v := (x.toUInt32 % 65536).toInt32) hx hb dX5_append_35 rfl ?_
        refine wst_c hx hb hw hLu hfu tl h200 (by decide) rfl dX5_append_36 (fun H locs hw => ?_)
        obtain ⟨f1, ef1⟩ : ∃ z : Nat → va_E, z = va_up f u (aI (dA 0) 200 (upd tx tl (vp_nar .char ((x.toUInt32 % 65536).toInt32)))) := ⟨_, rfl⟩
        have hw : ww G dA A s L f1 H locs := by rw [ef1]; exact hw
        have h2 : f1 t = .inr (6, [.ref u, .int (nI tl), .int (nI tp)]) := by rw [ef1, va_up_ne _ _ htu]; exact hft
        have h3 : f1 u = aI (dA 0) 200 (upd tx tl (vp_nar .char ((x.toUInt32 % 65536).toInt32))) := by rw [ef1]; exact va_up_self _ _ _
        refine lv_aload_n hx hb dX5_append_37 rfl (lv_at hl 0 rfl) ?_
        refine lv_dup hx hb dX5_append_38 rfl ?_
        refine wg (C := RX5) (T := TX5) (N := 3) hx hb hts hi5 hown hw hLt h2 rfl 1 (by decide) (hts (.fieldLink RX5 15 "LayerMoisture$Text" "length" "I") (by decide +kernel)) (fun _ h9 => h9) (v := .int (nI tl)) rfl dX5_append_39 ?_
        refine lv_iconst (v := 1) hx hb dX5_append_42 (by decide) ?_
        refine lv_iadd hx hb dX5_append_43 ?_
        rw [show (nI tl) + 1 = nI (tl + 1) from nI_1 tl]
        refine wp_ (C := RX5) (T := TX5) (N := 3) hx hb hts hi5 tyX5 tyX5_ok nmX5 hown hw hLt h2 rfl 1 (by decide) (hts (.fieldLink RX5 15 "LayerMoisture$Text" "length" "I") (by decide +kernel)) (fun _ h9 => h9) rfl (ty := .int) (v := .int (nI (tl + 1))) (by decide +kernel) rfl rfl (Nat.le_of_ble_eq_true rfl) dX5_append_44 (fun H locs hw => ?_)
        obtain ⟨f4, ef4⟩ : ∃ z : Nat → va_E, z = va_up f1 t (.inr (6, [.ref u, .int (nI (tl + 1)), .int (nI tp)])) := ⟨_, rfl⟩
        have hw : ww G dA A s L f4 H locs := by rw [ef4]; exact hw
        have h5 : f4 t = .inr (6, [.ref u, .int (nI (tl + 1)), .int (nI tp)]) := by rw [ef4]; exact va_up_self _ _ _
        have h6 : f4 u = aI (dA 0) 200 ((upd tx tl (vp_nar .char ((x.toUInt32 % 65536).toInt32)))) := by rw [ef4, va_up_ne _ _ hut]; exact h3
        refine lv_iconst (v := 1) hx hb dX5_append_47 (by decide) ?_
        exact hret _ _ _ _ _ _ hw ⟨by rw [e9]; rfl, by rw [e9, if_pos rfl, ef4, ef1, (i2c_small c15 c21).1]⟩ (by decide) dX5_append_48
      · have e9 : sp_app tl x = false := by simp [sp_app, Int32.not_le.mp c21]
        refine lv_iconst (v := 0) hx hb dX5_append_24 (by decide) ?_
        exact hret _ _ _ _ _ _ hw ⟨by rw [e9]; rfl, by rw [e9]; rfl⟩ (by decide) dX5_append_25

set_option maxHeartbeats 4000000 in
set_option maxRecDepth 100000 in
theorem c_X5_empty (l : Launch) (G : va_G) (dA : Nat → ClassId) (L : List Nat) (f : Nat → va_E) (t u tl tp : Nat) (tx : Nat → Int32) (hLt : t ∈ L) (hft : f t = .inr (6, [.ref u, .int (nI tl), .int (nI tp)]))   : mV l yX5_empty wsX5_empty ({ frames := 0, cells := 0, slots := 0, locals := 0 }) G dA [.ref t] L f (fun f2 => f2 = va_up f t (.inr (6, [.ref u, .int 0, .int 0]))) := by
  refine mV_of (cc := cX5_empty) (maxL := 1) (by decide) rfl (Nat.le_of_ble_eq_true rfl) ?_
  intro p e s m below meth c A ls Q hx hb hml hown hts hlocks hA hin0 hw hl hret
  have hown : s.vm.findClass RX5 = some m.cls := hown
  have hl : lv_has ls 1 [(0, .ref t)] := hl
  have hi5 : ∀ w ∈ u_ws RX5 TX5 3, w ∈ wsX5_empty := by decide +kernel
  refine lv_aload_n hx hb dX5_empty_0 rfl (lv_at hl 0 rfl) ?_
  refine lv_iconst (v := 0) hx hb dX5_empty_1 (by decide) ?_
  refine wp_ (C := RX5) (T := TX5) (N := 3) hx hb hts hi5 tyX5 tyX5_ok nmX5 hown hw hLt hft rfl 1 (by decide) (hts (.fieldLink RX5 15 "LayerMoisture$Text" "length" "I") (by decide +kernel)) (fun _ h9 => h9) rfl (ty := .int) (v := .int 0) (by decide +kernel) rfl rfl (Nat.le_of_ble_eq_true rfl) dX5_empty_2 (fun H locs hw => ?_)
  obtain ⟨f1, ef1⟩ : ∃ z : Nat → va_E, z = va_up f t (.inr (6, [.ref u, .int 0, .int (nI tp)])) := ⟨_, rfl⟩
  have hw : ww G dA A s L f1 H locs := by rw [ef1]; exact hw
  have h2 : f1 t = .inr (6, [.ref u, .int 0, .int (nI tp)]) := by rw [ef1]; exact va_up_self _ _ _
  refine lv_aload_n hx hb dX5_empty_5 rfl (lv_at hl 0 rfl) ?_
  refine lv_iconst (v := 0) hx hb dX5_empty_6 (by decide) ?_
  refine wp_ (C := RX5) (T := TX5) (N := 3) hx hb hts hi5 tyX5 tyX5_ok nmX5 hown hw hLt h2 rfl 2 (by decide) (hts (.fieldLink RX5 19 "LayerMoisture$Text" "place" "I") (by decide +kernel)) (fun _ h9 => h9) rfl (ty := .int) (v := .int 0) (by decide +kernel) rfl rfl (Nat.le_of_ble_eq_true rfl) dX5_empty_7 (fun H locs hw => ?_)
  obtain ⟨f3, ef3⟩ : ∃ z : Nat → va_E, z = va_up f1 t (.inr (6, [.ref u, .int 0, .int 0])) := ⟨_, rfl⟩
  have hw : ww G dA A s L f3 H locs := by rw [ef3]; exact hw
  have h4 : f3 t = .inr (6, [.ref u, .int 0, .int 0]) := by rw [ef3]; exact va_up_self _ _ _
  exact hret _ _ _ _ _ hw (by rw [ef3, ef1]; funext z; by_cases h1 : z = t <;> simp [va_up, h1]) dX5_empty_10

set_option maxHeartbeats 4000000 in
set_option maxRecDepth 100000 in
theorem c_X5_isAtEnd (l : Launch) (G : va_G) (dA : Nat → ClassId) (L : List Nat) (f : Nat → va_E) (t u tl tp : Nat) (tx : Nat → Int32) (hLt : t ∈ L) (hft : f t = .inr (6, [.ref u, .int (nI tl), .int (nI tp)])) (htl : tl ≤ 200) (htp : tp ≤ 200)  : mI l yX5_isAtEnd wsX5_isAtEnd ({ frames := 0, cells := 0, slots := 0, locals := 0 }) G dA [.ref t] L f (fun r f2 => r = b2i (decide (tl ≤ tp)) ∧ f2 = f) := by
  refine mI_of (cc := cX5_isAtEnd) (maxL := 1) (by decide) rfl (Nat.le_of_ble_eq_true rfl) ?_
  intro p e s m below meth c A ls Q hx hb hml hown hts hlocks hA hin0 hw hl hret
  have hown : s.vm.findClass RX5 = some m.cls := hown
  have hl : lv_has ls 1 [(0, .ref t)] := hl
  have hi5 : ∀ w ∈ u_ws RX5 TX5 3, w ∈ wsX5_isAtEnd := by decide +kernel
  refine lv_aload_n hx hb dX5_isAtEnd_0 rfl (lv_at hl 0 rfl) ?_
  refine wg (C := RX5) (T := TX5) (N := 3) hx hb hts hi5 hown hw hLt hft rfl 2 (by decide) (hts (.fieldLink RX5 19 "LayerMoisture$Text" "place" "I") (by decide +kernel)) (fun _ h9 => h9) (v := .int (nI tp)) rfl dX5_isAtEnd_1 ?_
  refine lv_aload_n hx hb dX5_isAtEnd_4 rfl (lv_at hl 0 rfl) ?_
  refine wg (C := RX5) (T := TX5) (N := 3) hx hb hts hi5 hown hw hLt hft rfl 1 (by decide) (hts (.fieldLink RX5 15 "LayerMoisture$Text" "length" "I") (by decide +kernel)) (fun _ h9 => h9) (v := .int (nI tl)) rfl dX5_isAtEnd_5 ?_
  refine lv_icmp_lt (tgt := 15) hx hb dX5_isAtEnd_8 (by decide) (fun c8 => ?_) (fun c8 => ?_)
  · have e9 : decide (tl ≤ tp) = false := decide_eq_false (Nat.not_le.mpr ((nI_ltI (by omega) (by omega)).mp c8))
    refine lv_iconst (v := 0) hx hb dX5_isAtEnd_15 (by decide) ?_
    exact hret _ _ _ _ _ _ hw ⟨by rw [e9]; rfl, rfl⟩ (by decide) dX5_isAtEnd_16
  · have e9 : decide (tl ≤ tp) = true := decide_eq_true (Nat.le_of_not_lt fun q => c8 ((nI_ltI (by omega) (by omega)).mpr q))
    refine lv_iconst (v := 1) hx hb dX5_isAtEnd_11 (by decide) ?_
    refine lv_goto (tgt := 16) hx hb dX5_isAtEnd_12 (by decide) ?_
    exact hret _ _ _ _ _ _ hw ⟨by rw [e9]; rfl, rfl⟩ (by decide) dX5_isAtEnd_16

set_option maxHeartbeats 4000000 in
set_option maxRecDepth 100000 in
theorem c_X5_next (l : Launch) (G : va_G) (dA : Nat → ClassId) (L : List Nat) (f : Nat → va_E) (t u tl tp : Nat) (tx : Nat → Int32) (hLt : t ∈ L) (hft : f t = .inr (6, [.ref u, .int (nI tl), .int (nI tp)])) (hLu : u ∈ L) (hfu : f u = aI (dA 0) 200 tx) (htl : tl ≤ 200) (htp : tp ≤ 200) (hok : TxOk tx tl)  : mI l yX5_next wsX5_next ({ frames := 1, cells := 0, slots := 0, locals := 20 }) G dA [.ref t] L f (fun r f2 => r = nxt tx tl tp ∧ f2 = f) := by
  refine mI_of (cc := cX5_next) (maxL := 1) (by decide) rfl (Nat.le_of_ble_eq_true rfl) ?_
  intro p e s m below meth c A ls Q hx hb hml hown hts hlocks hA hin0 hw hl hret
  have hown : s.vm.findClass RX5 = some m.cls := hown
  have hl : lv_has ls 1 [(0, .ref t)] := hl
  have hi5 : ∀ w ∈ u_ws RX5 TX5 3, w ∈ wsX5_next := by decide +kernel
  refine lv_aload_n hx hb dX5_next_0 rfl (lv_at hl 0 rfl) ?_
  refine kV_I (C := RX5) (T := TX5) (N := 3) (As := []) (rest := []) ⟨hx, hb, hml, hown, hts⟩ (c_X5_isAtEnd l G dA L f t u tl tp tx hLt hft htl htp) (cwV 0 hts gX5_next_X5_isAtEnd rfl rfl rfl (by decide +kernel) ⟨Nat.le_of_ble_eq_true rfl, Nat.le_of_ble_eq_true rfl⟩) hw hA hLt hft rfl rfl hl.1 rfl (Nat.le_of_ble_eq_true rfl) dX5_next_1 ⟨Nat.zero_le _, Nat.zero_le _⟩ (fun r1 f2 H locs hp hw => ?_)
  obtain ⟨e1, e2⟩ := hp
  rw [e2] at hw
  rw [e1]
  refine lv_if_eq (tgt := 11) hx hb dX5_next_4 (by decide) (fun c4 => ?_) (fun c4 => ?_)
  · have h9 : tp < tl := Nat.lt_of_not_le fun q => by rw [decide_eq_true q] at c4; exact absurd c4 (by decide)
    refine lv_aload_n hx hb dX5_next_11 rfl (lv_at hl 0 rfl) ?_
    refine wg (C := RX5) (T := TX5) (N := 3) hx hb hts hi5 hown hw hLt hft rfl 0 (by decide) (hts (.fieldLink RX5 11 "LayerMoisture$Text" "units" "[C") (by decide +kernel)) (fun _ h9 => h9) (v := .ref u) rfl dX5_next_12 ?_
    refine lv_aload_n hx hb dX5_next_15 rfl (lv_at hl 0 rfl) ?_
    refine wg (C := RX5) (T := TX5) (N := 3) hx hb hts hi5 hown hw hLt hft rfl 2 (by decide) (hts (.fieldLink RX5 19 "LayerMoisture$Text" "place" "I") (by decide +kernel)) (fun _ h9 => h9) (v := .int (nI tp)) rfl dX5_next_16 ?_
    refine wld_c hx hb hw hLu hfu tp (by omega) (by decide) rfl dX5_next_19 ?_
    exact hret _ _ _ _ _ _ hw ⟨by rw [nxt, if_pos h9], rfl⟩ (by have h7 := nxt_char (p := tp) hok; rw [nxt, if_pos h9] at h7; exact h7) dX5_next_20
  · have h9 : ¬ tp < tl := fun q => by rw [decide_eq_false (Nat.not_le.mpr q)] at c4; exact c4 rfl
    refine lv_iconst (v := 0) hx hb dX5_next_7 (by decide) ?_
    refine lv_goto (tgt := 20) hx hb dX5_next_8 (by decide) ?_
    exact hret _ _ _ _ _ _ hw ⟨by rw [nxt, if_neg h9], rfl⟩ rfl dX5_next_20

set_option maxHeartbeats 4000000 in
set_option maxRecDepth 100000 in
theorem c_X5_isAtDigit (l : Launch) (G : va_G) (dA : Nat → ClassId) (L : List Nat) (f : Nat → va_E) (t u tl tp : Nat) (tx : Nat → Int32) (hLt : t ∈ L) (hft : f t = .inr (6, [.ref u, .int (nI tl), .int (nI tp)])) (hLu : u ∈ L) (hfu : f u = aI (dA 0) 200 tx) (htl : tl ≤ 200) (htp : tp ≤ 200) (hok : TxOk tx tl)  : mI l yX5_isAtDigit wsX5_isAtDigit ({ frames := 2, cells := 0, slots := 0, locals := 40 }) G dA [.ref t] L f (fun r f2 => r = b2i (isD tx tl tp) ∧ f2 = f) := by
  refine mI_of (cc := cX5_isAtDigit) (maxL := 1) (by decide) rfl (Nat.le_of_ble_eq_true rfl) ?_
  intro p e s m below meth c A ls Q hx hb hml hown hts hlocks hA hin0 hw hl hret
  have hown : s.vm.findClass RX5 = some m.cls := hown
  have hl : lv_has ls 1 [(0, .ref t)] := hl
  refine lv_aload_n hx hb dX5_isAtDigit_0 rfl (lv_at hl 0 rfl) ?_
  refine kV_I (C := RX5) (T := TX5) (N := 3) (As := []) (rest := []) ⟨hx, hb, hml, hown, hts⟩ (c_X5_next l G dA L f t u tl tp tx hLt hft hLu hfu htl htp hok) (cwV 0 hts gX5_isAtDigit_X5_next rfl rfl rfl (by decide +kernel) ⟨Nat.le_of_ble_eq_true rfl, Nat.le_of_ble_eq_true rfl⟩) hw hA hLt hft rfl rfl hl.1 rfl (Nat.le_of_ble_eq_true rfl) dX5_isAtDigit_1 ⟨Nat.zero_le _, Nat.zero_le _⟩ (fun r1 f2 H locs hp hw => ?_)
  obtain ⟨e1, e2⟩ := hp
  rw [e2] at hw
  rw [e1]
  refine lv_bipush (v := 48) hx hb dX5_isAtDigit_4 (by decide) ?_
  refine lv_icmp_lt (tgt := 22) hx hb dX5_isAtDigit_6 (by decide) (fun c6 => ?_) (fun c6 => ?_)
  · have e9 : isD tx tl tp = false := by simp [isD, c6]
    refine lv_iconst (v := 0) hx hb dX5_isAtDigit_22 (by decide) ?_
    exact hret _ _ _ _ _ _ hw ⟨by rw [e9]; rfl, rfl⟩ (by decide) dX5_isAtDigit_23
  · refine lv_aload_n hx hb dX5_isAtDigit_9 rfl (lv_at hl 0 rfl) ?_
    refine kV_I (C := RX5) (T := TX5) (N := 3) (As := []) (rest := []) ⟨hx, hb, hml, hown, hts⟩ (c_X5_next l G dA L f t u tl tp tx hLt hft hLu hfu htl htp hok) (cwV 0 hts gX5_isAtDigit_X5_next rfl rfl rfl (by decide +kernel) ⟨Nat.le_of_ble_eq_true rfl, Nat.le_of_ble_eq_true rfl⟩) hw hA hLt hft rfl rfl hl.1 rfl (Nat.le_of_ble_eq_true rfl) dX5_isAtDigit_10 ⟨Nat.zero_le _, Nat.zero_le _⟩ (fun r3 f4 H locs hp hw => ?_)
    obtain ⟨e1, e2⟩ := hp
    rw [e2] at hw
    rw [e1]
    refine lv_bipush (v := 57) hx hb dX5_isAtDigit_13 (by decide) ?_
    refine lv_icmp_gt (tgt := 22) hx hb dX5_isAtDigit_15 (by decide) (fun c15 => ?_) (fun c15 => ?_)
    · have e9 : isD tx tl tp = false := by simp [isD, c15]
      refine lv_iconst (v := 0) hx hb dX5_isAtDigit_22 (by decide) ?_
      exact hret _ _ _ _ _ _ hw ⟨by rw [e9]; rfl, rfl⟩ (by decide) dX5_isAtDigit_23
    · have e9 : isD tx tl tp = true := by simp [isD, Int32.not_lt.mp c6, Int32.not_lt.mp c15]
      refine lv_iconst (v := 1) hx hb dX5_isAtDigit_18 (by decide) ?_
      refine lv_goto (tgt := 23) hx hb dX5_isAtDigit_19 (by decide) ?_
      exact hret _ _ _ _ _ _ hw ⟨by rw [e9]; rfl, rfl⟩ (by decide) dX5_isAtDigit_23

set_option maxHeartbeats 4000000 in
set_option maxRecDepth 100000 in
theorem c_X5_pass (l : Launch) (G : va_G) (dA : Nat → ClassId) (L : List Nat) (f : Nat → va_E) (t u tl tp : Nat) (tx : Nat → Int32) (x : Int32) (hLt : t ∈ L) (hft : f t = .inr (6, [.ref u, .int (nI tl), .int (nI tp)])) (hLu : u ∈ L) (hfu : f u = aI (dA 0) 200 tx) (htl : tl ≤ 200) (htp : tp ≤ 200) (hok : TxOk tx tl)  : mI l yX5_pass wsX5_pass ({ frames := 2, cells := 0, slots := 0, locals := 40 }) G dA [.ref t, .int x] L f (fun r f2 => r = b2i (decide (nxt tx tl tp = x)) ∧ f2 = va_up f t (.inr (6, [.ref u, .int (nI tl), .int (nI (if nxt tx tl tp = x then tp + 1 else tp))]))) := by
  refine mI_of (cc := cX5_pass) (maxL := 2) (by decide) rfl (Nat.le_of_ble_eq_true rfl) ?_
  intro p e s m below meth c A ls Q hx hb hml hown hts hlocks hA hin0 hw hl hret
  have hown : s.vm.findClass RX5 = some m.cls := hown
  have hl : lv_has ls 2 [(0, .ref t), (1, .int x)] := hl
  have hi5 : ∀ w ∈ u_ws RX5 TX5 3, w ∈ wsX5_pass := by decide +kernel
  refine lv_aload_n hx hb dX5_pass_0 rfl (lv_at hl 0 rfl) ?_
  refine kV_I (C := RX5) (T := TX5) (N := 3) (As := []) (rest := []) ⟨hx, hb, hml, hown, hts⟩ (c_X5_next l G dA L f t u tl tp tx hLt hft hLu hfu htl htp hok) (cwV 0 hts gX5_pass_X5_next rfl rfl rfl (by decide +kernel) ⟨Nat.le_of_ble_eq_true rfl, Nat.le_of_ble_eq_true rfl⟩) hw hA hLt hft rfl rfl hl.1 rfl (Nat.le_of_ble_eq_true rfl) dX5_pass_1 ⟨Nat.zero_le _, Nat.zero_le _⟩ (fun r1 f2 H locs hp hw => ?_)
  obtain ⟨e1, e2⟩ := hp
  rw [e2] at hw
  rw [e1]
  refine lv_iload_n hx hb dX5_pass_4 rfl (lv_at hl 1 rfl) ?_
  refine lv_icmp_eq (tgt := 10) hx hb dX5_pass_5 (by decide) (fun c5 => ?_) (fun c5 => ?_)
  · have e9 : decide (nxt tx tl tp = x) = true := decide_eq_true c5
    refine lv_aload_n hx hb dX5_pass_10 rfl (lv_at hl 0 rfl) ?_
    refine lv_dup hx hb dX5_pass_11 rfl ?_
    refine wg (C := RX5) (T := TX5) (N := 3) hx hb hts hi5 hown hw hLt hft rfl 2 (by decide) (hts (.fieldLink RX5 19 "LayerMoisture$Text" "place" "I") (by decide +kernel)) (fun _ h9 => h9) (v := .int (nI tp)) rfl dX5_pass_12 ?_
    refine lv_iconst (v := 1) hx hb dX5_pass_15 (by decide) ?_
    refine lv_iadd hx hb dX5_pass_16 ?_
    rw [show (nI tp) + 1 = nI (tp + 1) from nI_1 tp]
    refine wp_ (C := RX5) (T := TX5) (N := 3) hx hb hts hi5 tyX5 tyX5_ok nmX5 hown hw hLt hft rfl 2 (by decide) (hts (.fieldLink RX5 19 "LayerMoisture$Text" "place" "I") (by decide +kernel)) (fun _ h9 => h9) rfl (ty := .int) (v := .int (nI (tp + 1))) (by decide +kernel) rfl rfl (Nat.le_of_ble_eq_true rfl) dX5_pass_17 (fun H locs hw => ?_)
    obtain ⟨f3, ef3⟩ : ∃ z : Nat → va_E, z = va_up f t (.inr (6, [.ref u, .int (nI tl), .int (nI (tp + 1))])) := ⟨_, rfl⟩
    have hw : ww G dA A s L f3 H locs := by rw [ef3]; exact hw
    have h4 : f3 t = .inr (6, [.ref u, .int (nI tl), .int (nI (tp + 1))]) := by rw [ef3]; exact va_up_self _ _ _
    have h5 : f3 u = aI (dA 0) 200 tx := by rw [ef3, va_up_ne _ _ (fun h => by have h1 := hfu; rw [h, hft] at h1; cases h1)]; exact hfu
    refine lv_iconst (v := 1) hx hb dX5_pass_20 (by decide) ?_
    exact hret _ _ _ _ _ _ hw ⟨by rw [e9]; rfl, by rw [ef3, if_pos c5]⟩ (by decide) dX5_pass_21
  · have e9 : decide (nxt tx tl tp = x) = false := decide_eq_false c5
    refine lv_iconst (v := 0) hx hb dX5_pass_8 (by decide) ?_
    exact hret _ _ _ _ _ _ hw ⟨by rw [e9]; rfl, by rw [if_neg c5]; exact (va_up_id hft).symm⟩ (by decide) dX5_pass_9

set_option maxHeartbeats 4000000 in
set_option maxRecDepth 100000 in
theorem c_X5_readNumber (l : Launch) (G : va_G) (dA : Nat → ClassId) (L : List Nat) (f : Nat → va_E) (t u tl tp : Nat) (tx : Nat → Int32) (lo hi : Int32) (hLt : t ∈ L) (hft : f t = .inr (6, [.ref u, .int (nI tl), .int (nI tp)])) (hLu : u ∈ L) (hfu : f u = aI (dA 0) 200 tx) (htl : tl ≤ 200) (htp : tp ≤ tl) (hok : TxOk tx tl)  : mI l yX5_readNumber wsX5_readNumber ({ frames := 3, cells := 0, slots := 0, locals := 60 }) G dA [.ref t, .int lo, .int hi] L f (fun r f2 => r = numV (numP tx tl tp lo hi) ∧ f2 = va_up f t (.inr (6, [.ref u, .int (nI tl), .int (nI (numQ (numP tx tl tp lo hi) tp))]))) := by
  refine mI_of (cc := cX5_readNumber) (maxL := 6) (by decide) rfl (Nat.le_of_ble_eq_true rfl) ?_
  intro p e s m below meth c A ls Q hx hb hml hown hts hlocks hA hin0 hw hl hret
  have hown : s.vm.findClass RX5 = some m.cls := hown
  have hl : lv_has ls 6 [(0, .ref t), (1, .int lo), (2, .int hi)] := hl
  have hi5 : ∀ w ∈ u_ws RX5 TX5 3, w ∈ wsX5_readNumber := by decide +kernel
  refine lv_aload_n hx hb dX5_readNumber_0 rfl (lv_at hl 0 rfl) ?_
  refine wg (C := RX5) (T := TX5) (N := 3) hx hb hts hi5 hown hw hLt hft rfl 2 (by decide) (hts (.fieldLink RX5 19 "LayerMoisture$Text" "place" "I") (by decide +kernel)) (fun _ h9 => h9) (v := .int (nI tp)) rfl dX5_readNumber_1 ?_
  refine lv_istore_n (lv' := [(3, .int (nI tp)), (0, .ref t), (1, .int lo), (2, .int hi)]) hx hb dX5_readNumber_4 rfl hl (by decide) rfl (fun ls hl => ?_)
  refine lv_iconst (v := 0) hx hb dX5_readNumber_5 (by decide) ?_
  refine lv_istore (lv' := [(4, .int 0), (3, .int (nI tp)), (0, .ref t), (1, .int lo), (2, .int hi)]) hx hb dX5_readNumber_6 hl (by decide) rfl (fun ls hl => ?_)
  refine lv_iconst (v := 0) hx hb dX5_readNumber_8 (by decide) ?_
  refine lv_istore (lv' := [(5, .int 0), (4, .int 0), (3, .int (nI tp)), (0, .ref t), (1, .int lo), (2, .int hi)]) hx hb dX5_readNumber_9 hl (by decide) rfl (fun ls hl => ?_)
  have loop : ∀ (kf i p2 : Nat) (v : Int32), i + kf = 3 → p2 ≤ tl → scanN tx tl kf p2 v = scanN tx tl 3 tp 0 → ∀ (H : Heap) (locs : List Loc), ww G dA A s L (va_up f t (.inr (6, [.ref u, .int (nI tl), .int (nI p2)]))) H locs → ∀ (ls : Array Slot), lv_has ls 6 [(0, .ref t), (1, .int lo), (2, .int hi), (3, .int (nI tp)), (4, .int v), (5, .int (nI i))] → W p l e ({ frames := 3, cells := 0, slots := 0, locals := 60 } : Room) s m ([.ref t, .int lo, .int hi] : List Value).toArray below meth c H locs 0 0 Q (F0 m 11 ls []) := by
    intro kf
    induction kf with
    | zero =>
      intro i p2 v hik hp2 hsc H locs hw ls hl
      have sc1 : (scanN tx tl 3 tp 0).1 = p2 := by rw [← hsc]; rfl
      have sc2 : (scanN tx tl 3 tp 0).2 = v := by rw [← hsc]; rfl
      obtain ⟨f1, ef1⟩ : ∃ z : Nat → va_E, z = va_up f t (.inr (6, [.ref u, .int (nI tl), .int (nI p2)])) := ⟨_, rfl⟩
      have hw : ww G dA A s L f1 H locs := by rw [ef1]; exact hw
      have h2 : f1 t = .inr (6, [.ref u, .int (nI tl), .int (nI p2)]) := by rw [ef1]; exact va_up_self _ _ _
      have h3 : f1 u = aI (dA 0) 200 tx := by rw [ef1, va_up_ne _ _ (fun h => by have h1 := hfu; rw [h, hft] at h1; cases h1)]; exact hfu
      refine lv_iload hx hb dX5_readNumber_11 (lv_at hl 5 rfl) ?_
      refine lv_iconst (v := 3) hx hb dX5_readNumber_13 (by decide) ?_
      refine lv_icmp_ge (tgt := 55) hx hb dX5_readNumber_14 (by decide) (fun _ => ?_) (fun c9 => absurd (show nI 3 ≤ nI i from nI_le (by omega) (by omega)) c9)
      refine lv_aload_n hx hb dX5_readNumber_55 rfl (lv_at hl 0 rfl) ?_
      refine wg (C := RX5) (T := TX5) (N := 3) hx hb hts hi5 hown hw hLt h2 rfl 2 (by decide) (hts (.fieldLink RX5 19 "LayerMoisture$Text" "place" "I") (by decide +kernel)) (fun _ h9 => h9) (v := .int (nI p2)) rfl dX5_readNumber_56 ?_
      refine lv_iload_n hx hb dX5_readNumber_59 rfl (lv_at hl 3 rfl) ?_
      refine lv_icmp_ne (tgt := 65) hx hb dX5_readNumber_60 (by decide) (fun c60 => ?_) (fun c60 => ?_)
      · have q60 : ¬ p2 = tp := fun q => c60 (by rw [q])
        refine lv_iload hx hb dX5_readNumber_65 (lv_at hl 4 rfl) ?_
        refine lv_iload_n hx hb dX5_readNumber_67 rfl (lv_at hl 1 rfl) ?_
        refine lv_icmp_lt (tgt := 77) hx hb dX5_readNumber_68 (by decide) (fun c68 => ?_) (fun c68 => ?_)
        · have e9 : numP tx tl tp lo hi = none := if_pos (Or.inr (Or.inl (by rw [sc2]; exact c68)))
          refine lv_aload_n hx hb dX5_readNumber_77 rfl (lv_at hl 0 rfl) ?_
          refine lv_iload_n hx hb dX5_readNumber_78 rfl (lv_at hl 3 rfl) ?_
          refine wp_ (C := RX5) (T := TX5) (N := 3) hx hb hts hi5 tyX5 tyX5_ok nmX5 hown hw hLt h2 rfl 2 (by decide) (hts (.fieldLink RX5 19 "LayerMoisture$Text" "place" "I") (by decide +kernel)) (fun _ h9 => h9) rfl (ty := .int) (v := .int (nI tp)) (by decide +kernel) rfl rfl (Nat.le_of_ble_eq_true rfl) dX5_readNumber_79 (fun H locs hw => ?_)
          obtain ⟨f4, ef4⟩ : ∃ z : Nat → va_E, z = va_up f1 t (.inr (6, [.ref u, .int (nI tl), .int (nI tp)])) := ⟨_, rfl⟩
          have hw : ww G dA A s L f4 H locs := by rw [ef4]; exact hw
          have h5 : f4 t = .inr (6, [.ref u, .int (nI tl), .int (nI tp)]) := by rw [ef4]; exact va_up_self _ _ _
          have h6 : f4 u = aI (dA 0) 200 tx := by rw [ef4, va_up_ne _ _ (fun h => by have h1 := h3; rw [h, h2] at h1; cases h1)]; exact h3
          refine lv_iconst (v := (-1)) hx hb dX5_readNumber_82 (by decide) ?_
          exact hret _ _ _ _ _ _ hw ⟨by rw [e9]; rfl, by rw [e9, ef4, ef1, bx_uu]; rfl⟩ rfl dX5_readNumber_83
        · refine lv_iload hx hb dX5_readNumber_71 (lv_at hl 4 rfl) ?_
          refine lv_iload_n hx hb dX5_readNumber_73 rfl (lv_at hl 2 rfl) ?_
          refine lv_icmp_le (tgt := 84) hx hb dX5_readNumber_74 (by decide) (fun c74 => ?_) (fun c74 => ?_)
          · have e9 : numP tx tl tp lo hi = some (p2, v) := by rw [numP, if_neg (by rw [sc1, sc2]; exact fun q => q.elim q60 (fun q => q.elim c68 (fun q => absurd q (Int32.not_lt.mpr c74))))]; exact congrArg some (Prod.ext sc1 sc2)
            refine lv_iload hx hb dX5_readNumber_84 (lv_at hl 4 rfl) ?_
            exact hret _ _ _ _ _ _ hw ⟨by rw [e9]; rfl, by rw [e9, ef1]; rfl⟩ rfl dX5_readNumber_86
          · have e9 : numP tx tl tp lo hi = none := if_pos (Or.inr (Or.inr (by rw [sc2]; exact Int32.not_le.mp c74)))
            refine lv_aload_n hx hb dX5_readNumber_77 rfl (lv_at hl 0 rfl) ?_
            refine lv_iload_n hx hb dX5_readNumber_78 rfl (lv_at hl 3 rfl) ?_
            refine wp_ (C := RX5) (T := TX5) (N := 3) hx hb hts hi5 tyX5 tyX5_ok nmX5 hown hw hLt h2 rfl 2 (by decide) (hts (.fieldLink RX5 19 "LayerMoisture$Text" "place" "I") (by decide +kernel)) (fun _ h9 => h9) rfl (ty := .int) (v := .int (nI tp)) (by decide +kernel) rfl rfl (Nat.le_of_ble_eq_true rfl) dX5_readNumber_79 (fun H locs hw => ?_)
            obtain ⟨f7, ef7⟩ : ∃ z : Nat → va_E, z = va_up f1 t (.inr (6, [.ref u, .int (nI tl), .int (nI tp)])) := ⟨_, rfl⟩
            have hw : ww G dA A s L f7 H locs := by rw [ef7]; exact hw
            have h8 : f7 t = .inr (6, [.ref u, .int (nI tl), .int (nI tp)]) := by rw [ef7]; exact va_up_self _ _ _
            have h9 : f7 u = aI (dA 0) 200 tx := by rw [ef7, va_up_ne _ _ (fun h => by have h1 := h3; rw [h, h2] at h1; cases h1)]; exact h3
            refine lv_iconst (v := (-1)) hx hb dX5_readNumber_82 (by decide) ?_
            exact hret _ _ _ _ _ _ hw ⟨by rw [e9]; rfl, by rw [e9, ef7, ef1, bx_uu]; rfl⟩ rfl dX5_readNumber_83
      · have q60 : p2 = tp := (nI_eq (by omega) (by omega)).mp c60
        have e9 : numP tx tl tp lo hi = none := if_pos (Or.inl (sc1.trans q60))
        refine lv_iconst (v := (-1)) hx hb dX5_readNumber_63 (by decide) ?_
        exact hret _ _ _ _ _ _ hw ⟨by rw [e9]; rfl, by rw [e9, ef1, q60]; rfl⟩ rfl dX5_readNumber_64
    | succ kf ih =>
      intro i p2 v hik hp2 hsc H locs hw ls hl
      obtain ⟨f10, ef10⟩ : ∃ z : Nat → va_E, z = va_up f t (.inr (6, [.ref u, .int (nI tl), .int (nI p2)])) := ⟨_, rfl⟩
      have hw : ww G dA A s L f10 H locs := by rw [ef10]; exact hw
      have h11 : f10 t = .inr (6, [.ref u, .int (nI tl), .int (nI p2)]) := by rw [ef10]; exact va_up_self _ _ _
      have h12 : f10 u = aI (dA 0) 200 tx := by rw [ef10, va_up_ne _ _ (fun h => by have h1 := hfu; rw [h, hft] at h1; cases h1)]; exact hfu
      refine lv_iload hx hb dX5_readNumber_11 (lv_at hl 5 rfl) ?_
      refine lv_iconst (v := 3) hx hb dX5_readNumber_13 (by decide) ?_
      refine lv_icmp_ge (tgt := 55) hx hb dX5_readNumber_14 (by decide) (fun c9 => absurd c9 (show ¬ nI 3 ≤ nI i from nI_ge (by omega) (by omega))) (fun _ => ?_)
      refine lv_aload_n hx hb dX5_readNumber_17 rfl (lv_at hl 0 rfl) ?_
      refine kV_I (C := RX5) (T := TX5) (N := 3) (As := []) (rest := []) ⟨hx, hb, hml, hown, hts⟩ (c_X5_isAtDigit l G dA L f10 t u tl p2 tx hLt h11 hLu h12 htl (by omega) hok) (cwV 0 hts gX5_readNumber_X5_isAtDigit rfl rfl rfl (by decide +kernel) ⟨Nat.le_of_ble_eq_true rfl, Nat.le_of_ble_eq_true rfl⟩) hw hA hLt h11 rfl rfl hl.1 rfl (Nat.le_of_ble_eq_true rfl) dX5_readNumber_18 ⟨Nat.zero_le _, Nat.zero_le _⟩ (fun r13 f14 H locs hp hw => ?_)
      obtain ⟨e1, e2⟩ := hp
      rw [e2] at hw
      rw [e1]
      refine lv_if_eq (tgt := 55) hx hb dX5_readNumber_21 (by decide) (fun c21 => ?_) (fun c21 => ?_)
      · have h9 : ¬ isD tx tl p2 = true := fun q => by rw [q] at c21; exact absurd c21 (by decide)
        have h8 : scanN tx tl (kf + 1) p2 v = (p2, v) := if_neg h9
        have sc1 : (scanN tx tl 3 tp 0).1 = p2 := by rw [← hsc, h8]
        have sc2 : (scanN tx tl 3 tp 0).2 = v := by rw [← hsc, h8]
        refine lv_aload_n hx hb dX5_readNumber_55 rfl (lv_at hl 0 rfl) ?_
        refine wg (C := RX5) (T := TX5) (N := 3) hx hb hts hi5 hown hw hLt h11 rfl 2 (by decide) (hts (.fieldLink RX5 19 "LayerMoisture$Text" "place" "I") (by decide +kernel)) (fun _ h9 => h9) (v := .int (nI p2)) rfl dX5_readNumber_56 ?_
        refine lv_iload_n hx hb dX5_readNumber_59 rfl (lv_at hl 3 rfl) ?_
        refine lv_icmp_ne (tgt := 65) hx hb dX5_readNumber_60 (by decide) (fun c60 => ?_) (fun c60 => ?_)
        · have q60 : ¬ p2 = tp := fun q => c60 (by rw [q])
          refine lv_iload hx hb dX5_readNumber_65 (lv_at hl 4 rfl) ?_
          refine lv_iload_n hx hb dX5_readNumber_67 rfl (lv_at hl 1 rfl) ?_
          refine lv_icmp_lt (tgt := 77) hx hb dX5_readNumber_68 (by decide) (fun c68 => ?_) (fun c68 => ?_)
          · have e9 : numP tx tl tp lo hi = none := if_pos (Or.inr (Or.inl (by rw [sc2]; exact c68)))
            refine lv_aload_n hx hb dX5_readNumber_77 rfl (lv_at hl 0 rfl) ?_
            refine lv_iload_n hx hb dX5_readNumber_78 rfl (lv_at hl 3 rfl) ?_
            refine wp_ (C := RX5) (T := TX5) (N := 3) hx hb hts hi5 tyX5 tyX5_ok nmX5 hown hw hLt h11 rfl 2 (by decide) (hts (.fieldLink RX5 19 "LayerMoisture$Text" "place" "I") (by decide +kernel)) (fun _ h9 => h9) rfl (ty := .int) (v := .int (nI tp)) (by decide +kernel) rfl rfl (Nat.le_of_ble_eq_true rfl) dX5_readNumber_79 (fun H locs hw => ?_)
            obtain ⟨f15, ef15⟩ : ∃ z : Nat → va_E, z = va_up f10 t (.inr (6, [.ref u, .int (nI tl), .int (nI tp)])) := ⟨_, rfl⟩
            have hw : ww G dA A s L f15 H locs := by rw [ef15]; exact hw
            have h16 : f15 t = .inr (6, [.ref u, .int (nI tl), .int (nI tp)]) := by rw [ef15]; exact va_up_self _ _ _
            have h17 : f15 u = aI (dA 0) 200 tx := by rw [ef15, va_up_ne _ _ (fun h => by have h1 := h12; rw [h, h11] at h1; cases h1)]; exact h12
            refine lv_iconst (v := (-1)) hx hb dX5_readNumber_82 (by decide) ?_
            exact hret _ _ _ _ _ _ hw ⟨by rw [e9]; rfl, by rw [e9, ef15, ef10, bx_uu]; rfl⟩ rfl dX5_readNumber_83
          · refine lv_iload hx hb dX5_readNumber_71 (lv_at hl 4 rfl) ?_
            refine lv_iload_n hx hb dX5_readNumber_73 rfl (lv_at hl 2 rfl) ?_
            refine lv_icmp_le (tgt := 84) hx hb dX5_readNumber_74 (by decide) (fun c74 => ?_) (fun c74 => ?_)
            · have e9 : numP tx tl tp lo hi = some (p2, v) := by rw [numP, if_neg (by rw [sc1, sc2]; exact fun q => q.elim q60 (fun q => q.elim c68 (fun q => absurd q (Int32.not_lt.mpr c74))))]; exact congrArg some (Prod.ext sc1 sc2)
              refine lv_iload hx hb dX5_readNumber_84 (lv_at hl 4 rfl) ?_
              exact hret _ _ _ _ _ _ hw ⟨by rw [e9]; rfl, by rw [e9, ef10]; rfl⟩ rfl dX5_readNumber_86
            · have e9 : numP tx tl tp lo hi = none := if_pos (Or.inr (Or.inr (by rw [sc2]; exact Int32.not_le.mp c74)))
              refine lv_aload_n hx hb dX5_readNumber_77 rfl (lv_at hl 0 rfl) ?_
              refine lv_iload_n hx hb dX5_readNumber_78 rfl (lv_at hl 3 rfl) ?_
              refine wp_ (C := RX5) (T := TX5) (N := 3) hx hb hts hi5 tyX5 tyX5_ok nmX5 hown hw hLt h11 rfl 2 (by decide) (hts (.fieldLink RX5 19 "LayerMoisture$Text" "place" "I") (by decide +kernel)) (fun _ h9 => h9) rfl (ty := .int) (v := .int (nI tp)) (by decide +kernel) rfl rfl (Nat.le_of_ble_eq_true rfl) dX5_readNumber_79 (fun H locs hw => ?_)
              obtain ⟨f18, ef18⟩ : ∃ z : Nat → va_E, z = va_up f10 t (.inr (6, [.ref u, .int (nI tl), .int (nI tp)])) := ⟨_, rfl⟩
              have hw : ww G dA A s L f18 H locs := by rw [ef18]; exact hw
              have h19 : f18 t = .inr (6, [.ref u, .int (nI tl), .int (nI tp)]) := by rw [ef18]; exact va_up_self _ _ _
              have h20 : f18 u = aI (dA 0) 200 tx := by rw [ef18, va_up_ne _ _ (fun h => by have h1 := h12; rw [h, h11] at h1; cases h1)]; exact h12
              refine lv_iconst (v := (-1)) hx hb dX5_readNumber_82 (by decide) ?_
              exact hret _ _ _ _ _ _ hw ⟨by rw [e9]; rfl, by rw [e9, ef18, ef10, bx_uu]; rfl⟩ rfl dX5_readNumber_83
        · have q60 : p2 = tp := (nI_eq (by omega) (by omega)).mp c60
          have e9 : numP tx tl tp lo hi = none := if_pos (Or.inl (sc1.trans q60))
          refine lv_iconst (v := (-1)) hx hb dX5_readNumber_63 (by decide) ?_
          exact hret _ _ _ _ _ _ hw ⟨by rw [e9]; rfl, by rw [e9, ef10, q60]; rfl⟩ rfl dX5_readNumber_64
      · have h9 : isD tx tl p2 = true := by cases hq : isD tx tl p2 with | true => rfl | false => rw [hq] at c21; exact absurd rfl c21
        refine lv_iload hx hb dX5_readNumber_24 (lv_at hl 4 rfl) ?_
        refine lv_bipush (v := 10) hx hb dX5_readNumber_26 (by decide) ?_
        refine lv_imul hx hb dX5_readNumber_28 ?_
        rw [show v * 10 = v * 10 from rfl]
        refine lv_aload_n hx hb dX5_readNumber_29 rfl (lv_at hl 0 rfl) ?_
        refine kV_I (C := RX5) (T := TX5) (N := 3) (As := []) (rest := [.int (v * 10)]) ⟨hx, hb, hml, hown, hts⟩ (c_X5_next l G dA L f10 t u tl p2 tx hLt h11 hLu h12 htl (by omega) hok) (cwV 0 hts gX5_readNumber_X5_next rfl rfl rfl (by decide +kernel) ⟨Nat.le_of_ble_eq_true rfl, Nat.le_of_ble_eq_true rfl⟩) hw hA hLt h11 rfl rfl hl.1 rfl (Nat.le_of_ble_eq_true rfl) dX5_readNumber_30 ⟨Nat.zero_le _, Nat.zero_le _⟩ (fun r21 f22 H locs hp hw => ?_)
        obtain ⟨e1, e2⟩ := hp
        rw [e2] at hw
        rw [e1]
        refine lv_bipush (v := 48) hx hb dX5_readNumber_33 (by decide) ?_
        refine lv_isub hx hb dX5_readNumber_35 ?_
        rw [show (nxt tx tl p2) - 48 = nxt tx tl p2 - 48 from rfl]
        refine lv_iadd hx hb dX5_readNumber_36 ?_
        rw [show (v * 10) + (nxt tx tl p2 - 48) = v * 10 + (nxt tx tl p2 - 48) from rfl]
        refine lv_istore (lv' := [(4, .int (v * 10 + (nxt tx tl p2 - 48))), (0, .ref t), (1, .int lo), (2, .int hi), (3, .int (nI tp)), (5, .int (nI i))]) hx hb dX5_readNumber_37 hl (by decide) rfl (fun ls hl => ?_)
        refine lv_aload_n hx hb dX5_readNumber_39 rfl (lv_at hl 1 rfl) ?_
        refine lv_dup hx hb dX5_readNumber_40 rfl ?_
        refine wg (C := RX5) (T := TX5) (N := 3) hx hb hts hi5 hown hw hLt h11 rfl 2 (by decide) (hts (.fieldLink RX5 19 "LayerMoisture$Text" "place" "I") (by decide +kernel)) (fun _ h9 => h9) (v := .int (nI p2)) rfl dX5_readNumber_41 ?_
        refine lv_iconst (v := 1) hx hb dX5_readNumber_44 (by decide) ?_
        refine lv_iadd hx hb dX5_readNumber_45 ?_
        rw [show (nI p2) + 1 = nI (p2 + 1) from nI_1 p2]
        refine wp_ (C := RX5) (T := TX5) (N := 3) hx hb hts hi5 tyX5 tyX5_ok nmX5 hown hw hLt h11 rfl 2 (by decide) (hts (.fieldLink RX5 19 "LayerMoisture$Text" "place" "I") (by decide +kernel)) (fun _ h9 => h9) rfl (ty := .int) (v := .int (nI (p2 + 1))) (by decide +kernel) rfl rfl (Nat.le_of_ble_eq_true rfl) dX5_readNumber_46 (fun H locs hw => ?_)
        obtain ⟨f23, ef23⟩ : ∃ z : Nat → va_E, z = va_up f10 t (.inr (6, [.ref u, .int (nI tl), .int (nI (p2 + 1))])) := ⟨_, rfl⟩
        have hw : ww G dA A s L f23 H locs := by rw [ef23]; exact hw
        have h24 : f23 t = .inr (6, [.ref u, .int (nI tl), .int (nI (p2 + 1))]) := by rw [ef23]; exact va_up_self _ _ _
        have h25 : f23 u = aI (dA 0) 200 tx := by rw [ef23, va_up_ne _ _ (fun h => by have h1 := h12; rw [h, h11] at h1; cases h1)]; exact h12
        refine lv_iinc (v := nI (i + 1)) (lv' := [(5, .int (nI (i + 1))), (4, .int (v * 10 + (nxt tx tl p2 - 48))), (0, .ref t), (1, .int lo), (2, .int hi), (3, .int (nI tp))]) hx hb dX5_readNumber_49 hl (k := 5) rfl (nI_1 i) (by decide) rfl (fun ls hl => ?_)
        refine lv_goto (tgt := 11) hx hb dX5_readNumber_52 (by decide) ?_
        rw [ef23, ef10, bx_uu] at hw
        exact ih (i + 1) (p2 + 1) _ (by omega) (isD_lt h9) (by rw [← hsc]; exact (if_pos h9).symm) _ _ hw ls (lv_sub hl [2, 3, 4, 5, 1, 0] rfl)
  have hw : ww G dA A s L (va_up f t (.inr (6, [.ref u, .int (nI tl), .int (nI tp)]))) s.heap [] := by rw [va_up_id hft]; exact hw
  exact loop 3 0 tp 0 rfl htp rfl _ _ hw ls (lv_sub hl [3, 4, 5, 2, 1, 0] rfl)
