set_option maxHeartbeats 4000000 in
set_option maxRecDepth 100000 in
theorem c_X4_readFrom (l : Launch) (G : va_G) (dA : Nat → ClassId) (L : List Nat) (f : Nat → va_E) (pl pb pt pk pd t u tl tp : Nat) (stp dn : Int32) (B T K D tx : Nat → Int32) (hLl : pl ∈ L) (hfl : f pl = .inr (5, [.ref pb, .ref pt, .ref pk, .ref pd, .int stp, .int dn])) (hLb : pb ∈ L) (hfb : f pb = aI (dA 3) 12 B) (hLt0 : pt ∈ L) (hft0 : f pt = aI (dA 2) 12 T) (hLk : pk ∈ L) (hfk : f pk = aI (dA 2) 12 K) (hLd : pd ∈ L) (hfd : f pd = aI (dA 2) 12 D) (hLt : t ∈ L) (hft : f t = .inr (6, [.ref u, .int (nI tl), .int (nI tp)])) (hLu : u ∈ L) (hfu : f u = aI (dA 0) 200 tx) (hnd : [pl, pb, pt, pk, pd, t, u].Nodup) (htl : tl ≤ 200) (htp : tp ≤ tl) (hok : TxOk tx tl)  : mI l yX4_readFrom wsX4_readFrom ({ frames := 6, cells := 0, slots := 0, locals := 129 }) G dA [.ref pl, .ref t] L f (fun r f2 => ∃ (B2 T2 K2 D2 : Nat → Int32) (p2 st2 : Nat), f2 = va_up (va_up (pw dA f pb pt pk pd t u tl B2 T2 K2 D2 p2) pl (.inr (5, [.ref pb, .ref pt, .ref pk, .ref pd, .int (nI st2), .int 0]))) t (.inr (6, [.ref u, .int 0, .int 0])) ∧ (match stepsP tx tl 12 true tp with | .inl p => r = -1 - nI p ∧ st2 = 0 | .inr l => r = nI l.length ∧ st2 = l.length ∧ rowsAt B2 T2 K2 D2 0 l)) := by
  refine mI_of (cc := cX4_readFrom) (maxL := 4) (by decide) rfl (Nat.le_of_ble_eq_true rfl) ?_
  intro p e s m below meth c A ls Q hx hb hml hown hts hlocks hA hin0 hw hl hret
  have hown : s.vm.findClass RX4 = some m.cls := hown
  have hl : lv_has ls 4 [(0, .ref pl), (1, .ref t)] := hl
  have hi4 : ∀ w ∈ u_ws RX4 TX4 6, w ∈ wsX4_readFrom := by decide +kernel
  have hi5 : ∀ w ∈ u_ws RX5 TX5 3, w ∈ wsX4_readFrom := by decide +kernel
  refine lv_aload_n hx hb dX4_readFrom_0 rfl (lv_at hl 0 rfl) ?_
  refine lv_aload_n hx hb dX4_readFrom_1 rfl (lv_at hl 1 rfl) ?_
  refine kV_I (C := RX4) (T := TX4) (N := 6) (As := [.ref t]) (rest := []) ⟨hx, hb, hml, hown, hts⟩ (c_X4_readSteps l G dA L f pl pb pt pk pd t u tl tp stp dn B T K D tx hLl hfl hLb hfb hLt0 hft0 hLk hfk hLd hfd hLt hft hLu hfu hnd htl htp hok) (cwV 1 hts gX4_readFrom_X4_readSteps rfl rfl rfl (by decide +kernel) ⟨Nat.le_of_ble_eq_true rfl, Nat.le_of_ble_eq_true rfl⟩) hw hA hLl hfl rfl rfl hl.1 rfl (Nat.le_of_ble_eq_true rfl) dX4_readFrom_2 ⟨Nat.zero_le _, Nat.zero_le _⟩ (fun r f3 H locs hp hw => ?_)
  obtain ⟨B2, T2, K2, D2, p2, e3, hlo, hp2, hm⟩ := hp
  have h3l : f3 pl = .inr (5, [.ref pb, .ref pt, .ref pk, .ref pd, .int stp, .int dn]) := by rw [e3]; exact (pw_pl hnd).trans hfl
  have h3t : f3 t = .inr (6, [.ref u, .int (nI tl), .int (nI p2)]) := by rw [e3]; exact pw_t
  have hm : (match stepsP tx tl 12 true tp with | .inl q => r = -1 ∧ p2 = q | .inr l => r = nI (0 + l.length) ∧ rowsAt B2 T2 K2 D2 0 l) := hm
  cases hq : stepsP tx tl 12 true tp with
  | inl q =>
    rw [hq] at hm
    obtain ⟨hr, he⟩ := hm
    subst he
    rw [hr]
    refine lv_istore_n (lv' := [(2, .int (-1)), (0, .ref pl), (1, .ref t)]) hx hb dX4_readFrom_5 rfl hl (by decide) rfl (fun ls hl => ?_)
    refine lv_iload_n hx hb dX4_readFrom_6 rfl (lv_at hl 0 rfl) ?_
    refine lv_iconst (v := (-1)) hx hb dX4_readFrom_7 (by decide) ?_
    refine lv_icmp_ne (tgt := 20) hx hb dX4_readFrom_8 (by decide) (fun c9 => absurd c9 (fun h7 => h7 rfl)) (fun _ => ?_)
    refine lv_iconst (v := (-1)) hx hb dX4_readFrom_11 (by decide) ?_
    refine lv_aload_n hx hb dX4_readFrom_12 rfl (lv_at hl 2 rfl) ?_
    refine wg (C := RX5) (T := TX5) (N := 3) hx hb hts hi5 hown hw hLt h3t rfl 2 (by decide) (hts (.fieldLink RX4 29 "LayerMoisture$Text" "place" "I") (by decide +kernel)) (fun _ h9 => h9) (v := .int (nI p2)) rfl dX4_readFrom_13 ?_
    refine lv_isub hx hb dX4_readFrom_16 ?_
    refine lv_goto (tgt := 21) hx hb dX4_readFrom_17 (by decide) ?_
    refine lv_istore_n (lv' := [(3, .int ((-1) - (nI p2))), (2, .int (-1)), (0, .ref pl), (1, .ref t)]) hx hb dX4_readFrom_21 rfl hl (by decide) rfl (fun ls hl => ?_)
    refine lv_aload_n hx hb dX4_readFrom_22 rfl (lv_at hl 2 rfl) ?_
    refine lv_iload_n hx hb dX4_readFrom_23 rfl (lv_at hl 1 rfl) ?_
    refine lv_iconst (v := (-1)) hx hb dX4_readFrom_24 (by decide) ?_
    refine lv_icmp_ne (tgt := 32) hx hb dX4_readFrom_25 (by decide) (fun c9 => absurd c9 (fun h7 => h7 rfl)) (fun _ => ?_)
    refine lv_iconst (v := 0) hx hb dX4_readFrom_28 (by decide) ?_
    refine lv_goto (tgt := 33) hx hb dX4_readFrom_29 (by decide) ?_
    refine wp_ (C := RX4) (T := TX4) (N := 6) hx hb hts hi4 tyX4 tyX4_ok nmX4 hown hw hLl h3l rfl 4 (by decide) (hts (.fieldLink RX4 35 "LayerMoisture$Plan" "steps" "I") (by decide +kernel)) (fun _ h9 => h9) rfl (ty := .int) (v := .int 0) (by decide +kernel) rfl rfl (Nat.le_of_ble_eq_true rfl) dX4_readFrom_33 (fun H locs hw => ?_)
    obtain ⟨f1, ef1⟩ : ∃ z : Nat → va_E, z = va_up f3 pl (.inr (5, [.ref pb, .ref pt, .ref pk, .ref pd, .int 0, .int dn])) := ⟨_, rfl⟩
    have hw : ww G dA A s L f1 H locs := by rw [ef1]; exact hw
    have h2 : f1 pl = .inr (5, [.ref pb, .ref pt, .ref pk, .ref pd, .int 0, .int dn]) := by rw [ef1]; exact va_up_self _ _ _
    have h3 : f1 t = .inr (6, [.ref u, .int (nI tl), .int (nI p2)]) := by rw [ef1, va_up_ne _ _ (fun h => by have h1 := h3t; rw [h, h3l] at h1; cases h1)]; exact h3t
    refine lv_aload_n hx hb dX4_readFrom_36 rfl (lv_at hl 2 rfl) ?_
    refine lv_iconst (v := 0) hx hb dX4_readFrom_37 (by decide) ?_
    refine wp_ (C := RX4) (T := TX4) (N := 6) hx hb hts hi4 tyX4 tyX4_ok nmX4 hown hw hLl h2 rfl 5 (by decide) (hts (.fieldLink RX4 38 "LayerMoisture$Plan" "done" "I") (by decide +kernel)) (fun _ h9 => h9) rfl (ty := .int) (v := .int 0) (by decide +kernel) rfl rfl (Nat.le_of_ble_eq_true rfl) dX4_readFrom_38 (fun H locs hw => ?_)
    obtain ⟨f4, ef4⟩ : ∃ z : Nat → va_E, z = va_up f1 pl (.inr (5, [.ref pb, .ref pt, .ref pk, .ref pd, .int 0, .int 0])) := ⟨_, rfl⟩
    have hw : ww G dA A s L f4 H locs := by rw [ef4]; exact hw
    have h5 : f4 pl = .inr (5, [.ref pb, .ref pt, .ref pk, .ref pd, .int 0, .int 0]) := by rw [ef4]; exact va_up_self _ _ _
    have h6 : f4 t = .inr (6, [.ref u, .int (nI tl), .int (nI p2)]) := by rw [ef4, va_up_ne _ _ (fun h => by have h1 := h3; rw [h, h2] at h1; cases h1)]; exact h3
    refine lv_aload_n hx hb dX4_readFrom_41 rfl (lv_at hl 3 rfl) ?_
    refine kV_V (C := RX5) (T := TX5) (N := 3) (As := []) (rest := []) ⟨hx, hb, hml, hown, hts⟩ (c_X5_empty l G dA L f4 t u tl p2 tx hLt h6) (cwV 0 hts gX4_readFrom_X5_empty rfl rfl rfl (by decide +kernel) ⟨Nat.le_of_ble_eq_true rfl, Nat.le_of_ble_eq_true rfl⟩) hw hA hLt h6 rfl rfl hl.1 rfl (Nat.le_of_ble_eq_true rfl) dX4_readFrom_42 ⟨Nat.zero_le _, Nat.zero_le _⟩ (fun f7 H locs hp hw => ?_)
    refine lv_iload_n hx hb dX4_readFrom_45 rfl (lv_at hl 0 rfl) ?_
    exact hret _ _ _ _ _ _ hw ⟨B2, T2, K2, D2, p2, 0, by rw [hp, ef4, ef1, bx_uu, e3] <;> rfl, by rw [hq]; exact ⟨rfl, rfl⟩⟩ rfl dX4_readFrom_46
  | inr l2 =>
    rw [hq] at hm
    obtain ⟨hr, he⟩ := hm
    have hl2 := stepsP_len _ _ _ _ hq
    rw [Nat.zero_add] at hr
    rw [hr]
    refine lv_istore_n (lv' := [(2, .int (nI l2.length)), (0, .ref pl), (1, .ref t)]) hx hb dX4_readFrom_5 rfl hl (by decide) rfl (fun ls hl => ?_)
    refine lv_iload_n hx hb dX4_readFrom_6 rfl (lv_at hl 0 rfl) ?_
    refine lv_iconst (v := (-1)) hx hb dX4_readFrom_7 (by decide) ?_
    refine lv_icmp_ne (tgt := 20) hx hb dX4_readFrom_8 (by decide) (fun _ => ?_) (fun c9 => absurd c9 (nI_m1 (by omega)))
    refine lv_iload_n hx hb dX4_readFrom_20 rfl (lv_at hl 0 rfl) ?_
    refine lv_istore_n (lv' := [(3, .int (nI l2.length)), (2, .int (nI l2.length)), (0, .ref pl), (1, .ref t)]) hx hb dX4_readFrom_21 rfl hl (by decide) rfl (fun ls hl => ?_)
    refine lv_aload_n hx hb dX4_readFrom_22 rfl (lv_at hl 2 rfl) ?_
    refine lv_iload_n hx hb dX4_readFrom_23 rfl (lv_at hl 1 rfl) ?_
    refine lv_iconst (v := (-1)) hx hb dX4_readFrom_24 (by decide) ?_
    refine lv_icmp_ne (tgt := 32) hx hb dX4_readFrom_25 (by decide) (fun _ => ?_) (fun c9 => absurd c9 (nI_m1 (by omega)))
    refine lv_iload_n hx hb dX4_readFrom_32 rfl (lv_at hl 1 rfl) ?_
    refine wp_ (C := RX4) (T := TX4) (N := 6) hx hb hts hi4 tyX4 tyX4_ok nmX4 hown hw hLl h3l rfl 4 (by decide) (hts (.fieldLink RX4 35 "LayerMoisture$Plan" "steps" "I") (by decide +kernel)) (fun _ h9 => h9) rfl (ty := .int) (v := .int (nI l2.length)) (by decide +kernel) rfl rfl (Nat.le_of_ble_eq_true rfl) dX4_readFrom_33 (fun H locs hw => ?_)
    obtain ⟨f8, ef8⟩ : ∃ z : Nat → va_E, z = va_up f3 pl (.inr (5, [.ref pb, .ref pt, .ref pk, .ref pd, .int (nI l2.length), .int dn])) := ⟨_, rfl⟩
    have hw : ww G dA A s L f8 H locs := by rw [ef8]; exact hw
    have h9 : f8 pl = .inr (5, [.ref pb, .ref pt, .ref pk, .ref pd, .int (nI l2.length), .int dn]) := by rw [ef8]; exact va_up_self _ _ _
    have h10 : f8 t = .inr (6, [.ref u, .int (nI tl), .int (nI p2)]) := by rw [ef8, va_up_ne _ _ (fun h => by have h1 := h3t; rw [h, h3l] at h1; cases h1)]; exact h3t
    refine lv_aload_n hx hb dX4_readFrom_36 rfl (lv_at hl 2 rfl) ?_
    refine lv_iconst (v := 0) hx hb dX4_readFrom_37 (by decide) ?_
    refine wp_ (C := RX4) (T := TX4) (N := 6) hx hb hts hi4 tyX4 tyX4_ok nmX4 hown hw hLl h9 rfl 5 (by decide) (hts (.fieldLink RX4 38 "LayerMoisture$Plan" "done" "I") (by decide +kernel)) (fun _ h9 => h9) rfl (ty := .int) (v := .int 0) (by decide +kernel) rfl rfl (Nat.le_of_ble_eq_true rfl) dX4_readFrom_38 (fun H locs hw => ?_)
    obtain ⟨f11, ef11⟩ : ∃ z : Nat → va_E, z = va_up f8 pl (.inr (5, [.ref pb, .ref pt, .ref pk, .ref pd, .int (nI l2.length), .int 0])) := ⟨_, rfl⟩
    have hw : ww G dA A s L f11 H locs := by rw [ef11]; exact hw
    have h12 : f11 pl = .inr (5, [.ref pb, .ref pt, .ref pk, .ref pd, .int (nI l2.length), .int 0]) := by rw [ef11]; exact va_up_self _ _ _
    have h13 : f11 t = .inr (6, [.ref u, .int (nI tl), .int (nI p2)]) := by rw [ef11, va_up_ne _ _ (fun h => by have h1 := h10; rw [h, h9] at h1; cases h1)]; exact h10
    refine lv_aload_n hx hb dX4_readFrom_41 rfl (lv_at hl 3 rfl) ?_
    refine kV_V (C := RX5) (T := TX5) (N := 3) (As := []) (rest := []) ⟨hx, hb, hml, hown, hts⟩ (c_X5_empty l G dA L f11 t u tl p2 tx hLt h13) (cwV 0 hts gX4_readFrom_X5_empty rfl rfl rfl (by decide +kernel) ⟨Nat.le_of_ble_eq_true rfl, Nat.le_of_ble_eq_true rfl⟩) hw hA hLt h13 rfl rfl hl.1 rfl (Nat.le_of_ble_eq_true rfl) dX4_readFrom_42 ⟨Nat.zero_le _, Nat.zero_le _⟩ (fun f14 H locs hp hw => ?_)
    refine lv_iload_n hx hb dX4_readFrom_45 rfl (lv_at hl 0 rfl) ?_
    exact hret _ _ _ _ _ _ hw ⟨B2, T2, K2, D2, p2, l2.length, by rw [hp, ef11, ef8, bx_uu, e3] <;> rfl, by rw [hq]; exact ⟨rfl, rfl, he⟩⟩ rfl dX4_readFrom_46
