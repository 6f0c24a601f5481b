set_option maxHeartbeats 4000000 in
set_option maxRecDepth 100000 in
theorem c_X4_readSteps (l : Launch) (G : va_G) (dA : Nat → ClassId) (L : List Nat) (f : Nat → va_E) (pl pb pt pk pd t u tl tp : Nat) (stp dn : Int32) (B T K D tx : Nat → Int32) (hLl : pl ∈ L) (hfl : f pl = .inr (5, [.ref pb, .ref pt, .ref pk, .ref pd, .int stp, .int dn])) (hLb : pb ∈ L) (hfb : f pb = aI (dA 3) 12 B) (hLt0 : pt ∈ L) (hft0 : f pt = aI (dA 2) 12 T) (hLk : pk ∈ L) (hfk : f pk = aI (dA 2) 12 K) (hLd : pd ∈ L) (hfd : f pd = aI (dA 2) 12 D) (hLt : t ∈ L) (hft : f t = .inr (6, [.ref u, .int (nI tl), .int (nI tp)])) (hLu : u ∈ L) (hfu : f u = aI (dA 0) 200 tx) (hnd : [pl, pb, pt, pk, pd, t, u].Nodup) (htl : tl ≤ 200) (htp : tp ≤ tl) (hok : TxOk tx tl)  : mI l yX4_readSteps wsX4_readSteps ({ frames := 5, cells := 0, slots := 0, locals := 107 }) G dA [.ref pl, .ref t] L f (fun r f2 => ∃ (B2 T2 K2 D2 : Nat → Int32) (p2 : Nat), f2 = pw dA f pb pt pk pd t u tl B2 T2 K2 D2 p2 ∧ stepsE tx tl 12 0 tp B T K D r B2 T2 K2 D2 p2) := by
  refine mI_of (cc := cX4_readSteps) (maxL := 3) (by decide) rfl (Nat.le_of_ble_eq_true rfl) ?_
  intro p e s m below meth c A ls Q hx hb hml hown hts hlocks hA hin0 hw hl hret
  have hown : s.vm.findClass RX4 = some m.cls := hown
  have hl : lv_has ls 3 [(0, .ref pl), (1, .ref t)] := hl
  have hw : ww G dA A s L (pw dA f pb pt pk pd t u tl B T K D tp) s.heap [] := by rw [pw_id hfb hft0 hfk hfd hft]; exact hw
  refine lv_iconst (v := 0) hx hb dX4_readSteps_0 (by decide) ?_
  refine lv_istore_n (lv' := [(2, .int 0), (0, .ref pl), (1, .ref t)]) hx hb dX4_readSteps_1 rfl hl (by decide) rfl (fun ls hl => ?_)
  have loop : ∀ (kf kk p1 : Nat) (B1 T1 K1 D1 : Nat → Int32), kk + kf = 12 → p1 ≤ tl → (∀ r B2 T2 K2 D2 p2, stepsE tx tl kf kk p1 B1 T1 K1 D1 r B2 T2 K2 D2 p2 → stepsE tx tl 12 0 tp B T K D r B2 T2 K2 D2 p2) → ∀ (H : Heap) (locs : List Loc), ww G dA A s L (pw dA f pb pt pk pd t u tl B1 T1 K1 D1 p1) H locs → ∀ (ls : Array Slot), lv_has ls 3 [(0, .ref pl), (1, .ref t), (2, .int (nI kk))] → W p l e ({ frames := 5, cells := 0, slots := 0, locals := 107 } : Room) s m ([.ref pl, .ref t] : List Value).toArray below meth c H locs 0 0 Q (F0 m 2 ls []) := by
    intro kf
    induction kf with
    | zero =>
      intro kk p1 B1 T1 K1 D1 hik hp1 hG H locs hw ls hl
      refine lv_iload_n hx hb dX4_readSteps_2 rfl (lv_at hl 2 rfl) ?_
      refine lv_bipush (v := 12) hx hb dX4_readSteps_3 (by decide) ?_
      refine lv_icmp_ge (tgt := 51) hx hb dX4_readSteps_5 (by decide) (fun _ => ?_) (fun c9 => absurd (show nI 12 ≤ nI kk from nI_le (by omega) (by omega)) c9)
      refine lv_iconst (v := (-1)) hx hb dX4_readSteps_51 (by decide) ?_
      exact hret _ _ _ _ _ _ hw ⟨_, _, _, _, _, rfl, hG _ _ _ _ _ _ ⟨fun j _ => ⟨rfl, rfl, rfl, rfl⟩, hp1, rfl, rfl⟩⟩ rfl dX4_readSteps_52
    | succ kf ih =>
      intro kk p1 B1 T1 K1 D1 hik hp1 hG H locs hw ls hl
      have hkk : kk < 12 := by omega
      refine lv_iload_n hx hb dX4_readSteps_2 rfl (lv_at hl 2 rfl) ?_
      refine lv_bipush (v := 12) hx hb dX4_readSteps_3 (by decide) ?_
      refine lv_icmp_ge (tgt := 51) hx hb dX4_readSteps_5 (by decide) (fun c9 => absurd c9 (show ¬ nI 12 ≤ nI kk from nI_ge (by omega) (by omega))) (fun _ => ?_)
      refine lv_iload_n hx hb dX4_readSteps_8 rfl (lv_at hl 2 rfl) ?_
      refine lv_if_le (tgt := 23) hx hb dX4_readSteps_9 (by decide) (fun c9 => ?_) (fun c9 => ?_)
      · have k0 : kk = 0 := Nat.le_zero.mp ((nI_leI (a := kk) (b := 0) (by omega) (by decide)).mp c9)
        refine lv_aload_n hx hb dX4_readSteps_23 rfl (lv_at hl 0 rfl) ?_
        refine lv_aload_n hx hb dX4_readSteps_24 rfl (lv_at hl 1 rfl) ?_
        refine lv_iload_n hx hb dX4_readSteps_25 rfl (lv_at hl 2 rfl) ?_
        refine kV_I (C := RX4) (T := TX4) (N := 6) (As := [.ref t, .int (nI kk)]) (rest := []) ⟨hx, hb, hml, hown, hts⟩ (c_X4_readStep l G dA L (pw dA f pb pt pk pd t u tl B1 T1 K1 D1 p1) pl pb pt pk pd t u tl p1 stp dn B1 T1 K1 D1 tx kk hLl ((pw_pl hnd).trans hfl) hLb (pw_b hnd) hLt0 (pw_tm hnd) hLk (pw_k hnd) hLd (pw_d hnd) hLt pw_t hLu ((pw_u hnd).trans hfu) hnd htl hp1 hok hkk) (cwV 2 hts gX4_readSteps_X4_readStep rfl rfl rfl (by decide +kernel) ⟨Nat.le_of_ble_eq_true rfl, Nat.le_of_ble_eq_true rfl⟩) hw hA hLl ((pw_pl hnd).trans hfl) rfl rfl hl.1 rfl (Nat.le_of_ble_eq_true rfl) dX4_readSteps_26 ⟨Nat.zero_le _, Nat.zero_le _⟩ (fun r1 f2 H locs hp hw => ?_)
        obtain ⟨B2, T2, K2, D2, p2, e2, hoff, hp2, hm⟩ := hp
        have hw : ww G dA A s L (pw dA f pb pt pk pd t u tl B2 T2 K2 D2 p2) H locs := by rw [e2, pw_pw hnd] at hw; exact hw
        have hE := show stepsP tx tl (kf + 1) (decide (kk = 0)) p1 = (match stepP tx tl p1 with | .inl q => .inl q | .inr x => if tl ≤ x.1 then .inr [x.2] else match stepsP tx tl kf false x.1 with | .inl q => .inl q | .inr l => .inr (x.2 :: l)) from (by rw [k0]; rfl)
        have hlo : ∀ j, j < kk → B2 j = B1 j ∧ T2 j = T1 j ∧ K2 j = K1 j ∧ D2 j = D1 j := fun j hj => hoff j (by omega)
        have hle := stepP_le (tx := tx) (tl := tl) (p := p1) hp1
        cases hs : stepP tx tl p1 with
        | inl q =>
          rw [hs] at hm hE hle
          obtain ⟨hr, hq⟩ := hm
          rw [hr]
          refine lv_if_ne (tgt := 34) hx hb dX4_readSteps_29 (by decide) (fun c9 => absurd c9 (by decide)) (fun _ => ?_)
          refine lv_iconst (v := (-1)) hx hb dX4_readSteps_32 (by decide) ?_
          exact hret _ _ _ _ _ _ hw ⟨_, _, _, _, _, rfl, hG _ _ _ _ _ _ ⟨hlo, hp2, by rw [hE]; exact ⟨rfl, hq⟩⟩⟩ rfl dX4_readSteps_33
        | inr x =>
          rw [hs] at hm hE hle
          obtain ⟨hr, hq, hB, hT, hK, hDv⟩ := hm
          rw [hr]
          refine lv_if_ne (tgt := 34) hx hb dX4_readSteps_29 (by decide) (fun _ => ?_) (fun c9 => absurd c9 (by decide))
          refine lv_aload_n hx hb dX4_readSteps_34 rfl (lv_at hl 1 rfl) ?_
          refine kV_I (C := RX5) (T := TX5) (N := 3) (As := []) (rest := []) ⟨hx, hb, hml, hown, hts⟩ (c_X5_isAtEnd l G dA L (pw dA f pb pt pk pd t u tl B2 T2 K2 D2 p2) t u tl p2 tx hLt pw_t htl (by omega)) (cwV 0 hts gX4_readSteps_X5_isAtEnd rfl rfl rfl (by decide +kernel) ⟨Nat.le_of_ble_eq_true rfl, Nat.le_of_ble_eq_true rfl⟩) hw hA hLt pw_t rfl rfl hl.1 rfl (Nat.le_of_ble_eq_true rfl) dX4_readSteps_35 ⟨Nat.zero_le _, Nat.zero_le _⟩ (fun r3 f4 H locs hp hw => ?_)
          obtain ⟨e1, e2⟩ := hp
          rw [e2] at hw
          rw [e1]
          refine lv_if_eq (tgt := 45) hx hb dX4_readSteps_38 (by decide) (fun c38 => ?_) (fun c38 => ?_)
          · have q38 : ¬ tl ≤ x.1 := fun q => by rw [← hq] at q; rw [decide_eq_true q] at c38; exact absurd c38 (by decide)
            refine lv_iinc (v := nI (kk + 1)) (lv' := [(2, .int (nI (kk + 1))), (0, .ref pl), (1, .ref t)]) hx hb dX4_readSteps_45 hl (k := 2) rfl (nI_1 kk) (by decide) rfl (fun ls hl => ?_)
            refine lv_goto (tgt := 2) hx hb dX4_readSteps_48 (by decide) ?_
            refine ih (kk + 1) p2 B2 T2 K2 D2 (by omega) hp2 (fun r B3 T3 K3 D3 p3 h3 => hG r B3 T3 K3 D3 p3 ?_) _ _ hw ls (lv_sub hl [1, 2, 0] rfl)
            obtain ⟨g1, g2, g3⟩ := h3
            rw [decide_eq_false (Nat.succ_ne_zero kk), hq] at g3
            refine ⟨fun j hj => ?_, g2, ?_⟩
            · have a1 := g1 j (by omega); have a2 := hlo j hj; exact ⟨a1.1.trans a2.1, a1.2.1.trans a2.2.1, a1.2.2.1.trans a2.2.2.1, a1.2.2.2.trans a2.2.2.2⟩
            · rw [hE]; dsimp only; rw [if_neg q38]
              cases hz : stepsP tx tl kf false x.1 with
              | inl q => rw [hz] at g3; exact g3
              | inr l2 =>
                rw [hz] at g3
                have a3 := g1 kk (Nat.lt_succ_self kk)
                exact ⟨by rw [g3.1, List.length_cons, Nat.add_comm l2.length 1, Nat.add_assoc], ⟨a3.1.trans hB, a3.2.1.trans hT, a3.2.2.1.trans hK, a3.2.2.2.trans hDv⟩, g3.2⟩
          · have q38 : tl ≤ x.1 := by rw [← hq]; cases h7 : decide (tl ≤ p2) with | true => exact of_decide_eq_true h7 | false => rw [h7] at c38; exact absurd rfl c38
            refine lv_iload_n hx hb dX4_readSteps_41 rfl (lv_at hl 2 rfl) ?_
            refine lv_iconst (v := 1) hx hb dX4_readSteps_42 (by decide) ?_
            refine lv_iadd hx hb dX4_readSteps_43 ?_
            rw [show (nI kk) + 1 = nI (kk + 1) from nI_1 kk]
            exact hret _ _ _ _ _ _ hw ⟨_, _, _, _, _, rfl, hG _ _ _ _ _ _ ⟨hlo, hp2, by rw [hE]; dsimp only; rw [if_pos q38]; exact ⟨rfl, ⟨hB, hT, hK, hDv⟩, trivial⟩⟩⟩ rfl dX4_readSteps_44
      · have k0 : ¬ kk = 0 := fun q => c9 (by rw [q]; decide)
        refine lv_aload_n hx hb dX4_readSteps_12 rfl (lv_at hl 1 rfl) ?_
        refine lv_bipush (v := 59) hx hb dX4_readSteps_13 (by decide) ?_
        refine kV_I (C := RX5) (T := TX5) (N := 3) (As := [.int 59]) (rest := []) ⟨hx, hb, hml, hown, hts⟩ (c_X5_pass l G dA L (pw dA f pb pt pk pd t u tl B1 T1 K1 D1 p1) t u tl p1 tx 59 hLt pw_t hLu ((pw_u hnd).trans hfu) htl (by omega) hok) (cwV 1 hts gX4_readSteps_X5_pass rfl rfl rfl (by decide +kernel) ⟨Nat.le_of_ble_eq_true rfl, Nat.le_of_ble_eq_true rfl⟩) hw hA hLt pw_t rfl rfl hl.1 rfl (Nat.le_of_ble_eq_true rfl) dX4_readSteps_15 ⟨Nat.zero_le _, Nat.zero_le _⟩ (fun r5 f6 H locs hp hw => ?_)
        obtain ⟨e1, e2⟩ := hp
        rw [e2, pw_st] at hw
        rw [e1]
        refine lv_if_ne (tgt := 23) hx hb dX4_readSteps_18 (by decide) (fun c18 => ?_) (fun c18 => ?_)
        · have q18 : nxt tx tl p1 = 59 := by cases hq : decide (nxt tx tl p1 = 59) with | true => exact of_decide_eq_true hq | false => rw [hq] at c18; exact absurd rfl c18
          have hw : ww G dA A s L (pw dA f pb pt pk pd t u tl B1 T1 K1 D1 (p1 + 1)) H locs := by rw [if_pos q18] at hw; exact hw
          refine lv_aload_n hx hb dX4_readSteps_23 rfl (lv_at hl 0 rfl) ?_
          refine lv_aload_n hx hb dX4_readSteps_24 rfl (lv_at hl 1 rfl) ?_
          refine lv_iload_n hx hb dX4_readSteps_25 rfl (lv_at hl 2 rfl) ?_
          refine kV_I (C := RX4) (T := TX4) (N := 6) (As := [.ref t, .int (nI kk)]) (rest := []) ⟨hx, hb, hml, hown, hts⟩ (c_X4_readStep l G dA L (pw dA f pb pt pk pd t u tl B1 T1 K1 D1 (p1 + 1)) pl pb pt pk pd t u tl (p1 + 1) stp dn B1 T1 K1 D1 tx kk hLl ((pw_pl hnd).trans hfl) hLb (pw_b hnd) hLt0 (pw_tm hnd) hLk (pw_k hnd) hLd (pw_d hnd) hLt pw_t hLu ((pw_u hnd).trans hfu) hnd htl (nxt_lt q18 (by decide)) hok hkk) (cwV 2 hts gX4_readSteps_X4_readStep rfl rfl rfl (by decide +kernel) ⟨Nat.le_of_ble_eq_true rfl, Nat.le_of_ble_eq_true rfl⟩) hw hA hLl ((pw_pl hnd).trans hfl) rfl rfl hl.1 rfl (Nat.le_of_ble_eq_true rfl) dX4_readSteps_26 ⟨Nat.zero_le _, Nat.zero_le _⟩ (fun r7 f8 H locs hp hw => ?_)
          obtain ⟨B2, T2, K2, D2, p2, e2, hoff, hp2, hm⟩ := hp
          have hw : ww G dA A s L (pw dA f pb pt pk pd t u tl B2 T2 K2 D2 p2) H locs := by rw [e2, pw_pw hnd] at hw; exact hw
          have hE := show stepsP tx tl (kf + 1) (decide (kk = 0)) p1 = (match stepP tx tl (p1 + 1) with | .inl q => .inl q | .inr x => if tl ≤ x.1 then .inr [x.2] else match stepsP tx tl kf false x.1 with | .inl q => .inl q | .inr l => .inr (x.2 :: l)) from (by rw [decide_eq_false k0]; exact if_neg (fun q => q.2 q18))
          have hlo : ∀ j, j < kk → B2 j = B1 j ∧ T2 j = T1 j ∧ K2 j = K1 j ∧ D2 j = D1 j := fun j hj => hoff j (by omega)
          have hle := stepP_le (tx := tx) (tl := tl) (p := (p1 + 1)) (nxt_lt q18 (by decide))
          cases hs : stepP tx tl (p1 + 1) with
          | inl q =>
            rw [hs] at hm hE hle
            obtain ⟨hr, hq⟩ := hm
            rw [hr]
            refine lv_if_ne (tgt := 34) hx hb dX4_readSteps_29 (by decide) (fun c9 => absurd c9 (by decide)) (fun _ => ?_)
            refine lv_iconst (v := (-1)) hx hb dX4_readSteps_32 (by decide) ?_
            exact hret _ _ _ _ _ _ hw ⟨_, _, _, _, _, rfl, hG _ _ _ _ _ _ ⟨hlo, hp2, by rw [hE]; exact ⟨rfl, hq⟩⟩⟩ rfl dX4_readSteps_33
          | inr x =>
            rw [hs] at hm hE hle
            obtain ⟨hr, hq, hB, hT, hK, hDv⟩ := hm
            rw [hr]
            refine lv_if_ne (tgt := 34) hx hb dX4_readSteps_29 (by decide) (fun _ => ?_) (fun c9 => absurd c9 (by decide))
            refine lv_aload_n hx hb dX4_readSteps_34 rfl (lv_at hl 1 rfl) ?_
            refine kV_I (C := RX5) (T := TX5) (N := 3) (As := []) (rest := []) ⟨hx, hb, hml, hown, hts⟩ (c_X5_isAtEnd l G dA L (pw dA f pb pt pk pd t u tl B2 T2 K2 D2 p2) t u tl p2 tx hLt pw_t htl (by omega)) (cwV 0 hts gX4_readSteps_X5_isAtEnd rfl rfl rfl (by decide +kernel) ⟨Nat.le_of_ble_eq_true rfl, Nat.le_of_ble_eq_true rfl⟩) hw hA hLt pw_t rfl rfl hl.1 rfl (Nat.le_of_ble_eq_true rfl) dX4_readSteps_35 ⟨Nat.zero_le _, Nat.zero_le _⟩ (fun r9 f10 H locs hp hw => ?_)
            obtain ⟨e1, e2⟩ := hp
            rw [e2] at hw
            rw [e1]
            refine lv_if_eq (tgt := 45) hx hb dX4_readSteps_38 (by decide) (fun c38 => ?_) (fun c38 => ?_)
            · have q38 : ¬ tl ≤ x.1 := fun q => by rw [← hq] at q; rw [decide_eq_true q] at c38; exact absurd c38 (by decide)
              refine lv_iinc (v := nI (kk + 1)) (lv' := [(2, .int (nI (kk + 1))), (0, .ref pl), (1, .ref t)]) hx hb dX4_readSteps_45 hl (k := 2) rfl (nI_1 kk) (by decide) rfl (fun ls hl => ?_)
              refine lv_goto (tgt := 2) hx hb dX4_readSteps_48 (by decide) ?_
              refine ih (kk + 1) p2 B2 T2 K2 D2 (by omega) hp2 (fun r B3 T3 K3 D3 p3 h3 => hG r B3 T3 K3 D3 p3 ?_) _ _ hw ls (lv_sub hl [1, 2, 0] rfl)
              obtain ⟨g1, g2, g3⟩ := h3
              rw [decide_eq_false (Nat.succ_ne_zero kk), hq] at g3
              refine ⟨fun j hj => ?_, g2, ?_⟩
              · have a1 := g1 j (by omega); have a2 := hlo j hj; exact ⟨a1.1.trans a2.1, a1.2.1.trans a2.2.1, a1.2.2.1.trans a2.2.2.1, a1.2.2.2.trans a2.2.2.2⟩
              · rw [hE]; dsimp only; rw [if_neg q38]
                cases hz : stepsP tx tl kf false x.1 with
                | inl q => rw [hz] at g3; exact g3
                | inr l2 =>
                  rw [hz] at g3
                  have a3 := g1 kk (Nat.lt_succ_self kk)
                  exact ⟨by rw [g3.1, List.length_cons, Nat.add_comm l2.length 1, Nat.add_assoc], ⟨a3.1.trans hB, a3.2.1.trans hT, a3.2.2.1.trans hK, a3.2.2.2.trans hDv⟩, g3.2⟩
            · have q38 : tl ≤ x.1 := by rw [← hq]; cases h7 : decide (tl ≤ p2) with | true => exact of_decide_eq_true h7 | false => rw [h7] at c38; exact absurd rfl c38
              refine lv_iload_n hx hb dX4_readSteps_41 rfl (lv_at hl 2 rfl) ?_
              refine lv_iconst (v := 1) hx hb dX4_readSteps_42 (by decide) ?_
              refine lv_iadd hx hb dX4_readSteps_43 ?_
              rw [show (nI kk) + 1 = nI (kk + 1) from nI_1 kk]
              exact hret _ _ _ _ _ _ hw ⟨_, _, _, _, _, rfl, hG _ _ _ _ _ _ ⟨hlo, hp2, by rw [hE]; dsimp only; rw [if_pos q38]; exact ⟨rfl, ⟨hB, hT, hK, hDv⟩, trivial⟩⟩⟩ rfl dX4_readSteps_44
        · have q18 : ¬ nxt tx tl p1 = 59 := fun q => by rw [decide_eq_true q] at c18; exact absurd c18 (by decide)
          have hw : ww G dA A s L (pw dA f pb pt pk pd t u tl B1 T1 K1 D1 p1) H locs := by rw [if_neg q18] at hw; exact hw
          refine lv_iconst (v := (-1)) hx hb dX4_readSteps_21 (by decide) ?_
          exact hret _ _ _ _ _ _ hw ⟨_, _, _, _, _, rfl, hG _ _ _ _ _ _ ⟨fun j _ => ⟨rfl, rfl, rfl, rfl⟩, hp1, by rw [show stepsP tx tl (kf + 1) (decide (kk = 0)) p1 = .inl p1 from if_pos ⟨decide_eq_false k0, q18⟩]; exact ⟨rfl, rfl⟩⟩⟩ rfl dX4_readSteps_22
  exact loop 12 0 tp B T K D rfl htp (fun r B2 T2 K2 D2 p2 h => h) _ _ hw ls (lv_sub hl [1, 2, 0] rfl)
