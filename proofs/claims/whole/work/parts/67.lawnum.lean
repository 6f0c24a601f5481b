/-! ===== numbers of the script, and how the law's state moves ===== -/
def sv (v : Int32) : UInt64 := FP.dmul (FP.i2d v) 4593671619917905920
theorem k_8th : Nn 4593671619917905920 ∧ Zm 4593671619917905920 = 2 ^ 1071 := ⟨⟨fin_c (by decide), by decide +kernel⟩, by decide +kernel⟩
theorem k_400 : Nn 4645744490609377280 ∧ Zm 4645744490609377280 = 400 * 2 ^ 1074 := ⟨⟨fin_c (by decide), by decide +kernel⟩, by decide +kernel⟩
theorem k_250 : Nn 4643000109586448384 ∧ Zm 4643000109586448384 = 250 * 2 ^ 1074 := ⟨⟨fin_c (by decide), by decide +kernel⟩, by decide +kernel⟩
theorem k_3 : Nn 4613937818241073152 ∧ Zm 4613937818241073152 = 3 * 2 ^ 1074 := ⟨⟨fin_c (by decide), by decide +kernel⟩, by decide +kernel⟩
theorem k_16 : Nn 4625196817309499392 ∧ Zm 4625196817309499392 = 2 ^ 1078 := ⟨⟨fin_c (by decide), by decide +kernel⟩, by decide +kernel⟩
theorem i2d_zm (v : Int32) : Zm (FP.i2d v) = v.toInt.natAbs * 2 ^ 1074 := by
  have h1 := FP.Core.DInt_zval (FP.Core.i2d_int v)
  have h2 : Zv (FP.i2d v) = v.toInt * ((2 ^ 1074 : Nat) : Int) := by
    show FP.Core.zval FP.Core.b64 (FP.Core.val64 (FP.Core.i2d v)) = _
    rw [h1]; rfl
  rw [← zv_abs, h2, Int.natAbs_mul, Int.natAbs_natCast]
theorem sv_fin (v : Int32) : FP.Core.DFin (sv v) ∧ vf_n64 (sv v) := by
  have ha : Ab (2 ^ 1105) (FP.i2d v) := ⟨FP.Core.i2d_fin _, by
    rw [i2d_zm]
    have h1 : v.toInt.natAbs ≤ 2 ^ 31 := by have a := Int32.toInt_lt v; have b := Int32.le_toInt v; omega
    exact Nat.le_trans (Nat.mul_le_mul_right _ h1) (by decide +kernel)⟩
  have hm : Ab (2 ^ 1102) (sv v) := ha.mul (kp k_8th).ab (rep_pow 1102 (by decide)) (by unfold E64; decide +kernel)
  exact ⟨hm.1, hm.n⟩
theorem sv_nn {v : Int32} (h : 0 ≤ Zv (sv v)) : Nn (sv v) := by
  by_cases e : v = 0
  · subst e
    exact ⟨(sv_fin 0).1, by decide +kernel⟩
  · have h1 : 1 ≤ v.toInt.natAbs := by
      refine Nat.pos_of_ne_zero fun h0 => e ?_
      rw [← Int32.toInt_inj]
      exact Int.natAbs_eq_zero.mp h0
    have hr := (rd_mul (FP.Core.i2d_fin v) k_8th.1.1).1.2.1 (2 ^ 1071) (rep_pow 1071 (by decide)) (by
      show 2 ^ 1071 * E64 ≤ Zm (FP.i2d v) * Zm 4593671619917905920
      rw [i2d_zm, k_8th.2, Nat.mul_comm]
      refine Nat.mul_le_mul_right _ ?_
      exact Nat.le_trans (by unfold E64; decide +kernel) (Nat.mul_le_mul_right (2 ^ 1074) h1))
    have hp : 0 < Zm (sv v) := Nat.lt_of_lt_of_le (Nat.two_pow_pos 1071) hr
    exact ⟨(sv_fin v).1, sgn_of_pos h hp⟩
theorem in_np {x lo hi : UInt64} {b : Nat} (hx : FP.Core.DFin x) (h : inR x lo hi) (hlo : Nn lo) (hhi : Nn hi ∧ Zm hi = b) : Np b x ∧ Zm lo ≤ Zm x := by
  have h1 : Zv lo ≤ Zv x := (FP.Core.dcmp_ge.mp h.1).2.2
  have h2 : Zv x ≤ Zv hi := (FP.Core.dcmp_le.mp h.2).2.2
  rw [hlo.zv] at h1
  rw [hhi.1.zv, hhi.2] at h2
  have h3 := zv_abs x
  have h0 : 0 ≤ Zv x := Int.le_trans (Int.natCast_nonneg _) h1
  exact ⟨⟨hx, h0, by omega⟩, by omega⟩
theorem g_dep {x : UInt64} {n : Nat} (hx : FP.Core.DFin x) (h : inR x FP.dconst1 4645744490609377280) (h1 : 1 ≤ n) (hn : n ≤ 16) : GD (FP.ddiv x (FP.i2d (nI n))) ∧ vf_n64 (FP.ddiv x (FP.i2d (nI n))) := by
  obtain ⟨a1, a2⟩ := in_np hx h k_1.1 k_400
  rw [k_1.2] at a2
  obtain ⟨c1, c2, c3⟩ := i2d_n (n := n) (by omega)
  have hge : 2 ^ 1074 ≤ Zm (FP.i2d (nI n)) := by
    rw [c3]
    have := Nat.mul_le_mul_right (2 ^ 1074) h1
    rw [Nat.one_mul] at this; exact this
  have hd : Np (400 * 2 ^ 1074) (FP.ddiv x (FP.i2d (nI n))) := Np.div (m := 2 ^ 1074) a1 c2 (by rw [c1]; exact Int.natCast_nonneg _) hge (Nat.two_pow_pos _) (rep_mul 1074 (by decide) (by decide)) (by unfold E64; decide +kernel)
  have hr := (rd_div hx c2 (Nat.lt_of_lt_of_le (Nat.two_pow_pos 1074) hge)).1.2.1 (2 ^ 1070) (rep_pow 1070 (by decide)) (by
    rw [c3]
    refine Nat.le_trans ?_ (Nat.mul_le_mul_right E64 a2)
    refine Nat.le_trans (Nat.mul_le_mul_left (2 ^ 1070) (Nat.mul_le_mul_right (2 ^ 1074) hn)) ?_
    unfold E64; decide +kernel)
  exact ⟨⟨hd, hr⟩, hd.ab.n⟩
theorem KH_3 (hr : Nat) : 3 * 2 ^ 1074 ≤ KH hr * gG := Nat.le_trans (by unfold gG; decide +kernel) (Nat.mul_le_mul_right gG (show 3 * 2 ^ 49 ≤ KH hr by unfold KH; omega))
theorem g_wet {v : Int32} (h : inR (sv v) FP.dconst0 4613937818241073152) (hr : Nat) : Nn (sv v) ∧ Zm (sv v) ≤ KH hr * gG := by
  obtain ⟨a1, -⟩ := in_np (sv_fin v).1 h k_0.1 k_3
  exact ⟨sv_nn a1.2.1, Nat.le_trans a1.2.2 (KH_3 hr)⟩
section GRU
variable {nl nb : Nat} {kk : Nat → UInt64 × UInt64} {x : sR}
theorem GR.board (h : GR nl nb kk x) {j kc : Nat} (hc : kc < 4) {d w ld : UInt64} (hd : GD d) (hw : Nn w ∧ Zm w ≤ KH x.2.2.2.2.2 * gG) : GR nl nb kk (x.1, x.2.1, va_up x.2.2.1 j (1, d, 0, ld, -1, kc), va_up x.2.2.2.1 j (fillTo w (x.2.2.2.1 j) (nl + 1)), x.2.2.2.2.1, x.2.2.2.2.2) := by
  refine ⟨h.1, h.2.1, fun k hk => ?_, h.2.2.2⟩
  show (va_up x.2.2.1 j _ k).2.2.2.2.2 < 4 ∧ ((va_up x.2.2.1 j _ k).1 ≠ 0 → GD (va_up x.2.2.1 j _ k).2.1 ∧ GW (KH x.2.2.2.2.2) (va_up x.2.2.2.1 j _ k) (nl + 1))
  by_cases e : k = j
  · subst e
    rw [va_up_self, va_up_self]
    refine ⟨hc, fun _ => ⟨hd, fun i hi => ?_⟩⟩
    rw [show fillTo w (x.2.2.2.1 k) (nl + 1) i = w from if_pos hi]; exact hw
  · rw [va_up_ne _ _ e, va_up_ne _ _ e]; exact h.2.2.1 k hk
theorem GR.soak (h : GR nl nb kk x) {j k : Nat} {w : UInt64} (hw : Nn w ∧ Zm w ≤ KH x.2.2.2.2.2 * gG) : GR nl nb kk (x.1, x.2.1, x.2.2.1, va_up x.2.2.2.1 j (vf_upd (x.2.2.2.1 j) k w), x.2.2.2.2.1, x.2.2.2.2.2) := by
  refine ⟨h.1, h.2.1, fun z hz => ?_, h.2.2.2⟩
  show (x.2.2.1 z).2.2.2.2.2 < 4 ∧ ((x.2.2.1 z).1 ≠ 0 → GD (x.2.2.1 z).2.1 ∧ GW (KH x.2.2.2.2.2) (va_up x.2.2.2.1 j _ z) (nl + 1))
  by_cases e : z = j
  · subst e
    rw [va_up_self]
    refine ⟨(h.2.2.1 z hz).1, fun q => ⟨((h.2.2.1 z hz).2 q).1, fun i hi => ?_⟩⟩
    by_cases e2 : i = k
    · subst e2; rw [show vf_upd (x.2.2.2.1 z) i w i = w from if_pos rfl]; exact hw
    · rw [show vf_upd (x.2.2.2.1 z) k w i = x.2.2.2.1 z i from if_neg e2]; exact ((h.2.2.1 z hz).2 q).2 i hi
  · rw [va_up_ne _ _ e]; exact h.2.2.1 z hz
theorem GR.limit (h : GR nl nb kk x) {j : Nat} {u : UInt64} : GR nl nb kk (x.1, x.2.1, va_up x.2.2.1 j ((x.2.2.1 j).1, (x.2.2.1 j).2.1, 1, u, -1, (x.2.2.1 j).2.2.2.2.2), x.2.2.2.1, x.2.2.2.2.1, x.2.2.2.2.2) := by
  refine ⟨h.1, h.2.1, fun z hz => ?_, h.2.2.2⟩
  show (va_up x.2.2.1 j _ z).2.2.2.2.2 < 4 ∧ ((va_up x.2.2.1 j _ z).1 ≠ 0 → GD (va_up x.2.2.1 j _ z).2.1 ∧ GW (KH x.2.2.2.2.2) (x.2.2.2.1 z) (nl + 1))
  by_cases e : z = j
  · subst e; rw [va_up_self]; exact h.2.2.1 z hz
  · rw [va_up_ne _ _ e]; exact h.2.2.1 z hz
theorem GR.rate (h : GR nl nb kk x) {kc : Nat} {u v : UInt64} (hu : Np (2 ^ 1077) u) (hv : Np (2 ^ 1077) v) : GR nl nb (va_up kk kc (u, v)) x := by
  refine ⟨h.1, h.2.1, h.2.2.1, h.2.2.2.1, fun j hj => ?_⟩
  by_cases e : j = kc
  · subst e; rw [va_up_self]; exact ⟨hu, hv⟩
  · rw [va_up_ne _ _ e]; exact h.2.2.2.2 j hj
theorem GR.air (h : GR nl nb kk x) {a : sA} (ha : GAs a) : GR nl nb kk (a, x.2) := ⟨ha, h.2⟩
theorem GR.plan (h : GR nl nb kk x) {pn : sP} (hp : GP pn) : GR nl nb kk (x.1, x.2.1, x.2.2.1, x.2.2.2.1, pn, x.2.2.2.2.2) := ⟨h.1, h.2.1, h.2.2.1, hp, h.2.2.2.2⟩
end GRU
def Bd4 (y : St4) : Prop := (∃ t, t ≤ 999 ∧ y.2.1 = nI t) ∧ (∃ k, 250 ≤ k ∧ k ≤ 400 ∧ y.2.2.1 = nI k) ∧ ∃ d, d ≤ 100 ∧ y.2.2.2 = nI d
theorem numP_bd {tx : Nat → Int32} {tl p : Nat} {lo hi : Int32} {x : Nat × Int32} (h : numP tx tl p lo hi = some x) : ¬ x.2 < lo ∧ ¬ hi < x.2 := by
  unfold numP at h
  split at h
  · cases h
  · rename_i q
    cases h
    exact ⟨fun e => q (Or.inr (Or.inl e)), fun e => q (Or.inr (Or.inr e))⟩
theorem stepP_bd {tx : Nat → Int32} {tl p : Nat} {x : Nat × St4} (h : stepP tx tl p = .inr x) : Bd4 x.2 := by
  unfold stepP at h
  by_cases h1 : nxt tx tl p = (if nxt tx tl p = 104 then 104 else 119)
  · rw [if_pos h1] at h
    cases e1 : numP tx tl (p + 1) 0 999 with
    | none => rw [e1] at h; cases h
    | some x1 =>
      rw [e1] at h
      dsimp only at h
      by_cases h2 : nxt tx tl x1.1 = 58
      · rw [if_pos h2] at h
        cases e2 : numP tx tl (x1.1 + 1) 250 400 with
        | none => rw [e2] at h; cases h
        | some x2 =>
          rw [e2] at h
          dsimp only at h
          by_cases h3 : nxt tx tl x2.1 = 44
          · rw [if_pos h3] at h
            cases e3 : numP tx tl (x2.1 + 1) 0 100 with
            | none => rw [e3] at h; cases h
            | some x3 =>
              rw [e3] at h
              cases h
              obtain ⟨a1, a2⟩ := numP_bd e1
              obtain ⟨b1, b2⟩ := numP_bd e2
              obtain ⟨c1, c2⟩ := numP_bd e3
              obtain ⟨t, ht, et⟩ := nI_of2 (M := 999) (n := 999) rfl a1 (Int32.not_lt.mp a2)
              obtain ⟨k, hk, ek⟩ := nI_of2 (M := 400) (n := 400) rfl (x := x2.2) (fun h => b1 (Int32.lt_trans h (by decide))) (Int32.not_lt.mp b2)
              obtain ⟨d, hd, ed⟩ := nI_of2 (M := 100) (n := 100) rfl c1 (Int32.not_lt.mp c2)
              refine ⟨⟨t, ht, et⟩, ⟨k, ?_, hk, ek⟩, ⟨d, hd, ed⟩⟩
              rw [ek] at b1
              exact Nat.le_of_not_lt fun q => b1 (show nI k < nI 250 from nI_lt q (by decide))
          · rw [if_neg h3] at h; cases h
      · rw [if_neg h2] at h; cases h
  · rw [if_neg h1] at h; cases h
theorem stepsP_bd {tx : Nat → Int32} {tl : Nat} : ∀ (n : Nat) (b : Bool) (p : Nat) (l : List St4), stepsP tx tl n b p = .inr l → ∀ y ∈ l, Bd4 y
  | 0, _, _, _, h => by cases h
  | n + 1, b, p, l, h => by
    unfold stepsP at h
    split at h
    · cases h
    · split at h
      · cases h
      · rename_i x e
        split at h
        · cases h
          intro y hy
          rw [List.mem_singleton] at hy
          subst hy; exact stepP_bd e
        · split at h
          · cases h
          · rename_i l2 e2
            cases h
            intro y hy
            rcases List.mem_cons.mp hy with rfl | hy
            · exact stepP_bd e
            · exact stepsP_bd n _ _ l2 e2 y hy
theorem GP_rows {tx : Nat → Int32} {tl : Nat} {l : List St4} {B T K D : Nat → Int32} (h : stepsP tx tl 12 true 0 = .inr l) (hr : rowsAt B T K D 0 l) : GP (l.length, 0, B, T, K, D) := by
  refine ⟨Nat.zero_le _, stepsP_len _ _ _ _ h, fun j hj => ?_⟩
  have hj : j < l.length := hj
  have hx := List.getElem?_eq_getElem hj
  obtain ⟨-, b, c, d⟩ := rowsAt_get l 0 j _ hr hx
  rw [Nat.zero_add] at b c d
  obtain ⟨⟨t, t1, t2⟩, ⟨k, k1, k2, k3⟩, ⟨e, e1, e2⟩⟩ := stepsP_bd 12 true 0 l h _ (List.getElem_mem hj)
  exact ⟨⟨k, k1, k2, c.trans k3⟩, ⟨e, e1, d.trans e2⟩, ⟨t, t1, b.trans t2⟩⟩
theorem GP_0 (B T K D : Nat → Int32) : GP (0, 0, B, T, K, D) := ⟨Nat.le_refl 0, Nat.zero_le _, fun j hj => absurd hj (Nat.not_lt_zero j)⟩
theorem MGp_0 (B T K D BW TI KV DM : Nat → Int32) : MGp (0, 0, B, T, K, D) BW TI KV DM := fun j hj => absurd hj (Nat.not_lt_zero j)
theorem TxOk.app {tx : Nat → Int32} {tl : Nat} {u : Int32} (h : TxOk tx tl) (hu : sp_app tl u = true) : tl + 1 ≤ 200 ∧ TxOk (upd tx tl u) (tl + 1) := by
  unfold sp_app at hu
  rw [Bool.and_eq_true, Bool.and_eq_true, decide_eq_true_iff, decide_eq_true_iff, decide_eq_true_iff] at hu
  refine ⟨hu.1, fun j hj => ?_⟩
  by_cases e : j = tl
  · subst e; rw [pk_us]; exact (i2c_small hu.2.1 (Int32.not_lt.mp hu.2.2)).2
  · rw [pk_un e]; exact h j (by omega)
theorem MGt.app {tt : sT} {TX : Nat → Int32} (h : MGt tt TX) (u : Int32) : MGt (tt.1 + 1, upd tt.2 tt.1 u) (upd TX tt.1 u) := by
  intro j hj
  have hj : j < tt.1 + 1 := hj
  show upd TX tt.1 u j = upd tt.2 tt.1 u j
  by_cases e : j = tt.1
  · subst e; rw [pk_us, pk_us]
  · rw [pk_un e, pk_un e]; exact h j (by omega)
theorem vfu_s {g : Nat → UInt64} {k : Nat} {x : UInt64} : vf_upd g k x k = x := if_pos rfl
theorem vfu_n {g : Nat → UInt64} {k j : Nat} {x : UInt64} (h : j ≠ k) : vf_upd g k x j = g j := if_neg h
section MGU
variable {nb : Nat} {bd : Nat → sB} {TH : Nat → Int32} {DE : Nat → UInt64} {KI LI : Nat → Int32} {LM : Nat → UInt64} {KE : Nat → Int32}
theorem MGb.set (h : MGb nb bd TH DE KI LI LM KE) {j kc : Nat} (hj : j < nb) (d : UInt64) : MGb nb (va_up bd j (1, d, 0, (bd j).2.2.2.1, -1, kc)) (upd TH j 1) (vf_upd DE j d) (upd KI j (nI kc)) (upd LI j 0) LM (upd KE j (-1)) := by
  intro k hk
  by_cases e : k = j
  · subst e
    rw [va_up_self, pk_us, pk_us, pk_us, pk_us, vfu_s]
    exact ⟨rfl, rfl, rfl, (h k hk).2.2.2.1, rfl, rfl⟩
  · rw [va_up_ne _ _ e, pk_un e, pk_un e, pk_un e, pk_un e, vfu_n e]; exact h k hk
theorem MGb.lim (h : MGb nb bd TH DE KI LI LM KE) {j : Nat} (hj : j < nb) (u : UInt64) : MGb nb (va_up bd j ((bd j).1, (bd j).2.1, 1, u, -1, (bd j).2.2.2.2.2)) TH DE KI (upd LI j 1) (vf_upd LM j u) (upd KE j (-1)) := by
  intro k hk
  by_cases e : k = j
  · subst e
    rw [va_up_self, pk_us, pk_us, vfu_s]
    obtain ⟨a, b, c, d, e, g⟩ := h k hk
    exact ⟨a, b, rfl, rfl, rfl, g⟩
  · rw [va_up_ne _ _ e, pk_un e, pk_un e, vfu_n e]; exact h k hk
end MGU
theorem MGk.set {kk : Nat → UInt64 × UInt64} {RA RB : Nat → UInt64} (h : MGk kk RA RB) {kc : Nat} (u v : UInt64) : MGk (va_up kk kc (u, v)) (vf_upd RA kc u) (vf_upd RB kc v) := by
  intro j hj
  by_cases e : j = kc
  · subst e; rw [va_up_self, vfu_s, vfu_s]; exact ⟨rfl, rfl⟩
  · rw [va_up_ne _ _ e, vfu_n e, vfu_n e]; exact h j hj
/-- the law's state: both sides' cells and what is good of the numbers -/
def LwI (ad : Nat → Nat) (dA : Nat → ClassId) (nl nb : Nat) (q qk : Nat → Option Nat) (x : sR) (kk : Nat → UInt64 × UInt64) (tt : sT) (f : Nat → va_E) : Prop :=
  RC ad dA (nl + 1) nb q qk x.1 x.2.1 x.2.2.1 x.2.2.2.1 kk tt x.2.2.2.2.1 x.2.2.2.2.2 f f ∧ (∃ thr : Int32, RM ad dA (nl + 1) nb x.1 x.2.1 x.2.2.1 x.2.2.2.1 kk tt x.2.2.2.2.1 x.2.2.2.2.2 thr f f) ∧ (∃ o : Nat → Int64, f (ad 32) = aL (dA 4) 1 o) ∧ (∃ o : Nat → UInt64, f (ad 33) = aD (dA 1) 1 o) ∧ GR nl nb kk x ∧ tt.1 ≤ 200 ∧ TxOk tt.2 tt.1
theorem LwI.of {ad : Nat → Nat} {dA : Nat → ClassId} {nl nb : Nat} {q qk : Nat → Option Nat} {x : sR} {kk : Nat → UInt64 × UInt64} {tt : sT} {thr : Int32} {f0 f2 f3 : Nat → va_E} (hR : RC ad dA (nl + 1) nb q qk x.1 x.2.1 x.2.2.1 x.2.2.2.1 kk tt x.2.2.2.2.1 x.2.2.2.2.2 f0 f2) (hM : RM ad dA (nl + 1) nb x.1 x.2.1 x.2.2.1 x.2.2.2.1 kk tt x.2.2.2.2.1 x.2.2.2.2.2 thr f2 f3) (ho : ∃ o : Nat → Int64, f2 (ad 32) = aL (dA 4) 1 o) (hd : ∃ o : Nat → UInt64, f2 (ad 33) = aD (dA 1) 1 o) (hG : GR nl nb kk x) (ht : tt.1 ≤ 200) (hT : TxOk tt.2 tt.1) : LwI ad dA nl nb q qk x kk tt f3 := by
  obtain ⟨pa, bad, num, RA, RB, TH, DE, KI, WE, NX, LI, LM, KE, TX, BW, TI, KV, DM, hX, h1, h2, h3, h4, h5⟩ := hM
  obtain ⟨o, ho⟩ := ho
  obtain ⟨od, hd⟩ := hd
  refine ⟨hR.mv (fun i hi h => hX.fr hi (by omega)) (fun _ _ _ => rfl), ⟨thr, _, _, _, _, _, _, _, _, _, _, _, _, _, _, _, _, _, _, hX.mv (fun _ _ _ => rfl) (fun _ _ _ => rfl), h1, h2, h3, h4, h5⟩, ⟨o, (hX.fr (by omega) (by omega)).trans ho⟩, ⟨od, (hX.fr (by omega) (by omega)).trans hd⟩, hG, ht, hT⟩
