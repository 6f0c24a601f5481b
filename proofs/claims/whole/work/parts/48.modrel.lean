/-! ===== the reference's state: cells and what they agree with ===== -/
def RM (ad : Nat → Nat) (dA : Nat → ClassId) (n nb : Nat) (ai : sA) (le : sL) (bd : Nat → sB) (wt : Nat → Nat → UInt64) (kk : Nat → UInt64 × UInt64) (tt : sT) (pn : sP) (hr : Nat) (thr : Int32) (f0 f : Nat → va_E) : Prop :=
  ∃ (pa : Nat) (bad : Int32) (num : Int32) (RA : Nat → UInt64) (RB : Nat → UInt64) (TH : Nat → Int32) (DE : Nat → UInt64) (KI : Nat → Int32) (WE : Nat → UInt64) (NX : Nat → UInt64) (LI : Nat → Int32) (LM : Nat → UInt64) (KE : Nat → Int32) (TX : Nat → Int32) (BW : Nat → Int32) (TI : Nat → Int32) (KV : Nat → Int32) (DM : Nat → Int32), MX ad dA n nb ai.1 ai.2.1 ai.2.2.1 ai.2.2.2 le.1 le.2 hr tt.1 pn.1 pn.2.1 thr pa bad num RA RB TH DE KI WE NX LI LM KE TX BW TI KV DM f0 f ∧
  MGk kk RA RB ∧ MGb nb bd TH DE KI LI LM KE ∧ MGw n nb wt WE ∧ MGt tt TX ∧ MGp pn BW TI KV DM
theorem MGw.put {n nb : Nat} {wt : Nat → Nat → UInt64} {WE h h2 : Nat → UInt64} {k : Nat} (hM : MGw n nb wt WE) (hn : n ≤ 16) (he : ∀ i, i < n → h i = h2 i) : MGw n nb (va_up wt k h2) (wput h WE (16 * k) n) := by
  intro j hj i hi
  unfold wput
  by_cases e : j = k
  · subst e
    rw [va_up_self, if_pos (by omega), show 16 * j + i - 16 * j = i by omega]
    exact he i hi
  · rw [va_up_ne _ _ e, if_neg (by omega)]
    exact hM j hj i hi
theorem MGw.upd {n nb : Nat} {wt : Nat → Nat → UInt64} {WE : Nat → UInt64} {k i0 : Nat} {x : UInt64} (hM : MGw n nb wt WE) (hn : n ≤ 16) (hi0 : i0 < n) : MGw n nb (va_up wt k (vf_upd (wt k) i0 x)) (vf_upd WE (16 * k + i0) x) := by
  intro j hj i hi
  by_cases e : j = k
  · subst e
    rw [va_up_self]
    by_cases e2 : i = i0
    · subst e2; rw [show vf_upd WE (16 * j + i) x (16 * j + i) = x from if_pos rfl, show vf_upd (wt j) i x i = x from if_pos rfl]
    · rw [show vf_upd WE (16 * j + i0) x (16 * j + i) = WE (16 * j + i) from if_neg (by omega), show vf_upd (wt j) i0 x i = wt j i from if_neg e2]; exact hM j hj i hi
  · rw [va_up_ne _ _ e, show vf_upd WE (16 * k + i0) x (16 * j + i) = WE (16 * j + i) from if_neg (by omega)]; exact hM j hj i hi
theorem MGw.fill {n nb : Nat} {wt : Nat → Nat → UInt64} {WE : Nat → UInt64} {k : Nat} {x : UInt64} (hM : MGw n nb wt WE) (hn : n ≤ 16) : MGw n nb (va_up wt k (fillTo x (wt k) n)) (wfill x WE k n) := by
  intro j hj i hi
  unfold wfill
  by_cases e : j = k
  · subst e
    rw [va_up_self, if_pos (by omega)]
    exact (if_pos hi).symm
  · rw [va_up_ne _ _ e, if_neg (by omega)]
    exact hM j hj i hi
section MGBL
variable {n nb : Nat} {wt : Nat → Nat → UInt64} {hh : Int32} {bd : Nat → sB} {i : Nat} {TH : Nat → Int32} {DE : Nat → UInt64} {KI LI : Nat → Int32} {LM : Nat → UInt64} {KE : Nat → Int32}
theorem MGb.skip (h : MGb nb (kpTo n wt hh bd i) TH DE KI LI LM KE) (hz : (bd i).1 = 0) : MGb nb (kpTo n wt hh bd (i + 1)) TH DE KI LI LM KE := by
  rw [kpTo, kpB, if_pos hz, up_id (kpTo_ge n wt hh bd i i (Nat.le_refl i))]; exact h
theorem MGb.keep (h : MGb nb (kpTo n wt hh bd i) TH DE KI LI LM KE) (hi : i < nb) (hz : ¬ (bd i).1 = 0) : MGb nb (kpTo n wt hh bd (i + 1)) TH DE KI LI LM (upd KE i (sp_keep (LI i) (KE i) (sp_load (wt i) n) (LM i) hh)) := by
  intro j hj
  have ek := kpTo_ge n wt hh bd i i (Nat.le_refl i)
  rw [kpTo, kpB, if_neg hz]
  by_cases e : j = i
  · subst e
    obtain ⟨a1, a2, a3, a4, a5, a6⟩ := h j hj
    rw [ek] at a1 a2 a3 a4 a5 a6
    rw [va_up_self, pk_us, a3, a4, a5]
    exact ⟨a1, a2, rfl, rfl, rfl, a6⟩
  · rw [va_up_ne _ _ e, pk_un e]; exact h j hj
end MGBL
theorem hNew_at (ai : sA) (b : sB) (k : UInt64 × UInt64) (g : Nat → UInt64) (nl i : Nat) (hi : i < nl + 1) : sp_new k.1 k.2 b.2.1 (hF ai b (g 0)) (hF ai b (g nl)) g nl i = hNew ai b k g nl i := (if_pos hi).symm
