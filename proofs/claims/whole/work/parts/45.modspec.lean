/-! ===== the reference's loops: pure words ===== -/
theorem z_add {x : UInt64} (h : Nn x) : FP.dadd FP.dconst0 x = x := by
  have h1 : FP.dadd FP.dconst0 x = FP.dadd x FP.dconst0 := FP.Core.dadd_comm _ _
  rw [h1]
  refine FP.Core.dadd_zero h.1.ne_nan (fun e => ?_)
  have h2 := h.2
  rw [e] at h2
  exact absurd h2 (by decide +kernel)
def MGk (kk : Nat → UInt64 × UInt64) (RA RB : Nat → UInt64) : Prop := ∀ j, j < 4 → RA j = (kk j).1 ∧ RB j = (kk j).2
def MGb (nb : Nat) (bd : Nat → sB) (TH : Nat → Int32) (DE : Nat → UInt64) (KI LI : Nat → Int32) (LM : Nat → UInt64) (KE : Nat → Int32) : Prop := ∀ j, j < nb → TH j = (bd j).1 ∧ DE j = (bd j).2.1 ∧ LI j = (bd j).2.2.1 ∧ LM j = (bd j).2.2.2.1 ∧ KE j = (bd j).2.2.2.2.1 ∧ KI j = nI (bd j).2.2.2.2.2
def MGw (n nb : Nat) (wt : Nat → Nat → UInt64) (WE : Nat → UInt64) : Prop := ∀ j, j < nb → ∀ i, i < n → WE (16 * j + i) = wt j i
def MGt (tt : sT) (TX : Nat → Int32) : Prop := ∀ j, j < tt.1 → TX j = tt.2 j
def MGp (pn : sP) (BW TI KV DM : Nat → Int32) : Prop := ∀ j, j < pn.1 → BW j = b2i (decide (pn.2.2.1 j = 0)) ∧ TI j = pn.2.2.2.1 j ∧ KV j = pn.2.2.2.2.1 j ∧ DM j = pn.2.2.2.2.2 j
def wput (h W : Nat → UInt64) (b i : Nat) : Nat → UInt64 := fun z => if b ≤ z ∧ z < b + i then h (z - b) else W z
theorem wput_0 (h W : Nat → UInt64) (b : Nat) : W = wput h W b 0 := by
  funext z; unfold wput; rw [if_neg (by omega)]
theorem wput_s (h W : Nat → UInt64) (b i : Nat) : vf_upd (wput h W b i) (b + i) (h i) = wput h W b (i + 1) := by
  funext z
  unfold vf_upd wput
  by_cases e : z = b + i
  · rw [if_pos e, if_pos (by omega), show z - b = i by omega]
  · rw [if_neg e]
    by_cases h2 : b ≤ z ∧ z < b + i
    · rw [if_pos h2, if_pos (by omega)]
    · rw [if_neg h2, if_neg (by omega)]
def nput (h N : Nat → UInt64) (i : Nat) : Nat → UInt64 := fun z => if z < i then h z else N z
theorem nput_0 (h N : Nat → UInt64) : N = nput h N 0 := by
  funext z; unfold nput; rw [if_neg (by omega)]
theorem nput_s (h N : Nat → UInt64) (i : Nat) : vf_upd (nput h N i) i (h i) = nput h N (i + 1) := by
  funext z
  unfold vf_upd nput
  by_cases e : z = i
  · rw [if_pos e, if_pos (by omega), e]
  · rw [if_neg e]
    by_cases h2 : z < i
    · rw [if_pos h2, if_pos (by omega)]
    · rw [if_neg h2, if_neg (by omega)]
theorem nput_in (h N : Nat → UInt64) {i k : Nat} (hi : i < k) : nput h N k i = h i := if_pos hi
theorem sp_gain_pos (ka kb dep g0 h : UInt64) (g : Nat → UInt64) (nl i : Nat) (h0 : 0 < i) (hi : i ≤ nl) : sp_gain ka kb dep g0 h g nl i = sp_slope ka kb dep (g (i - 1)) (g (i - 1 + 1)) := by
  match i, h0 with
  | i + 1, _ => exact if_pos (show i < nl by omega)
theorem nI_sub1 {i : Nat} (h : 0 < i) : nI i - 1 = nI (i - 1) := by
  match i, h with
  | i + 1, _ => exact nI_pred i
/-- the greatest of the means, as the reference finds it -/
def mostTo (bd : Nat → sB) (wt : Nat → Nat → UInt64) (n : Nat) : Nat → Bool × UInt64
  | 0 => (false, FP.dconst0)
  | i + 1 => if (bd i).1 = 0 then mostTo bd wt n i else (true, if (mostTo bd wt n i).1 = false ∨ FP.dcmp (sp_mean (wt i) n) (mostTo bd wt n i).2 = some .gt then sp_mean (wt i) n else (mostTo bd wt n i).2)
theorem mostTo_ok {bd : Nat → sB} {wt : Nat → Nat → UInt64} {n : Nat} : ∀ (i : Nat), (∀ j, j < i → (bd j).1 ≠ 0 → FP.Core.DFin (sp_mean (wt j) n)) →
    (mostTo bd wt n i).1 = decide (0 < cntTh bd i) ∧ ((mostTo bd wt n i).1 = true → FP.Core.DFin (mostTo bd wt n i).2 ∧ (∃ j, j < i ∧ (bd j).1 ≠ 0 ∧ (mostTo bd wt n i).2 = sp_mean (wt j) n) ∧ ∀ j, j < i → (bd j).1 ≠ 0 → Zv (sp_mean (wt j) n) ≤ Zv (mostTo bd wt n i).2)
  | 0, _ => ⟨rfl, fun h => absurd (show false = true from h) (by decide)⟩
  | i + 1, hf => by
    obtain ⟨h1, h2⟩ := mostTo_ok i (fun j hj => hf j (by omega))
    rw [mostTo, cntTh]
    by_cases q : (bd i).1 = 0
    · rw [if_pos q, if_pos q]
      refine ⟨h1, fun h => ?_⟩
      obtain ⟨a, ⟨j, b1, b2, b3⟩, c⟩ := h2 h
      refine ⟨a, ⟨j, by omega, b2, b3⟩, fun j hj hz => ?_⟩
      by_cases e : j = i
      · subst e; exact absurd q hz
      · exact c j (by omega) hz
    · rw [if_neg q, if_neg q]
      have hm := hf i (Nat.lt_succ_self i) q
      refine ⟨(decide_eq_true (by omega)).symm, fun _ => ?_⟩
      show FP.Core.DFin (if (mostTo bd wt n i).1 = false ∨ FP.dcmp (sp_mean (wt i) n) (mostTo bd wt n i).2 = some .gt then sp_mean (wt i) n else (mostTo bd wt n i).2) ∧ _
      by_cases z : (mostTo bd wt n i).1 = false ∨ FP.dcmp (sp_mean (wt i) n) (mostTo bd wt n i).2 = some .gt
      · rw [if_pos z]
        refine ⟨hm, ⟨i, Nat.lt_succ_self i, q, rfl⟩, fun j hj hz => ?_⟩
        by_cases e : j = i
        · subst e; exact Int.le_refl _
        · rcases z with z | z
          · exfalso
            rw [h1] at z
            have hc : 0 < cntTh bd i := by
              clear h1 h2 z hm q hf
              have : ∀ k, j < k → 0 < cntTh bd k := by
                intro k
                induction k with
                | zero => intro h; exact absurd h (Nat.not_lt_zero j)
                | succ k ih =>
                  intro h
                  rw [cntTh]
                  by_cases ek : j = k
                  · subst ek; rw [if_neg hz]; exact Nat.succ_pos _
                  · have := ih (by omega)
                    split <;> omega
              exact this i (by omega)
            rw [decide_eq_true hc] at z; cases z
          · have hs : (mostTo bd wt n i).1 = true ∨ (mostTo bd wt n i).1 = false := by cases (mostTo bd wt n i).1 <;> simp
            rcases hs with hs | hs
            · have := (h2 hs).2.2 j (by omega) hz
              have h9 : Zv (mostTo bd wt n i).2 < Zv (sp_mean (wt i) n) := (FP.Core.dcmp_gt.mp z).2.2
              show Zv (sp_mean (wt j) n) ≤ Zv (sp_mean (wt i) n)
              omega
            · exfalso
              rw [h1] at hs
              have hc : 0 < cntTh bd i := by
                have : ∀ k, j < k → 0 < cntTh bd k := by
                  intro k
                  induction k with
                  | zero => intro h; exact absurd h (Nat.not_lt_zero j)
                  | succ k ih =>
                    intro h
                    rw [cntTh]
                    by_cases ek : j = k
                    · subst ek; rw [if_neg hz]; exact Nat.succ_pos _
                    · have := ih (by omega)
                      split <;> omega
                exact this i (by omega)
              rw [decide_eq_true hc] at hs; cases hs
      · rw [if_neg z]
        have hs : (mostTo bd wt n i).1 = true := by
          cases e : (mostTo bd wt n i).1 with
          | true => rfl
          | false => exact absurd (Or.inl e) z
        obtain ⟨a, ⟨j, b1, b2, b3⟩, c⟩ := h2 hs
        refine ⟨a, ⟨j, by omega, b2, b3⟩, fun j hj hz => ?_⟩
        by_cases e : j = i
        · subst e
          show Zv (sp_mean (wt j) n) ≤ Zv (mostTo bd wt n j).2
          refine Int.not_lt.mp fun hlt => z (Or.inr (FP.Core.dcmp_gt.mpr ⟨fin_ne hm, fin_ne a, hlt⟩))
        · exact c j (by omega) hz
theorem most_due {bd : Nat → sB} {wt : Nat → Nat → UInt64} {n nb : Nat} {x : UInt64} (hf : ∀ j, j < nb → (bd j).1 ≠ 0 → FP.Core.DFin (sp_mean (wt j) n)) (hx : FP.Core.DFin x) :
    (decide (0 < cntTh bd nb) && !anyF (wtP bd wt n x) nb 0) = ((mostTo bd wt n nb).1 && !decide (FP.dcmp (mostTo bd wt n nb).2 x = some .gt)) := by
  obtain ⟨h1, h2⟩ := mostTo_ok nb hf
  rw [h1]
  cases e : decide (0 < cntTh bd nb) with
  | false => rfl
  | true =>
    rw [e] at h1
    obtain ⟨a, ⟨j, b1, b2, b3⟩, c⟩ := h2 h1
    have : anyF (wtP bd wt n x) nb 0 = decide (FP.dcmp (mostTo bd wt n nb).2 x = some .gt) := by
      by_cases q : FP.dcmp (mostTo bd wt n nb).2 x = some .gt
      · rw [decide_eq_true q]
        refine (anyF_iff _ _ _).mpr ⟨j, Nat.zero_le _, by omega, ?_⟩
        unfold wtP
        rw [decide_eq_false b2, ← b3, decide_eq_true q]; rfl
      · rw [decide_eq_false q]
        cases e2 : anyF (wtP bd wt n x) nb 0 with
        | false => rfl
        | true =>
          exfalso
          obtain ⟨k, -, k2, k3⟩ := (anyF_iff _ _ _).mp e2
          unfold wtP at k3
          rw [Bool.and_eq_true, Bool.not_eq_true', decide_eq_false_iff_not, decide_eq_true_iff] at k3
          have h9 := (FP.Core.dcmp_gt.mp k3.2).2.2
          have h8 := c k (by omega) k3.1
          exact q (FP.Core.dcmp_gt.mpr ⟨fin_ne a, fin_ne hx, Int.lt_of_lt_of_le h9 h8⟩)
    rw [this]
