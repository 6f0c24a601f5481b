/-! ===== an hour, a run: pure words ===== -/
def anyF (P : Nat → Bool) : Nat → Nat → Bool
  | 0, _ => false
  | k + 1, i => P i || anyF P k (i + 1)
theorem anyF_iff (P : Nat → Bool) : ∀ (k i : Nat), anyF P k i = true ↔ ∃ j, i ≤ j ∧ j < i + k ∧ P j = true
  | 0, i => ⟨fun h => absurd (show false = true from h) (by decide), fun ⟨j, h1, h2, _⟩ => absurd h1 (by omega)⟩
  | k + 1, i => by
    rw [anyF, Bool.or_eq_true, anyF_iff P k (i + 1)]
    constructor
    · rintro (h | ⟨j, h1, h2, h3⟩)
      · exact ⟨i, Nat.le_refl _, by omega, h⟩
      · exact ⟨j, by omega, by omega, h3⟩
    · rintro ⟨j, h1, h2, h3⟩
      by_cases e : j = i
      · subst e; exact Or.inl h3
      · exact Or.inr ⟨j, by omega, by omega, h3⟩
theorem anyF_no {P : Nat → Bool} {k : Nat} (h : anyF P k 0 = false) : ∀ j, j < k → P j = false := by
  intro j hj
  cases e : P j with
  | false => rfl
  | true => rw [(anyF_iff P k 0).mpr ⟨j, Nat.zero_le _, by omega, e⟩] at h; cases h
def cntTh (bd : Nat → sB) : Nat → Nat
  | 0 => 0
  | i + 1 => if (bd i).1 = 0 then cntTh bd i else cntTh bd i + 1
theorem cntTh_le (bd : Nat → sB) : ∀ i, cntTh bd i ≤ i
  | 0 => Nat.le_refl _
  | i + 1 => by
    have := cntTh_le bd i
    rw [cntTh]; split <;> omega
def rfP (bd : Nat → sB) (wt : Nat → Nat → UInt64) (kk : Nat → UInt64 × UInt64) (spd : UInt64) (n i : Nat) : Bool :=
  !decide ((bd i).1 = 0) && sp_ref spd (bd i).2.1 (kk (bd i).2.2.2.2.2).1 (kk (bd i).2.2.2.2.2).2 (maxD (wt i) n)
def wtP (bd : Nat → sB) (wt : Nat → Nat → UInt64) (n : Nat) (x : UInt64) (i : Nat) : Bool :=
  !decide ((bd i).1 = 0) && decide (FP.dcmp (sp_mean (wt i) n) x = some .gt)
def dueS (n nb : Nat) (bd : Nat → sB) (wt : Nat → Nat → UInt64) (pn : sP) (hr : Nat) : Bool :=
  if pn.2.2.1 pn.2.1 = 0 then decide (0 < cntTh bd nb) && !anyF (wtP bd wt n (FP.ddiv (FP.i2d (pn.2.2.2.1 pn.2.1)) 4636737291354636288)) nb 0 else decide (pn.2.2.2.1 pn.2.1 ≤ nI hr)
def flS (n nb : Nat) (ai : sA) (bd : Nat → sB) (wt : Nat → Nat → UInt64) (pn : sP) (hr : Nat) : sA × sP :=
  if pn.2.1 < pn.1 ∧ dueS n nb bd wt pn hr = true then ((FP.i2d (pn.2.2.2.2.1 pn.2.1), FP.ddiv (FP.i2d (pn.2.2.2.2.2 pn.2.1)) 4636737291354636288, ai.2.2.1, ai.2.2.2), (pn.1, pn.2.1 + 1, pn.2.2)) else (ai, pn)
def hF (ai : sA) (b : sB) (w : UInt64) : UInt64 := sp_face b.2.1 w ai.2.2.1 (sp_bal ai.1 ai.2.1)
def hWa (ai : sA) (b : sB) (g : Nat → UInt64) (nl : Nat) : UInt64 := FP.dmul (FP.dmul (FP.dadd (hF ai b (g 0)) (hF ai b (g nl))) b.2.1) 4634204016564240384
def hNew (ai : sA) (b : sB) (k : UInt64 × UInt64) (g : Nat → UInt64) (nl : Nat) : Nat → UInt64 := newTo k.1 k.2 b.2.1 (hF ai b (g 0)) (hF ai b (g nl)) g nl (nl + 1)
def hLed (le : sL) (wa : UInt64) : sL := (FP.dsub (FP.dadd le.1 wa) (FP.l2d (FP.d2l (FP.dadd le.1 wa))), le.2 + FP.d2l (FP.dadd le.1 wa))
def hAir (ai : sA) (wa : UInt64) : sA := (ai.1, sp_damp ai.2.1 ai.2.2.2 wa, ai.2.2.1, ai.2.2.2)
abbrev sH : Type := sA × sL × (Nat → Nat → UInt64)
def hSt (nl : Nat) (bd : Nat → sB) (kk : Nat → UInt64 × UInt64) (i : Nat) (x : sH) : sH :=
  if (bd i).1 = 0 then x else (hAir x.1 (hWa x.1 (bd i) (x.2.2 i) nl), hLed x.2.1 (hWa x.1 (bd i) (x.2.2 i) nl), va_up x.2.2 i (hNew x.1 (bd i) (kk (bd i).2.2.2.2.2) (x.2.2 i) nl))
def hTo (nl : Nat) (bd : Nat → sB) (kk : Nat → UInt64 × UInt64) (x : sH) : Nat → sH
  | 0 => x
  | i + 1 => hSt nl bd kk i (hTo nl bd kk x i)
def kpB (n : Nat) (wt : Nat → Nat → UInt64) (h : Int32) (i : Nat) (x : sB) : sB :=
  if x.1 = 0 then x else (x.1, x.2.1, x.2.2.1, x.2.2.2.1, sp_keep x.2.2.1 x.2.2.2.2.1 (sp_load (wt i) n) x.2.2.2.1 h, x.2.2.2.2.2)
def kpTo (n : Nat) (wt : Nat → Nat → UInt64) (h : Int32) (bd : Nat → sB) : Nat → Nat → sB
  | 0 => bd
  | i + 1 => va_up (kpTo n wt h bd i) i (kpB n wt h i (bd i))
theorem kpTo_ge (n : Nat) (wt : Nat → Nat → UInt64) (h : Int32) (bd : Nat → sB) : ∀ (i j : Nat), i ≤ j → kpTo n wt h bd i j = bd j
  | 0, _, _ => rfl
  | i + 1, j, hij => by rw [kpTo, va_up_ne _ _ (by omega)]; exact kpTo_ge n wt h bd i j (by omega)
theorem kpB_same (n : Nat) (wt : Nat → Nat → UInt64) (h : Int32) (i : Nat) (x : sB) : (kpB n wt h i x).1 = x.1 ∧ (kpB n wt h i x).2.1 = x.2.1 ∧ (kpB n wt h i x).2.2.2.2.2 = x.2.2.2.2.2 := by
  unfold kpB; split <;> exact ⟨rfl, rfl, rfl⟩
theorem kpTo_same (n : Nat) (wt : Nat → Nat → UInt64) (h : Int32) (bd : Nat → sB) : ∀ (i j : Nat), (kpTo n wt h bd i j).1 = (bd j).1 ∧ (kpTo n wt h bd i j).2.1 = (bd j).2.1 ∧ (kpTo n wt h bd i j).2.2.2.2.2 = (bd j).2.2.2.2.2
  | 0, _ => ⟨rfl, rfl, rfl⟩
  | i + 1, j => by
    rw [kpTo]
    by_cases e : j = i
    · subst e; rw [va_up_self]; exact kpB_same n wt h j (bd j)
    · rw [va_up_ne _ _ e]; exact kpTo_same n wt h bd i j
abbrev sR : Type := sA × sL × (Nat → sB) × (Nat → Nat → UInt64) × sP × Nat
def hourS (nl nb : Nat) (kk : Nat → UInt64 × UInt64) (x : sR) : sR :=
  ((hTo nl x.2.2.1 kk ((flS (nl + 1) nb x.1 x.2.2.1 x.2.2.2.1 x.2.2.2.2.1 x.2.2.2.2.2).1, x.2.1, x.2.2.2.1) nb).1,
   (hTo nl x.2.2.1 kk ((flS (nl + 1) nb x.1 x.2.2.1 x.2.2.2.1 x.2.2.2.2.1 x.2.2.2.2.2).1, x.2.1, x.2.2.2.1) nb).2.1,
   kpTo (nl + 1) (hTo nl x.2.2.1 kk ((flS (nl + 1) nb x.1 x.2.2.1 x.2.2.2.1 x.2.2.2.2.1 x.2.2.2.2.2).1, x.2.1, x.2.2.2.1) nb).2.2 (nI (x.2.2.2.2.2 + 1)) x.2.2.1 nb,
   (hTo nl x.2.2.1 kk ((flS (nl + 1) nb x.1 x.2.2.1 x.2.2.2.1 x.2.2.2.2.1 x.2.2.2.2.2).1, x.2.1, x.2.2.2.1) nb).2.2,
   (flS (nl + 1) nb x.1 x.2.2.1 x.2.2.2.1 x.2.2.2.2.1 x.2.2.2.2.2).2,
   x.2.2.2.2.2 + 1)
def refS (n nb : Nat) (kk : Nat → UInt64 × UInt64) (x : sR) : Bool := anyF (rfP x.2.2.1 x.2.2.2.1 kk x.1.2.2.1 n) nb 0
def runS (nl nb : Nat) (kk : Nat → UInt64 × UInt64) : Nat → sR → Int32 × sR
  | 0, x => (nI x.2.2.2.2.2, x)
  | k + 1, x => if refS (nl + 1) nb kk x = true then (-1 - nI x.2.2.2.2.2, x) else runS nl nb kk k (hourS nl nb kk x)
/-! what is good of the numbers -/
def GB (n nb K : Nat) (bd : Nat → sB) (wt : Nat → Nat → UInt64) : Prop := ∀ j, j < nb → (bd j).2.2.2.2.2 < 4 ∧ ((bd j).1 ≠ 0 → GD (bd j).2.1 ∧ GW K (wt j) n)
def GK (kk : Nat → UInt64 × UInt64) : Prop := ∀ j, j < 4 → Np (2 ^ 1077) (kk j).1 ∧ Np (2 ^ 1077) (kk j).2
def GP (pn : sP) : Prop := pn.2.1 ≤ pn.1 ∧ pn.1 ≤ 12 ∧ ∀ j, j < pn.1 → (∃ k, 250 ≤ k ∧ k ≤ 400 ∧ pn.2.2.2.2.1 j = nI k) ∧ (∃ d, d ≤ 100 ∧ pn.2.2.2.2.2 j = nI d) ∧ ∃ x, x ≤ 999 ∧ pn.2.2.2.1 j = nI x
def GAs (ai : sA) : Prop := GA ai.1 ai.2.1 ai.2.2.1 ai.2.2.2
theorem GW.mono {K K2 n : Nat} {g : Nat → UInt64} (h : GW K g n) (hK : K ≤ K2) : GW K2 g n := fun i hi => ⟨(h i hi).1, Nat.le_trans (h i hi).2 (Nat.mul_le_mul_right _ hK)⟩
theorem GW.np {K n : Nat} {g : Nat → UInt64} (h : GW K g n) (hK : KOk K) : ∀ i, i < n → Np (2 ^ 1076) (g i) := fun i hi => (h i hi).1.np (Nat.le_trans (h i hi).2 hK.le)
