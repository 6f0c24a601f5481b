/-! ===== the schedule's text: what both sides read ===== -/
def sp_app (tl : Nat) (x : Int32) : Bool := decide (tl < 200) && (decide (¬ x < 32) && decide (¬ 126 < x))
def nxt (tx : Nat → Int32) (tl p : Nat) : Int32 := if p < tl then tx p else 0
def isD (tx : Nat → Int32) (tl p : Nat) : Bool := decide (¬ nxt tx tl p < 48) && decide (¬ 57 < nxt tx tl p)
def TxOk (tx : Nat → Int32) (tl : Nat) : Prop := ∀ j, j < tl → ∃ q, 32 ≤ q ∧ q ≤ 126 ∧ tx j = nI q
def scanN (tx : Nat → Int32) (tl : Nat) : Nat → Nat → Int32 → Nat × Int32
  | 0, p, v => (p, v)
  | k + 1, p, v => if isD tx tl p then scanN tx tl k (p + 1) (v * 10 + (nxt tx tl p - 48)) else (p, v)
def numP (tx : Nat → Int32) (tl p : Nat) (lo hi : Int32) : Option (Nat × Int32) :=
  if (scanN tx tl 3 p 0).1 = p ∨ (scanN tx tl 3 p 0).2 < lo ∨ hi < (scanN tx tl 3 p 0).2 then none else some (scanN tx tl 3 p 0)
def numV (o : Option (Nat × Int32)) : Int32 := match o with | none => -1 | some x => x.2
def numQ (o : Option (Nat × Int32)) (p : Nat) : Nat := match o with | none => p | some x => x.1
theorem isD_lt {tx : Nat → Int32} {tl p : Nat} (h : isD tx tl p = true) : p < tl := by
  refine Nat.lt_of_not_le fun q => ?_
  simp only [isD, nxt, if_neg (Nat.not_lt.mpr q)] at h
  exact absurd h (by decide)
theorem scanN_le {tx : Nat → Int32} {tl : Nat} : ∀ (k p : Nat) (v : Int32), p ≤ tl → p ≤ (scanN tx tl k p v).1 ∧ (scanN tx tl k p v).1 ≤ tl
  | 0, p, v, h => ⟨Nat.le_refl _, h⟩
  | k + 1, p, v, h => by
    unfold scanN
    by_cases q : isD tx tl p = true
    · rw [if_pos q]
      have h1 := scanN_le (tx := tx) k (p + 1) (v * 10 + (nxt tx tl p - 48)) (isD_lt q)
      exact ⟨by omega, h1.2⟩
    · rw [if_neg q]
      exact ⟨Nat.le_refl _, h⟩
theorem nxt_char {tx : Nat → Int32} {tl p : Nat} (h : TxOk tx tl) : narrow .char (.int (nxt tx tl p)) = .int (nxt tx tl p) := by
  unfold nxt
  split
  · rename_i q
    obtain ⟨j, h1, h2, h3⟩ := h p q
    rw [h3]
    exact (pk_charN (by omega)).1
  · rfl
theorem i2c_small {u : Int32} (h1 : ¬ u < 32) (h2 : u ≤ 126) : vp_nar .char (u.toUInt32 % 65536).toInt32 = u ∧ ∃ q, 32 ≤ q ∧ q ≤ 126 ∧ u = nI q := by
  obtain ⟨j, hj, rfl⟩ := nI_of2 (M := 126) (n := 126) rfl (x := u) (fun h => h1 (by rw [Int32.lt_iff_toInt_lt] at h ⊢; exact Int.lt_trans h (by decide))) h2
  have h3 : 32 ≤ j := by
    refine Nat.le_of_not_lt fun q => h1 ?_
    exact nI_lt (b := 32) q (by decide)
  refine ⟨?_, j, h3, hj, rfl⟩
  rw [pk_vc, pk_char, pk_tn (by omega), Nat.mod_eq_of_lt (by omega)]
