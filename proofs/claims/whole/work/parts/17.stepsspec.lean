/-! ===== all steps of the schedule ===== -/
abbrev St4 : Type := Bool × Int32 × Int32 × Int32
def stepsP (tx : Nat → Int32) (tl : Nat) : Nat → Bool → Nat → Nat ⊕ List St4
  | 0, _, p => .inl p
  | n + 1, fst, p =>
    if fst = false ∧ ¬ nxt tx tl p = 59 then .inl p
    else match stepP tx tl (if fst = true then p else p + 1) with
      | .inl q => .inl q
      | .inr x => if tl ≤ x.1 then .inr [x.2] else match stepsP tx tl n false x.1 with
        | .inl q => .inl q
        | .inr l => .inr (x.2 :: l)
/-- rows hold the steps of l from the place k on -/
def rowsAt (B T K D : Nat → Int32) (k : Nat) : List St4 → Prop
  | [] => True
  | x :: l => (B k = b2i x.1 ∧ T k = x.2.1 ∧ K k = x.2.2.1 ∧ D k = x.2.2.2) ∧ rowsAt B T K D (k + 1) l
/-- what readSteps gives, begun at the place p with k steps read -/
def stepsE (tx : Nat → Int32) (tl n k p : Nat) (B T K D : Nat → Int32) (r : Int32) (B2 T2 K2 D2 : Nat → Int32) (p2 : Nat) : Prop :=
  (∀ j, j < k → B2 j = B j ∧ T2 j = T j ∧ K2 j = K j ∧ D2 j = D j) ∧ p2 ≤ tl ∧
  match stepsP tx tl n (decide (k = 0)) p with
  | .inl q => r = -1 ∧ p2 = q
  | .inr l => r = nI (k + l.length) ∧ rowsAt B2 T2 K2 D2 k l
theorem stepP_le {tx : Nat → Int32} {tl p : Nat} (hp : p ≤ tl) : match stepP tx tl p with | .inl q => p ≤ q ∧ q ≤ tl | .inr x => p < x.1 ∧ x.1 ≤ tl := by
  unfold stepP
  by_cases h1 : nxt tx tl p = (if nxt tx tl p = 104 then 104 else 119)
  · rw [if_pos h1]
    have h0 : p < tl := by
      by_cases q : nxt tx tl p = 104
      · exact nxt_lt q (by decide)
      · rw [if_neg q] at h1; exact nxt_lt h1 (by decide)
    cases e1 : numP tx tl (p + 1) 0 999 with
    | none => exact ⟨Nat.le_succ p, h0⟩
    | some x =>
      have g1 := numP_le h0 e1
      dsimp only
      by_cases h2 : nxt tx tl x.1 = 58
      · rw [if_pos h2]
        have l2 := nxt_lt h2 (by decide)
        cases e2 : numP tx tl (x.1 + 1) 250 400 with
        | none => exact ⟨by omega, l2⟩
        | some y =>
          have g2 := numP_le l2 e2
          dsimp only
          by_cases h3 : nxt tx tl y.1 = 44
          · rw [if_pos h3]
            have l3 := nxt_lt h3 (by decide)
            cases e3 : numP tx tl (y.1 + 1) 0 100 with
            | none => exact ⟨by omega, l3⟩
            | some z =>
              have g3 := numP_le l3 e3
              exact ⟨by show p < z.1; omega, g3.2.1⟩
          · rw [if_neg h3]; exact ⟨by omega, g2.2.1⟩
      · rw [if_neg h2]; exact ⟨by omega, g1.2.1⟩
  · rw [if_neg h1]; exact ⟨Nat.le_refl p, hp⟩
