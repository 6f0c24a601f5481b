/-! ===== small words for the calls ===== -/
theorem b2i_nar (b : Bool) : narrow .boolean (.int (b2i b)) = .int (b2i b) := by cases b <;> decide
theorem nI_m1 {k : Nat} (h : k < 2 ^ 31) : ¬ nI k = -1 := fun e => absurd (show nI k < 0 by rw [e]; decide) (nI_pos h)
theorem stepsP_len {tx : Nat → Int32} {tl : Nat} : ∀ (n : Nat) (b : Bool) (p : Nat) (l : List St4), stepsP tx tl n b p = .inr l → l.length ≤ n
  | 0, _, _, _, h => by cases h
  | n + 1, b, p, l, h => by
    unfold stepsP at h
    split at h
    · cases h
    · split at h
      · cases h
      · split at h
        · cases h; exact Nat.succ_le_succ (Nat.zero_le n)
        · split at h
          · cases h
          · rename_i l2 e
            cases h
            exact Nat.succ_le_succ (stepsP_len n _ _ l2 e)
def toldS (ai : sA) (le : sL) (j : Nat) : UInt64 := match j with
  | 0 => ai.1
  | 1 => ai.2.1
  | 2 => ai.2.2.1
  | 3 => ai.2.2.2
  | _ => le.1
def cntS (bd : Nat → sB) (nb : Nat) (pn : sP) (hr j : Nat) : Nat := match j with
  | 0 => hr
  | 1 => pn.2.1
  | _ => cntTh bd nb
theorem i32_out {x lo hi : Int32} {a b : Int} (ha : lo.toInt = a) (hb : hi.toInt = b) (h : x < lo ∨ hi < x) : x.toInt < a ∨ b < x.toInt := by
  rw [Int32.lt_iff_toInt_lt, Int32.lt_iff_toInt_lt, ha, hb] at h; exact h
