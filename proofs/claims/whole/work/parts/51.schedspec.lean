/-! ===== the schedule as the reference reads it ===== -/
section TXC
variable {tx ty : Nat → Int32} {tl : Nat}
theorem nxt_congr (h : ∀ j, j < tl → tx j = ty j) (p : Nat) : nxt tx tl p = nxt ty tl p := by
  unfold nxt
  by_cases q : p < tl
  · rw [if_pos q, if_pos q, h p q]
  · rw [if_neg q, if_neg q]
theorem isD_congr (h : ∀ j, j < tl → tx j = ty j) (p : Nat) : isD tx tl p = isD ty tl p := by unfold isD; rw [nxt_congr h]
theorem scanN_congr (h : ∀ j, j < tl → tx j = ty j) : ∀ (k p : Nat) (v : Int32), scanN tx tl k p v = scanN ty tl k p v
  | 0, _, _ => rfl
  | k + 1, p, v => by unfold scanN; rw [isD_congr h, nxt_congr h, scanN_congr h k]
theorem numP_congr (h : ∀ j, j < tl → tx j = ty j) (p : Nat) (lo hi : Int32) : numP tx tl p lo hi = numP ty tl p lo hi := by unfold numP; rw [scanN_congr h]
theorem stepP_congr (h : ∀ j, j < tl → tx j = ty j) (p : Nat) : stepP tx tl p = stepP ty tl p := by
  unfold stepP
  simp only [nxt_congr h, numP_congr h]
theorem stepsP_congr (h : ∀ j, j < tl → tx j = ty j) : ∀ (k : Nat) (b : Bool) (p : Nat), stepsP tx tl k b p = stepsP ty tl k b p
  | 0, _, _ => rfl
  | k + 1, b, p => by
    unfold stepsP
    simp only [nxt_congr h, stepP_congr h, stepsP_congr h k]
end TXC
theorem num_eq (v t : Int32) : 10 * v + t - 48 = v * 10 + (t - 48) := by
  rw [Int32.mul_comm, Int32.sub_eq_add_neg, Int32.sub_eq_add_neg, Int32.add_assoc]
theorem numP_sc {tx : Nat → Int32} {tl p : Nat} {lo hi : Int32} {x : Nat × Int32} (h : numP tx tl p lo hi = some x) : scanN tx tl 3 p 0 = x := by
  unfold numP at h
  split at h
  · cases h
  · cases h; rfl
def resP (tx : Nat → Int32) (tl k p : Nat) : Nat ⊕ List St4 := if tl ≤ p then .inr [] else stepsP tx tl k false p
def appR (l0 : List St4) (r : Nat ⊕ List St4) : Nat ⊕ List St4 := match r with
  | .inl q => .inl q
  | .inr l => .inr (l0 ++ l)
theorem appR_app (a b : List St4) (r : Nat ⊕ List St4) : appR a (appR b r) = appR (a ++ b) r := by
  cases r with
  | inl q => rfl
  | inr l => show Sum.inr (a ++ (b ++ l)) = Sum.inr (a ++ b ++ l); rw [List.append_assoc]
theorem stepsP_res (tx : Nat → Int32) (tl k p : Nat) (b : Bool) (hb : ¬ (b = false ∧ ¬ nxt tx tl p = 59)) : stepsP tx tl (k + 1) b p = match stepP tx tl (if b = true then p else p + 1) with
    | .inl q => .inl q
    | .inr x => appR [x.2] (resP tx tl k x.1) := by
  rw [stepsP, if_neg hb]
  cases stepP tx tl (if b = true then p else p + 1) with
  | inl q => rfl
  | inr x =>
    show (if tl ≤ x.1 then Sum.inr [x.2] else _) = appR [x.2] (if tl ≤ x.1 then _ else _)
    by_cases h : tl ≤ x.1
    · rw [if_pos h, if_pos h]; rfl
    · rw [if_neg h, if_neg h]
      cases stepsP tx tl k false x.1 with
      | inl q => rfl
      | inr l => rfl
/-- the reference's rows hold the steps of l -/
def MR (BW TI KV DM : Nat → Int32) (l : List St4) : Prop := ∀ (j : Nat) (x : St4), l[j]? = some x → BW j = b2i (!x.1) ∧ TI j = x.2.1 ∧ KV j = x.2.2.1 ∧ DM j = x.2.2.2
theorem MR.app {BW TI KV DM BW2 TI2 KV2 DM2 : Nat → Int32} {l : List St4} {x : St4} (h : MR BW TI KV DM l) (hoff : ∀ j, j ≠ l.length → BW2 j = BW j ∧ TI2 j = TI j ∧ KV2 j = KV j ∧ DM2 j = DM j) (h1 : BW2 l.length = b2i (!x.1)) (h2 : TI2 l.length = x.2.1) (h3 : KV2 l.length = x.2.2.1) (h4 : DM2 l.length = x.2.2.2) : MR BW2 TI2 KV2 DM2 (l ++ [x]) := by
  intro j y hy
  by_cases e : j < l.length
  · rw [List.getElem?_append_left e] at hy
    obtain ⟨a, b, c, d⟩ := hoff j (by omega)
    obtain ⟨a', b', c', d'⟩ := h j y hy
    exact ⟨a.trans a', b.trans b', c.trans c', d.trans d'⟩
  · rw [List.getElem?_append_right (by omega)] at hy
    have e2 : j = l.length := by
      have := (List.getElem?_eq_some_iff.mp hy).1
      simp only [List.length_cons, List.length_nil] at this
      omega
    subst e2
    rw [Nat.sub_self] at hy
    cases hy
    exact ⟨h1, h2, h3, h4⟩
theorem rowsAt_get {B T K D : Nat → Int32} : ∀ (l : List St4) (k j : Nat) (x : St4), rowsAt B T K D k l → l[j]? = some x → B (k + j) = b2i x.1 ∧ T (k + j) = x.2.1 ∧ K (k + j) = x.2.2.1 ∧ D (k + j) = x.2.2.2
  | [], k, j, x, _, h => by cases h
  | y :: l, k, 0, x, hr, h => by cases h; exact hr.1
  | y :: l, k, j + 1, x, hr, h => by
    have := rowsAt_get l (k + 1) j x hr.2 h
    rw [show k + (j + 1) = k + 1 + j by omega]; exact this
theorem MGp_rows {B T K D BW TI KV DM : Nat → Int32} {l : List St4} (hr : rowsAt B T K D 0 l) (hm : MR BW TI KV DM l) (dn : Nat) : MGp (l.length, dn, B, T, K, D) BW TI KV DM := by
  intro j hj
  have hj : j < l.length := hj
  have hx := List.getElem?_eq_getElem hj
  obtain ⟨a, b, c, d⟩ := rowsAt_get l 0 j _ hr hx
  obtain ⟨a', b', c', d'⟩ := hm j _ hx
  rw [Nat.zero_add] at a b c d
  refine ⟨?_, b'.trans b.symm, c'.trans c.symm, d'.trans d.symm⟩
  show BW j = b2i (decide (B j = 0))
  rw [a', a]
  cases (l[j]).1 <;> rfl
