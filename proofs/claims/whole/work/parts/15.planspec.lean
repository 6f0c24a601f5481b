/-! ===== the plan's cells and the text's, as one ===== -/
def pw (dA : Nat → ClassId) (f : Nat → va_E) (pb pt pk pd t u tl : Nat) (B T K D : Nat → Int32) (p : Nat) : Nat → va_E :=
  va_up (va_up (va_up (va_up (va_up f pb (aI (dA 3) 12 B)) pt (aI (dA 2) 12 T)) pk (aI (dA 2) 12 K)) pd (aI (dA 2) 12 D)) t (.inr (6, [.ref u, .int (nI tl), .int (nI p)]))
section PW
variable {dA : Nat → ClassId} {f : Nat → va_E} {pl pb pt pk pd t u tl : Nat} {B T K D : Nat → Int32} {p : Nat}
theorem pw_id (hb : f pb = aI (dA 3) 12 B) (ht : f pt = aI (dA 2) 12 T) (hk : f pk = aI (dA 2) 12 K) (hd : f pd = aI (dA 2) 12 D) (hx : f t = .inr (6, [.ref u, .int (nI tl), .int (nI p)])) : pw dA f pb pt pk pd t u tl B T K D p = f := by
  unfold pw
  rw [va_up_id hb, va_up_id ht, va_up_id hk, va_up_id hd, va_up_id hx]
theorem pw_t : pw dA f pb pt pk pd t u tl B T K D p t = .inr (6, [.ref u, .int (nI tl), .int (nI p)]) := va_up_self _ _ _
theorem pw_off {z : Nat} (hb : z ≠ pb) (ht : z ≠ pt) (hk : z ≠ pk) (hd : z ≠ pd) (hx : z ≠ t) : pw dA f pb pt pk pd t u tl B T K D p z = f z := by
  unfold pw
  rw [va_up_ne _ _ hx, va_up_ne _ _ hd, va_up_ne _ _ hk, va_up_ne _ _ ht, va_up_ne _ _ hb]
theorem pw_pl (h : [pl, pb, pt, pk, pd, t, u].Nodup) : pw dA f pb pt pk pd t u tl B T K D p pl = f pl := by
  simp only [List.nodup_cons, List.mem_cons, not_or, List.not_mem_nil] at h
  exact pw_off h.1.1 h.1.2.1 h.1.2.2.1 h.1.2.2.2.1 h.1.2.2.2.2.1
theorem pw_u (h : [pl, pb, pt, pk, pd, t, u].Nodup) : pw dA f pb pt pk pd t u tl B T K D p u = f u := by
  simp only [List.nodup_cons, List.mem_cons, not_or, List.not_mem_nil] at h
  obtain ⟨h0, h1, h2, h3, h4, h5, -⟩ := h
  exact pw_off (Ne.symm h1.2.2.2.2.1) (Ne.symm h2.2.2.2.1) (Ne.symm h3.2.2.1) (Ne.symm h4.2.1) (Ne.symm h5.1)
theorem pw_b (h : [pl, pb, pt, pk, pd, t, u].Nodup) : pw dA f pb pt pk pd t u tl B T K D p pb = aI (dA 3) 12 B := by
  simp only [List.nodup_cons, List.mem_cons, not_or, List.not_mem_nil] at h
  obtain ⟨h0, h1, -⟩ := h
  unfold pw
  rw [va_up_ne _ _ h1.2.2.2.1, va_up_ne _ _ h1.2.2.1, va_up_ne _ _ h1.2.1, va_up_ne _ _ h1.1, va_up_self]
theorem pw_tm (h : [pl, pb, pt, pk, pd, t, u].Nodup) : pw dA f pb pt pk pd t u tl B T K D p pt = aI (dA 2) 12 T := by
  simp only [List.nodup_cons, List.mem_cons, not_or, List.not_mem_nil] at h
  obtain ⟨h0, h1, h2, -⟩ := h
  unfold pw
  rw [va_up_ne _ _ h2.2.2.1, va_up_ne _ _ h2.2.1, va_up_ne _ _ h2.1, va_up_self]
theorem pw_k (h : [pl, pb, pt, pk, pd, t, u].Nodup) : pw dA f pb pt pk pd t u tl B T K D p pk = aI (dA 2) 12 K := by
  simp only [List.nodup_cons, List.mem_cons, not_or, List.not_mem_nil] at h
  obtain ⟨h0, h1, h2, h3, -⟩ := h
  unfold pw
  rw [va_up_ne _ _ h3.2.1, va_up_ne _ _ h3.1, va_up_self]
theorem pw_d (h : [pl, pb, pt, pk, pd, t, u].Nodup) : pw dA f pb pt pk pd t u tl B T K D p pd = aI (dA 2) 12 D := by
  simp only [List.nodup_cons, List.mem_cons, not_or, List.not_mem_nil] at h
  obtain ⟨h0, h1, h2, h3, h4, -⟩ := h
  unfold pw
  rw [va_up_ne _ _ h4.1, va_up_self]
theorem up_comm {α : Type} (f : Nat → α) {a b : Nat} (v w : α) (h : a ≠ b) : va_up (va_up f a v) b w = va_up (va_up f b w) a v := by
  funext z
  by_cases h1 : z = a
  · subst h1; rw [va_up_ne _ _ h, va_up_self, va_up_self]
  · by_cases h2 : z = b
    · subst h2; rw [va_up_self, va_up_ne _ _ h1, va_up_self]
    · rw [va_up_ne _ _ h2, va_up_ne _ _ h1, va_up_ne _ _ h1, va_up_ne _ _ h2]
theorem pw_st (p2 : Nat) : va_up (pw dA f pb pt pk pd t u tl B T K D p) t (.inr (6, [.ref u, .int (nI tl), .int (nI p2)])) = pw dA f pb pt pk pd t u tl B T K D p2 := bx_uu _ _ _ _
theorem pw_sb (h : [pl, pb, pt, pk, pd, t, u].Nodup) (X : Nat → Int32) : va_up (pw dA f pb pt pk pd t u tl B T K D p) pb (aI (dA 3) 12 X) = pw dA f pb pt pk pd t u tl X T K D p := by
  simp only [List.nodup_cons, List.mem_cons, not_or, List.not_mem_nil] at h
  obtain ⟨h0, h1, -⟩ := h
  unfold pw
  rw [up_comm _ _ _ (Ne.symm h1.2.2.2.1), up_comm _ _ _ (Ne.symm h1.2.2.1), up_comm _ _ _ (Ne.symm h1.2.1), up_comm _ _ _ (Ne.symm h1.1), bx_uu]
theorem pw_stm (h : [pl, pb, pt, pk, pd, t, u].Nodup) (X : Nat → Int32) : va_up (pw dA f pb pt pk pd t u tl B T K D p) pt (aI (dA 2) 12 X) = pw dA f pb pt pk pd t u tl B X K D p := by
  simp only [List.nodup_cons, List.mem_cons, not_or, List.not_mem_nil] at h
  obtain ⟨h0, h1, h2, -⟩ := h
  unfold pw
  rw [up_comm _ _ _ (Ne.symm h2.2.2.1), up_comm _ _ _ (Ne.symm h2.2.1), up_comm _ _ _ (Ne.symm h2.1), bx_uu]
theorem pw_sk (h : [pl, pb, pt, pk, pd, t, u].Nodup) (X : Nat → Int32) : va_up (pw dA f pb pt pk pd t u tl B T K D p) pk (aI (dA 2) 12 X) = pw dA f pb pt pk pd t u tl B T X D p := by
  simp only [List.nodup_cons, List.mem_cons, not_or, List.not_mem_nil] at h
  obtain ⟨h0, h1, h2, h3, -⟩ := h
  unfold pw
  rw [up_comm _ _ _ (Ne.symm h3.2.1), up_comm _ _ _ (Ne.symm h3.1), bx_uu]
theorem pw_sd (h : [pl, pb, pt, pk, pd, t, u].Nodup) (X : Nat → Int32) : va_up (pw dA f pb pt pk pd t u tl B T K D p) pd (aI (dA 2) 12 X) = pw dA f pb pt pk pd t u tl B T K X p := by
  simp only [List.nodup_cons, List.mem_cons, not_or, List.not_mem_nil] at h
  obtain ⟨h0, h1, h2, h3, h4, -⟩ := h
  unfold pw
  rw [up_comm _ _ _ (Ne.symm h4.1), bx_uu]
theorem pw_pw (h : [pl, pb, pt, pk, pd, t, u].Nodup) (B2 T2 K2 D2 : Nat → Int32) (p2 : Nat) : pw dA (pw dA f pb pt pk pd t u tl B T K D p) pb pt pk pd t u tl B2 T2 K2 D2 p2 = pw dA f pb pt pk pd t u tl B2 T2 K2 D2 p2 := by
  conv => lhs; unfold pw
  rw [show va_up (va_up (va_up (va_up (va_up f pb (aI (dA 3) 12 B)) pt (aI (dA 2) 12 T)) pk (aI (dA 2) 12 K)) pd (aI (dA 2) 12 D)) t (.inr (6, [.ref u, .int (nI tl), .int (nI p)])) = pw dA f pb pt pk pd t u tl B T K D p from rfl, pw_sb h, pw_stm h, pw_sk h, pw_sd h, pw_st]
end PW
/-- one step of the schedule from the place p: where it fails, or the place behind it and what it says -/
def stepP (tx : Nat → Int32) (tl p : Nat) : Nat ⊕ (Nat × Bool × Int32 × Int32 × Int32) :=
  if nxt tx tl p = (if nxt tx tl p = 104 then 104 else 119) then
    match numP tx tl (p + 1) 0 999 with
    | none => .inl (p + 1)
    | some x => if nxt tx tl x.1 = 58 then
        match numP tx tl (x.1 + 1) 250 400 with
        | none => .inl (x.1 + 1)
        | some y => if nxt tx tl y.1 = 44 then
            match numP tx tl (y.1 + 1) 0 100 with
            | none => .inl (y.1 + 1)
            | some z => .inr (z.1, decide (nxt tx tl p = 104), x.2, y.2, z.2)
          else .inl y.1
      else .inl x.1
  else .inl p
theorem nxt_lt {tx : Nat → Int32} {tl p : Nat} {x : Int32} (h : nxt tx tl p = x) (h0 : x ≠ 0) : p < tl := by
  refine Nat.lt_of_not_le fun q => h0 ?_
  rw [← h]; exact if_neg (Nat.not_lt.mpr q)
theorem numP_le {tx : Nat → Int32} {tl p : Nat} {lo hi : Int32} {x : Nat × Int32} (hp : p ≤ tl) (h : numP tx tl p lo hi = some x) : p < x.1 ∧ x.1 ≤ tl ∧ ¬ x.2 < lo ∧ ¬ hi < x.2 := by
  unfold numP at h
  split at h
  · cases h
  · rename_i q
    cases h
    have h1 := scanN_le (tx := tx) 3 p 0 hp
    exact ⟨by have := fun e => q (Or.inl e); omega, h1.2, fun e => q (Or.inr (Or.inl e)), fun e => q (Or.inr (Or.inr e))⟩
theorem numV_ne {o : Option (Nat × Int32)} (h : ∀ x, o = some x → ¬ x.2 < 0) : numV o = -1 ↔ o = none := by
  cases o with
  | none => exact ⟨fun _ => rfl, fun _ => rfl⟩
  | some x =>
    refine ⟨fun q => ?_, fun q => by cases q⟩
    have h1 := h x rfl
    have q : x.2 = -1 := q
    rw [q] at h1
    exact absurd (by decide) h1
