/-! ===== a run keeps the numbers good ===== -/
theorem up_id {α : Type} {f : Nat → α} {a : Nat} {e : α} (h : f a = e) : va_up f a e = f := by
  funext z
  by_cases q : z = a
  · subst q; rw [va_up_self]; exact h.symm
  · exact va_up_ne _ _ q
def KH (hr : Nat) : Nat := 3 * 2 ^ 49 + 2 * hr
theorem KH_ok {hr : Nat} (h : hr < 2 ^ 40) : KOk (KH hr) := by unfold KH KOk; omega
def GR (nl nb : Nat) (kk : Nat → UInt64 × UInt64) (x : sR) : Prop :=
  GAs x.1 ∧ Ab (2 ^ 1074) x.2.1.1 ∧ GB (nl + 1) nb (KH x.2.2.2.2.2) x.2.2.1 x.2.2.2.1 ∧ GP x.2.2.2.2.1 ∧ GK kk
theorem refS_no {n nb : Nat} {kk : Nat → UInt64 × UInt64} {x : sR} (h : refS n nb kk x = false) : ∀ j, j < nb → rfP x.2.2.1 x.2.2.2.1 kk x.1.2.2.1 n j = false := anyF_no h
theorem GR.hour {nl nb : Nat} {kk : Nat → UInt64 × UInt64} {x : sR} (h : GR nl nb kk x) (hh : x.2.2.2.2.2 < 2 ^ 39) (hr : refS (nl + 1) nb kk x = false) : GR nl nb kk (hourS nl nb kk x) := by
  obtain ⟨h1, h2, h3, h4, h5⟩ := h
  obtain ⟨f1, f2, f3⟩ := g_fl (n := nl + 1) (nb := nb) (hr := x.2.2.2.2.2) (bd := x.2.2.1) (wt := x.2.2.2.1) h1 h4
  have hK := KH_ok (hr := x.2.2.2.2.2) (by omega)
  have hq := refS_no hr
  have hi := HI.to (le := x.2.1) hK h3 h5 f1 h2 (by rw [f3]; exact hq) nb (Nat.le_refl nb)
  refine ⟨hi.1, hi.2.1, fun j hj => ?_, f2, h5⟩
  have hs := kpTo_same (nl + 1) (hTo nl x.2.2.1 kk ((flS (nl + 1) nb x.1 x.2.2.1 x.2.2.2.1 x.2.2.2.2.1 x.2.2.2.2.2).1, x.2.1, x.2.2.2.1) nb).2.2 (nI (x.2.2.2.2.2 + 1)) x.2.2.1 nb j
  refine ⟨?_, fun hz => ?_⟩
  · have := (h3 j hj).1
    rw [← hs.2.2] at this
    exact this
  · have hz2 : (x.2.2.1 j).1 ≠ 0 := fun e => hz (hs.1.trans e)
    refine ⟨?_, ?_⟩
    · have := ((h3 j hj).2 hz2).1
      rw [← hs.2.1] at this
      exact this
    · exact hi.2.2.2.2 j hj hz2
theorem GR.run {nl nb : Nat} {kk : Nat → UInt64 × UInt64} : ∀ (k : Nat) (x : sR), GR nl nb kk x → x.2.2.2.2.2 + k < 2 ^ 39 → GR nl nb kk (runS nl nb kk k x).2 ∧ (runS nl nb kk k x).2.2.2.2.2.2 ≤ x.2.2.2.2.2 + k
  | 0, x, h, hh => ⟨h, Nat.le_refl _⟩
  | k + 1, x, h, hh => by
    unfold runS
    by_cases q : refS (nl + 1) nb kk x = true
    · rw [if_pos q]; exact ⟨h, Nat.le_add_right _ _⟩
    · rw [if_neg q]
      have := GR.run k (hourS nl nb kk x) (h.hour (by omega) (by simpa using q)) (by show x.2.2.2.2.2 + 1 + k < 2 ^ 39; omega)
      exact ⟨this.1, Nat.le_trans this.2 (by show x.2.2.2.2.2 + 1 + k ≤ _; omega)⟩
