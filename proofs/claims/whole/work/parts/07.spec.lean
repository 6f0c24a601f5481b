/-! ===== the pure words of the promises ===== -/
def sp_speed (a b w : UInt64) : UInt64 := FP.dadd a (FP.dmul b w)
def sp_bal (kel damp : UInt64) : UInt64 := FP.dmul (FP.dmul 4600427019358961664 damp) (FP.dsub FP.dconst1 (FP.ddiv (FP.dsub kel 4643510282981736448) 4643211215818981376))
def sp_cut (w : UInt64) : UInt64 := if FP.dcmp w 4599301119452119040 = some .lt then w else 4599301119452119040
def sp_shr (w : UInt64) : UInt64 := FP.dmul 4598175219545276416 (FP.dsub 4599301119452119040 (sp_cut w))
def sumD (g : Nat → UInt64) : Nat → UInt64
  | 0 => FP.dconst0
  | i + 1 => FP.dadd (sumD g i) (g i)
def maxD (g : Nat → UInt64) : Nat → UInt64
  | 0 => FP.dconst0
  | i + 1 => if FP.dcmp (g i) (maxD g i) = some .gt then g i else maxD g i
def sp_mean (g : Nat → UInt64) (n : Nat) : UInt64 := FP.ddiv (sumD g n) (FP.i2d (nI n))
def sp_damp1 (damp vent water : UInt64) : UInt64 := FP.dadd damp (FP.dmul (FP.ddiv water 4679240012837945344) (FP.dsub FP.dconst1 vent))
def sp_lo (x : UInt64) : UInt64 := if FP.dcmp x FP.dconst0 = some .lt then FP.dconst0 else x
def sp_hi (x : UInt64) : UInt64 := if FP.dcmp x FP.dconst1 = some .gt then FP.dconst1 else x
def sp_damp (damp vent water : UInt64) : UInt64 := sp_hi (sp_lo (sp_damp1 damp vent water))
def sp_face (d wet speed bal : UInt64) : UInt64 := FP.ddiv (FP.dmul speed (FP.dsub wet bal)) (FP.dmul 4620693217682128896 d)
def sp_slope (ka kb d x y : UInt64) : UInt64 := FP.ddiv (FP.dmul (sp_speed ka kb (FP.ddiv (FP.dadd x y) 4611686018427387904)) (FP.dsub x y)) (FP.dmul d d)
def sp_mshr (g : Nat → UInt64) (n : Nat) : UInt64 := FP.ddiv (sumD (fun j => sp_shr (g j)) n) (FP.i2d (nI n))
def sp_stress (g : Nat → UInt64) (n i : Nat) : UInt64 := FP.dsub (sp_shr (g i)) (sp_mshr g n)
def sp_size (x : UInt64) : UInt64 := if FP.dcmp x FP.dconst0 = some .lt then FP.dneg x else x
def sp_load (g : Nat → UInt64) (n : Nat) : UInt64 := maxD (fun j => sp_size (sp_stress g n j)) n
def b2i (b : Bool) : Int32 := if b then 1 else 0
def sp_ref (spd dep ka kb w : UInt64) : Bool := decide (FP.dcmp (FP.ddiv spd (FP.dmul 4620693217682128896 dep)) 4598175219545276416 = some .gt) || decide (FP.dcmp (FP.ddiv (sp_speed ka kb w) (FP.dmul dep dep)) 4598175219545276416 = some .gt)
def sp_keep (lim kept : Int32) (ld load : UInt64) (hour : Int32) : Int32 := if lim ≠ 0 ∧ kept = -1 ∧ FP.dcmp ld load = some .gt then hour else kept
def fillTo (x : UInt64) (g : Nat → UInt64) (i : Nat) : Nat → UInt64 := fun j => if j < i then x else g j
theorem fillTo_s (x : UInt64) (g : Nat → UInt64) (i : Nat) : vf_upd (fillTo x g i) i x = fillTo x g (i + 1) := by
  funext j
  by_cases h : j = i
  · subst h; simp [vf_upd, fillTo]
  · simp only [vf_upd, fillTo, if_neg h]
    by_cases h2 : j < i
    · rw [if_pos h2, if_pos (by omega)]
    · rw [if_neg h2, if_neg (by omega)]
theorem fillTo_0 (x : UInt64) (g : Nat → UInt64) : fillTo x g 0 = g := rfl
/-- an hour's flows: behind the layer j -/
def sp_fl (ka kb dep h : UInt64) (g : Nat → UInt64) (last j : Nat) : UInt64 := if j < last then sp_slope ka kb dep (g j) (g (j + 1)) else h
def sp_gain (ka kb dep g0 h : UInt64) (g : Nat → UInt64) (last : Nat) : Nat → UInt64
  | 0 => FP.dneg g0
  | j + 1 => sp_fl ka kb dep h g last j
def sp_new (ka kb dep g0 h : UInt64) (g : Nat → UInt64) (last j : Nat) : UInt64 := FP.dsub (FP.dadd (g j) (sp_gain ka kb dep g0 h g last j)) (sp_fl ka kb dep h g last j)
def newTo (ka kb dep g0 h : UInt64) (g : Nat → UInt64) (last i : Nat) : Nat → UInt64 := fun j => if j < i then sp_new ka kb dep g0 h g last j else g j
theorem newTo_s (ka kb dep g0 h : UInt64) (g : Nat → UInt64) (last i : Nat) : vf_upd (newTo ka kb dep g0 h g last i) i (sp_new ka kb dep g0 h g last i) = newTo ka kb dep g0 h g last (i + 1) := by
  funext j
  by_cases q : j = i
  · subst q; simp [vf_upd, newTo]
  · simp only [vf_upd, newTo, if_neg q]
    by_cases h2 : j < i
    · rw [if_pos h2, if_pos (by omega)]
    · rw [if_neg h2, if_neg (by omega)]
theorem newTo_at (ka kb dep g0 h : UInt64) (g : Nat → UInt64) (last i j : Nat) (q : i ≤ j) : newTo ka kb dep g0 h g last i j = g j := by simp only [newTo, if_neg (Nat.not_lt.mpr q)]
theorem va_up_id {f : Nat → va_E} {a : Nat} {e : va_E} (h : f a = e) : va_up f a e = f := by
  funext z
  by_cases q : z = a
  · subst q; rw [va_up_self]; exact h.symm
  · exact va_up_ne _ _ q
theorem cmp_ge {o : Option Ordering} (h : 0 ≤ Op.cmpValue o .g) : ¬ o = some .lt := by
  intro q; subst q; exact absurd h (by decide)
theorem cmp_nge {o : Option Ordering} (h : ¬ 0 ≤ Op.cmpValue o .g) : o = some .lt := by
  rcases o with _ | o
  · exact absurd (by decide) h
  · cases o
    · rfl
    · exact absurd (by decide) h
    · exact absurd (by decide) h
theorem cmp_le {o : Option Ordering} (h : Op.cmpValue o .l ≤ 0) : ¬ o = some .gt := by
  intro q; subst q; exact absurd h (by decide)
theorem cmp_nle {o : Option Ordering} (h : ¬ Op.cmpValue o .l ≤ 0) : o = some .gt := by
  rcases o with _ | o
  · exact absurd (by decide) h
  · cases o
    · exact absurd (by decide) h
    · exact absurd (by decide) h
    · rfl
theorem cmp_gt {o : Option Ordering} (h : 0 < Op.cmpValue o .l) : o = some .gt := cmp_nle (fun q => by rw [Int32.lt_iff_toInt_lt] at h; rw [Int32.le_iff_toInt_le] at q; omega)
theorem cmp_ngt {o : Option Ordering} (h : ¬ 0 < Op.cmpValue o .l) : ¬ o = some .gt := by
  intro q; subst q; exact absurd (by decide) h
