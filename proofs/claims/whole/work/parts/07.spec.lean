/-! ===== the pure words of the promises ===== -/
def sp_speed (a b w : UInt64) : UInt64 := FP.dadd a (FP.dmul b w)
def sp_bal (kel damp : UInt64) : UInt64 := FP.dmul (FP.dmul 4600427019358961664 damp) (FP.dsub FP.dconst1 (FP.ddiv (FP.dsub kel 4643510282981736448) 4643211215818981376))
def sp_cut (w : UInt64) : UInt64 := if FP.dcmp w 4599301119452119040 = some .lt then w else 4599301119452119040
def sp_shr (w : UInt64) : UInt64 := FP.dmul 4598175219545276416 (FP.dsub 4599301119452119040 (sp_cut w))
def sumD (g : Nat → UInt64) : Nat → UInt64
  | 0 => FP.dconst0
  | i + 1 => FP.dadd (sumD g i) (g i)
def maxD (g : Nat → UInt64) : Nat → UInt64
  | 0 => FP.dconst0
  | i + 1 => if FP.dcmp (g i) (maxD g i) = some .gt then g i else maxD g i
def sp_mean (g : Nat → UInt64) (n : Nat) : UInt64 := FP.ddiv (sumD g n) (FP.i2d (nI n))
def sp_damp1 (damp vent water : UInt64) : UInt64 := FP.dadd damp (FP.dmul (FP.ddiv water 4679240012837945344) (FP.dsub FP.dconst1 vent))
def sp_lo (x : UInt64) : UInt64 := if FP.dcmp x FP.dconst0 = some .lt then FP.dconst0 else x
def sp_hi (x : UInt64) : UInt64 := if FP.dcmp x FP.dconst1 = some .gt then FP.dconst1 else x
def sp_damp (damp vent water : UInt64) : UInt64 := sp_hi (sp_lo (sp_damp1 damp vent water))
def sp_face (d wet speed bal : UInt64) : UInt64 := FP.ddiv (FP.dmul speed (FP.dsub wet bal)) (FP.dmul 4620693217682128896 d)
def sp_slope (ka kb d x y : UInt64) : UInt64 := FP.ddiv (FP.dmul (sp_speed ka kb (FP.ddiv (FP.dadd x y) 4611686018427387904)) (FP.dsub x y)) (FP.dmul d d)
theorem cmp_ge {o : Option Ordering} (h : 0 ≤ Op.cmpValue o .g) : ¬ o = some .lt := by
  intro q; subst q; exact absurd h (by decide)
theorem cmp_nge {o : Option Ordering} (h : ¬ 0 ≤ Op.cmpValue o .g) : o = some .lt := by
  rcases o with _ | o
  · exact absurd (by decide) h
  · cases o
    · rfl
    · exact absurd (by decide) h
    · exact absurd (by decide) h
theorem cmp_le {o : Option Ordering} (h : Op.cmpValue o .l ≤ 0) : ¬ o = some .gt := by
  intro q; subst q; exact absurd h (by decide)
theorem cmp_nle {o : Option Ordering} (h : ¬ Op.cmpValue o .l ≤ 0) : o = some .gt := by
  rcases o with _ | o
  · exact absurd (by decide) h
  · cases o
    · exact absurd (by decide) h
    · exact absurd (by decide) h
    · rfl
theorem cmp_gt {o : Option Ordering} (h : 0 < Op.cmpValue o .l) : o = some .gt := cmp_nle (fun q => by rw [Int32.lt_iff_toInt_lt] at h; rw [Int32.le_iff_toInt_le] at q; omega)
theorem cmp_ngt {o : Option Ordering} (h : ¬ 0 < Op.cmpValue o .l) : ¬ o = some .gt := by
  intro q; subst q; exact absurd (by decide) h
