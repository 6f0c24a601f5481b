/-- over the whole library: the doubles' laws are named from here on -/
theorem wide_ok : FP.Core.sgn (.inf true) = true := rfl
