/-! the last part -/
theorem zz_1 : True := trivial
