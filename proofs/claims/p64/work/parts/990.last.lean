/-! THE LAST -/
theorem lz_last : True := trivial
