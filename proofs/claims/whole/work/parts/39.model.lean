/-! THE REFERENCE -/
theorem rf_stub : True := trivial
