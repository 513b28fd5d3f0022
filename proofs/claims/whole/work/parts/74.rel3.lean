/-! ===== calls told alike 1 (set aside) ===== -/
theorem w_stub1 : True := trivial
