/-! ===== calls told alike 2 (set aside) ===== -/
theorem w_stub2 : True := trivial
