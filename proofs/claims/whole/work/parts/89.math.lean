/-! ===== what the calls took for granted ===== -/
theorem math_ok : MATH := ⟨CHK_ok, TUK_ok, STK_ok, RTK_ok, RWK_ok, SPK_ok⟩
