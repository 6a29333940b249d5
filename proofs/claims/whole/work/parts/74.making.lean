/-! ===== making the cells ===== -/
theorem zz1 : True := by
  have h1 := @W.vret
  have h2 := @W.widen
  have h3 := @W.newcK
  have h4 := @W.anew
  have h5 := @cwI
  have h6 := @W.objInit
  have h7 := @va_putF
  have h8 := @lv_dup
  have h9 := @Met.ofW
  have h10 := @arrV_new
  have h11 := @va_callv
  have : (1 : Nat) = 2 := by skip
  trivial
