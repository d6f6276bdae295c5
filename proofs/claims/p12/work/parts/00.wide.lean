/-! a name of the whole library first: the rounds are read over all of it from the first part on (12.float wants it) -/
theorem xWide : True := by
  have h := @FP.Core.ddiv_mag
  trivial
