/-! the whole library is read from here on (multianewarray2F stands in its rest) -/
theorem mz_wide : True := by
  have _h := @Jvm.Stand.multianewarray2F
  trivial
