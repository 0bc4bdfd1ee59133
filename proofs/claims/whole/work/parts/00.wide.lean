/-! new T[n][m] is walked by a law of the rest of the library: named here, first of all, so that a round looks there at once -/
theorem wd_0 : True := by
  have _h := @Jvm.Stand.multianewarray2F
  trivial
