/-! the exception rows of part 02 (as the task prints them) rest on these two: named in full, so that a round on a new machine reads the whole library -/
theorem mj_wide : True := by
  have _h1 := @Jvm.Stand.outThrough
  have _h2 := @Jvm.Stand.thenCaughtThrough
  trivial
