theorem q_wd : True := by
  have _h := @Jvm.Stand.outThrough
  exact trivial
