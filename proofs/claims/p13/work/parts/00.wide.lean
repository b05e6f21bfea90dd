theorem xw_wide : True := by
  have _h := @Jvm.Stand.thenCaughtThrough
  trivial
