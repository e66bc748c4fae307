theorem vx_wide : True := by
  have _h := @Stand.thenCaughtThrough
  trivial
