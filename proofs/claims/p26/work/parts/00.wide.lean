theorem wide0 : True := by
  have _h := @Jvm.Stand.thenCaughtThrough
  trivial
