/-! a name of the library's rest, so that the first part asks for the whole of it -/
theorem wide_0 : True := by
  have _h := @Jvm.Stand.thenCaughtThrough
  trivial
