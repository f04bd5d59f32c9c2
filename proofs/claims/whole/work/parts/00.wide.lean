/-- the whole library is wanted by the rows on exceptions -/
theorem wide_probe : True := by
  have _h := @Stand.thenCaughtThrough
  trivial
