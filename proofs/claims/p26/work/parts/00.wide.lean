/-! a row of the library that stands behind the narrow import: so that a round is read over the whole of it from its first part on -/
theorem wd_multi : True := by
  have := @Jvm.Free.Multi.fill_facts
  trivial
