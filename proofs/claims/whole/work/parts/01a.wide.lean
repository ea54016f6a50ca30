/-! This claim is read over the whole library: part 13 stands on rows of it. -/
theorem q_whole_lib : True := by
  have := @Jvm.Free.Multi.fill_old
  trivial
