theorem rt_lib0 : True := by
  have h0 := @Jvm.Free.Multi.fill_facts
  trivial
