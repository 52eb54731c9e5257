theorem p9_wide : True := by
  have h := @Jvm.Free.Multi.innerC
  trivial
