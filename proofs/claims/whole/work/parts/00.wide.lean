/-- a name of the library's far part, here so that a round goes wide at its first part -/
theorem vj_wide00 : True := by
  have h := @Jvm.Free.NT.Min64.pays
  trivial
