/-! this claim is read over the whole library from its first part on (70.copy names what lies in the rest) -/
theorem y_wide : True := by
  have _h := @Jvm.Free.Multi.fill_old
  exact True.intro
