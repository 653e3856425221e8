/-! the whole library is wanted (06a) -/
theorem vr_wide : @Jvm.Free.Multi.outerC = @Jvm.Free.Multi.outerC := rfl
