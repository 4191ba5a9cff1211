/-! names the whole library: the round is then read over it -/
theorem ks_wide : @Jvm.Free.Multi.innerC = @Jvm.Free.Multi.innerC := rfl
