-- names a row of the library's rest (arrays of arrays, used in part 33) at once, so that a round reads the whole library from its first part on
theorem zw_wide : @Jvm.Free.Multi.outerC = @Jvm.Free.Multi.outerC := rfl
