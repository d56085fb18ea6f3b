/-! This claim is read over the whole library (the rows of arrays of arrays): said first, so that no part compiles twice -/
theorem aw_wide : True := (fun _ => trivial) @Jvm.Free.Multi.fill_facts
