/-- the row for arrays of arrays (09b) stands on names of the rest of the library: named here first, so that a round reads the whole library from its first part on -/
theorem uWide0 (c : ClassId) (N h0 : Nat) : Jvm.Free.Multi.outerC c N h0 0 = Jvm.Free.Multi.outerC c N h0 0 := rfl
