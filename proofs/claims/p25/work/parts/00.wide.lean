/-- a name of the wide library: named here, so that a round is read over it from its first part on -/
theorem wide_0 : @Bundle.ownAtomsX = @Bundle.ownAtomsX := rfl
