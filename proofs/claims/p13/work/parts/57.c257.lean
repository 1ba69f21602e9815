/-! Contracts 257 to 265 -/
/-! Days.copyFrom: 49 steps -/
/-! LastLayer.mark: 99 steps -/
/-! Yard.copyFrom: 621 steps -/
/-! Days.copyFrom: 49 steps -/
/-! Yard.copyFrom: 621 steps -/
/-! Days.copyFrom: 49 steps -/
/-! Yard.copyFrom: 621 steps -/
/-! Days.copyFrom: 49 steps -/
/-! LastLayer.back: 82 steps -/
