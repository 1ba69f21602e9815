/-! Contracts 87 to 101 -/
/-! Yard.passGap: 1041 steps -/
/-! Yard.passGap: 1041 steps -/
/-! Yard.passGap: 1041 steps -/
/-! Yard.nextGap: 47 steps -/
/-! Yard.nextGap: 47 steps -/
/-! Yard.nextGap: 47 steps -/
/-! Yard.nextGap: 47 steps -/
/-! Yard.driveOn: 143 steps -/
/-! Yard.rush: 266 steps -/
/-! Rick.dropUpper: 49 steps -/
/-! Rick.dropUpper: 49 steps -/
/-! Rick.dropUpper: 49 steps -/
/-! LastLayer.hour: 454 steps -/
/-! Yard.threshLast: 223 steps -/
/-! LastLayer.last: 277 steps -/
