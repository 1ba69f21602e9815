/-! Contracts 349 to 350 -/
/-! LastLayerModel.readStep: 2920 steps -/
/-! LastLayerModel.readStep from 132: 1799 steps -/
