/-! Contracts 354 to 356 -/
/-! LastLayerModel.readStep from 132: 1799 steps -/
/-! LastLayerModel.readStep from 91: 1636 steps -/
/-! LastLayerModel.readStep from 91: 340 steps -/
