/-! Contracts 346 to 348 -/
/-! LastLayerModel.readStep from 132: 1799 steps -/
/-! LastLayerModel.readStep from 91: 1636 steps -/
/-! LastLayerModel.readStep from 91: 340 steps -/
