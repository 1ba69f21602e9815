/-! Contracts 351 to 353 -/
/-! LastLayerModel.readStep from 91: 1636 steps -/
/-! LastLayerModel.readStep from 91: 340 steps -/
/-! LastLayerModel.readStep: 2920 steps -/
