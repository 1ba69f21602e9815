/-! Contracts 337 to 345 -/
/-! LastLayerModel.readTest from 121: 22 steps -/
/-! LastLayerModel.readTest from 121: 195 steps -/
/-! LastLayerModel.readTest from 60: 352 steps -/
/-! LastLayerModel.named: 38 steps -/
/-! LastLayerModel.named: 38 steps -/
/-! LastLayerModel.readStep from 132: 300 steps -/
/-! LastLayerModel.readStep from 91: 91 steps -/
/-! LastLayerModel.named: 38 steps -/
/-! LastLayerModel.readStep: 2950 steps -/
