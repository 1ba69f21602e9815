/-! Contracts 316 to 335 -/
/-! LastLayerModel.readDog from 30: 342 steps -/
/-! LastLayerModel.readDog from 14: 244 steps -/
/-! LastLayerModel.readDog from 6: 59 steps -/
/-! LastLayerModel.readDog: 377 steps -/
/-! LastLayerModel.readSide from 78: 7 steps -/
/-! LastLayerModel.readSide from 49: 4 steps -/
/-! LastLayerModel.readSide from 6: 50 steps -/
/-! LastLayerModel.readSide from 78: 322 steps -/
/-! LastLayerModel.readSide from 49: 18 steps -/
/-! LastLayerModel.readSide from 6: 482 steps -/
/-! LastLayerModel.readSide: 377 steps -/
/-! LastLayerModel.readRick from 167: 4 steps -/
/-! LastLayerModel.readRick from 35: 8 steps -/
/-! LastLayerModel.readRick from 27: 9 steps -/
/-! LastLayerModel.readRick from 6: 36 steps -/
/-! LastLayerModel.readRick from 167: 87 steps -/
/-! LastLayerModel.readRick from 35: 305 steps -/
/-! LastLayerModel.readRick from 27: 59 steps -/
/-! LastLayerModel.readRick from 6: 342 steps -/
/-! LastLayerModel.readRick: 377 steps -/
