/-! Contracts 336 to 336 -/
/-! LastLayerModel.yard: 6683 steps -/
