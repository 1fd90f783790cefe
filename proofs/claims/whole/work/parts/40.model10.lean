/-! PileMapsModel: hide, ask, the text -/
theorem bc_64 : ∀ s, s < 64 → nI (cnt (fun k => bt (nI s) k) 16) = bcI (nI s) := by decide +kernel
theorem aV_1 {S S' : AS} (h : S'.1 = S.1) : aV S' = aV S := by
  funext m
  unfold aV aH aO aE
  rw [h]
