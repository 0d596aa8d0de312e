/-! at the start both are so -/
def zz0 : Nat → Int := fun k => if k = 4 then 25 else if k = 5 then 25 else if k = 6 then 3 else if k = 9 then 20 else if k = 10 then 160 else if k = 11 then 1 else if k = 13 then -1 else 0
theorem x_start : zInv 0 zc_b0 zc_m0 := by
  refine ⟨⟨zz0, ⟨?_, ?_, ?_, ⟨?_, ?_⟩, Or.inl rfl, fun h => absurd h (by decide)⟩, ?_, ⟨?_, ?_, ?_⟩, by decide +kernel⟩, ⟨0, 0, by decide, by decide, by decide +kernel, by decide +kernel, by decide +kernel, fun j hj => absurd hj (by omega)⟩, fun i _ => Or.inl ⟨rfl, rfl⟩, ⟨0, by decide, by decide +kernel, by decide +kernel, fun k hk => absurd hk (by omega)⟩, ⟨0, by decide +kernel, by decide +kernel, by decide, by decide⟩⟩
  · decide +kernel
  · decide +kernel
  · decide +kernel
  · decide +kernel
  · decide +kernel
  · show ∀ k, k < 49 → zc_m0f k = zl (zz0 k)
    decide +kernel
  · refine ⟨by decide, ?_, ?_, ?_, ?_, ?_⟩ <;> decide +kernel
  · refine ⟨?_, ?_, ?_, ?_, ?_, ?_, ?_, ?_, ?_, ?_⟩ <;> decide +kernel
  · refine ⟨?_, ?_⟩ <;> decide +kernel
