theorem swI_b (x : Int32) : swI x = 0 ∨ swI x = 1 := by
  unfold swI
  split
  · exact Or.inr rfl
  · exact Or.inl rfl
