/-! the start -/
theorem inv_0 : Inv cs_0 ms_0 := by
  refine ⟨⟨rfl, rfl, rfl, rfl, rfl, rfl, rfl⟩, ⟨⟨by decide, by decide⟩, ⟨by decide, by decide⟩, ⟨by decide, by decide⟩, Or.inl rfl, ⟨by decide, by decide⟩, ⟨by decide, by decide⟩, ⟨by decide, by decide⟩⟩, ?_, ?_, ?_, ?_, ?_⟩
  · intro e he
    have e0 : (cs_I cs_0 0).toInt = 0 := rfl
    omega
  · intro l o _ _
    have e0 : cs_P cs_0 l o = 0 := rfl
    refine ⟨rfl, ?_, ?_⟩
    · rw [e0]; decide
    · rw [e0]; decide
  · intro k hk
    have hk' : k = 0 ∨ k = 1 ∨ k = 2 := by omega
    rcases hk' with rfl | rfl | rfl
    all_goals exact ⟨rfl, ⟨by decide, by decide⟩, ⟨by decide, by decide⟩⟩
  · intro k _
    exact ⟨rfl, Or.inl rfl⟩
  · intro i j hij
    have n0 : nE cs_0 = 0 := rfl
    have c3 : cs_I cs_0 3 = 0 := rfl
    show (0 : Int32) = _
    unfold cellS
    rw [n0, if_pos c3]
    rfl
