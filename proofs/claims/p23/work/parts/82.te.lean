/-! what the calls may throw -/
theorem tE_cell (x : Int32) : t_X6_requireCell x = none ∨ t_X6_requireCell x = some xIO := by
  unfold t_X6_requireCell
  split
  · exact Or.inr rfl
  · split
    · exact Or.inl rfl
    · exact Or.inr rfl
theorem tE_range (x a b : Int32) : t_X6_requireRange x a b = none ∨ t_X6_requireRange x a b = some xIA := by
  unfold t_X6_requireRange
  split
  · exact Or.inr rfl
  · split
    · exact Or.inl rfl
    · exact Or.inr rfl
theorem tE_cash (S : zS) (x : Int32) : t_X6_requireCash S x = none ∨ t_X6_requireCash S x = some xIS := by
  unfold t_X6_requireCash
  split
  · exact Or.inl rfl
  · exact Or.inr rfl
theorem tE_build (S : zS) (x0 x1 : Int32) : t_X6_build S x0 x1 = none ∨ t_X6_build S x0 x1 = some xIO ∨ t_X6_build S x0 x1 = some xIA ∨ t_X6_build S x0 x1 = some xIS := by
  unfold t_X6_build
  rcases tE_cell x0 with h | h
  · rcases tE_range x1 1 6 with h2 | h2
    · rw [h, h2]
      split
      · rcases tE_cash S (f_X6_costOf x1) with h3 | h3
        · rw [h3]
          exact Or.inl rfl
        · rw [h3]
          exact Or.inr (Or.inr (Or.inr rfl))
      · exact Or.inr (Or.inr (Or.inr rfl))
    · rw [h, h2]
      exact Or.inr (Or.inr (Or.inl rfl))
  · rw [h]
    exact Or.inr (Or.inl rfl)
theorem tE_tear (S : zS) (x0 : Int32) : t_X6_tear S x0 = none ∨ t_X6_tear S x0 = some xIO ∨ t_X6_tear S x0 = some xIS := by
  unfold t_X6_tear
  rcases tE_cell x0 with h | h
  · rw [h]
    split
    · rcases tE_cash S 5 with h3 | h3
      · rw [h3]
        exact Or.inl rfl
      · rw [h3]
        exact Or.inr (Or.inr rfl)
    · exact Or.inr (Or.inr rfl)
  · rw [h]
    exact Or.inr (Or.inl rfl)
theorem tE_setTax (S : zS) (x0 x1 : Int32) : t_X6_setTax S x0 x1 = none ∨ t_X6_setTax S x0 x1 = some xIA := by
  unfold t_X6_setTax
  rcases tE_range x1 0 20 with h | h
  · rw [h]
    exact Or.inl rfl
  · rw [h]
    exact Or.inr rfl
theorem tE_pass (S : zS) (x0 : Int32) : t_X6_pass S x0 = none ∨ t_X6_pass S x0 = some xIA := by
  unfold t_X6_pass
  rcases tE_range x0 1 12 with h | h
  · rw [h]
    exact Or.inl rfl
  · rw [h]
    exact Or.inr rfl
theorem tE_borrow (S : zS) (x0 : Int32) : t_X6_borrow S x0 = none ∨ t_X6_borrow S x0 = some xIA ∨ t_X6_borrow S x0 = some xIS := by
  unfold t_X6_borrow
  rcases tE_range x0 1 1000 with h | h
  · rw [h]
    split
    · exact Or.inl rfl
    · exact Or.inr (Or.inr rfl)
  · rw [h]
    exact Or.inr (Or.inl rfl)
theorem tE_repay (S : zS) (x0 : Int32) : t_X6_repay S x0 = none ∨ t_X6_repay S x0 = some xIA ∨ t_X6_repay S x0 = some xIS := by
  unfold t_X6_repay
  rcases tE_range x0 1 5000 with h | h
  · rw [h]
    split
    · rcases tE_cash S x0 with h3 | h3
      · rw [h3]
        exact Or.inl rfl
      · rw [h3]
        exact Or.inr (Or.inr rfl)
    · exact Or.inr (Or.inr rfl)
  · rw [h]
    exact Or.inr (Or.inl rfl)
theorem tE_kind (S : zS) (x0 : Int32) : t_X6_kind S x0 = none ∨ t_X6_kind S x0 = some xIO := by
  unfold t_X6_kind
  rcases tE_cell x0 with h | h
  · rw [h]
    exact Or.inl rfl
  · rw [h]
    exact Or.inr rfl
theorem tE_level (S : zS) (x0 : Int32) : t_X6_level S x0 = none ∨ t_X6_level S x0 = some xIO := by
  unfold t_X6_level
  rcases tE_cell x0 with h | h
  · rw [h]
    exact Or.inl rfl
  · rw [h]
    exact Or.inr rfl
theorem tE_net (S : zS) (x0 : Int32) : t_X6_net S x0 = none ∨ t_X6_net S x0 = some xIO := by
  unfold t_X6_net
  rcases tE_cell x0 with h | h
  · rw [h]
    exact Or.inl rfl
  · rw [h]
    exact Or.inr rfl
theorem tE_isServed (S : zS) (x0 : Int32) : t_X6_isServed S x0 = none ∨ t_X6_isServed S x0 = some xIO := by
  unfold t_X6_isServed
  rcases tE_cell x0 with h | h
  · rw [h]
    exact Or.inl rfl
  · rw [h]
    exact Or.inr rfl
theorem tE_placed (S : zS) (x0 : Int32) : t_X6_placed S x0 = none ∨ t_X6_placed S x0 = some xIO := by
  unfold t_X6_placed
  rcases tE_cell x0 with h | h
  · rw [h]
    exact Or.inl rfl
  · rw [h]
    exact Or.inr rfl
theorem tE_traffic (S : zS) (x0 : Int32) : t_X6_traffic S x0 = none ∨ t_X6_traffic S x0 = some xIO := by
  unfold t_X6_traffic
  rcases tE_cell x0 with h | h
  · rw [h]
    exact Or.inl rfl
  · rw [h]
    exact Or.inr rfl
theorem tE_value (S : zS) (x0 : Int32) : t_X6_value S x0 = none ∨ t_X6_value S x0 = some xIO := by
  unfold t_X6_value
  rcases tE_cell x0 with h | h
  · rw [h]
    exact Or.inl rfl
  · rw [h]
    exact Or.inr rfl
theorem tE_powerLeft (S : zS) (x0 : Int32) : t_X6_powerLeft S x0 = none ∨ t_X6_powerLeft S x0 = some xIO := by
  unfold t_X6_powerLeft
  rw [ite_self]
  rcases tE_cell x0 with h | h
  · rw [h]
    exact Or.inl rfl
  · rw [h]
    exact Or.inr rfl
theorem tE_steps (S : zS) (x0 x1 : Int32) : t_X6_steps S x0 x1 = none ∨ t_X6_steps S x0 x1 = some xIO := by
  unfold t_X6_steps
  rcases tE_cell x0 with h | h
  · rcases tE_cell x1 with h2 | h2
    · rw [h, h2]
      exact Or.inl rfl
    · rw [h, h2]
      exact Or.inr rfl
  · rw [h]
    exact Or.inr rfl
theorem tE_going (S : zS) (x0 x1 : Int32) : t_X6_going S x0 x1 = none ∨ t_X6_going S x0 x1 = some xIO := by
  unfold t_X6_going
  rcases tE_cell x0 with h | h
  · rcases tE_cell x1 with h2 | h2
    · rw [h, h2]
      exact Or.inl rfl
    · rw [h, h2]
      exact Or.inr rfl
  · rw [h]
    exact Or.inr rfl
