theorem below_in (a : Int32) {b : Nat} (hb : b + 1 < 2 ^ 31) : f_Q_isBelow a (nI (b + 1)) = f_N_in a 0 (nI b) := by
  rcases is_below a (b := b + 1) hb with ⟨e1, n1⟩ | ⟨j, hj, ex, e1⟩
  · rcases is_in a hb with ⟨e2, -⟩ | ⟨j, hj, ex, -⟩
    · rw [e1, e2]
    · exact absurd ex (n1 j hj)
  · rcases is_in a hb with ⟨-, n2⟩ | ⟨_, _, _, e2⟩
    · exact absurd ex (n2 j hj)
    · rw [e1, e2]
theorem below24 (a : Int32) : f_Q_isBelow a 24 = f_N_in a 0 23 := below_in a (b := 23) (by decide)
theorem below16 (a : Int32) : f_Q_isBelow a 16 = f_N_in a 0 15 := below_in a (b := 15) (by decide)
theorem below14 (a : Int32) : f_Q_isBelow a 14 = f_N_in a 0 13 := below_in a (b := 13) (by decide)
theorem below6 (a : Int32) : f_Q_isBelow a 6 = f_N_in a 0 5 := below_in a (b := 5) (by decide)
theorem in_01 (a x y : Int32) : f_N_in a x y = some 0 ∨ f_N_in a x y = some 1 := by
  unfold f_N_in
  by_cases c1 : a < x
  · exact Or.inl (if_pos c1)
  · rw [if_neg c1]
    by_cases c2 : y < a
    · exact Or.inl (if_pos c2)
    · exact Or.inr (if_neg c2)
