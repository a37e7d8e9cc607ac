theorem zCl10_r {x o : zO} (h : zCl10 x) (hr : zrefOf x o) : zCl10 o := by
  rcases h with rfl | rfl | h | ⟨j, j0, j1, hj⟩
  · rcases hr with ⟨c, k, q1, q2, q3, q4⟩ | ⟨q, j, q1, -⟩
    · cases q1
      have hk : k < 8 := q2
      rcases (show k = 0 ∨ k = 1 ∨ k = 2 ∨ k = 3 ∨ k = 4 ∨ k = 5 ∨ k = 6 ∨ k = 7 by omega) with rfl | rfl | rfl | rfl | rfl | rfl | rfl | rfl
      · exact Or.inr (Or.inr (Or.inl (Or.inl (Or.inl (Or.inl (Or.inl (Or.inl (Or.inl q4))))))))
      · exact Or.inr (Or.inr (Or.inl (Or.inl (Or.inl (Or.inl (Or.inl (Or.inr (Or.inl q4))))))))
      · exact Or.inr (Or.inl q4)
      · exact Or.inr (Or.inr (Or.inl (Or.inl (Or.inl (Or.inl (Or.inr (q4)))))))
      · exact Or.inr (Or.inr (Or.inl (Or.inl (Or.inl (Or.inr (Or.inl q4))))))
      · exact Or.inr (Or.inr (Or.inl (Or.inl (Or.inl (Or.inr (Or.inr (Or.inr (Or.inl q4))))))))
      · exact Or.inr (Or.inr (Or.inl (Or.inl (Or.inr (Or.inl q4)))))
      · exact Or.inr (Or.inr (Or.inl (Or.inr (Or.inl q4))))
    · cases q1
  · obtain ⟨j, hj, e⟩ := zref_arr (t := 20) rfl rfl hr
    exact Or.inr (Or.inr (Or.inr ⟨j, by omega, by omega, Or.inl e⟩))
  · exact Or.inr (Or.inr (Or.inl (zS6_r h hr)))
  · exact Or.inr (Or.inr (Or.inr ⟨j, j0, j1, zCl7_r hj hr⟩))
