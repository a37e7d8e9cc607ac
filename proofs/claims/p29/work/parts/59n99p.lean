/-- which part of the kitchen a cell is of -/
def zgrp (x : zO) : Int := if x.1 = 1 ∨ x.1 = 19 then 1 else if x.1 = 21 then 2 else if x.1 = 7 then 3 else if x.1 = 6 ∨ x.1 = 22 then 3 else if x.1 = 10 ∨ (39 ≤ x.1 ∧ x.1 ≤ 44) then 5 else if x.1 = 8 ∨ x.1 = 9 ∨ (23 ≤ x.1 ∧ x.1 ≤ 38) then 6 else if x.1 = 20 then 7 else if x.1 = 0 then 8 else if (2 ≤ x.1 ∧ x.1 ≤ 5) ∨ (12 ≤ x.1 ∧ x.1 ≤ 18) then (if x.2.1 = 9 then 3 else 10 + x.2.1) else 9
theorem zCl7_g {s : Int} {x : zO} (hs : 0 ≤ s ∧ s < 9) (h : zCl7 s x) : zgrp x = 10 + s := by
  have h1 := zCl7_t h
  unfold zgrp
  rw [if_neg (by omega), if_neg (by omega), if_neg (by omega), if_neg (by omega), if_neg (by omega), if_neg (by omega), if_neg (by omega), if_neg (by omega), if_pos (by omega), if_neg (by omega)]
  omega
theorem zCl4_g {i : Int} {x : zO} (h : zCl4 9 i x) : zgrp x = 3 := by
  have h1 := zCl4_t h
  unfold zgrp
  rw [if_neg (by omega), if_neg (by omega), if_neg (by omega), if_neg (by omega), if_neg (by omega), if_neg (by omega), if_neg (by omega), if_neg (by omega), if_pos (by omega), if_pos (by omega)]
theorem zCl0_g {x : zO} (h : zCl0 x) : zgrp x = 1 ∨ (11 ≤ zgrp x ∧ zgrp x ≤ 16) := by
  rcases h with rfl | rfl | ⟨k, k0, k1, h⟩
  · exact Or.inl rfl
  · exact Or.inl rfl
  · have := zCl7_g (by omega) h
    omega
theorem zCl2_g {x : zO} (h : zCl2 x) : zgrp x = 3 := by rcases h with rfl | rfl <;> rfl
theorem zCl3_g {x : zO} (h : zCl3 x) : zgrp x = 3 := by
  rcases h with rfl | h | h
  · rfl
  · exact zCl4_g h
  · exact zCl2_g h
theorem zCl6_g {x : zO} (h : zCl6 x) : zgrp x = 6 := by
  rcases h with rfl | h | h | h
  · rfl
  · have h1 := h.1
    have h2 := h.2.1
    unfold zgrp
    rw [if_neg (by omega), if_neg (by omega), if_neg (by omega), if_neg (by omega), if_neg (by omega), if_pos (by omega)]
  · have h1 := zCl6b_t h
    unfold zgrp
    rw [if_neg (by omega), if_neg (by omega), if_neg (by omega), if_neg (by omega), if_neg (by omega), if_pos (by omega)]
  · have h1 := zCl9_t h
    unfold zgrp
    rw [if_neg (by omega), if_neg (by omega), if_neg (by omega), if_neg (by omega), if_neg (by omega), if_pos (by omega)]
def zCl5 (x : zO) : Prop := x = (10, 0, 0) ∨ x = (39, 0, 0) ∨ x = (40, 0, 0) ∨ x = (41, 0, 0) ∨ x = (42, 0, 0) ∨ x = (43, 0, 0) ∨ x = (44, 0, 0)
theorem zCl5_g {x : zO} (h : zCl5 x) : zgrp x = 5 := by rcases h with rfl | rfl | rfl | rfl | rfl | rfl | rfl <;> rfl
theorem zref1 {s i : Int} {o : zO} (h : zrefOf (1, s, i) o) : o = (19, 0, 0) := by
  rcases h with ⟨c, k, q1, q2, q3, q4⟩ | ⟨q, j, q1, -⟩
  · cases q1
    have hk : k < 3 := q2
    rcases (show k = 0 ∨ k = 1 ∨ k = 2 by omega) with rfl | rfl | rfl <;> first | (cases q3; done) | exact q4
  · cases q1
theorem zref7 {s i : Int} {o : zO} (h : zrefOf (7, s, i) o) : o = (4, 9, 0) ∨ o = (6, 0, 0) := by
  rcases h with ⟨c, k, q1, q2, q3, q4⟩ | ⟨q, j, q1, -⟩
  · cases q1
    have hk : k < 4 := q2
    rcases (show k = 0 ∨ k = 1 ∨ k = 2 ∨ k = 3 by omega) with rfl | rfl | rfl | rfl <;> first | (cases q3; done) | exact Or.inl q4 | exact Or.inr q4
  · cases q1
theorem zref8 {s i : Int} {o : zO} (h : zrefOf (8, s, i) o) : zCl6 o := by
  rcases h with ⟨c, k, q1, q2, q3, q4⟩ | ⟨q, j, q1, -⟩
  · cases q1
    have hk : k < 10 := q2
    rw [q4]
    rcases (show k = 0 ∨ k = 1 ∨ k = 2 ∨ k = 3 ∨ k = 4 ∨ k = 5 ∨ k = 6 ∨ k = 7 ∨ k = 8 ∨ k = 9 by omega) with rfl | rfl | rfl | rfl | rfl | rfl | rfl | rfl | rfl | rfl <;> first | (refine Or.inr (Or.inl ?_); simp [zCl6a, zFref]; done) | (refine Or.inr (Or.inr (Or.inl (Or.inl ?_))); simp [zFref]; done) | (refine Or.inr (Or.inr (Or.inr (Or.inl ?_))); simp [zFref]; done)
  · cases q1
theorem zref10 {s i : Int} {o : zO} (h : zrefOf (10, s, i) o) : zCl5 o := by
  rcases h with ⟨c, k, q1, q2, q3, q4⟩ | ⟨q, j, q1, -⟩
  · cases q1
    have hk : k < 9 := q2
    unfold zCl5
    rcases (show k = 0 ∨ k = 1 ∨ k = 2 ∨ k = 3 ∨ k = 4 ∨ k = 5 ∨ k = 6 ∨ k = 7 ∨ k = 8 by omega) with rfl | rfl | rfl | rfl | rfl | rfl | rfl | rfl | rfl <;> first | (cases q3; done) | (rw [q4]; simp [zFref]; done)
  · cases q1
theorem zCl0_r {x o : zO} (h : zCl0 x) (hr : zrefOf x o) : zCl0 o := by
  rcases h with rfl | rfl | ⟨k, k0, k1, h⟩
  · exact Or.inr (Or.inl (zref1 hr))
  · obtain ⟨j, hj, e⟩ := zref_arr (t := 19) rfl rfl hr
    exact Or.inr (Or.inr ⟨j, by omega, by omega, Or.inl e⟩)
  · exact Or.inr (Or.inr ⟨k, k0, k1, zCl7_r h hr⟩)
theorem zCl3_r {x o : zO} (h : zCl3 x) (hr : zrefOf x o) : zCl3 o := by
  rcases h with rfl | h | h
  · rcases zref7 hr with e | e
    · exact Or.inr (Or.inl (Or.inl e))
    · exact Or.inr (Or.inr (Or.inl e))
  · exact Or.inr (Or.inl (zCl4_r h hr))
  · exact Or.inr (Or.inr (zCl2_r h hr))
theorem zCl6_r {x o : zO} (h : zCl6 x) (hr : zrefOf x o) : zCl6 o := by
  rcases h with rfl | h | h | h
  · exact zref8 hr
  · exact absurd hr (zCl6a_r h)
  · exact Or.inr (Or.inr (Or.inl (zCl6b_r h hr)))
  · exact Or.inr (Or.inr (Or.inr (zCl9_r h hr)))
theorem zCl5_r {x o : zO} (h : zCl5 x) (hr : zrefOf x o) : zCl5 o := by
  rcases h with rfl | rfl | rfl | rfl | rfl | rfl | rfl
  · exact zref10 hr
  all_goals exact absurd hr (zno_ref rfl rfl rfl)
