def zCl9 (x : zO) : Prop := x = (9, 0, 0) ∨ x = (33, 0, 0) ∨ x = (34, 0, 0) ∨ x = (35, 0, 0) ∨ x = (36, 0, 0) ∨ x = (37, 0, 0) ∨ x = (38, 0, 0)
theorem zCl9_t {x : zO} (h : zCl9 x) : (x.1 = 9 ∨ (33 ≤ x.1 ∧ x.1 ≤ 38)) ∧ x.2.1 = 0 ∧ x.2.2 = 0 := by
  rcases h with rfl | rfl | rfl | rfl | rfl | rfl | rfl <;> simp
theorem zref9 {s i : Int} {o : zO} (h : zrefOf (9, s, i) o) : zCl9 o := by
  rcases h with ⟨c, k, q1, q2, q3, q4⟩ | ⟨q, j, q1, -⟩
  · cases q1
    have hk : k < 10 := q2
    unfold zCl9
    rcases (show k = 0 ∨ k = 1 ∨ k = 2 ∨ k = 3 ∨ k = 4 ∨ k = 5 ∨ k = 6 ∨ k = 7 ∨ k = 8 ∨ k = 9 by omega) with rfl | rfl | rfl | rfl | rfl | rfl | rfl | rfl | rfl | rfl <;> first | (cases q3; done) | (rw [q4]; simp [zFref]; done)
  · cases q1
theorem zCl9_r {x o : zO} (h : zCl9 x) (hr : zrefOf x o) : zCl9 o := by
  rcases h with rfl | rfl | rfl | rfl | rfl | rfl | rfl
  · exact zref9 hr
  all_goals exact absurd hr (zno_ref rfl rfl rfl)
def zCl6a (x : zO) : Prop := 23 ≤ x.1 ∧ x.1 ≤ 30 ∧ x.2.1 = 0 ∧ x.2.2 = 0
theorem zCl6a_r {x o : zO} (h : zCl6a x) : ¬ zrefOf x o := by
  obtain ⟨t, s, i⟩ := x
  have h1 : 23 ≤ t ∧ t ≤ 30 := ⟨h.1, h.2.1⟩
  rcases (show t = 23 ∨ t = 24 ∨ t = 25 ∨ t = 26 ∨ t = 27 ∨ t = 28 ∨ t = 29 ∨ t = 30 by omega) with rfl | rfl | rfl | rfl | rfl | rfl | rfl | rfl <;> exact zno_ref rfl rfl rfl
def zCl6b (x : zO) : Prop := x = (31, 0, 0) ∨ ∃ j : Int, 0 ≤ j ∧ j < 8 ∧ x = (32, 0, j)
theorem zCl6b_t {x : zO} (h : zCl6b x) : x.1 = 31 ∨ x.1 = 32 := by
  rcases h with rfl | ⟨j, -, -, rfl⟩ <;> simp
theorem zCl6b_r {x o : zO} (h : zCl6b x) (hr : zrefOf x o) : zCl6b o := by
  rcases h with rfl | ⟨j, -, -, rfl⟩
  · obtain ⟨j, hj, e⟩ := zref_arr (t := 31) rfl rfl hr
    exact Or.inr ⟨j, by omega, by omega, e⟩
  · exact absurd hr (zno_ref rfl rfl rfl)
def zCl6 (x : zO) : Prop := x = (8, 0, 0) ∨ zCl6a x ∨ zCl6b x ∨ zCl9 x
set_option maxRecDepth 20000 in
theorem cn_X6 (l : Launch) (g : zG) : zMetN l g Y_X6_init 2 24 145 [] (8, 0, 0) zCl6 6 zf0_X6 (fun _ => True) := by
  refine zN_intro (fun _ => 0) (by decide +kernel) rfl rfl (fun _ => Nat.le_of_ble_eq_true rfl) fun X a hC hN hR hE => ?_
  change zNw X _ 0 [(0, .ref a)] [] _ _ _ _ _ _
  refine n_aload_n hC 0 dX6_init_0 rfl rfl ?_
  refine n_objInit hC (by decide) dX6_init_1 KO_X6 KOi KOc ?_
  refine n_aload_n hC 0 dX6_init_4 rfl rfl ?_
  refine n_bipush hC dX6_init_5 rfl ?_
  refine n_newa hC 0 dX6_init_7 rfl (by decide) rfl KA_int rfl (N := 8) rfl (by decide) (by decide) (by rw [hR]; exact Nat.le_of_ble_eq_true rfl) (by rw [hR]; exact Nat.le_of_ble_eq_true rfl) (by simp) (fun q1 => ?_)
  refine n_mv2 hC (23, 0, 0) (by simp) (fun _ z => z.elim) (fun ad1 e1 o1 => ⟨zent0 (g := (g.1, ad1, g.2.2)) (t := 23) rfl rfl rfl (by decide), ?_⟩)
  refine n_putF hC hN dX6_init_9 FF_X6_9 rfl (Nat.le_of_ble_eq_true rfl) (by simp) ?_
  change zNw X _ _ _ _ [(a, .inr (6, [.ref q1, .null, .null, .null, .null, .null, .null, .null, .null, .null]))] [a] _ _ _ _
  refine n_aload_n hC 0 dX6_init_12 rfl rfl ?_
  refine n_bipush hC dX6_init_13 rfl ?_
  refine n_newa hC 0 dX6_init_15 rfl (by decide) rfl KA_int rfl (N := 8) rfl (by decide) (by decide) (by rw [hR]; exact Nat.le_of_ble_eq_true rfl) (by rw [hR]; exact Nat.le_of_ble_eq_true rfl) (by simp) (fun q2 => ?_)
  refine n_mv2 hC (24, 0, 0) (by simp) (by intro x hx; simp only [false_or, or_assoc] at hx; rcases hx with rfl <;> exact zno_ref rfl rfl rfl) (fun ad2 e2 o2 => ⟨zent0 (g := (g.1, ad2, g.2.2)) (t := 24) rfl rfl rfl (by decide), ?_⟩)
  refine n_putF hC hN dX6_init_17 FF_X6_15 rfl (Nat.le_of_ble_eq_true rfl) (by simp) ?_
  change zNw X _ _ _ _ [(a, .inr (6, [.ref q1, .ref q2, .null, .null, .null, .null, .null, .null, .null, .null]))] [a] _ _ _ _
  refine n_aload_n hC 0 dX6_init_20 rfl rfl ?_
  refine n_bipush hC dX6_init_21 rfl ?_
  refine n_newa hC 0 dX6_init_23 rfl (by decide) rfl KA_int rfl (N := 8) rfl (by decide) (by decide) (by rw [hR]; exact Nat.le_of_ble_eq_true rfl) (by rw [hR]; exact Nat.le_of_ble_eq_true rfl) (by simp) (fun q3 => ?_)
  refine n_mv2 hC (25, 0, 0) (by simp) (by intro x hx; simp only [false_or, or_assoc] at hx; rcases hx with rfl | rfl <;> exact zno_ref rfl rfl rfl) (fun ad3 e3 o3 => ⟨zent0 (g := (g.1, ad3, g.2.2)) (t := 25) rfl rfl rfl (by decide), ?_⟩)
  refine n_putF hC hN dX6_init_25 FF_X6_18 rfl (Nat.le_of_ble_eq_true rfl) (by simp) ?_
  change zNw X _ _ _ _ [(a, .inr (6, [.ref q1, .ref q2, .ref q3, .null, .null, .null, .null, .null, .null, .null]))] [a] _ _ _ _
  refine n_aload_n hC 0 dX6_init_28 rfl rfl ?_
  refine n_bipush hC dX6_init_29 rfl ?_
  refine n_newa hC 0 dX6_init_31 rfl (by decide) rfl KA_int rfl (N := 8) rfl (by decide) (by decide) (by rw [hR]; exact Nat.le_of_ble_eq_true rfl) (by rw [hR]; exact Nat.le_of_ble_eq_true rfl) (by simp) (fun q4 => ?_)
  refine n_mv2 hC (26, 0, 0) (by simp) (by intro x hx; simp only [false_or, or_assoc] at hx; rcases hx with rfl | rfl | rfl <;> exact zno_ref rfl rfl rfl) (fun ad4 e4 o4 => ⟨zent0 (g := (g.1, ad4, g.2.2)) (t := 26) rfl rfl rfl (by decide), ?_⟩)
  refine n_putF hC hN dX6_init_33 FF_X6_21 rfl (Nat.le_of_ble_eq_true rfl) (by simp) ?_
  change zNw X _ _ _ _ [(a, .inr (6, [.ref q1, .ref q2, .ref q3, .ref q4, .null, .null, .null, .null, .null, .null]))] [a] _ _ _ _
  refine n_aload_n hC 0 dX6_init_36 rfl rfl ?_
  refine n_bipush hC dX6_init_37 rfl ?_
  refine n_newa hC 0 dX6_init_39 rfl (by decide) rfl KA_int rfl (N := 8) rfl (by decide) (by decide) (by rw [hR]; exact Nat.le_of_ble_eq_true rfl) (by rw [hR]; exact Nat.le_of_ble_eq_true rfl) (by simp) (fun q5 => ?_)
  refine n_mv2 hC (27, 0, 0) (by simp) (by intro x hx; simp only [false_or, or_assoc] at hx; rcases hx with rfl | rfl | rfl | rfl <;> exact zno_ref rfl rfl rfl) (fun ad5 e5 o5 => ⟨zent0 (g := (g.1, ad5, g.2.2)) (t := 27) rfl rfl rfl (by decide), ?_⟩)
  refine n_putF hC hN dX6_init_41 FF_X6_24 rfl (Nat.le_of_ble_eq_true rfl) (by simp) ?_
  change zNw X _ _ _ _ [(a, .inr (6, [.ref q1, .ref q2, .ref q3, .ref q4, .ref q5, .null, .null, .null, .null, .null]))] [a] _ _ _ _
  refine n_aload_n hC 0 dX6_init_44 rfl rfl ?_
  refine n_bipush hC dX6_init_45 rfl ?_
  refine n_newa hC 0 dX6_init_47 rfl (by decide) rfl KA_int rfl (N := 8) rfl (by decide) (by decide) (by rw [hR]; exact Nat.le_of_ble_eq_true rfl) (by rw [hR]; exact Nat.le_of_ble_eq_true rfl) (by simp) (fun q6 => ?_)
  refine n_mv2 hC (28, 0, 0) (by simp) (by intro x hx; simp only [false_or, or_assoc] at hx; rcases hx with rfl | rfl | rfl | rfl | rfl <;> exact zno_ref rfl rfl rfl) (fun ad6 e6 o6 => ⟨zent0 (g := (g.1, ad6, g.2.2)) (t := 28) rfl rfl rfl (by decide), ?_⟩)
  refine n_putF hC hN dX6_init_49 FF_X6_27 rfl (Nat.le_of_ble_eq_true rfl) (by simp) ?_
  change zNw X _ _ _ _ [(a, .inr (6, [.ref q1, .ref q2, .ref q3, .ref q4, .ref q5, .ref q6, .null, .null, .null, .null]))] [a] _ _ _ _
  refine n_aload_n hC 0 dX6_init_52 rfl rfl ?_
  refine n_bipush hC dX6_init_53 rfl ?_
  refine n_newa hC 0 dX6_init_55 rfl (by decide) rfl KA_int rfl (N := 8) rfl (by decide) (by decide) (by rw [hR]; exact Nat.le_of_ble_eq_true rfl) (by rw [hR]; exact Nat.le_of_ble_eq_true rfl) (by simp) (fun q7 => ?_)
  refine n_mv2 hC (29, 0, 0) (by simp) (by intro x hx; simp only [false_or, or_assoc] at hx; rcases hx with rfl | rfl | rfl | rfl | rfl | rfl <;> exact zno_ref rfl rfl rfl) (fun ad7 e7 o7 => ⟨zent0 (g := (g.1, ad7, g.2.2)) (t := 29) rfl rfl rfl (by decide), ?_⟩)
  refine n_putF hC hN dX6_init_57 FF_X6_30 rfl (Nat.le_of_ble_eq_true rfl) (by simp) ?_
  change zNw X _ _ _ _ [(a, .inr (6, [.ref q1, .ref q2, .ref q3, .ref q4, .ref q5, .ref q6, .ref q7, .null, .null, .null]))] [a] _ _ _ _
  refine n_aload_n hC 0 dX6_init_60 rfl rfl ?_
  refine n_bipush hC dX6_init_61 rfl ?_
  refine n_newa hC 0 dX6_init_63 rfl (by decide) rfl KA_int rfl (N := 8) rfl (by decide) (by decide) (by rw [hR]; exact Nat.le_of_ble_eq_true rfl) (by rw [hR]; exact Nat.le_of_ble_eq_true rfl) (by simp) (fun q8 => ?_)
  refine n_mv2 hC (30, 0, 0) (by simp) (by intro x hx; simp only [false_or, or_assoc] at hx; rcases hx with rfl | rfl | rfl | rfl | rfl | rfl | rfl <;> exact zno_ref rfl rfl rfl) (fun ad8 e8 o8 => ⟨zent0 (g := (g.1, ad8, g.2.2)) (t := 30) rfl rfl rfl (by decide), ?_⟩)
  refine n_putF hC hN dX6_init_65 FF_X6_33 rfl (Nat.le_of_ble_eq_true rfl) (by simp) ?_
  change zNw X _ _ _ _ [(a, .inr (6, [.ref q1, .ref q2, .ref q3, .ref q4, .ref q5, .ref q6, .ref q7, .ref q8, .null, .null]))] [a] _ _ _ _
  refine n_S (S' := zCl6a) (fun x => by obtain ⟨t, s, i⟩ := x; simp only [zCl6a, Prod.mk.injEq, false_or]; omega) ?_
  refine n_aload_n hC 0 dX6_init_68 rfl rfl ?_
  refine n_bipush hC dX6_init_69 rfl ?_
  refine n_iconst hC dX6_init_71 ?_
  refine n_multi hC dX6_init_72 KL_X6_36 KA_int (fun x hx => ⟨by have := hx.2.1; omega, by have := hx.2.1; omega⟩) (fun x hx o z => absurd z (zCl6a_r hx)) (by rw [hR]; exact Nat.le_of_ble_eq_true rfl) (by rw [hR]; exact Nat.le_of_ble_eq_true rfl) (fun qm adm em om => ?_)
  refine n_putF hC hN dX6_init_76 FF_X6_38 rfl (Nat.le_of_ble_eq_true rfl) (by simp) ?_
  change zNw X _ _ _ _ [(a, .inr (6, [.ref q1, .ref q2, .ref q3, .ref q4, .ref q5, .ref q6, .ref q7, .ref q8, .ref qm, .null]))] [a] (fun x => zCl6a x ∨ zCl6b x) _ _ _
  refine n_aload_n hC 0 dX6_init_79 rfl rfl ?_
  refine n_new hC dX6_init_80 NK_X6_41 (by rw [hR]; exact Nat.le_of_ble_eq_true rfl) (by rw [hR]; exact Nat.le_of_ble_eq_true rfl) (by simp) (fun q hq => ?_)
  refine n_dup hC dX6_init_83 ?_
  refine n_initN (Cl := zCl9) hC dX6_init_84 LN_X6_43_i (cn_X9 l g) (by decide) hq (by simp) rfl rfl (Nat.le_of_ble_eq_true rfl) (by rw [hR]; exact Nat.le_of_ble_eq_true rfl) (by rw [hR]; exact Nat.le_of_ble_eq_true rfl) (Or.inl rfl) ?_ ?_ (fun _ _ o ho o' z => Or.inl (zCl9_r ho z)) (fun ad9 h9 r9 => ?_)
  · rintro x (hx | hx) z
    · have h1 := zCl9_t z
      have h2 := hx.1
      have h3 := hx.2.1
      omega
    · have h1 := zCl9_t z
      have h2 := zCl6b_t hx
      omega
  · rintro x (hx | hx) o' zr z
    · exact zCl6a_r hx zr
    · have h1 := zCl9_t z
      have h2 := zCl6b_t (zCl6b_r hx zr)
      omega
  refine n_putF hC hN dX6_init_87 FF_X6_44 rfl (Nat.le_of_ble_eq_true rfl) (by simp) ?_
  change zNw X _ _ _ _ [(a, .inr (6, [.ref q1, .ref q2, .ref q3, .ref q4, .ref q5, .ref q6, .ref q7, .ref q8, .ref qm, .ref q]))] [a] _ _ _ _
  refine n_mv2 (ow := []) hC (8, 0, 0) ?_ ?_ (fun adr er or1 => ⟨?_, ?_⟩)
  · rintro ((hx | hx) | hx)
    · have h3 := hx.1
      simp at h3
    · have h2 := zCl6b_t hx
      simp at h2
    · have h1 := zCl9_t hx
      simp at h1
  · rintro x ((hx | hx) | hx) zr
    · exact zCl6a_r hx zr
    · have h2 := zCl6b_t (zCl6b_r hx zr)
      simp at h2
    · have h1 := zCl9_t (zCl9_r hx zr)
      simp at h1
  · have n9 : ∀ t : Nat, 23 ≤ t → t ≤ 31 → ¬ zCl9 (t, 0, 0) := fun t h1 h2 z => by
      have h3 := zCl9_t z
      simp at h3
      omega
    have f1 : adr (23, 0, 0) = q1 := by rw [or1 _ (by simp), h9 _ (n9 _ (by decide) (by decide)), om _ (by simp) (by simp), o8 _ (by simp), o7 _ (by simp), o6 _ (by simp), o5 _ (by simp), o4 _ (by simp), o3 _ (by simp), o2 _ (by simp), e1]
    have f2 : adr (24, 0, 0) = q2 := by rw [or1 _ (by simp), h9 _ (n9 _ (by decide) (by decide)), om _ (by simp) (by simp), o8 _ (by simp), o7 _ (by simp), o6 _ (by simp), o5 _ (by simp), o4 _ (by simp), o3 _ (by simp), e2]
    have f3 : adr (25, 0, 0) = q3 := by rw [or1 _ (by simp), h9 _ (n9 _ (by decide) (by decide)), om _ (by simp) (by simp), o8 _ (by simp), o7 _ (by simp), o6 _ (by simp), o5 _ (by simp), o4 _ (by simp), e3]
    have f4 : adr (26, 0, 0) = q4 := by rw [or1 _ (by simp), h9 _ (n9 _ (by decide) (by decide)), om _ (by simp) (by simp), o8 _ (by simp), o7 _ (by simp), o6 _ (by simp), o5 _ (by simp), e4]
    have f5 : adr (27, 0, 0) = q5 := by rw [or1 _ (by simp), h9 _ (n9 _ (by decide) (by decide)), om _ (by simp) (by simp), o8 _ (by simp), o7 _ (by simp), o6 _ (by simp), e5]
    have f6 : adr (28, 0, 0) = q6 := by rw [or1 _ (by simp), h9 _ (n9 _ (by decide) (by decide)), om _ (by simp) (by simp), o8 _ (by simp), o7 _ (by simp), e6]
    have f7 : adr (29, 0, 0) = q7 := by rw [or1 _ (by simp), h9 _ (n9 _ (by decide) (by decide)), om _ (by simp) (by simp), o8 _ (by simp), e7]
    have f8 : adr (30, 0, 0) = q8 := by rw [or1 _ (by simp), h9 _ (n9 _ (by decide) (by decide)), om _ (by simp) (by simp), e8]
    have fm : adr (31, 0, 0) = qm := by rw [or1 _ (by simp), h9 _ (n9 _ (by decide) (by decide)), em]
    have fq : adr (9, 0, 0) = q := by rw [or1 _ (by simp), r9]
    rw [zent_obj (ci := 6) rfl, ← f1, ← f2, ← f3, ← f4, ← f5, ← f6, ← f7, ← f8, ← fm, ← fq]
    rfl
  · refine n_ret hC dX6_init_90 hE rfl er trivial ?_ (Or.inl rfl)
    rintro x (rfl | h | h | h)
    · exact Or.inr rfl
    · exact Or.inl (Or.inl (Or.inl h))
    · exact Or.inl (Or.inl (Or.inr h))
    · exact Or.inl (Or.inr h)
