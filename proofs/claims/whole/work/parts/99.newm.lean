set_option maxRecDepth 20000 in
theorem cn_X11 (l : Launch) (g : zG) : zMetN l g Y_X11_init 1 19 5220 [] (11, 0, 0) (fun x => x = (11, 0, 0) ∨ x = (45, 0, 0) ∨ x = (46, 0, 0) ∨ x = (47, 0, 0) ∨ x = (48, 0, 0) ∨ x = (49, 0, 0) ∨ x = (50, 0, 0) ∨ x = (51, 0, 0) ∨ x = (52, 0, 0) ∨ x = (53, 0, 0) ∨ x = (54, 0, 0) ∨ x = (55, 0, 0) ∨ x = (56, 0, 0) ∨ x = (57, 0, 0) ∨ x = (58, 0, 0) ∨ x = (59, 0, 0) ∨ x = (60, 0, 0) ∨ x = (61, 0, 0) ∨ x = (62, 0, 0) ∨ x = (63, 0, 0)) 11 zf0_X11 (fun _ => True) := by
  refine zN_intro (fun _ => 0) (by decide +kernel) rfl rfl (fun _ => Nat.le_of_ble_eq_true rfl) fun X a hC hN hR hE => ?_
  change zNw X _ 0 [(0, .ref a)] [] _ _ _ _ _ _
  refine n_aload_n hC 0 dX11_init_0 rfl rfl ?_
  refine n_objInit hC (by decide) dX11_init_1 KO_X11 KOi KOc ?_
  refine n_aload_n hC 0 dX11_init_4 rfl rfl ?_
  refine n_sipush hC dX11_init_5 rfl ?_
  refine n_newa hC 0 dX11_init_8 rfl (by decide) rfl KA_int rfl (N := 546) rfl (by decide) (by decide) (by rw [hR]; exact Nat.le_of_ble_eq_true rfl) (by rw [hR]; exact Nat.le_of_ble_eq_true rfl) (by simp) (fun q1 => ?_)
  refine n_putF hC hN dX11_init_10 FF_X11_7 rfl (Nat.le_of_ble_eq_true rfl) (by simp) ?_
  change zNw X _ _ _ _ [(a, .inr (11, [.ref q1, .null, .int 0, .null, .null, .null, .int 0, .null, .null, .null, .null, .null, .null, .null, .null, .null, .int 0, .int 0, .int 0, .null, .null, .null, .int 0, .int 0, .int 0, .int 0, .int 0, .int 0, .null, .null, .int 0])), (q1, .inl (g.2.2 0, 546, .inl fun _ => 0))] [a, q1] _ _ _ _
  refine n_aload_n hC 0 dX11_init_13 rfl rfl ?_
  refine n_sipush hC dX11_init_14 rfl ?_
  refine n_newa hC 0 dX11_init_17 rfl (by decide) rfl KA_int rfl (N := 3276) rfl (by decide) (by decide) (by rw [hR]; exact Nat.le_of_ble_eq_true rfl) (by rw [hR]; exact Nat.le_of_ble_eq_true rfl) (by simp) (fun q2 => ?_)
  refine n_mv2 hC (46, 0, 0) (by simp) (fun _ z => z.elim) (fun ad2 e2 o2 => ⟨zent0 (g := (g.1, ad2, g.2.2)) (t := 46) rfl rfl rfl (by decide), ?_⟩)
  refine n_putF hC hN dX11_init_19 FF_X11_13 rfl (Nat.le_of_ble_eq_true rfl) (by simp) ?_
  change zNw X _ _ _ _ [(a, .inr (11, [.ref q1, .ref q2, .int 0, .null, .null, .null, .int 0, .null, .null, .null, .null, .null, .null, .null, .null, .null, .int 0, .int 0, .int 0, .null, .null, .null, .int 0, .int 0, .int 0, .int 0, .int 0, .int 0, .null, .null, .int 0])), (q1, .inl (g.2.2 0, 546, .inl fun _ => 0))] [a, q1] _ _ _ _
  refine n_aload_n hC 0 dX11_init_22 rfl rfl ?_
  refine n_sipush hC dX11_init_23 rfl ?_
  refine n_newa hC 0 dX11_init_26 rfl (by decide) rfl KA_int rfl (N := 1092) rfl (by decide) (by decide) (by rw [hR]; exact Nat.le_of_ble_eq_true rfl) (by rw [hR]; exact Nat.le_of_ble_eq_true rfl) (by simp) (fun q3 => ?_)
  refine n_mv2 hC (47, 0, 0) (by simp) (by intro x hx; simp only [false_or, or_assoc] at hx; rcases hx with rfl <;> exact zno_ref rfl rfl rfl) (fun ad3 e3 o3 => ⟨zent0 (g := (g.1, ad3, g.2.2)) (t := 47) rfl rfl rfl (by decide), ?_⟩)
  refine n_putF hC hN dX11_init_28 FF_X11_16 rfl (Nat.le_of_ble_eq_true rfl) (by simp) ?_
  change zNw X _ _ _ _ [(a, .inr (11, [.ref q1, .ref q2, .int 0, .ref q3, .null, .null, .int 0, .null, .null, .null, .null, .null, .null, .null, .null, .null, .int 0, .int 0, .int 0, .null, .null, .null, .int 0, .int 0, .int 0, .int 0, .int 0, .int 0, .null, .null, .int 0])), (q1, .inl (g.2.2 0, 546, .inl fun _ => 0))] [a, q1] _ _ _ _
  refine n_aload_n hC 0 dX11_init_31 rfl rfl ?_
  refine n_iconst hC dX11_init_32 ?_
  refine n_newa hC 1 dX11_init_33 rfl (by decide) rfl KA_boolean rfl (N := 2) rfl (by decide) (by decide) (by rw [hR]; exact Nat.le_of_ble_eq_true rfl) (by rw [hR]; exact Nat.le_of_ble_eq_true rfl) (by simp) (fun q4 => ?_)
  refine n_mv2 hC (48, 0, 0) (by simp) (by intro x hx; simp only [false_or, or_assoc] at hx; rcases hx with rfl | rfl <;> exact zno_ref rfl rfl rfl) (fun ad4 e4 o4 => ⟨zent0 (g := (g.1, ad4, g.2.2)) (t := 48) rfl rfl rfl (by decide), ?_⟩)
  refine n_putF hC hN dX11_init_35 FF_X11_19 rfl (Nat.le_of_ble_eq_true rfl) (by simp) ?_
  change zNw X _ _ _ _ [(a, .inr (11, [.ref q1, .ref q2, .int 0, .ref q3, .ref q4, .null, .int 0, .null, .null, .null, .null, .null, .null, .null, .null, .null, .int 0, .int 0, .int 0, .null, .null, .null, .int 0, .int 0, .int 0, .int 0, .int 0, .int 0, .null, .null, .int 0])), (q1, .inl (g.2.2 0, 546, .inl fun _ => 0))] [a, q1] _ _ _ _
  refine n_aload_n hC 0 dX11_init_38 rfl rfl ?_
  refine n_bipush hC dX11_init_39 rfl ?_
  refine n_newa hC 0 dX11_init_41 rfl (by decide) rfl KA_int rfl (N := 80) rfl (by decide) (by decide) (by rw [hR]; exact Nat.le_of_ble_eq_true rfl) (by rw [hR]; exact Nat.le_of_ble_eq_true rfl) (by simp) (fun q5 => ?_)
  refine n_mv2 hC (49, 0, 0) (by simp) (by intro x hx; simp only [false_or, or_assoc] at hx; rcases hx with rfl | rfl | rfl <;> exact zno_ref rfl rfl rfl) (fun ad5 e5 o5 => ⟨zent0 (g := (g.1, ad5, g.2.2)) (t := 49) rfl rfl rfl (by decide), ?_⟩)
  refine n_putF hC hN dX11_init_43 FF_X11_23 rfl (Nat.le_of_ble_eq_true rfl) (by simp) ?_
  change zNw X _ _ _ _ [(a, .inr (11, [.ref q1, .ref q2, .int 0, .ref q3, .ref q4, .ref q5, .int 0, .null, .null, .null, .null, .null, .null, .null, .null, .null, .int 0, .int 0, .int 0, .null, .null, .null, .int 0, .int 0, .int 0, .int 0, .int 0, .int 0, .null, .null, .int 0])), (q1, .inl (g.2.2 0, 546, .inl fun _ => 0))] [a, q1] _ _ _ _
  refine n_aload_n hC 0 dX11_init_46 rfl rfl ?_
  refine n_bipush hC dX11_init_47 rfl ?_
  refine n_newa hC 0 dX11_init_49 rfl (by decide) rfl KA_int rfl (N := 8) rfl (by decide) (by decide) (by rw [hR]; exact Nat.le_of_ble_eq_true rfl) (by rw [hR]; exact Nat.le_of_ble_eq_true rfl) (by simp) (fun q6 => ?_)
  refine n_mv2 hC (50, 0, 0) (by simp) (by intro x hx; simp only [false_or, or_assoc] at hx; rcases hx with rfl | rfl | rfl | rfl <;> exact zno_ref rfl rfl rfl) (fun ad6 e6 o6 => ⟨zent0 (g := (g.1, ad6, g.2.2)) (t := 50) rfl rfl rfl (by decide), ?_⟩)
  refine n_putF hC hN dX11_init_51 FF_X11_26 rfl (Nat.le_of_ble_eq_true rfl) (by simp) ?_
  change zNw X _ _ _ _ [(a, .inr (11, [.ref q1, .ref q2, .int 0, .ref q3, .ref q4, .ref q5, .int 0, .ref q6, .null, .null, .null, .null, .null, .null, .null, .null, .int 0, .int 0, .int 0, .null, .null, .null, .int 0, .int 0, .int 0, .int 0, .int 0, .int 0, .null, .null, .int 0])), (q1, .inl (g.2.2 0, 546, .inl fun _ => 0))] [a, q1] _ _ _ _
  refine n_aload_n hC 0 dX11_init_54 rfl rfl ?_
  refine n_bipush hC dX11_init_55 rfl ?_
  refine n_newa hC 0 dX11_init_57 rfl (by decide) rfl KA_int rfl (N := 8) rfl (by decide) (by decide) (by rw [hR]; exact Nat.le_of_ble_eq_true rfl) (by rw [hR]; exact Nat.le_of_ble_eq_true rfl) (by simp) (fun q7 => ?_)
  refine n_mv2 hC (51, 0, 0) (by simp) (by intro x hx; simp only [false_or, or_assoc] at hx; rcases hx with rfl | rfl | rfl | rfl | rfl <;> exact zno_ref rfl rfl rfl) (fun ad7 e7 o7 => ⟨zent0 (g := (g.1, ad7, g.2.2)) (t := 51) rfl rfl rfl (by decide), ?_⟩)
  refine n_putF hC hN dX11_init_59 FF_X11_29 rfl (Nat.le_of_ble_eq_true rfl) (by simp) ?_
  change zNw X _ _ _ _ [(a, .inr (11, [.ref q1, .ref q2, .int 0, .ref q3, .ref q4, .ref q5, .int 0, .ref q6, .ref q7, .null, .null, .null, .null, .null, .null, .null, .int 0, .int 0, .int 0, .null, .null, .null, .int 0, .int 0, .int 0, .int 0, .int 0, .int 0, .null, .null, .int 0])), (q1, .inl (g.2.2 0, 546, .inl fun _ => 0))] [a, q1] _ _ _ _
  refine n_aload_n hC 0 dX11_init_62 rfl rfl ?_
  refine n_bipush hC dX11_init_63 rfl ?_
  refine n_newa hC 0 dX11_init_65 rfl (by decide) rfl KA_int rfl (N := 8) rfl (by decide) (by decide) (by rw [hR]; exact Nat.le_of_ble_eq_true rfl) (by rw [hR]; exact Nat.le_of_ble_eq_true rfl) (by simp) (fun q8 => ?_)
  refine n_mv2 hC (52, 0, 0) (by simp) (by intro x hx; simp only [false_or, or_assoc] at hx; rcases hx with rfl | rfl | rfl | rfl | rfl | rfl <;> exact zno_ref rfl rfl rfl) (fun ad8 e8 o8 => ⟨zent0 (g := (g.1, ad8, g.2.2)) (t := 52) rfl rfl rfl (by decide), ?_⟩)
  refine n_putF hC hN dX11_init_67 FF_X11_32 rfl (Nat.le_of_ble_eq_true rfl) (by simp) ?_
  change zNw X _ _ _ _ [(a, .inr (11, [.ref q1, .ref q2, .int 0, .ref q3, .ref q4, .ref q5, .int 0, .ref q6, .ref q7, .ref q8, .null, .null, .null, .null, .null, .null, .int 0, .int 0, .int 0, .null, .null, .null, .int 0, .int 0, .int 0, .int 0, .int 0, .int 0, .null, .null, .int 0])), (q1, .inl (g.2.2 0, 546, .inl fun _ => 0))] [a, q1] _ _ _ _
  refine n_aload_n hC 0 dX11_init_70 rfl rfl ?_
  refine n_bipush hC dX11_init_71 rfl ?_
  refine n_newa hC 0 dX11_init_73 rfl (by decide) rfl KA_int rfl (N := 8) rfl (by decide) (by decide) (by rw [hR]; exact Nat.le_of_ble_eq_true rfl) (by rw [hR]; exact Nat.le_of_ble_eq_true rfl) (by simp) (fun q9 => ?_)
  refine n_mv2 hC (53, 0, 0) (by simp) (by intro x hx; simp only [false_or, or_assoc] at hx; rcases hx with rfl | rfl | rfl | rfl | rfl | rfl | rfl <;> exact zno_ref rfl rfl rfl) (fun ad9 e9 o9 => ⟨zent0 (g := (g.1, ad9, g.2.2)) (t := 53) rfl rfl rfl (by decide), ?_⟩)
  refine n_putF hC hN dX11_init_75 FF_X11_35 rfl (Nat.le_of_ble_eq_true rfl) (by simp) ?_
  change zNw X _ _ _ _ [(a, .inr (11, [.ref q1, .ref q2, .int 0, .ref q3, .ref q4, .ref q5, .int 0, .ref q6, .ref q7, .ref q8, .ref q9, .null, .null, .null, .null, .null, .int 0, .int 0, .int 0, .null, .null, .null, .int 0, .int 0, .int 0, .int 0, .int 0, .int 0, .null, .null, .int 0])), (q1, .inl (g.2.2 0, 546, .inl fun _ => 0))] [a, q1] _ _ _ _
  refine n_aload_n hC 0 dX11_init_78 rfl rfl ?_
  refine n_bipush hC dX11_init_79 rfl ?_
  refine n_newa hC 0 dX11_init_81 rfl (by decide) rfl KA_int rfl (N := 8) rfl (by decide) (by decide) (by rw [hR]; exact Nat.le_of_ble_eq_true rfl) (by rw [hR]; exact Nat.le_of_ble_eq_true rfl) (by simp) (fun q10 => ?_)
  refine n_mv2 hC (54, 0, 0) (by simp) (by intro x hx; simp only [false_or, or_assoc] at hx; rcases hx with rfl | rfl | rfl | rfl | rfl | rfl | rfl | rfl <;> exact zno_ref rfl rfl rfl) (fun ad10 e10 o10 => ⟨zent0 (g := (g.1, ad10, g.2.2)) (t := 54) rfl rfl rfl (by decide), ?_⟩)
  refine n_putF hC hN dX11_init_83 FF_X11_38 rfl (Nat.le_of_ble_eq_true rfl) (by simp) ?_
  change zNw X _ _ _ _ [(a, .inr (11, [.ref q1, .ref q2, .int 0, .ref q3, .ref q4, .ref q5, .int 0, .ref q6, .ref q7, .ref q8, .ref q9, .ref q10, .null, .null, .null, .null, .int 0, .int 0, .int 0, .null, .null, .null, .int 0, .int 0, .int 0, .int 0, .int 0, .int 0, .null, .null, .int 0])), (q1, .inl (g.2.2 0, 546, .inl fun _ => 0))] [a, q1] _ _ _ _
  refine n_aload_n hC 0 dX11_init_86 rfl rfl ?_
  refine n_bipush hC dX11_init_87 rfl ?_
  refine n_newa hC 0 dX11_init_89 rfl (by decide) rfl KA_int rfl (N := 8) rfl (by decide) (by decide) (by rw [hR]; exact Nat.le_of_ble_eq_true rfl) (by rw [hR]; exact Nat.le_of_ble_eq_true rfl) (by simp) (fun q11 => ?_)
  refine n_mv2 hC (55, 0, 0) (by simp) (by intro x hx; simp only [false_or, or_assoc] at hx; rcases hx with rfl | rfl | rfl | rfl | rfl | rfl | rfl | rfl | rfl <;> exact zno_ref rfl rfl rfl) (fun ad11 e11 o11 => ⟨zent0 (g := (g.1, ad11, g.2.2)) (t := 55) rfl rfl rfl (by decide), ?_⟩)
  refine n_putF hC hN dX11_init_91 FF_X11_41 rfl (Nat.le_of_ble_eq_true rfl) (by simp) ?_
  change zNw X _ _ _ _ [(a, .inr (11, [.ref q1, .ref q2, .int 0, .ref q3, .ref q4, .ref q5, .int 0, .ref q6, .ref q7, .ref q8, .ref q9, .ref q10, .ref q11, .null, .null, .null, .int 0, .int 0, .int 0, .null, .null, .null, .int 0, .int 0, .int 0, .int 0, .int 0, .int 0, .null, .null, .int 0])), (q1, .inl (g.2.2 0, 546, .inl fun _ => 0))] [a, q1] _ _ _ _
  refine n_aload_n hC 0 dX11_init_94 rfl rfl ?_
  refine n_bipush hC dX11_init_95 rfl ?_
  refine n_newa hC 0 dX11_init_97 rfl (by decide) rfl KA_int rfl (N := 8) rfl (by decide) (by decide) (by rw [hR]; exact Nat.le_of_ble_eq_true rfl) (by rw [hR]; exact Nat.le_of_ble_eq_true rfl) (by simp) (fun q12 => ?_)
  refine n_mv2 hC (56, 0, 0) (by simp) (by intro x hx; simp only [false_or, or_assoc] at hx; rcases hx with rfl | rfl | rfl | rfl | rfl | rfl | rfl | rfl | rfl | rfl <;> exact zno_ref rfl rfl rfl) (fun ad12 e12 o12 => ⟨zent0 (g := (g.1, ad12, g.2.2)) (t := 56) rfl rfl rfl (by decide), ?_⟩)
  refine n_putF hC hN dX11_init_99 FF_X11_44 rfl (Nat.le_of_ble_eq_true rfl) (by simp) ?_
  change zNw X _ _ _ _ [(a, .inr (11, [.ref q1, .ref q2, .int 0, .ref q3, .ref q4, .ref q5, .int 0, .ref q6, .ref q7, .ref q8, .ref q9, .ref q10, .ref q11, .ref q12, .null, .null, .int 0, .int 0, .int 0, .null, .null, .null, .int 0, .int 0, .int 0, .int 0, .int 0, .int 0, .null, .null, .int 0])), (q1, .inl (g.2.2 0, 546, .inl fun _ => 0))] [a, q1] _ _ _ _
  refine n_aload_n hC 0 dX11_init_102 rfl rfl ?_
  refine n_bipush hC dX11_init_103 rfl ?_
  refine n_newa hC 0 dX11_init_105 rfl (by decide) rfl KA_int rfl (N := 8) rfl (by decide) (by decide) (by rw [hR]; exact Nat.le_of_ble_eq_true rfl) (by rw [hR]; exact Nat.le_of_ble_eq_true rfl) (by simp) (fun q13 => ?_)
  refine n_mv2 hC (57, 0, 0) (by simp) (by intro x hx; simp only [false_or, or_assoc] at hx; rcases hx with rfl | rfl | rfl | rfl | rfl | rfl | rfl | rfl | rfl | rfl | rfl <;> exact zno_ref rfl rfl rfl) (fun ad13 e13 o13 => ⟨zent0 (g := (g.1, ad13, g.2.2)) (t := 57) rfl rfl rfl (by decide), ?_⟩)
  refine n_putF hC hN dX11_init_107 FF_X11_47 rfl (Nat.le_of_ble_eq_true rfl) (by simp) ?_
  change zNw X _ _ _ _ [(a, .inr (11, [.ref q1, .ref q2, .int 0, .ref q3, .ref q4, .ref q5, .int 0, .ref q6, .ref q7, .ref q8, .ref q9, .ref q10, .ref q11, .ref q12, .ref q13, .null, .int 0, .int 0, .int 0, .null, .null, .null, .int 0, .int 0, .int 0, .int 0, .int 0, .int 0, .null, .null, .int 0])), (q1, .inl (g.2.2 0, 546, .inl fun _ => 0))] [a, q1] _ _ _ _
  refine n_aload_n hC 0 dX11_init_110 rfl rfl ?_
  refine n_bipush hC dX11_init_111 rfl ?_
  refine n_newa hC 0 dX11_init_113 rfl (by decide) rfl KA_int rfl (N := 24) rfl (by decide) (by decide) (by rw [hR]; exact Nat.le_of_ble_eq_true rfl) (by rw [hR]; exact Nat.le_of_ble_eq_true rfl) (by simp) (fun q14 => ?_)
  refine n_mv2 hC (58, 0, 0) (by simp) (by intro x hx; simp only [false_or, or_assoc] at hx; rcases hx with rfl | rfl | rfl | rfl | rfl | rfl | rfl | rfl | rfl | rfl | rfl | rfl <;> exact zno_ref rfl rfl rfl) (fun ad14 e14 o14 => ⟨zent0 (g := (g.1, ad14, g.2.2)) (t := 58) rfl rfl rfl (by decide), ?_⟩)
  refine n_putF hC hN dX11_init_115 FF_X11_50 rfl (Nat.le_of_ble_eq_true rfl) (by simp) ?_
  change zNw X _ _ _ _ [(a, .inr (11, [.ref q1, .ref q2, .int 0, .ref q3, .ref q4, .ref q5, .int 0, .ref q6, .ref q7, .ref q8, .ref q9, .ref q10, .ref q11, .ref q12, .ref q13, .ref q14, .int 0, .int 0, .int 0, .null, .null, .null, .int 0, .int 0, .int 0, .int 0, .int 0, .int 0, .null, .null, .int 0])), (q1, .inl (g.2.2 0, 546, .inl fun _ => 0))] [a, q1] _ _ _ _
  refine n_aload_n hC 0 dX11_init_118 rfl rfl ?_
  refine n_bipush hC dX11_init_119 rfl ?_
  refine n_newa hC 0 dX11_init_121 rfl (by decide) rfl KA_int rfl (N := 32) rfl (by decide) (by decide) (by rw [hR]; exact Nat.le_of_ble_eq_true rfl) (by rw [hR]; exact Nat.le_of_ble_eq_true rfl) (by simp) (fun q15 => ?_)
  refine n_mv2 hC (59, 0, 0) (by simp) (by intro x hx; simp only [false_or, or_assoc] at hx; rcases hx with rfl | rfl | rfl | rfl | rfl | rfl | rfl | rfl | rfl | rfl | rfl | rfl | rfl <;> exact zno_ref rfl rfl rfl) (fun ad15 e15 o15 => ⟨zent0 (g := (g.1, ad15, g.2.2)) (t := 59) rfl rfl rfl (by decide), ?_⟩)
  refine n_putF hC hN dX11_init_123 FF_X11_53 rfl (Nat.le_of_ble_eq_true rfl) (by simp) ?_
  change zNw X _ _ _ _ [(a, .inr (11, [.ref q1, .ref q2, .int 0, .ref q3, .ref q4, .ref q5, .int 0, .ref q6, .ref q7, .ref q8, .ref q9, .ref q10, .ref q11, .ref q12, .ref q13, .ref q14, .int 0, .int 0, .int 0, .ref q15, .null, .null, .int 0, .int 0, .int 0, .int 0, .int 0, .int 0, .null, .null, .int 0])), (q1, .inl (g.2.2 0, 546, .inl fun _ => 0))] [a, q1] _ _ _ _
  refine n_aload_n hC 0 dX11_init_126 rfl rfl ?_
  refine n_bipush hC dX11_init_127 rfl ?_
  refine n_newa hC 0 dX11_init_129 rfl (by decide) rfl KA_int rfl (N := 32) rfl (by decide) (by decide) (by rw [hR]; exact Nat.le_of_ble_eq_true rfl) (by rw [hR]; exact Nat.le_of_ble_eq_true rfl) (by simp) (fun q16 => ?_)
  refine n_mv2 hC (60, 0, 0) (by simp) (by intro x hx; simp only [false_or, or_assoc] at hx; rcases hx with rfl | rfl | rfl | rfl | rfl | rfl | rfl | rfl | rfl | rfl | rfl | rfl | rfl | rfl <;> exact zno_ref rfl rfl rfl) (fun ad16 e16 o16 => ⟨zent0 (g := (g.1, ad16, g.2.2)) (t := 60) rfl rfl rfl (by decide), ?_⟩)
  refine n_putF hC hN dX11_init_131 FF_X11_56 rfl (Nat.le_of_ble_eq_true rfl) (by simp) ?_
  change zNw X _ _ _ _ [(a, .inr (11, [.ref q1, .ref q2, .int 0, .ref q3, .ref q4, .ref q5, .int 0, .ref q6, .ref q7, .ref q8, .ref q9, .ref q10, .ref q11, .ref q12, .ref q13, .ref q14, .int 0, .int 0, .int 0, .ref q15, .ref q16, .null, .int 0, .int 0, .int 0, .int 0, .int 0, .int 0, .null, .null, .int 0])), (q1, .inl (g.2.2 0, 546, .inl fun _ => 0))] [a, q1] _ _ _ _
  refine n_aload_n hC 0 dX11_init_134 rfl rfl ?_
  refine n_bipush hC dX11_init_135 rfl ?_
  refine n_newa hC 0 dX11_init_137 rfl (by decide) rfl KA_int rfl (N := 32) rfl (by decide) (by decide) (by rw [hR]; exact Nat.le_of_ble_eq_true rfl) (by rw [hR]; exact Nat.le_of_ble_eq_true rfl) (by simp) (fun q17 => ?_)
  refine n_mv2 hC (61, 0, 0) (by simp) (by intro x hx; simp only [false_or, or_assoc] at hx; rcases hx with rfl | rfl | rfl | rfl | rfl | rfl | rfl | rfl | rfl | rfl | rfl | rfl | rfl | rfl | rfl <;> exact zno_ref rfl rfl rfl) (fun ad17 e17 o17 => ⟨zent0 (g := (g.1, ad17, g.2.2)) (t := 61) rfl rfl rfl (by decide), ?_⟩)
  refine n_putF hC hN dX11_init_139 FF_X11_59 rfl (Nat.le_of_ble_eq_true rfl) (by simp) ?_
  change zNw X _ _ _ _ [(a, .inr (11, [.ref q1, .ref q2, .int 0, .ref q3, .ref q4, .ref q5, .int 0, .ref q6, .ref q7, .ref q8, .ref q9, .ref q10, .ref q11, .ref q12, .ref q13, .ref q14, .int 0, .int 0, .int 0, .ref q15, .ref q16, .ref q17, .int 0, .int 0, .int 0, .int 0, .int 0, .int 0, .null, .null, .int 0])), (q1, .inl (g.2.2 0, 546, .inl fun _ => 0))] [a, q1] _ _ _ _
  refine n_aload_n hC 0 dX11_init_142 rfl rfl ?_
  refine n_bipush hC dX11_init_143 rfl ?_
  refine n_newa hC 0 dX11_init_145 rfl (by decide) rfl KA_int rfl (N := 8) rfl (by decide) (by decide) (by rw [hR]; exact Nat.le_of_ble_eq_true rfl) (by rw [hR]; exact Nat.le_of_ble_eq_true rfl) (by simp) (fun q18 => ?_)
  refine n_mv2 hC (62, 0, 0) (by simp) (by intro x hx; simp only [false_or, or_assoc] at hx; rcases hx with rfl | rfl | rfl | rfl | rfl | rfl | rfl | rfl | rfl | rfl | rfl | rfl | rfl | rfl | rfl | rfl <;> exact zno_ref rfl rfl rfl) (fun ad18 e18 o18 => ⟨zent0 (g := (g.1, ad18, g.2.2)) (t := 62) rfl rfl rfl (by decide), ?_⟩)
  refine n_putF hC hN dX11_init_147 FF_X11_62 rfl (Nat.le_of_ble_eq_true rfl) (by simp) ?_
  change zNw X _ _ _ _ [(a, .inr (11, [.ref q1, .ref q2, .int 0, .ref q3, .ref q4, .ref q5, .int 0, .ref q6, .ref q7, .ref q8, .ref q9, .ref q10, .ref q11, .ref q12, .ref q13, .ref q14, .int 0, .int 0, .int 0, .ref q15, .ref q16, .ref q17, .int 0, .int 0, .int 0, .int 0, .int 0, .int 0, .ref q18, .null, .int 0])), (q1, .inl (g.2.2 0, 546, .inl fun _ => 0))] [a, q1] _ _ _ _
  refine n_aload_n hC 0 dX11_init_150 rfl rfl ?_
  refine n_bipush hC dX11_init_151 rfl ?_
  refine n_newa hC 0 dX11_init_153 rfl (by decide) rfl KA_int rfl (N := 32) rfl (by decide) (by decide) (by rw [hR]; exact Nat.le_of_ble_eq_true rfl) (by rw [hR]; exact Nat.le_of_ble_eq_true rfl) (by simp) (fun q19 => ?_)
  refine n_mv2 hC (63, 0, 0) (by simp) (by intro x hx; simp only [false_or, or_assoc] at hx; rcases hx with rfl | rfl | rfl | rfl | rfl | rfl | rfl | rfl | rfl | rfl | rfl | rfl | rfl | rfl | rfl | rfl | rfl <;> exact zno_ref rfl rfl rfl) (fun ad19 e19 o19 => ⟨zent0 (g := (g.1, ad19, g.2.2)) (t := 63) rfl rfl rfl (by decide), ?_⟩)
  refine n_putF hC hN dX11_init_155 FF_X11_65 rfl (Nat.le_of_ble_eq_true rfl) (by simp) ?_
  change zNw X _ _ _ _ [(a, .inr (11, [.ref q1, .ref q2, .int 0, .ref q3, .ref q4, .ref q5, .int 0, .ref q6, .ref q7, .ref q8, .ref q9, .ref q10, .ref q11, .ref q12, .ref q13, .ref q14, .int 0, .int 0, .int 0, .ref q15, .ref q16, .ref q17, .int 0, .int 0, .int 0, .int 0, .int 0, .int 0, .ref q18, .ref q19, .int 0])), (q1, .inl (g.2.2 0, 546, .inl fun _ => 0))] [a, q1] _ _ _ _
  refine n_aload_n hC 0 dX11_init_158 rfl rfl ?_
  refine n_getf hC dX11_init_159 FL_X11_7 rfl rfl ?_
  refine n_iconst hC dX11_init_162 ?_
  refine n_iconst hC dX11_init_163 ?_
  refine n_iast hC (j0 := 1) dX11_init_164 rfl (by decide) (by decide) (by decide) (by simp) ?_
  change zNw X _ _ _ _ [(a, .inr (11, [.ref q1, .ref q2, .int 0, .ref q3, .ref q4, .ref q5, .int 0, .ref q6, .ref q7, .ref q8, .ref q9, .ref q10, .ref q11, .ref q12, .ref q13, .ref q14, .int 0, .int 0, .int 0, .ref q15, .ref q16, .ref q17, .int 0, .int 0, .int 0, .int 0, .int 0, .int 0, .ref q18, .ref q19, .int 0])), (q1, .inl (g.2.2 0, 546, .inl (upd (fun _ => 0) 3 (Int32.ofInt 2))))] [a, q1] _ _ _ _
  refine n_mv2 (ow := [_]) hC (45, 0, 0) (by simp) (by intro x hx; simp only [false_or, or_assoc] at hx; rcases hx with rfl | rfl | rfl | rfl | rfl | rfl | rfl | rfl | rfl | rfl | rfl | rfl | rfl | rfl | rfl | rfl | rfl | rfl <;> exact zno_ref rfl rfl rfl) (fun ada ea oa => ⟨?_, ?_⟩)
  · rw [zent_arr (t := 45) (q := (0, 546)) rfl rfl rfl]
    congr 4
    funext j
    unfold upd zM0
    by_cases e : j = 3
    · rw [if_pos e, if_neg (by omega), if_neg (by omega), if_pos (by omega)]
    · rw [if_neg e, if_neg (by omega), if_neg (by omega), if_neg (by omega)]
      rfl
  · refine n_mv2 (ow := []) hC (11, 0, 0) (by simp) (by intro x hx; simp only [false_or, or_assoc] at hx; rcases hx with rfl | rfl | rfl | rfl | rfl | rfl | rfl | rfl | rfl | rfl | rfl | rfl | rfl | rfl | rfl | rfl | rfl | rfl | rfl <;> exact zno_ref rfl rfl rfl) (fun adr er or1 => ⟨?_, ?_⟩)
    · have f2 : adr (46, 0, 0) = q2 := by rw [or1 _ (by simp), oa _ (by simp), o19 _ (by simp), o18 _ (by simp), o17 _ (by simp), o16 _ (by simp), o15 _ (by simp), o14 _ (by simp), o13 _ (by simp), o12 _ (by simp), o11 _ (by simp), o10 _ (by simp), o9 _ (by simp), o8 _ (by simp), o7 _ (by simp), o6 _ (by simp), o5 _ (by simp), o4 _ (by simp), o3 _ (by simp), e2]
      have f3 : adr (47, 0, 0) = q3 := by rw [or1 _ (by simp), oa _ (by simp), o19 _ (by simp), o18 _ (by simp), o17 _ (by simp), o16 _ (by simp), o15 _ (by simp), o14 _ (by simp), o13 _ (by simp), o12 _ (by simp), o11 _ (by simp), o10 _ (by simp), o9 _ (by simp), o8 _ (by simp), o7 _ (by simp), o6 _ (by simp), o5 _ (by simp), o4 _ (by simp), e3]
      have f4 : adr (48, 0, 0) = q4 := by rw [or1 _ (by simp), oa _ (by simp), o19 _ (by simp), o18 _ (by simp), o17 _ (by simp), o16 _ (by simp), o15 _ (by simp), o14 _ (by simp), o13 _ (by simp), o12 _ (by simp), o11 _ (by simp), o10 _ (by simp), o9 _ (by simp), o8 _ (by simp), o7 _ (by simp), o6 _ (by simp), o5 _ (by simp), e4]
      have f5 : adr (49, 0, 0) = q5 := by rw [or1 _ (by simp), oa _ (by simp), o19 _ (by simp), o18 _ (by simp), o17 _ (by simp), o16 _ (by simp), o15 _ (by simp), o14 _ (by simp), o13 _ (by simp), o12 _ (by simp), o11 _ (by simp), o10 _ (by simp), o9 _ (by simp), o8 _ (by simp), o7 _ (by simp), o6 _ (by simp), e5]
      have f6 : adr (50, 0, 0) = q6 := by rw [or1 _ (by simp), oa _ (by simp), o19 _ (by simp), o18 _ (by simp), o17 _ (by simp), o16 _ (by simp), o15 _ (by simp), o14 _ (by simp), o13 _ (by simp), o12 _ (by simp), o11 _ (by simp), o10 _ (by simp), o9 _ (by simp), o8 _ (by simp), o7 _ (by simp), e6]
      have f7 : adr (51, 0, 0) = q7 := by rw [or1 _ (by simp), oa _ (by simp), o19 _ (by simp), o18 _ (by simp), o17 _ (by simp), o16 _ (by simp), o15 _ (by simp), o14 _ (by simp), o13 _ (by simp), o12 _ (by simp), o11 _ (by simp), o10 _ (by simp), o9 _ (by simp), o8 _ (by simp), e7]
      have f8 : adr (52, 0, 0) = q8 := by rw [or1 _ (by simp), oa _ (by simp), o19 _ (by simp), o18 _ (by simp), o17 _ (by simp), o16 _ (by simp), o15 _ (by simp), o14 _ (by simp), o13 _ (by simp), o12 _ (by simp), o11 _ (by simp), o10 _ (by simp), o9 _ (by simp), e8]
      have f9 : adr (53, 0, 0) = q9 := by rw [or1 _ (by simp), oa _ (by simp), o19 _ (by simp), o18 _ (by simp), o17 _ (by simp), o16 _ (by simp), o15 _ (by simp), o14 _ (by simp), o13 _ (by simp), o12 _ (by simp), o11 _ (by simp), o10 _ (by simp), e9]
      have f10 : adr (54, 0, 0) = q10 := by rw [or1 _ (by simp), oa _ (by simp), o19 _ (by simp), o18 _ (by simp), o17 _ (by simp), o16 _ (by simp), o15 _ (by simp), o14 _ (by simp), o13 _ (by simp), o12 _ (by simp), o11 _ (by simp), e10]
      have f11 : adr (55, 0, 0) = q11 := by rw [or1 _ (by simp), oa _ (by simp), o19 _ (by simp), o18 _ (by simp), o17 _ (by simp), o16 _ (by simp), o15 _ (by simp), o14 _ (by simp), o13 _ (by simp), o12 _ (by simp), e11]
      have f12 : adr (56, 0, 0) = q12 := by rw [or1 _ (by simp), oa _ (by simp), o19 _ (by simp), o18 _ (by simp), o17 _ (by simp), o16 _ (by simp), o15 _ (by simp), o14 _ (by simp), o13 _ (by simp), e12]
      have f13 : adr (57, 0, 0) = q13 := by rw [or1 _ (by simp), oa _ (by simp), o19 _ (by simp), o18 _ (by simp), o17 _ (by simp), o16 _ (by simp), o15 _ (by simp), o14 _ (by simp), e13]
      have f14 : adr (58, 0, 0) = q14 := by rw [or1 _ (by simp), oa _ (by simp), o19 _ (by simp), o18 _ (by simp), o17 _ (by simp), o16 _ (by simp), o15 _ (by simp), e14]
      have f15 : adr (59, 0, 0) = q15 := by rw [or1 _ (by simp), oa _ (by simp), o19 _ (by simp), o18 _ (by simp), o17 _ (by simp), o16 _ (by simp), e15]
      have f16 : adr (60, 0, 0) = q16 := by rw [or1 _ (by simp), oa _ (by simp), o19 _ (by simp), o18 _ (by simp), o17 _ (by simp), e16]
      have f17 : adr (61, 0, 0) = q17 := by rw [or1 _ (by simp), oa _ (by simp), o19 _ (by simp), o18 _ (by simp), e17]
      have f18 : adr (62, 0, 0) = q18 := by rw [or1 _ (by simp), oa _ (by simp), o19 _ (by simp), e18]
      have f19 : adr (63, 0, 0) = q19 := by rw [or1 _ (by simp), oa _ (by simp), e19]
      have f1 : adr (45, 0, 0) = q1 := by rw [or1 _ (by simp), ea]
      rw [zent_obj (ci := 11) rfl, ← f2, ← f3, ← f4, ← f5, ← f6, ← f7, ← f8, ← f9, ← f10, ← f11, ← f12, ← f13, ← f14, ← f15, ← f16, ← f17, ← f18, ← f19, ← f1]
      rfl
    · exact n_ret hC dX11_init_165 hE rfl er trivial (fun o ho => by simp only [false_or] at ho ⊢; rcases ho with rfl | rfl | rfl | rfl | rfl | rfl | rfl | rfl | rfl | rfl | rfl | rfl | rfl | rfl | rfl | rfl | rfl | rfl | rfl | rfl <;> simp) (Or.inl rfl)
