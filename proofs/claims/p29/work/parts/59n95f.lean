set_option maxRecDepth 20000 in
theorem cn_X1 (l : Launch) (g : zG) {s i : Int} : zMetN l g Y_X1_init 1 3 36 [] (3, s, i) (fun x => x = (3, s, i) ∨ x = (12, s, i) ∨ x = (13, s, i) ∨ x = (14, s, i)) 1 zf0_X1 (fun _ => True) := by
  refine zN_intro (fun _ => 0) (by decide +kernel) rfl rfl (fun _ => Nat.le_of_ble_eq_true rfl) fun X a hC hN hR hE => ?_
  change zNw X _ 0 [(0, .ref a)] [] _ _ _ _ _ _
  refine n_aload_n hC 0 dX1_init_0 rfl rfl ?_
  refine n_objInit hC (by decide) dX1_init_1 KO_X1 KOi KOc ?_
  refine n_aload_n hC 0 dX1_init_4 rfl rfl ?_
  refine n_iconst hC dX1_init_5 ?_
  refine n_newa hC 0 dX1_init_6 rfl (by decide) rfl KA_int rfl (N := 3) rfl (by decide) (by decide) (by rw [hR]; exact Nat.le_of_ble_eq_true rfl) (by rw [hR]; exact Nat.le_of_ble_eq_true rfl) (by simp) (fun q1 => ?_)
  refine n_mv2 hC (12, s, i) (by simp) (fun _ z => z.elim) (fun ad1 e1 o1 => ⟨zent0 (g := (g.1, ad1, g.2.2)) (t := 12) rfl rfl rfl (by decide), ?_⟩)
  refine n_putF hC hN dX1_init_8 FF_X1_9 rfl (Nat.le_of_ble_eq_true rfl) (by simp) ?_
  change zNw X _ _ _ _ [(a, .inr (1, [.int 0, .int 0, .int 0, .ref q1, .null, .int 0, .int 0, .null, .int 0, .int 0, .int 0, .int 0]))] [a] _ _ _ _
  refine n_aload_n hC 0 dX1_init_11 rfl rfl ?_
  refine n_iconst hC dX1_init_12 ?_
  refine n_newa hC 0 dX1_init_13 rfl (by decide) rfl KA_int rfl (N := 3) rfl (by decide) (by decide) (by rw [hR]; exact Nat.le_of_ble_eq_true rfl) (by rw [hR]; exact Nat.le_of_ble_eq_true rfl) (by simp) (fun q2 => ?_)
  refine n_mv2 hC (13, s, i) (by simp) (by intro x hx; simp only [false_or, or_assoc] at hx; rcases hx with rfl <;> exact zno_ref rfl rfl rfl) (fun ad2 e2 o2 => ⟨zent0 (g := (g.1, ad2, g.2.2)) (t := 13) rfl rfl rfl (by decide), ?_⟩)
  refine n_putF hC hN dX1_init_15 FF_X1_15 rfl (Nat.le_of_ble_eq_true rfl) (by simp) ?_
  change zNw X _ _ _ _ [(a, .inr (1, [.int 0, .int 0, .int 0, .ref q1, .ref q2, .int 0, .int 0, .null, .int 0, .int 0, .int 0, .int 0]))] [a] _ _ _ _
  refine n_aload_n hC 0 dX1_init_18 rfl rfl ?_
  refine n_bipush hC dX1_init_19 rfl ?_
  refine n_newa hC 0 dX1_init_21 rfl (by decide) rfl KA_int rfl (N := 30) rfl (by decide) (by decide) (by rw [hR]; exact Nat.le_of_ble_eq_true rfl) (by rw [hR]; exact Nat.le_of_ble_eq_true rfl) (by simp) (fun q3 => ?_)
  refine n_mv2 hC (14, s, i) (by simp) (by intro x hx; simp only [false_or, or_assoc] at hx; rcases hx with rfl | rfl <;> exact zno_ref rfl rfl rfl) (fun ad3 e3 o3 => ⟨zent0 (g := (g.1, ad3, g.2.2)) (t := 14) rfl rfl rfl (by decide), ?_⟩)
  refine n_putF hC hN dX1_init_23 FF_X1_18 rfl (Nat.le_of_ble_eq_true rfl) (by simp) ?_
  change zNw X _ _ _ _ [(a, .inr (1, [.int 0, .int 0, .int 0, .ref q1, .ref q2, .int 0, .int 0, .ref q3, .int 0, .int 0, .int 0, .int 0]))] [a] _ _ _ _
  refine n_mv2 (ow := []) hC (3, s, i) (by simp) (by intro x hx; simp only [false_or, or_assoc] at hx; rcases hx with rfl | rfl | rfl <;> exact zno_ref rfl rfl rfl) (fun adr er or1 => ⟨?_, ?_⟩)
  · have f1 : adr (12, s, i) = q1 := by rw [or1 _ (by simp), o3 _ (by simp), o2 _ (by simp), e1]
    have f2 : adr (13, s, i) = q2 := by rw [or1 _ (by simp), o3 _ (by simp), e2]
    have f3 : adr (14, s, i) = q3 := by rw [or1 _ (by simp), e3]
    rw [zent_obj (ci := 1) rfl, ← f1, ← f2, ← f3]
    rfl
  · exact n_ret hC dX1_init_26 hE rfl er trivial (fun o ho => by simp only [false_or] at ho ⊢; rcases ho with rfl | rfl | rfl | rfl <;> simp) (Or.inl rfl)
set_option maxRecDepth 20000 in
theorem cn_X2 (l : Launch) (g : zG) : zMetN l g Y_X2_init 1 1 80 [] (6, 0, 0) (fun x => x = (6, 0, 0) ∨ x = (22, 0, 0)) 2 zf0_X2 (fun _ => True) := by
  refine zN_intro (fun _ => 0) (by decide +kernel) rfl rfl (fun _ => Nat.le_of_ble_eq_true rfl) fun X a hC hN hR hE => ?_
  change zNw X _ 0 [(0, .ref a)] [] _ _ _ _ _ _
  refine n_aload_n hC 0 dX2_init_0 rfl rfl ?_
  refine n_objInit hC (by decide) dX2_init_1 KO_X2 KOi KOc ?_
  refine n_aload_n hC 0 dX2_init_4 rfl rfl ?_
  refine n_bipush hC dX2_init_5 rfl ?_
  refine n_newa hC 2 dX2_init_7 rfl (by decide) rfl KA_char rfl (N := 80) rfl (by decide) (by decide) (by rw [hR]; exact Nat.le_of_ble_eq_true rfl) (by rw [hR]; exact Nat.le_of_ble_eq_true rfl) (by simp) (fun q1 => ?_)
  refine n_mv2 hC (22, 0, 0) (by simp) (fun _ z => z.elim) (fun ad1 e1 o1 => ⟨zent0 (g := (g.1, ad1, g.2.2)) (t := 22) rfl rfl rfl (by decide), ?_⟩)
  refine n_putF hC hN dX2_init_9 FF_X2_9 rfl (Nat.le_of_ble_eq_true rfl) (by simp) ?_
  change zNw X _ _ _ _ [(a, .inr (2, [.int 0, .ref q1]))] [a] _ _ _ _
  refine n_mv2 (ow := []) hC (6, 0, 0) (by simp) (by intro x hx; simp only [false_or, or_assoc] at hx; rcases hx with rfl <;> exact zno_ref rfl rfl rfl) (fun adr er or1 => ⟨?_, ?_⟩)
  · have f1 : adr (22, 0, 0) = q1 := by rw [or1 _ (by simp), e1]
    rw [zent_obj (ci := 2) rfl, ← f1]
    rfl
  · exact n_ret hC dX2_init_12 hE rfl er trivial (fun o ho => by simp only [false_or] at ho ⊢; rcases ho with rfl | rfl <;> simp) (Or.inl rfl)
set_option maxRecDepth 20000 in
theorem cn_X9 (l : Launch) (g : zG) : zMetN l g Y_X9_init 1 6 18 [] (9, 0, 0) (fun x => x = (9, 0, 0) ∨ x = (33, 0, 0) ∨ x = (34, 0, 0) ∨ x = (35, 0, 0) ∨ x = (36, 0, 0) ∨ x = (37, 0, 0) ∨ x = (38, 0, 0)) 9 zf0_X9 (fun _ => True) := by
  refine zN_intro (fun _ => 0) (by decide +kernel) rfl rfl (fun _ => Nat.le_of_ble_eq_true rfl) fun X a hC hN hR hE => ?_
  change zNw X _ 0 [(0, .ref a)] [] _ _ _ _ _ _
  refine n_aload_n hC 0 dX9_init_0 rfl rfl ?_
  refine n_objInit hC (by decide) dX9_init_1 KO_X9 KOi KOc ?_
  refine n_aload_n hC 0 dX9_init_4 rfl rfl ?_
  refine n_iconst hC dX9_init_5 ?_
  refine n_newa hC 0 dX9_init_6 rfl (by decide) rfl KA_int rfl (N := 3) rfl (by decide) (by decide) (by rw [hR]; exact Nat.le_of_ble_eq_true rfl) (by rw [hR]; exact Nat.le_of_ble_eq_true rfl) (by simp) (fun q1 => ?_)
  refine n_mv2 hC (33, 0, 0) (by simp) (fun _ z => z.elim) (fun ad1 e1 o1 => ⟨zent0 (g := (g.1, ad1, g.2.2)) (t := 33) rfl rfl rfl (by decide), ?_⟩)
  refine n_putF hC hN dX9_init_8 FF_X9_9 rfl (Nat.le_of_ble_eq_true rfl) (by simp) ?_
  change zNw X _ _ _ _ [(a, .inr (9, [.int 0, .int 0, .ref q1, .int 0, .int 0, .null, .null, .null, .null, .null]))] [a] _ _ _ _
  refine n_aload_n hC 0 dX9_init_11 rfl rfl ?_
  refine n_iconst hC dX9_init_12 ?_
  refine n_newa hC 0 dX9_init_13 rfl (by decide) rfl KA_int rfl (N := 3) rfl (by decide) (by decide) (by rw [hR]; exact Nat.le_of_ble_eq_true rfl) (by rw [hR]; exact Nat.le_of_ble_eq_true rfl) (by simp) (fun q2 => ?_)
  refine n_mv2 hC (34, 0, 0) (by simp) (by intro x hx; simp only [false_or, or_assoc] at hx; rcases hx with rfl <;> exact zno_ref rfl rfl rfl) (fun ad2 e2 o2 => ⟨zent0 (g := (g.1, ad2, g.2.2)) (t := 34) rfl rfl rfl (by decide), ?_⟩)
  refine n_putF hC hN dX9_init_15 FF_X9_15 rfl (Nat.le_of_ble_eq_true rfl) (by simp) ?_
  change zNw X _ _ _ _ [(a, .inr (9, [.int 0, .int 0, .ref q1, .int 0, .int 0, .ref q2, .null, .null, .null, .null]))] [a] _ _ _ _
  refine n_aload_n hC 0 dX9_init_18 rfl rfl ?_
  refine n_iconst hC dX9_init_19 ?_
  refine n_newa hC 0 dX9_init_20 rfl (by decide) rfl KA_int rfl (N := 3) rfl (by decide) (by decide) (by rw [hR]; exact Nat.le_of_ble_eq_true rfl) (by rw [hR]; exact Nat.le_of_ble_eq_true rfl) (by simp) (fun q3 => ?_)
  refine n_mv2 hC (35, 0, 0) (by simp) (by intro x hx; simp only [false_or, or_assoc] at hx; rcases hx with rfl | rfl <;> exact zno_ref rfl rfl rfl) (fun ad3 e3 o3 => ⟨zent0 (g := (g.1, ad3, g.2.2)) (t := 35) rfl rfl rfl (by decide), ?_⟩)
  refine n_putF hC hN dX9_init_22 FF_X9_18 rfl (Nat.le_of_ble_eq_true rfl) (by simp) ?_
  change zNw X _ _ _ _ [(a, .inr (9, [.int 0, .int 0, .ref q1, .int 0, .int 0, .ref q2, .ref q3, .null, .null, .null]))] [a] _ _ _ _
  refine n_aload_n hC 0 dX9_init_25 rfl rfl ?_
  refine n_iconst hC dX9_init_26 ?_
  refine n_newa hC 0 dX9_init_27 rfl (by decide) rfl KA_int rfl (N := 3) rfl (by decide) (by decide) (by rw [hR]; exact Nat.le_of_ble_eq_true rfl) (by rw [hR]; exact Nat.le_of_ble_eq_true rfl) (by simp) (fun q4 => ?_)
  refine n_mv2 hC (36, 0, 0) (by simp) (by intro x hx; simp only [false_or, or_assoc] at hx; rcases hx with rfl | rfl | rfl <;> exact zno_ref rfl rfl rfl) (fun ad4 e4 o4 => ⟨zent0 (g := (g.1, ad4, g.2.2)) (t := 36) rfl rfl rfl (by decide), ?_⟩)
  refine n_putF hC hN dX9_init_29 FF_X9_21 rfl (Nat.le_of_ble_eq_true rfl) (by simp) ?_
  change zNw X _ _ _ _ [(a, .inr (9, [.int 0, .int 0, .ref q1, .int 0, .int 0, .ref q2, .ref q3, .ref q4, .null, .null]))] [a] _ _ _ _
  refine n_aload_n hC 0 dX9_init_32 rfl rfl ?_
  refine n_iconst hC dX9_init_33 ?_
  refine n_newa hC 0 dX9_init_34 rfl (by decide) rfl KA_int rfl (N := 3) rfl (by decide) (by decide) (by rw [hR]; exact Nat.le_of_ble_eq_true rfl) (by rw [hR]; exact Nat.le_of_ble_eq_true rfl) (by simp) (fun q5 => ?_)
  refine n_mv2 hC (37, 0, 0) (by simp) (by intro x hx; simp only [false_or, or_assoc] at hx; rcases hx with rfl | rfl | rfl | rfl <;> exact zno_ref rfl rfl rfl) (fun ad5 e5 o5 => ⟨zent0 (g := (g.1, ad5, g.2.2)) (t := 37) rfl rfl rfl (by decide), ?_⟩)
  refine n_putF hC hN dX9_init_36 FF_X9_24 rfl (Nat.le_of_ble_eq_true rfl) (by simp) ?_
  change zNw X _ _ _ _ [(a, .inr (9, [.int 0, .int 0, .ref q1, .int 0, .int 0, .ref q2, .ref q3, .ref q4, .ref q5, .null]))] [a] _ _ _ _
  refine n_aload_n hC 0 dX9_init_39 rfl rfl ?_
  refine n_iconst hC dX9_init_40 ?_
  refine n_newa hC 0 dX9_init_41 rfl (by decide) rfl KA_int rfl (N := 3) rfl (by decide) (by decide) (by rw [hR]; exact Nat.le_of_ble_eq_true rfl) (by rw [hR]; exact Nat.le_of_ble_eq_true rfl) (by simp) (fun q6 => ?_)
  refine n_mv2 hC (38, 0, 0) (by simp) (by intro x hx; simp only [false_or, or_assoc] at hx; rcases hx with rfl | rfl | rfl | rfl | rfl <;> exact zno_ref rfl rfl rfl) (fun ad6 e6 o6 => ⟨zent0 (g := (g.1, ad6, g.2.2)) (t := 38) rfl rfl rfl (by decide), ?_⟩)
  refine n_putF hC hN dX9_init_43 FF_X9_27 rfl (Nat.le_of_ble_eq_true rfl) (by simp) ?_
  change zNw X _ _ _ _ [(a, .inr (9, [.int 0, .int 0, .ref q1, .int 0, .int 0, .ref q2, .ref q3, .ref q4, .ref q5, .ref q6]))] [a] _ _ _ _
  refine n_mv2 (ow := []) hC (9, 0, 0) (by simp) (by intro x hx; simp only [false_or, or_assoc] at hx; rcases hx with rfl | rfl | rfl | rfl | rfl | rfl <;> exact zno_ref rfl rfl rfl) (fun adr er or1 => ⟨?_, ?_⟩)
  · have f1 : adr (33, 0, 0) = q1 := by rw [or1 _ (by simp), o6 _ (by simp), o5 _ (by simp), o4 _ (by simp), o3 _ (by simp), o2 _ (by simp), e1]
    have f2 : adr (34, 0, 0) = q2 := by rw [or1 _ (by simp), o6 _ (by simp), o5 _ (by simp), o4 _ (by simp), o3 _ (by simp), e2]
    have f3 : adr (35, 0, 0) = q3 := by rw [or1 _ (by simp), o6 _ (by simp), o5 _ (by simp), o4 _ (by simp), e3]
    have f4 : adr (36, 0, 0) = q4 := by rw [or1 _ (by simp), o6 _ (by simp), o5 _ (by simp), e4]
    have f5 : adr (37, 0, 0) = q5 := by rw [or1 _ (by simp), o6 _ (by simp), e5]
    have f6 : adr (38, 0, 0) = q6 := by rw [or1 _ (by simp), e6]
    rw [zent_obj (ci := 9) rfl, ← f1, ← f2, ← f3, ← f4, ← f5, ← f6]
    rfl
  · exact n_ret hC dX9_init_46 hE rfl er trivial (fun o ho => by simp only [false_or] at ho ⊢; rcases ho with rfl | rfl | rfl | rfl | rfl | rfl | rfl <;> simp) (Or.inl rfl)
set_option maxRecDepth 20000 in
theorem cn_X5 (l : Launch) (g : zG) : zMetN l g Y_X5_init 1 6 192 [] (10, 0, 0) (fun x => x = (10, 0, 0) ∨ x = (39, 0, 0) ∨ x = (40, 0, 0) ∨ x = (41, 0, 0) ∨ x = (42, 0, 0) ∨ x = (43, 0, 0) ∨ x = (44, 0, 0)) 5 zf0_X5 (fun _ => True) := by
  refine zN_intro (fun _ => 0) (by decide +kernel) rfl rfl (fun _ => Nat.le_of_ble_eq_true rfl) fun X a hC hN hR hE => ?_
  change zNw X _ 0 [(0, .ref a)] [] _ _ _ _ _ _
  refine n_aload_n hC 0 dX5_init_0 rfl rfl ?_
  refine n_objInit hC (by decide) dX5_init_1 KO_X5 KOi KOc ?_
  refine n_aload_n hC 0 dX5_init_4 rfl rfl ?_
  refine n_bipush hC dX5_init_5 rfl ?_
  refine n_newa hC 0 dX5_init_7 rfl (by decide) rfl KA_int rfl (N := 32) rfl (by decide) (by decide) (by rw [hR]; exact Nat.le_of_ble_eq_true rfl) (by rw [hR]; exact Nat.le_of_ble_eq_true rfl) (by simp) (fun q1 => ?_)
  refine n_mv2 hC (39, 0, 0) (by simp) (fun _ z => z.elim) (fun ad1 e1 o1 => ⟨zent0 (g := (g.1, ad1, g.2.2)) (t := 39) rfl rfl rfl (by decide), ?_⟩)
  refine n_putF hC hN dX5_init_9 FF_X5_9 rfl (Nat.le_of_ble_eq_true rfl) (by simp) ?_
  change zNw X _ _ _ _ [(a, .inr (5, [.ref q1, .null, .int 0, .null, .null, .null, .null, .int 0, .int 0]))] [a] _ _ _ _
  refine n_aload_n hC 0 dX5_init_12 rfl rfl ?_
  refine n_bipush hC dX5_init_13 rfl ?_
  refine n_newa hC 0 dX5_init_15 rfl (by decide) rfl KA_int rfl (N := 32) rfl (by decide) (by decide) (by rw [hR]; exact Nat.le_of_ble_eq_true rfl) (by rw [hR]; exact Nat.le_of_ble_eq_true rfl) (by simp) (fun q2 => ?_)
  refine n_mv2 hC (40, 0, 0) (by simp) (by intro x hx; simp only [false_or, or_assoc] at hx; rcases hx with rfl <;> exact zno_ref rfl rfl rfl) (fun ad2 e2 o2 => ⟨zent0 (g := (g.1, ad2, g.2.2)) (t := 40) rfl rfl rfl (by decide), ?_⟩)
  refine n_putF hC hN dX5_init_17 FF_X5_15 rfl (Nat.le_of_ble_eq_true rfl) (by simp) ?_
  change zNw X _ _ _ _ [(a, .inr (5, [.ref q1, .ref q2, .int 0, .null, .null, .null, .null, .int 0, .int 0]))] [a] _ _ _ _
  refine n_aload_n hC 0 dX5_init_20 rfl rfl ?_
  refine n_bipush hC dX5_init_21 rfl ?_
  refine n_newa hC 0 dX5_init_23 rfl (by decide) rfl KA_int rfl (N := 32) rfl (by decide) (by decide) (by rw [hR]; exact Nat.le_of_ble_eq_true rfl) (by rw [hR]; exact Nat.le_of_ble_eq_true rfl) (by simp) (fun q3 => ?_)
  refine n_mv2 hC (41, 0, 0) (by simp) (by intro x hx; simp only [false_or, or_assoc] at hx; rcases hx with rfl | rfl <;> exact zno_ref rfl rfl rfl) (fun ad3 e3 o3 => ⟨zent0 (g := (g.1, ad3, g.2.2)) (t := 41) rfl rfl rfl (by decide), ?_⟩)
  refine n_putF hC hN dX5_init_25 FF_X5_18 rfl (Nat.le_of_ble_eq_true rfl) (by simp) ?_
  change zNw X _ _ _ _ [(a, .inr (5, [.ref q1, .ref q2, .int 0, .ref q3, .null, .null, .null, .int 0, .int 0]))] [a] _ _ _ _
  refine n_aload_n hC 0 dX5_init_28 rfl rfl ?_
  refine n_bipush hC dX5_init_29 rfl ?_
  refine n_newa hC 0 dX5_init_31 rfl (by decide) rfl KA_int rfl (N := 32) rfl (by decide) (by decide) (by rw [hR]; exact Nat.le_of_ble_eq_true rfl) (by rw [hR]; exact Nat.le_of_ble_eq_true rfl) (by simp) (fun q4 => ?_)
  refine n_mv2 hC (42, 0, 0) (by simp) (by intro x hx; simp only [false_or, or_assoc] at hx; rcases hx with rfl | rfl | rfl <;> exact zno_ref rfl rfl rfl) (fun ad4 e4 o4 => ⟨zent0 (g := (g.1, ad4, g.2.2)) (t := 42) rfl rfl rfl (by decide), ?_⟩)
  refine n_putF hC hN dX5_init_33 FF_X5_21 rfl (Nat.le_of_ble_eq_true rfl) (by simp) ?_
  change zNw X _ _ _ _ [(a, .inr (5, [.ref q1, .ref q2, .int 0, .ref q3, .ref q4, .null, .null, .int 0, .int 0]))] [a] _ _ _ _
  refine n_aload_n hC 0 dX5_init_36 rfl rfl ?_
  refine n_bipush hC dX5_init_37 rfl ?_
  refine n_newa hC 0 dX5_init_39 rfl (by decide) rfl KA_int rfl (N := 32) rfl (by decide) (by decide) (by rw [hR]; exact Nat.le_of_ble_eq_true rfl) (by rw [hR]; exact Nat.le_of_ble_eq_true rfl) (by simp) (fun q5 => ?_)
  refine n_mv2 hC (43, 0, 0) (by simp) (by intro x hx; simp only [false_or, or_assoc] at hx; rcases hx with rfl | rfl | rfl | rfl <;> exact zno_ref rfl rfl rfl) (fun ad5 e5 o5 => ⟨zent0 (g := (g.1, ad5, g.2.2)) (t := 43) rfl rfl rfl (by decide), ?_⟩)
  refine n_putF hC hN dX5_init_41 FF_X5_24 rfl (Nat.le_of_ble_eq_true rfl) (by simp) ?_
  change zNw X _ _ _ _ [(a, .inr (5, [.ref q1, .ref q2, .int 0, .ref q3, .ref q4, .ref q5, .null, .int 0, .int 0]))] [a] _ _ _ _
  refine n_aload_n hC 0 dX5_init_44 rfl rfl ?_
  refine n_bipush hC dX5_init_45 rfl ?_
  refine n_newa hC 0 dX5_init_47 rfl (by decide) rfl KA_int rfl (N := 32) rfl (by decide) (by decide) (by rw [hR]; exact Nat.le_of_ble_eq_true rfl) (by rw [hR]; exact Nat.le_of_ble_eq_true rfl) (by simp) (fun q6 => ?_)
  refine n_mv2 hC (44, 0, 0) (by simp) (by intro x hx; simp only [false_or, or_assoc] at hx; rcases hx with rfl | rfl | rfl | rfl | rfl <;> exact zno_ref rfl rfl rfl) (fun ad6 e6 o6 => ⟨zent0 (g := (g.1, ad6, g.2.2)) (t := 44) rfl rfl rfl (by decide), ?_⟩)
  refine n_putF hC hN dX5_init_49 FF_X5_27 rfl (Nat.le_of_ble_eq_true rfl) (by simp) ?_
  change zNw X _ _ _ _ [(a, .inr (5, [.ref q1, .ref q2, .int 0, .ref q3, .ref q4, .ref q5, .ref q6, .int 0, .int 0]))] [a] _ _ _ _
  refine n_mv2 (ow := []) hC (10, 0, 0) (by simp) (by intro x hx; simp only [false_or, or_assoc] at hx; rcases hx with rfl | rfl | rfl | rfl | rfl | rfl <;> exact zno_ref rfl rfl rfl) (fun adr er or1 => ⟨?_, ?_⟩)
  · have f1 : adr (39, 0, 0) = q1 := by rw [or1 _ (by simp), o6 _ (by simp), o5 _ (by simp), o4 _ (by simp), o3 _ (by simp), o2 _ (by simp), e1]
    have f2 : adr (40, 0, 0) = q2 := by rw [or1 _ (by simp), o6 _ (by simp), o5 _ (by simp), o4 _ (by simp), o3 _ (by simp), e2]
    have f3 : adr (41, 0, 0) = q3 := by rw [or1 _ (by simp), o6 _ (by simp), o5 _ (by simp), o4 _ (by simp), e3]
    have f4 : adr (42, 0, 0) = q4 := by rw [or1 _ (by simp), o6 _ (by simp), o5 _ (by simp), e4]
    have f5 : adr (43, 0, 0) = q5 := by rw [or1 _ (by simp), o6 _ (by simp), e5]
    have f6 : adr (44, 0, 0) = q6 := by rw [or1 _ (by simp), e6]
    rw [zent_obj (ci := 5) rfl, ← f1, ← f2, ← f3, ← f4, ← f5, ← f6]
    rfl
  · exact n_ret hC dX5_init_52 hE rfl er trivial (fun o ho => by simp only [false_or] at ho ⊢; rcases ho with rfl | rfl | rfl | rfl | rfl | rfl | rfl <;> simp) (Or.inl rfl)
