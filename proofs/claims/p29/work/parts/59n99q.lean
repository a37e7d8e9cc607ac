def zS1 (x : zO) : Prop := zCl7 0 x
theorem zS1_g {x : zO} (h : zS1 x) : zgrp x = 10 := zCl7_g (by decide) h
theorem zS1_r {x o : zO} (h : zS1 x) (hr : zrefOf x o) : zS1 o := zCl7_r h hr
def zS2 (x : zO) : Prop := zS1 x ∨ zCl0 x
theorem zS2_g {x : zO} (h : zS2 x) : (zgrp x = 1 ∨ (10 ≤ zgrp x ∧ zgrp x ≤ 16)) := by
  rcases h with h | h
  · have h1 := zS1_g h
    omega
  · have h1 := zCl0_g h
    omega
theorem zS2_r {x o : zO} (h : zS2 x) (hr : zrefOf x o) : zS2 o := by
  rcases h with h | h
  · exact Or.inl (zS1_r h hr)
  · exact Or.inr (zCl0_r h hr)
def zS3 (x : zO) : Prop := zS2 x ∨ x = (21, 0, 0)
theorem zS3_g {x : zO} (h : zS3 x) : (zgrp x = 1 ∨ zgrp x = 2 ∨ (10 ≤ zgrp x ∧ zgrp x ≤ 16)) := by
  rcases h with h | h
  · have h1 := zS2_g h
    omega
  · have h1 : zgrp x = 2 := by rw [h]; rfl
    omega
theorem zS3_r {x o : zO} (h : zS3 x) (hr : zrefOf x o) : zS3 o := by
  rcases h with h | h
  · exact Or.inl (zS2_r h hr)
  · rw [h] at hr
    exact absurd hr (zno_ref rfl rfl rfl)
def zS4 (x : zO) : Prop := zS3 x ∨ zCl3 x
theorem zS4_g {x : zO} (h : zS4 x) : (zgrp x = 1 ∨ zgrp x = 2 ∨ zgrp x = 3 ∨ (10 ≤ zgrp x ∧ zgrp x ≤ 16)) := by
  rcases h with h | h
  · have h1 := zS3_g h
    omega
  · have h1 := zCl3_g h
    omega
theorem zS4_r {x o : zO} (h : zS4 x) (hr : zrefOf x o) : zS4 o := by
  rcases h with h | h
  · exact Or.inl (zS3_r h hr)
  · exact Or.inr (zCl3_r h hr)
def zS5 (x : zO) : Prop := zS4 x ∨ zCl6 x
theorem zS5_g {x : zO} (h : zS5 x) : (zgrp x = 1 ∨ zgrp x = 2 ∨ zgrp x = 3 ∨ zgrp x = 6 ∨ (10 ≤ zgrp x ∧ zgrp x ≤ 16)) := by
  rcases h with h | h
  · have h1 := zS4_g h
    omega
  · have h1 := zCl6_g h
    omega
theorem zS5_r {x o : zO} (h : zS5 x) (hr : zrefOf x o) : zS5 o := by
  rcases h with h | h
  · exact Or.inl (zS4_r h hr)
  · exact Or.inr (zCl6_r h hr)
def zS6 (x : zO) : Prop := zS5 x ∨ zCl5 x
theorem zS6_g {x : zO} (h : zS6 x) : (zgrp x = 1 ∨ zgrp x = 2 ∨ zgrp x = 3 ∨ zgrp x = 5 ∨ zgrp x = 6 ∨ (10 ≤ zgrp x ∧ zgrp x ≤ 16)) := by
  rcases h with h | h
  · have h1 := zS5_g h
    omega
  · have h1 := zCl5_g h
    omega
theorem zS6_r {x o : zO} (h : zS6 x) (hr : zrefOf x o) : zS6 o := by
  rcases h with h | h
  · exact Or.inl (zS5_r h hr)
  · exact Or.inr (zCl5_r h hr)
def zCl10 (x : zO) : Prop := x = (0, 0, 0) ∨ x = (20, 0, 0) ∨ zS6 x ∨ ∃ j : Int, 0 ≤ j ∧ j < 2 ∧ zCl7 (7 + j) x
set_option maxRecDepth 20000 in
theorem cn_X10 (l : Launch) (g : zG) : zMetN l g Y_X10_init 5 761 16708 [] (0, 0, 0) zCl10 10 zf0_X10 (fun _ => True) := by
  refine zN_intro (fun _ => 0) (by decide +kernel) rfl rfl (fun _ => Nat.le_of_ble_eq_true rfl) fun X a hC hN hR hE => ?_
  change zNw X _ 0 [(0, .ref a)] [] _ _ _ _ _ _
  refine n_aload_n hC 0 dX10_init_0 rfl rfl ?_
  refine n_objInit hC (by decide) dX10_init_1 KO_X10 KOi KOc ?_
  refine n_aload_n hC 0 dX10_init_4 rfl rfl ?_
  refine n_new hC dX10_init_5 NK_X10_9 (by rw [hR]; exact Nat.le_of_ble_eq_true rfl) (by rw [hR]; exact Nat.le_of_ble_eq_true rfl) (by simp) (fun q0 hq0 => ?_)
  refine n_dup hC dX10_init_8 ?_
  refine n_init (Cl := zCl7 0) hC dX10_init_9 LI_X10_11 (cn_X7 l g (s := 0)) (by decide) hq0 (by simp) rfl rfl (Nat.le_of_ble_eq_true rfl) (by rw [hR]; exact Nat.le_of_ble_eq_true rfl) (by rw [hR]; exact Nat.le_of_ble_eq_true rfl) (Or.inl rfl) (fun _ z => z.elim) (fun _ z => z.elim) (fun _ _ o ho o' z => Or.inl (zCl7_r ho z)) (fun ad0 u0 r0 => ?_)
  refine n_S (S' := zS1) (fun x => ⟨fun z => z.elim (fun z => z.elim) id, Or.inr⟩) ?_
  have f0 : ad0 (2, 0, 0) = q0 := r0
  refine n_putF hC hN dX10_init_12 FF_X10_12 rfl (Nat.le_of_ble_eq_true rfl) (by simp) ?_
  change zNw X _ _ _ _ [(a, .inr (10, [.ref q0, .null, .null, .null, .null, .null, .null, .null]))] [a] zS1 _ _ _
  refine n_aload_n hC 0 dX10_init_15 rfl rfl ?_
  refine n_new hC dX10_init_16 NK_X10_16 (by rw [hR]; exact Nat.le_of_ble_eq_true rfl) (by rw [hR]; exact Nat.le_of_ble_eq_true rfl) (by simp) (fun q1 hq1 => ?_)
  refine n_dup hC dX10_init_19 ?_
  refine n_init (Cl := zCl0) (S := zS1) hC dX10_init_20 LI_X10_18 (cn_X0 l g) (by decide) hq1 (by simp) rfl rfl (Nat.le_of_ble_eq_true rfl) (by rw [hR]; exact Nat.le_of_ble_eq_true rfl) (by rw [hR]; exact Nat.le_of_ble_eq_true rfl) (Or.inl rfl) (fun x hx z => by have h1 := zS1_g hx; have h2 := zCl0_g z; omega) (fun x hx o' zr z => by have h1 := zS1_g (zS1_r hx zr); have h2 := zCl0_g z; omega) (fun _ _ o ho o' z => Or.inl (zCl0_r ho z)) (fun ad1 u1 r1 => ?_)
  have f0 : ad1 (2, 0, 0) = q0 := by rw [u1 _ (fun z => by have h1 := zCl0_g z; have h2 : zgrp (2, 0, 0) = 10 := rfl; omega), f0]
  have f1 : ad1 (1, 0, 0) = q1 := r1
  refine n_putF hC hN dX10_init_23 FF_X10_19 rfl (Nat.le_of_ble_eq_true rfl) (by simp) ?_
  change zNw X _ _ _ _ [(a, .inr (10, [.ref q0, .ref q1, .null, .null, .null, .null, .null, .null]))] [a] zS2 _ _ _
  refine n_aload_n hC 0 dX10_init_26 rfl rfl ?_
  refine n_iconst hC dX10_init_27 ?_
  refine n_anewa hC 3 dX10_init_28 KL_X10_9 (by decide) (by decide) rfl (N := 2) rfl (by decide) (by rw [hR]; exact Nat.le_of_ble_eq_true rfl) (by rw [hR]; exact Nat.le_of_ble_eq_true rfl) (by simp) (fun q2 => ?_)
  refine n_putF hC hN dX10_init_31 FF_X10_23 rfl (Nat.le_of_ble_eq_true rfl) (by simp) ?_
  change zNw X _ _ _ _ [(a, .inr (10, [.ref q0, .ref q1, .ref q2, .null, .null, .null, .null, .null])), (q2, .inl (g.2.2 3, 2, .inr (.inr (.inr (.inr fun _ => none)))))] [a, q2] zS2 _ _ _
  refine n_aload_n hC 0 dX10_init_34 rfl rfl ?_
  refine n_iconst hC dX10_init_35 ?_
  refine n_newa hC 1 dX10_init_36 rfl (by decide) rfl KA_boolean rfl (N := 2) rfl (by decide) (by decide) (by rw [hR]; exact Nat.le_of_ble_eq_true rfl) (by rw [hR]; exact Nat.le_of_ble_eq_true rfl) (by simp) (fun q3 => ?_)
  refine n_mv2 (S := zS2) hC (21, 0, 0) (fun z => by have h1 := zS2_g z; have h2 : zgrp (21, 0, 0) = 2 := rfl; omega) (fun x hx z => by have h1 := zS2_g (zS2_r hx z); have h2 : zgrp (21, 0, 0) = 2 := rfl; omega) (fun ad3 r3 u3 => ⟨zent0 (g := (g.1, ad3, g.2.2)) (t := 21) rfl rfl rfl (by decide), ?_⟩)
  have f0 : ad3 (2, 0, 0) = q0 := by rw [u3 _ (by simp), f0]
  have f1 : ad3 (1, 0, 0) = q1 := by rw [u3 _ (by simp), f1]
  have f3 : ad3 (21, 0, 0) = q3 := r3
  refine n_putF hC hN dX10_init_38 FF_X10_27 rfl (Nat.le_of_ble_eq_true rfl) (by simp) ?_
  change zNw X _ _ _ _ [(a, .inr (10, [.ref q0, .ref q1, .ref q2, .ref q3, .null, .null, .null, .null])), (q2, .inl (g.2.2 3, 2, .inr (.inr (.inr (.inr fun _ => none)))))] [a, q2] zS3 _ _ _
  refine n_aload_n hC 0 dX10_init_41 rfl rfl ?_
  refine n_new hC dX10_init_42 NK_X10_31 (by rw [hR]; exact Nat.le_of_ble_eq_true rfl) (by rw [hR]; exact Nat.le_of_ble_eq_true rfl) (by simp) (fun q4 hq4 => ?_)
  refine n_dup hC dX10_init_45 ?_
  refine n_initN (Cl := zCl3) (S := zS3) hC dX10_init_46 LN_X10_33_i (cn_X3 l g) (by decide) hq4 (by simp) rfl rfl (Nat.le_of_ble_eq_true rfl) (by rw [hR]; exact Nat.le_of_ble_eq_true rfl) (by rw [hR]; exact Nat.le_of_ble_eq_true rfl) (Or.inl rfl) (fun x hx z => by have h1 := zS3_g hx; have h2 := zCl3_g z; omega) (fun x hx o' zr z => by have h1 := zS3_g (zS3_r hx zr); have h2 := zCl3_g z; omega) (fun _ _ o ho o' z => Or.inl (zCl3_r ho z)) (fun ad4 u4 r4 => ?_)
  have f0 : ad4 (2, 0, 0) = q0 := by rw [u4 _ (fun z => by have h1 := zCl3_g z; have h2 : zgrp (2, 0, 0) = 10 := rfl; omega), f0]
  have f1 : ad4 (1, 0, 0) = q1 := by rw [u4 _ (fun z => by have h1 := zCl3_g z; have h2 : zgrp (1, 0, 0) = 1 := rfl; omega), f1]
  have f3 : ad4 (21, 0, 0) = q3 := by rw [u4 _ (fun z => by have h1 := zCl3_g z; have h2 : zgrp (21, 0, 0) = 2 := rfl; omega), f3]
  have f4 : ad4 (7, 0, 0) = q4 := r4
  refine n_putF hC hN dX10_init_49 FF_X10_34 rfl (Nat.le_of_ble_eq_true rfl) (by simp) ?_
  change zNw X _ _ _ _ [(a, .inr (10, [.ref q0, .ref q1, .ref q2, .ref q3, .ref q4, .null, .null, .null])), (q2, .inl (g.2.2 3, 2, .inr (.inr (.inr (.inr fun _ => none)))))] [a, q2] zS4 _ _ _
  refine n_aload_n hC 0 dX10_init_52 rfl rfl ?_
  refine n_aload_n hC 0 dX10_init_53 rfl rfl ?_
  refine n_getf hC dX10_init_54 FL_X10_34 rfl rfl ?_
  obtain ⟨q5, f5⟩ : ∃ q5, ad4 (6, 0, 0) = q5 := ⟨_, rfl⟩
  refine n_getB hC (7, 0, 0) dX10_init_57 FL_X10_38 (Or.inr (Or.inl rfl)) f4 rfl rfl f5 ?_
  refine n_putF hC hN dX10_init_60 FF_X10_42 rfl (Nat.le_of_ble_eq_true rfl) (by simp) ?_
  change zNw X _ _ _ _ [(a, .inr (10, [.ref q0, .ref q1, .ref q2, .ref q3, .ref q4, .ref q5, .null, .null])), (q2, .inl (g.2.2 3, 2, .inr (.inr (.inr (.inr fun _ => none)))))] [a, q2] zS4 _ _ _
  refine n_aload_n hC 0 dX10_init_63 rfl rfl ?_
  refine n_new hC dX10_init_64 NK_X10_43 (by rw [hR]; exact Nat.le_of_ble_eq_true rfl) (by rw [hR]; exact Nat.le_of_ble_eq_true rfl) (by simp) (fun q6 hq6 => ?_)
  refine n_dup hC dX10_init_67 ?_
  refine n_initN (Cl := zCl6) (S := zS4) hC dX10_init_68 LN_X10_45_i (cn_X6 l g) (by decide) hq6 (by simp) rfl rfl (Nat.le_of_ble_eq_true rfl) (by rw [hR]; exact Nat.le_of_ble_eq_true rfl) (by rw [hR]; exact Nat.le_of_ble_eq_true rfl) (Or.inl rfl) (fun x hx z => by have h1 := zS4_g hx; have h2 := zCl6_g z; omega) (fun x hx o' zr z => by have h1 := zS4_g (zS4_r hx zr); have h2 := zCl6_g z; omega) (fun _ _ o ho o' z => Or.inl (zCl6_r ho z)) (fun ad6 u6 r6 => ?_)
  have f0 : ad6 (2, 0, 0) = q0 := by rw [u6 _ (fun z => by have h1 := zCl6_g z; have h2 : zgrp (2, 0, 0) = 10 := rfl; omega), f0]
  have f1 : ad6 (1, 0, 0) = q1 := by rw [u6 _ (fun z => by have h1 := zCl6_g z; have h2 : zgrp (1, 0, 0) = 1 := rfl; omega), f1]
  have f3 : ad6 (21, 0, 0) = q3 := by rw [u6 _ (fun z => by have h1 := zCl6_g z; have h2 : zgrp (21, 0, 0) = 2 := rfl; omega), f3]
  have f4 : ad6 (7, 0, 0) = q4 := by rw [u6 _ (fun z => by have h1 := zCl6_g z; have h2 : zgrp (7, 0, 0) = 3 := rfl; omega), f4]
  have f5 : ad6 (6, 0, 0) = q5 := by rw [u6 _ (fun z => by have h1 := zCl6_g z; have h2 : zgrp (6, 0, 0) = 3 := rfl; omega), f5]
  have f6 : ad6 (8, 0, 0) = q6 := r6
  refine n_putF hC hN dX10_init_71 FF_X10_46 rfl (Nat.le_of_ble_eq_true rfl) (by simp) ?_
  change zNw X _ _ _ _ [(a, .inr (10, [.ref q0, .ref q1, .ref q2, .ref q3, .ref q4, .ref q5, .ref q6, .null])), (q2, .inl (g.2.2 3, 2, .inr (.inr (.inr (.inr fun _ => none)))))] [a, q2] zS5 _ _ _
  refine n_aload_n hC 0 dX10_init_74 rfl rfl ?_
  refine n_new hC dX10_init_75 NK_X10_50 (by rw [hR]; exact Nat.le_of_ble_eq_true rfl) (by rw [hR]; exact Nat.le_of_ble_eq_true rfl) (by simp) (fun q7 hq7 => ?_)
  refine n_dup hC dX10_init_78 ?_
  refine n_initN (Cl := zCl5) (S := zS5) hC dX10_init_79 LN_X10_52_i (cn_X5 l g) (by decide) hq7 (by simp) rfl rfl (Nat.le_of_ble_eq_true rfl) (by rw [hR]; exact Nat.le_of_ble_eq_true rfl) (by rw [hR]; exact Nat.le_of_ble_eq_true rfl) (Or.inl rfl) (fun x hx z => by have h1 := zS5_g hx; have h2 := zCl5_g z; omega) (fun x hx o' zr z => by have h1 := zS5_g (zS5_r hx zr); have h2 := zCl5_g z; omega) (fun _ _ o ho o' z => Or.inl (zCl5_r ho z)) (fun ad7 u7 r7 => ?_)
  have f0 : ad7 (2, 0, 0) = q0 := by rw [u7 _ (fun z => by have h1 := zCl5_g z; have h2 : zgrp (2, 0, 0) = 10 := rfl; omega), f0]
  have f1 : ad7 (1, 0, 0) = q1 := by rw [u7 _ (fun z => by have h1 := zCl5_g z; have h2 : zgrp (1, 0, 0) = 1 := rfl; omega), f1]
  have f3 : ad7 (21, 0, 0) = q3 := by rw [u7 _ (fun z => by have h1 := zCl5_g z; have h2 : zgrp (21, 0, 0) = 2 := rfl; omega), f3]
  have f4 : ad7 (7, 0, 0) = q4 := by rw [u7 _ (fun z => by have h1 := zCl5_g z; have h2 : zgrp (7, 0, 0) = 3 := rfl; omega), f4]
  have f5 : ad7 (6, 0, 0) = q5 := by rw [u7 _ (fun z => by have h1 := zCl5_g z; have h2 : zgrp (6, 0, 0) = 3 := rfl; omega), f5]
  have f6 : ad7 (8, 0, 0) = q6 := by rw [u7 _ (fun z => by have h1 := zCl5_g z; have h2 : zgrp (8, 0, 0) = 6 := rfl; omega), f6]
  have f7 : ad7 (10, 0, 0) = q7 := r7
  refine n_putF hC hN dX10_init_82 FF_X10_53 rfl (Nat.le_of_ble_eq_true rfl) (by simp) ?_
  change zNw X _ _ _ _ [(a, .inr (10, [.ref q0, .ref q1, .ref q2, .ref q3, .ref q4, .ref q5, .ref q6, .ref q7])), (q2, .inl (g.2.2 3, 2, .inr (.inr (.inr (.inr fun _ => none)))))] [a, q2] zS6 _ _ _
  refine n_iconst hC dX10_init_85 ?_
  refine n_istore_n hC dX10_init_86 rfl (by decide) rfl ?_
  change zNw X _ 87 [(1, .int (Int32.ofInt 0)), (0, .ref a)] [] _ _ zS6 _ _ _
  have loop1 : ∀ (hK : ∀ (ad : zO → Nat) (f : Nat → Option Nat), (ad (2, 0, 0) = q0 ∧ ad (1, 0, 0) = q1 ∧ ad (21, 0, 0) = q3 ∧ ad (7, 0, 0) = q4 ∧ ad (6, 0, 0) = q5 ∧ ad (8, 0, 0) = q6 ∧ ad (10, 0, 0) = q7) → (∀ j : Nat, (j : Int) < 2 → f j = some (ad (2, 7 + j, 0))) → (∀ j : Nat, 2 ≤ (j : Int) → f j = none) → zNw X (zNA a (zXs X)) 111 [(1, .int (Int32.ofInt 2)), (0, .ref a)] [] [(a, .inr (10, [.ref q0, .ref q1, .ref q2, .ref q3, .ref q4, .ref q5, .ref q6, .ref q7])), (q2, .inl (g.2.2 3, 2, .inr (.inr (.inr (.inr f)))))] [a, q2] (fun x => zS6 x ∨ ∃ j : Int, 0 ≤ j ∧ j < 2 ∧ zCl7 (7 + j) x) ad 761 16708) (n : Nat) (k : Int) (ad : zO → Nat) (f : Nat → Option Nat), 0 ≤ k → k + n = 2 → (ad (2, 0, 0) = q0 ∧ ad (1, 0, 0) = q1 ∧ ad (21, 0, 0) = q3 ∧ ad (7, 0, 0) = q4 ∧ ad (6, 0, 0) = q5 ∧ ad (8, 0, 0) = q6 ∧ ad (10, 0, 0) = q7) → (∀ j : Nat, (j : Int) < k → f j = some (ad (2, 7 + j, 0))) → (∀ j : Nat, k ≤ (j : Int) → f j = none) → zNw X (zNA a (zXs X)) 87 [(1, .int (Int32.ofInt k)), (0, .ref a)] [] [(a, .inr (10, [.ref q0, .ref q1, .ref q2, .ref q3, .ref q4, .ref q5, .ref q6, .ref q7])), (q2, .inl (g.2.2 3, 2, .inr (.inr (.inr (.inr f)))))] [a, q2] (fun x => zS6 x ∨ ∃ j : Int, 0 ≤ j ∧ j < k ∧ zCl7 (7 + j) x) ad (761 - 79 * n) (16708 - 1759 * n) := by
    intro hK n
    induction n with
    | zero =>
      intro k ad f hk0 hkn h17 hf hf2
      have hk : k = 2 := by omega
      subst hk
      refine n_iload_n hC 0 dX10_init_87 rfl rfl ?_
      refine n_iconst hC dX10_init_88 ?_
      refine n_icmp_ge hC dX10_init_89 (tgt := 111) rfl (by decide) (by decide) (fun _ => ?_) (fun q => absurd q (by decide))
      exact hK ad f h17 hf hf2
    | succ n ih =>
      intro k ad f hk0 hkn h17 hf hf2
      refine n_iload_n hC 0 dX10_init_87 rfl rfl ?_
      refine n_iconst hC dX10_init_88 ?_
      refine n_icmp_ge hC dX10_init_89 (tgt := 111) rfl (by omega) (by decide) (fun q => absurd q (by omega)) (fun _ => ?_)
      refine n_aload_n hC 1 dX10_init_92 rfl rfl ?_
      refine n_getf hC dX10_init_93 FL_X10_23 rfl rfl ?_
      refine n_iload_n hC 0 dX10_init_96 rfl rfl ?_
      refine n_new hC dX10_init_97 NK_X10_9 (by rw [hR]; simp only [zNR]; omega) (by rw [hR]; simp only [zNR]; omega) (by simp) (fun q hq => ?_)
      refine n_dup hC dX10_init_100 ?_
      refine n_init hC dX10_init_101 LI_X10_11 (cn_X7 l g (s := 7 + k)) (by decide) hq (by simp) rfl rfl (Nat.le_of_ble_eq_true rfl) (by rw [hR]; simp only [zNR]; omega) (by rw [hR]; simp only [zNR]; omega) (Or.inl rfl) ?_ ?_ (fun _ _ o ho o' z => Or.inl (zCl7_r ho z)) (fun ad' ha hr => ?_)
      · intro x hx z
        rcases hx with hx | ⟨j, j0, j1, hj⟩
        · have h1 := zS6_g hx
          have h2 := zCl7_g (s := 7 + k) (by omega) z
          omega
        · have h1 := zCl7_t hj
          have h2 := zCl7_t (s := 7 + k) z
          omega
      · intro x hx o' zr z
        rcases hx with hx | ⟨j, j0, j1, hj⟩
        · have h1 := zS6_g (zS6_r hx zr)
          have h2 := zCl7_g (s := 7 + k) (by omega) z
          omega
        · have h1 := zCl7_t (zCl7_r hj zr)
          have h2 := zCl7_t (s := 7 + k) z
          omega
      · rw [← hr]
        refine n_aast hC 3 (j0 := 1) dX10_init_104 (by decide) rfl rfl (o := (2, 7 + k, 0)) (Or.inr (Or.inl rfl)) rfl ⟨_, _, rfl⟩ hk0 (by omega) (by decide) (by simp) ?_
        change zNw X _ _ _ _ [(a, .inr (10, [.ref q0, .ref q1, .ref q2, .ref q3, .ref q4, .ref q5, .ref q6, .ref q7])), (q2, .inl (g.2.2 3, 2, .inr (.inr (.inr (.inr (va_up f k.toNat (some (ad' (2, 7 + k, 0)))))))))] [a, q2] _ _ _ _
        refine n_iinc hC 0 dX10_init_105 rfl (by decide) rfl ?_
        change zNw X _ _ [(1, .int (Int32.ofInt (k + 1))), (0, .ref a)] _ _ _ _ _ _ _
        refine n_goto hC dX10_init_108 (tgt := 87) rfl ?_
        refine n_widen (cl' := 761 - 79 * n) (sl' := 16708 - 1759 * n) (by omega) (by omega) ?_
        refine n_S (S' := fun x => zS6 x ∨ ∃ j : Int, 0 ≤ j ∧ j < k + 1 ∧ zCl7 (7 + j) x) (fun x => ?_) ?_
        · constructor
          · rintro ((h | ⟨j, j0, j1, hj⟩) | hj)
            · exact Or.inl h
            · exact Or.inr ⟨j, j0, by omega, hj⟩
            · exact Or.inr ⟨k, hk0, by omega, hj⟩
          · rintro (h | ⟨j, j0, j1, hj⟩)
            · exact Or.inl (Or.inl h)
            · by_cases e : j = k
              · rw [e] at hj; exact Or.inr hj
              · exact Or.inl (Or.inr ⟨j, j0, by omega, hj⟩)
        · refine ih (k + 1) ad' _ (by omega) (by omega) ⟨by rw [ha _ (fun z => by have h1 := zCl7_g (s := 7 + k) (by omega) z; have h2 : zgrp (2, 0, 0) = 10 := rfl; omega), h17.1], by rw [ha _ (fun z => by have h1 := zCl7_g (s := 7 + k) (by omega) z; have h2 : zgrp (1, 0, 0) = 1 := rfl; omega), h17.2.1], by rw [ha _ (fun z => by have h1 := zCl7_g (s := 7 + k) (by omega) z; have h2 : zgrp (21, 0, 0) = 2 := rfl; omega), h17.2.2.1], by rw [ha _ (fun z => by have h1 := zCl7_g (s := 7 + k) (by omega) z; have h2 : zgrp (7, 0, 0) = 3 := rfl; omega), h17.2.2.2.1], by rw [ha _ (fun z => by have h1 := zCl7_g (s := 7 + k) (by omega) z; have h2 : zgrp (6, 0, 0) = 3 := rfl; omega), h17.2.2.2.2.1], by rw [ha _ (fun z => by have h1 := zCl7_g (s := 7 + k) (by omega) z; have h2 : zgrp (8, 0, 0) = 6 := rfl; omega), h17.2.2.2.2.2.1], by rw [ha _ (fun z => by have h1 := zCl7_g (s := 7 + k) (by omega) z; have h2 : zgrp (10, 0, 0) = 5 := rfl; omega), h17.2.2.2.2.2.2]⟩ (fun j hj => ?_) (fun j hj => ?_)
          · unfold va_up
            by_cases e : j = k.toNat
            · rw [if_pos e, e, show ((k.toNat : Nat) : Int) = k by omega]
            · rw [if_neg e, hf j (by omega), ha _ (fun z => ?_)]
              have h1 := (zCl7_t (s := 7 + k) z).1
              simp at h1
              omega
          · unfold va_up
            rw [if_neg (by omega)]
            exact hf2 j (by omega)
  refine n_S (S' := fun x => zS6 x ∨ ∃ j : Int, 0 ≤ j ∧ j < 0 ∧ zCl7 (7 + j) x) (fun x => ⟨Or.inl, fun z => by rcases z with z | ⟨j, j0, j1, _⟩; exact z; omega⟩) ?_
  refine loop1 (fun ad f hk hf hf2 => ?_) 2 0 ad7 _ (by decide) (by decide) ⟨f0, f1, f3, f4, f5, f6, f7⟩ (fun j hj => by omega) (fun j _ => rfl)
  have hSg : ∀ x, (zS6 x ∨ ∃ j : Int, 0 ≤ j ∧ j < 2 ∧ zCl7 (7 + j) x) → zgrp x ≠ 7 ∧ zgrp x ≠ 8 := fun x hx => by
    rcases hx with hx | ⟨j, j0, j1, hj⟩
    · have h1 := zS6_g hx
      omega
    · have h1 := zCl7_g (s := 7 + j) (by omega) hj
      omega
  have hSr : ∀ x o, (zS6 x ∨ ∃ j : Int, 0 ≤ j ∧ j < 2 ∧ zCl7 (7 + j) x) → zrefOf x o → (zS6 o ∨ ∃ j : Int, 0 ≤ j ∧ j < 2 ∧ zCl7 (7 + j) o) := fun x o hx hr => by
    rcases hx with hx | ⟨j, j0, j1, hj⟩
    · exact Or.inl (zS6_r hx hr)
    · exact Or.inr ⟨j, j0, j1, zCl7_r hj hr⟩
  refine n_mv2 (ow := [_]) hC (20, 0, 0) (fun z => (hSg _ z).1 rfl) (fun x hx z => (hSg _ (hSr _ _ hx z)).1 rfl) (fun ads es os => ⟨zentR (g := (g.1, ads, g.2.2)) (t := 20) rfl rfl rfl (fun j hj => ?_) (fun j hj => hf2 j (by omega)), ?_⟩)
  · rw [hf j (by omega)]
    exact congrArg some (os (2, 7 + (j : Int), 0) (by simp)).symm
  · refine n_mv2 (ow := []) hC (0, 0, 0) ?_ ?_ (fun adr er or1 => ⟨?_, ?_⟩)
    · rintro (z | z)
      · exact (hSg _ z).2 rfl
      · simp at z
    · rintro x (hx | rfl) z
      · exact (hSg _ (hSr _ _ hx z)).2 rfl
      · obtain ⟨j, hj, e⟩ := zref_arr (t := 20) rfl rfl z
        simp [zAref] at e
    · have g2 : adr (20, 0, 0) = q2 := by rw [or1 _ (by simp), es]
      have g0 : adr (2, 0, 0) = q0 := by rw [or1 _ (by simp), os _ (by simp), hk.1]
      have g1 : adr (1, 0, 0) = q1 := by rw [or1 _ (by simp), os _ (by simp), hk.2.1]
      have g3 : adr (21, 0, 0) = q3 := by rw [or1 _ (by simp), os _ (by simp), hk.2.2.1]
      have g4 : adr (7, 0, 0) = q4 := by rw [or1 _ (by simp), os _ (by simp), hk.2.2.2.1]
      have g5 : adr (6, 0, 0) = q5 := by rw [or1 _ (by simp), os _ (by simp), hk.2.2.2.2.1]
      have g6 : adr (8, 0, 0) = q6 := by rw [or1 _ (by simp), os _ (by simp), hk.2.2.2.2.2.1]
      have g7 : adr (10, 0, 0) = q7 := by rw [or1 _ (by simp), os _ (by simp), hk.2.2.2.2.2.2]
      rw [zent_obj (ci := 10) rfl, ← g2, ← g0, ← g1, ← g3, ← g4, ← g5, ← g6, ← g7]
      rfl
    · refine n_ret hC dX10_init_111 hE rfl er trivial ?_ (Or.inl rfl)
      rintro x (rfl | rfl | h)
      · exact Or.inr rfl
      · exact Or.inl (Or.inr rfl)
      · exact Or.inl (Or.inl h)
