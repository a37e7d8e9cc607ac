def zCl1 (s i : Int) (x : zO) : Prop := x = (3, s, i) ∨ x = (12, s, i) ∨ x = (13, s, i) ∨ x = (14, s, i)
theorem zCl1_t {s i : Int} {x : zO} (h : zCl1 s i x) : (x.1 = 3 ∨ x.1 = 12 ∨ x.1 = 13 ∨ x.1 = 14) ∧ x.2.1 = s ∧ x.2.2 = i := by
  rcases h with rfl | rfl | rfl | rfl <;> simp
theorem zCl4_t {s i : Int} {x : zO} (h : zCl4 s i x) : x.2.1 = s ∧ (((x.1 = 4 ∨ x.1 = 17 ∨ x.1 = 18) ∧ x.2.2 = i) ∨ (x.1 = 5 ∧ 8 * i ≤ x.2.2 ∧ x.2.2 < 8 * i + 8)) := by
  rcases h with rfl | rfl | rfl | ⟨k, k0, k1, rfl⟩
  · simp
  · simp
  · simp
  · simp
    omega
theorem zref3 {s i : Int} {o : zO} (h : zrefOf (3, s, i) o) : o = (12, s, i) ∨ o = (13, s, i) ∨ o = (14, s, i) := by
  rcases h with ⟨c, k, q1, q2, q3, q4⟩ | ⟨q, j, q1, -⟩
  · cases q1
    have hk : k < 12 := q2
    rcases (show k = 0 ∨ k = 1 ∨ k = 2 ∨ k = 3 ∨ k = 4 ∨ k = 5 ∨ k = 6 ∨ k = 7 ∨ k = 8 ∨ k = 9 ∨ k = 10 ∨ k = 11 by omega) with rfl | rfl | rfl | rfl | rfl | rfl | rfl | rfl | rfl | rfl | rfl | rfl <;> first | (cases q3; done) | exact Or.inl q4 | exact Or.inr (Or.inl q4) | exact Or.inr (Or.inr q4)
  · cases q1
theorem zref4 {s i : Int} {o : zO} (h : zrefOf (4, s, i) o) : o = (17, s, i) ∨ o = (18, s, i) := by
  rcases h with ⟨c, k, q1, q2, q3, q4⟩ | ⟨q, j, q1, -⟩
  · cases q1
    have hk : k < 5 := q2
    rcases (show k = 0 ∨ k = 1 ∨ k = 2 ∨ k = 3 ∨ k = 4 by omega) with rfl | rfl | rfl | rfl | rfl <;> first | (cases q3; done) | exact Or.inl q4 | exact Or.inr q4
  · cases q1
theorem zCl1_r {s i : Int} {x o : zO} (h : zCl1 s i x) (hr : zrefOf x o) : zCl1 s i o := by
  rcases h with rfl | rfl | rfl | rfl
  · rcases zref3 hr with e | e | e
    · exact Or.inr (Or.inl e)
    · exact Or.inr (Or.inr (Or.inl e))
    · exact Or.inr (Or.inr (Or.inr e))
  · exact absurd hr (zno_ref rfl rfl rfl)
  · exact absurd hr (zno_ref rfl rfl rfl)
  · exact absurd hr (zno_ref rfl rfl rfl)
theorem zCl4_r {s i : Int} {x o : zO} (h : zCl4 s i x) (hr : zrefOf x o) : zCl4 s i o := by
  rcases h with rfl | rfl | rfl | ⟨k, k0, k1, rfl⟩
  · rcases zref4 hr with e | e
    · exact Or.inr (Or.inl e)
    · exact Or.inr (Or.inr (Or.inl e))
  · exact absurd hr (zno_ref rfl rfl rfl)
  · obtain ⟨j, hj, e⟩ := zref_arr (t := 18) rfl rfl hr
    exact Or.inr (Or.inr (Or.inr ⟨j, by omega, by omega, e⟩))
  · exact absurd hr zno5
def zCl7 (s : Int) (x : zO) : Prop := x = (2, s, 0) ∨ x = (15, s, 0) ∨ x = (16, s, 0) ∨ (∃ j : Int, 0 ≤ j ∧ j < 8 ∧ zCl1 s j x) ∨ ∃ r : Int, 0 ≤ r ∧ r < 4 ∧ zCl4 s r x
set_option maxRecDepth 20000 in
theorem cn_X7 (l : Launch) (g : zG) {s : Int} : zMetN l g Y_X7_init 3 78 1728 [] (2, s, 0) (zCl7 s) 7 zf0_X7 (fun _ => True) := by
  refine zN_intro (fun _ => 0) (by decide +kernel) rfl rfl (fun _ => Nat.le_of_ble_eq_true rfl) fun X a hC hN hR hE => ?_
  change zNw X _ 0 [(0, .ref a)] [] _ _ _ _ _ _
  refine n_aload_n hC 0 dX7_init_0 rfl rfl ?_
  refine n_objInit hC (by decide) dX7_init_1 KO_X7 KOi KOc ?_
  refine n_aload_n hC 0 dX7_init_4 rfl rfl ?_
  refine n_iconst hC dX7_init_5 ?_
  refine n_put hC dX7_init_6 FP_X7_9 rfl rfl rfl (Nat.le_of_ble_eq_true rfl) (by simp) ?_
  change zNw X _ _ _ _ [(a, .inr (7, [.int 0, .int 2, .int 0, .int 0, .int 0, .int 0, .null, .null]))] [a] _ _ _ _
  refine n_aload_n hC 0 dX7_init_9 rfl rfl ?_
  refine n_bipush hC dX7_init_10 rfl ?_
  refine n_anewa hC 4 dX7_init_12 KL_X7_15 (by decide) (by decide) rfl (N := 8) rfl (by decide) (by rw [hR]; exact Nat.le_of_ble_eq_true rfl) (by rw [hR]; exact Nat.le_of_ble_eq_true rfl) (by simp) (fun q1 => ?_)
  refine n_putF hC hN dX7_init_15 FF_X7_17 rfl (Nat.le_of_ble_eq_true rfl) (by simp) ?_
  change zNw X _ _ _ _ [(a, .inr (7, [.int 0, .int 2, .int 0, .int 0, .int 0, .int 0, .ref q1, .null])), (q1, .inl (g.2.2 4, 8, .inr (.inr (.inr (.inr fun _ => none)))))] [a, q1] _ _ _ _
  refine n_aload_n hC 0 dX7_init_18 rfl rfl ?_
  refine n_iconst hC dX7_init_19 ?_
  refine n_anewa hC 5 dX7_init_20 KL_X7_21 (by decide) (by decide) rfl (N := 4) rfl (by decide) (by rw [hR]; exact Nat.le_of_ble_eq_true rfl) (by rw [hR]; exact Nat.le_of_ble_eq_true rfl) (by simp) (fun q2 => ?_)
  refine n_putF hC hN dX7_init_23 FF_X7_23 rfl (Nat.le_of_ble_eq_true rfl) (by simp) ?_
  change zNw X _ _ _ _ [(a, .inr (7, [.int 0, .int 2, .int 0, .int 0, .int 0, .int 0, .ref q1, .ref q2])), (q1, .inl (g.2.2 4, 8, .inr (.inr (.inr (.inr fun _ => none))))), (q2, .inl (g.2.2 5, 4, .inr (.inr (.inr (.inr fun _ => none)))))] [a, q1, q2] _ _ _ _
  refine n_iconst hC dX7_init_26 ?_
  refine n_istore_n hC dX7_init_27 rfl (by decide) rfl ?_
  change zNw X _ 28 [(1, .int (Int32.ofInt 0)), (0, .ref a)] [] _ _ _ _ _ _
  have loop1 : ∀ (hK : ∀ (ad : zO → Nat) (f : Nat → Option Nat), (∀ j : Nat, (j : Int) < 8 → f j = some (ad (3, s, j))) → (∀ j : Nat, 8 ≤ (j : Int) → f j = none) → zNw X (zNA a (zXs X)) 53 [(1, .int (Int32.ofInt 8)), (0, .ref a)] [] [(a, .inr (7, [.int 0, .int 2, .int 0, .int 0, .int 0, .int 0, .ref q1, .ref q2])), (q1, .inl (g.2.2 4, 8, .inr (.inr (.inr (.inr f))))), (q2, .inl (g.2.2 5, 4, .inr (.inr (.inr (.inr fun _ => none)))))] [a, q1, q2] (fun x => ∃ j : Int, 0 ≤ j ∧ j < 8 ∧ zCl1 s j x) ad 34 548) (n : Nat) (k : Int) (ad : zO → Nat) (f : Nat → Option Nat), 0 ≤ k → k + n = 8 → (∀ j : Nat, (j : Int) < k → f j = some (ad (3, s, j))) → (∀ j : Nat, k ≤ (j : Int) → f j = none) → zNw X (zNA a (zXs X)) 28 [(1, .int (Int32.ofInt k)), (0, .ref a)] [] [(a, .inr (7, [.int 0, .int 2, .int 0, .int 0, .int 0, .int 0, .ref q1, .ref q2])), (q1, .inl (g.2.2 4, 8, .inr (.inr (.inr (.inr f))))), (q2, .inl (g.2.2 5, 4, .inr (.inr (.inr (.inr fun _ => none)))))] [a, q1, q2] (fun x => ∃ j : Int, 0 ≤ j ∧ j < k ∧ zCl1 s j x) ad (34 - 4 * n) (548 - 67 * n) := by
    intro hK n
    induction n with
    | zero =>
      intro k ad f hk0 hkn hf hf2
      have hk : k = 8 := by omega
      subst hk
      refine n_iload_n hC 0 dX7_init_28 rfl rfl ?_
      refine n_bipush hC dX7_init_29 rfl ?_
      refine n_icmp_ge hC dX7_init_31 (tgt := 53) rfl (by decide) (by decide) (fun _ => ?_) (fun q => absurd q (by decide))
      exact hK ad f hf hf2
    | succ n ih =>
      intro k ad f hk0 hkn hf hf2
      refine n_iload_n hC 0 dX7_init_28 rfl rfl ?_
      refine n_bipush hC dX7_init_29 rfl ?_
      refine n_icmp_ge hC dX7_init_31 (tgt := 53) rfl (by omega) (by decide) (fun q => absurd q (by omega)) (fun _ => ?_)
      refine n_aload_n hC 1 dX7_init_34 rfl rfl ?_
      refine n_getf hC dX7_init_35 FL_X7_17 rfl rfl ?_
      refine n_iload_n hC 0 dX7_init_38 rfl rfl ?_
      refine n_new hC dX7_init_39 NK_X7_15 (by rw [hR]; simp only [zNR]; omega) (by rw [hR]; simp only [zNR]; omega) (by simp) (fun q hq => ?_)
      refine n_dup hC dX7_init_42 ?_
      refine n_initN hC dX7_init_43 LN_X7_27_i (cn_X1 l g (s := s) (i := k)) (by decide) hq (by simp) rfl rfl (Nat.le_of_ble_eq_true rfl) (by rw [hR]; simp only [zNR]; omega) (by rw [hR]; simp only [zNR]; omega) (Or.inl rfl) ?_ ?_ (fun _ _ o ho o' z => Or.inl (zCl1_r ho z)) (fun ad' ha hr => ?_)
      · intro x hx z
        obtain ⟨j, j0, j1, hj⟩ := hx
        have h1 := zCl1_t hj
        have h2 := zCl1_t (s := s) (i := k) z
        omega
      · intro x hx o' zr z
        obtain ⟨j, j0, j1, hj⟩ := hx
        have h1 := zCl1_t (zCl1_r hj zr)
        have h2 := zCl1_t (s := s) (i := k) z
        omega
      · rw [← hr]
        refine n_aast hC 4 (j0 := 1) dX7_init_46 (by decide) rfl rfl (o := (3, s, k)) (Or.inr (Or.inl rfl)) rfl ⟨_, _, rfl⟩ hk0 (by omega) (by decide) (by simp) ?_
        change zNw X _ _ _ _ [(a, .inr (7, [.int 0, .int 2, .int 0, .int 0, .int 0, .int 0, .ref q1, .ref q2])), (q1, .inl (g.2.2 4, 8, .inr (.inr (.inr (.inr (va_up f k.toNat (some (ad' (3, s, k))))))))), (q2, .inl (g.2.2 5, 4, .inr (.inr (.inr (.inr fun _ => none)))))] [a, q1, q2] _ _ _ _
        refine n_iinc hC 0 dX7_init_47 rfl (by decide) rfl ?_
        change zNw X _ _ [(1, .int (Int32.ofInt (k + 1))), (0, .ref a)] _ _ _ _ _ _ _
        refine n_goto hC dX7_init_50 (tgt := 28) rfl ?_
        refine n_widen (cl' := 34 - 4 * n) (sl' := 548 - 67 * n) (by omega) (by omega) ?_
        refine n_S (S' := fun x => ∃ j : Int, 0 ≤ j ∧ j < k + 1 ∧ zCl1 s j x) (fun x => ?_) ?_
        · constructor
          · rintro (⟨j, j0, j1, hj⟩ | hj)
            · exact ⟨j, j0, by omega, hj⟩
            · exact ⟨k, hk0, by omega, hj⟩
          · rintro ⟨j, j0, j1, hj⟩
            by_cases e : j = k
            · rw [e] at hj; exact Or.inr hj
            · exact Or.inl ⟨j, j0, by omega, hj⟩
        · refine ih (k + 1) ad' _ (by omega) (by omega) (fun j hj => ?_) (fun j hj => ?_)
          · unfold va_up
            by_cases e : j = k.toNat
            · rw [if_pos e, e, show ((k.toNat : Nat) : Int) = k by omega]
            · rw [if_neg e, hf j (by omega), ha _ (fun z => ?_)]
              have h1 := (zCl1_t (s := s) (i := k) z).2.2
              simp at h1
              omega
          · unfold va_up
            rw [if_neg (by omega)]
            exact hf2 j (by omega)
  have fin : ∀ (ad : zO → Nat) (f1 f : Nat → Option Nat), (∀ j : Nat, (j : Int) < 8 → f1 j = some (ad (3, s, j))) → (∀ j : Nat, 8 ≤ (j : Int) → f1 j = none) → (∀ j : Nat, (j : Int) < 4 → f j = some (ad (4, s, j))) → (∀ j : Nat, 4 ≤ (j : Int) → f j = none) → zNw X (zNA a (zXs X)) 79 [(1, .int (Int32.ofInt 4)), (0, .ref a)] [] [(a, .inr (7, [.int 0, .int 2, .int 0, .int 0, .int 0, .int 0, .ref q1, .ref q2])), (q1, .inl (g.2.2 4, 8, .inr (.inr (.inr (.inr f1))))), (q2, .inl (g.2.2 5, 4, .inr (.inr (.inr (.inr f)))))] [a, q1, q2] (fun x => (∃ j : Int, 0 ≤ j ∧ j < 8 ∧ zCl1 s j x) ∨ ∃ r : Int, 0 ≤ r ∧ r < 4 ∧ zCl4 s r x) ad 78 1728 := by
    intro ad f1 f hf1 hf12 hf hf2
    refine n_mv2 (ow := [_, _]) hC (16, s, 0) ?_ ?_ (fun ad2 e2 o2 => ⟨zentR (g := (g.1, ad2, g.2.2)) (t := 16) rfl rfl rfl (fun j hj => ?_) (fun j hj => hf2 j (by omega)), ?_⟩)
    · rintro (⟨j, j0, j1, hj⟩ | ⟨j, j0, j1, hj⟩)
      · have h1 := zCl1_t hj
        simp at h1
      · have h1 := zCl4_t hj
        simp at h1
    · rintro x (⟨j, j0, j1, hj⟩ | ⟨j, j0, j1, hj⟩) zr
      · have h1 := zCl1_t (zCl1_r hj zr)
        simp at h1
      · have h1 := zCl4_t (zCl4_r hj zr)
        simp at h1
    · rw [hf j (by omega)]
      exact congrArg some (o2 _ (by simp)).symm
    · refine n_mv2 (ow := [_]) hC (15, s, 0) ?_ ?_ (fun ad3 e3 o3 => ⟨zentR (g := (g.1, ad3, g.2.2)) (t := 15) rfl rfl rfl (fun j hj => ?_) (fun j hj => hf12 j (by omega)), ?_⟩)
      · rintro ((⟨j, j0, j1, hj⟩ | ⟨j, j0, j1, hj⟩) | h)
        · have h1 := zCl1_t hj
          simp at h1
        · have h1 := zCl4_t hj
          simp at h1
        · simp at h
      · rintro x ((⟨j, j0, j1, hj⟩ | ⟨j, j0, j1, hj⟩) | rfl) zr
        · have h1 := zCl1_t (zCl1_r hj zr)
          simp at h1
        · have h1 := zCl4_t (zCl4_r hj zr)
          simp at h1
        · obtain ⟨j, hj, e⟩ := zref_arr (t := 16) rfl rfl zr
          simp [zAref] at e
      · rw [hf1 j (by omega)]
        exact congrArg some ((o2 (3, s, (j : Int)) (by simp)).symm.trans (o3 (3, s, (j : Int)) (by simp)).symm)
      · refine n_mv2 (ow := []) hC (2, s, 0) ?_ ?_ (fun adr er or1 => ⟨?_, ?_⟩)
        · rintro (((⟨j, j0, j1, hj⟩ | ⟨j, j0, j1, hj⟩) | h) | h)
          · have h1 := zCl1_t hj
            simp at h1
          · have h1 := zCl4_t hj
            simp at h1
          · simp at h
          · simp at h
        · rintro x (((⟨j, j0, j1, hj⟩ | ⟨j, j0, j1, hj⟩) | rfl) | rfl) zr
          · have h1 := zCl1_t (zCl1_r hj zr)
            simp at h1
          · have h1 := zCl4_t (zCl4_r hj zr)
            simp at h1
          · obtain ⟨j, hj, e⟩ := zref_arr (t := 16) rfl rfl zr
            simp [zAref] at e
          · obtain ⟨j, hj, e⟩ := zref_arr (t := 15) rfl rfl zr
            simp [zAref] at e
        · have f1' : adr (15, s, 0) = q1 := by rw [or1 _ (by simp), e3]
          have f2' : adr (16, s, 0) = q2 := by rw [or1 _ (by simp), o3 _ (by simp), e2]
          rw [zent_obj (ci := 7) rfl, ← f1', ← f2']
          rfl
        · refine n_ret hC dX7_init_79 hE rfl er trivial ?_ (Or.inl rfl)
          rintro x (rfl | rfl | rfl | h | h)
          · exact Or.inr rfl
          · exact Or.inl (Or.inr rfl)
          · exact Or.inl (Or.inl (Or.inr rfl))
          · exact Or.inl (Or.inl (Or.inl (Or.inl h)))
          · exact Or.inl (Or.inl (Or.inl (Or.inr h)))
  refine n_S (S' := fun x => ∃ j : Int, 0 ≤ j ∧ j < 0 ∧ zCl1 s j x) (fun x => ⟨fun z => z.elim, fun ⟨j, j0, j1, _⟩ => by omega⟩) ?_
  refine loop1 (fun ad f1 hf1 hf12 => ?_) 8 0 (fun _ => 0) _ (by decide) (by decide) (fun j hj => by omega) (fun j _ => rfl)
  have loop2 : ∀ (hK : ∀ (ad : zO → Nat) (f : Nat → Option Nat), (∀ j : Nat, (j : Int) < 8 → f1 j = some (ad (3, s, j))) → (∀ j : Nat, (j : Int) < 4 → f j = some (ad (4, s, j))) → (∀ j : Nat, 4 ≤ (j : Int) → f j = none) → zNw X (zNA a (zXs X)) 79 [(1, .int (Int32.ofInt 4)), (0, .ref a)] [] [(a, .inr (7, [.int 0, .int 2, .int 0, .int 0, .int 0, .int 0, .ref q1, .ref q2])), (q1, .inl (g.2.2 4, 8, .inr (.inr (.inr (.inr f1))))), (q2, .inl (g.2.2 5, 4, .inr (.inr (.inr (.inr f)))))] [a, q1, q2] (fun x => (∃ j : Int, 0 ≤ j ∧ j < 8 ∧ zCl1 s j x) ∨ ∃ r : Int, 0 ≤ r ∧ r < 4 ∧ zCl4 s r x) ad 78 1728) (n : Nat) (k : Int) (ad : zO → Nat) (f : Nat → Option Nat), 0 ≤ k → k + n = 4 → (∀ j : Nat, (j : Int) < 8 → f1 j = some (ad (3, s, j))) → (∀ j : Nat, (j : Int) < k → f j = some (ad (4, s, j))) → (∀ j : Nat, k ≤ (j : Int) → f j = none) → zNw X (zNA a (zXs X)) 55 [(1, .int (Int32.ofInt k)), (0, .ref a)] [] [(a, .inr (7, [.int 0, .int 2, .int 0, .int 0, .int 0, .int 0, .ref q1, .ref q2])), (q1, .inl (g.2.2 4, 8, .inr (.inr (.inr (.inr f1))))), (q2, .inl (g.2.2 5, 4, .inr (.inr (.inr (.inr f)))))] [a, q1, q2] (fun x => (∃ j : Int, 0 ≤ j ∧ j < 8 ∧ zCl1 s j x) ∨ ∃ r : Int, 0 ≤ r ∧ r < k ∧ zCl4 s r x) ad (78 - 11 * n) (1728 - 295 * n) := by
    intro hK n
    induction n with
    | zero =>
      intro k ad f hk0 hkn h17 hf hf2
      have hk : k = 4 := by omega
      subst hk
      refine n_iload_n hC 0 dX7_init_55 rfl rfl ?_
      refine n_iconst hC dX7_init_56 ?_
      refine n_icmp_ge hC dX7_init_57 (tgt := 79) rfl (by decide) (by decide) (fun _ => ?_) (fun q => absurd q (by decide))
      exact hK ad f h17 hf hf2
    | succ n ih =>
      intro k ad f hk0 hkn h17 hf hf2
      refine n_iload_n hC 0 dX7_init_55 rfl rfl ?_
      refine n_iconst hC dX7_init_56 ?_
      refine n_icmp_ge hC dX7_init_57 (tgt := 79) rfl (by omega) (by decide) (fun q => absurd q (by omega)) (fun _ => ?_)
      refine n_aload_n hC 1 dX7_init_60 rfl rfl ?_
      refine n_getf hC dX7_init_61 FL_X7_23 rfl rfl ?_
      refine n_iload_n hC 0 dX7_init_64 rfl rfl ?_
      refine n_new hC dX7_init_65 NK_X7_21 (by rw [hR]; simp only [zNR]; omega) (by rw [hR]; simp only [zNR]; omega) (by simp) (fun q hq => ?_)
      refine n_dup hC dX7_init_68 ?_
      refine n_init hC dX7_init_69 LI_X7_28 (cn_X4 l g (s := s) (i := k)) (by decide) hq (by simp) rfl rfl (Nat.le_of_ble_eq_true rfl) (by rw [hR]; simp only [zNR]; omega) (by rw [hR]; simp only [zNR]; omega) (Or.inl rfl) ?_ ?_ (fun _ _ o ho o' z => Or.inl (zCl4_r ho z)) (fun ad' ha hr => ?_)
      · intro x hx z
        rcases hx with ⟨j, j0, j1, hj⟩ | ⟨j, j0, j1, hj⟩
        · have h1 := zCl1_t hj
          have h2 := zCl4_t z
          omega
        · have h1 := zCl4_t hj
          have h2 := zCl4_t z
          omega
      · intro x hx o' zr z
        rcases hx with ⟨j, j0, j1, hj⟩ | ⟨j, j0, j1, hj⟩
        · have h1 := zCl1_t (zCl1_r hj zr)
          have h2 := zCl4_t z
          omega
        · have h1 := zCl4_t (zCl4_r hj zr)
          have h2 := zCl4_t z
          omega
      · rw [← hr]
        refine n_aast hC 5 (j0 := 2) dX7_init_72 (by decide) rfl rfl (o := (4, s, k)) (Or.inr (Or.inl rfl)) rfl ⟨_, _, rfl⟩ hk0 (by omega) (by decide) (by simp) ?_
        change zNw X _ _ _ _ [(a, .inr (7, [.int 0, .int 2, .int 0, .int 0, .int 0, .int 0, .ref q1, .ref q2])), (q1, .inl (g.2.2 4, 8, .inr (.inr (.inr (.inr f1))))), (q2, .inl (g.2.2 5, 4, .inr (.inr (.inr (.inr (va_up f k.toNat (some (ad' (4, s, k)))))))))] [a, q1, q2] _ _ _ _
        refine n_iinc hC 0 dX7_init_73 rfl (by decide) rfl ?_
        change zNw X _ _ [(1, .int (Int32.ofInt (k + 1))), (0, .ref a)] _ _ _ _ _ _ _
        refine n_goto hC dX7_init_76 (tgt := 55) rfl ?_
        refine n_widen (cl' := 78 - 11 * n) (sl' := 1728 - 295 * n) (by omega) (by omega) ?_
        refine n_S (S' := fun x => (∃ j : Int, 0 ≤ j ∧ j < 8 ∧ zCl1 s j x) ∨ ∃ r : Int, 0 ≤ r ∧ r < k + 1 ∧ zCl4 s r x) (fun x => ?_) ?_
        · constructor
          · rintro ((h | ⟨j, j0, j1, hj⟩) | hj)
            · exact Or.inl h
            · exact Or.inr ⟨j, j0, by omega, hj⟩
            · exact Or.inr ⟨k, hk0, by omega, hj⟩
          · rintro (h | ⟨j, j0, j1, hj⟩)
            · exact Or.inl (Or.inl h)
            · by_cases e : j = k
              · rw [e] at hj; exact Or.inr hj
              · exact Or.inl (Or.inr ⟨j, j0, by omega, hj⟩)
        · refine ih (k + 1) ad' _ (by omega) (by omega) (fun j hj => by rw [h17 j hj, ha _ (fun z => by have h1 := zCl4_t z; simp at h1)]) (fun j hj => ?_) (fun j hj => ?_)
          · unfold va_up
            by_cases e : j = k.toNat
            · rw [if_pos e, e, show ((k.toNat : Nat) : Int) = k by omega]
            · rw [if_neg e, hf j (by omega), ha _ (fun z => ?_)]
              have h1 := zCl4_t (s := s) (i := k) z
              simp at h1
              omega
          · unfold va_up
            rw [if_neg (by omega)]
            exact hf2 j (by omega)
  refine n_iconst hC dX7_init_53 ?_
  refine n_istore_n hC dX7_init_54 rfl (by decide) rfl ?_
  change zNw X _ 55 [(1, .int (Int32.ofInt 0)), (0, .ref a)] [] _ _ _ _ _ _
  refine n_S (S' := fun x => (∃ j : Int, 0 ≤ j ∧ j < 8 ∧ zCl1 s j x) ∨ ∃ r : Int, 0 ≤ r ∧ r < 0 ∧ zCl4 s r x) (fun x => ⟨fun z => Or.inl z, fun z => by rcases z with z | ⟨j, j0, j1, _⟩; exact z; omega⟩) ?_
  exact loop2 (fun ad f hf1 hf hf2 => fin ad f1 f hf1 hf12 hf hf2) 4 0 ad _ (by decide) (by decide) hf1 (fun j hj => by omega) (fun j _ => rfl)
