theorem zCl7_t {s : Int} {x : zO} (h : zCl7 s x) : x.2.1 = s ∧ (x.1 = 2 ∨ x.1 = 15 ∨ x.1 = 16 ∨ x.1 = 3 ∨ x.1 = 12 ∨ x.1 = 13 ∨ x.1 = 14 ∨ x.1 = 4 ∨ x.1 = 17 ∨ x.1 = 18 ∨ x.1 = 5) := by
  rcases h with rfl | rfl | rfl | ⟨j, j0, j1, hj⟩ | ⟨j, j0, j1, hj⟩
  · simp
  · simp
  · simp
  · have h1 := zCl1_t hj
    omega
  · have h1 := zCl4_t hj
    omega
theorem zref2 {s i : Int} {o : zO} (h : zrefOf (2, s, i) o) : o = (15, s, 0) ∨ o = (16, s, 0) := by
  rcases h with ⟨c, k, q1, q2, q3, q4⟩ | ⟨q, j, q1, -⟩
  · cases q1
    have hk : k < 8 := q2
    rcases (show k = 0 ∨ k = 1 ∨ k = 2 ∨ k = 3 ∨ k = 4 ∨ k = 5 ∨ k = 6 ∨ k = 7 by omega) with rfl | rfl | rfl | rfl | rfl | rfl | rfl | rfl <;> first | (cases q3; done) | exact Or.inl q4 | exact Or.inr q4
  · cases q1
theorem zCl7_r {s : Int} {x o : zO} (h : zCl7 s x) (hr : zrefOf x o) : zCl7 s o := by
  rcases h with rfl | rfl | rfl | ⟨j, j0, j1, hj⟩ | ⟨j, j0, j1, hj⟩
  · rcases zref2 hr with e | e
    · exact Or.inr (Or.inl e)
    · exact Or.inr (Or.inr (Or.inl e))
  · obtain ⟨j, hj, e⟩ := zref_arr (t := 15) rfl rfl hr
    exact Or.inr (Or.inr (Or.inr (Or.inl ⟨j, by omega, by omega, Or.inl e⟩)))
  · obtain ⟨j, hj, e⟩ := zref_arr (t := 16) rfl rfl hr
    exact Or.inr (Or.inr (Or.inr (Or.inr ⟨j, by omega, by omega, Or.inl e⟩)))
  · exact Or.inr (Or.inr (Or.inr (Or.inl ⟨j, j0, j1, zCl1_r hj hr⟩)))
  · exact Or.inr (Or.inr (Or.inr (Or.inr ⟨j, j0, j1, zCl4_r hj hr⟩)))
def zCl0 (x : zO) : Prop := x = (1, 0, 0) ∨ x = (19, 0, 0) ∨ ∃ k : Int, 0 ≤ k ∧ k < 6 ∧ zCl7 (1 + k) x
set_option maxRecDepth 20000 in
theorem cn_X0 (l : Launch) (g : zG) : zMetN l g Y_X0_init 4 475 10560 [] (1, 0, 0) zCl0 0 zf0_X0 (fun _ => True) := by
  refine zN_intro (fun _ => 0) (by decide +kernel) rfl rfl (fun _ => Nat.le_of_ble_eq_true rfl) fun X a hC hN hR hE => ?_
  change zNw X _ 0 [(0, .ref a)] [] _ _ _ _ _ _
  refine n_aload_n hC 0 dX0_init_0 rfl rfl ?_
  refine n_objInit hC (by decide) dX0_init_1 KO_X0 KOi KOc ?_
  refine n_aload_n hC 0 dX0_init_4 rfl rfl ?_
  refine n_iconst hC dX0_init_5 ?_
  refine n_put hC dX0_init_6 FP_X0_9 rfl rfl rfl (Nat.le_of_ble_eq_true rfl) (by simp) ?_
  change zNw X _ _ _ _ [(a, .inr (0, [.int 0, .int 5, .null]))] [a] _ _ _ _
  refine n_aload_n hC 0 dX0_init_9 rfl rfl ?_
  refine n_bipush hC dX0_init_10 rfl ?_
  refine n_anewa hC 3 dX0_init_12 KL_X0_15 (by decide) (by decide) rfl (N := 6) rfl (by decide) (by rw [hR]; exact Nat.le_of_ble_eq_true rfl) (by rw [hR]; exact Nat.le_of_ble_eq_true rfl) (by simp) (fun q1 => ?_)
  refine n_putF hC hN dX0_init_15 FF_X0_17 rfl (Nat.le_of_ble_eq_true rfl) (by simp) ?_
  change zNw X _ _ _ _ [(a, .inr (0, [.int 0, .int 5, .ref q1])), (q1, .inl (g.2.2 3, 6, .inr (.inr (.inr (.inr fun _ => none)))))] [a, q1] _ _ _ _
  refine n_iconst hC dX0_init_18 ?_
  refine n_istore_n hC dX0_init_19 rfl (by decide) rfl ?_
  change zNw X _ 20 [(1, .int (Int32.ofInt 0)), (0, .ref a)] [] _ _ _ _ _ _
  have loop1 : ∀ (hK : ∀ (ad : zO → Nat) (f : Nat → Option Nat), (∀ j : Nat, (j : Int) < 6 → f j = some (ad (2, 1 + j, 0))) → (∀ j : Nat, 6 ≤ (j : Int) → f j = none) → zNw X (zNA a (zXs X)) 45 [(1, .int (Int32.ofInt 6)), (0, .ref a)] [] [(a, .inr (0, [.int 0, .int 5, .ref q1])), (q1, .inl (g.2.2 3, 6, .inr (.inr (.inr (.inr f)))))] [a, q1] (fun x => ∃ j : Int, 0 ≤ j ∧ j < 6 ∧ zCl7 (1 + j) x) ad 475 10560) (n : Nat) (k : Int) (ad : zO → Nat) (f : Nat → Option Nat), 0 ≤ k → k + n = 6 → (∀ j : Nat, (j : Int) < k → f j = some (ad (2, 1 + j, 0))) → (∀ j : Nat, k ≤ (j : Int) → f j = none) → zNw X (zNA a (zXs X)) 20 [(1, .int (Int32.ofInt k)), (0, .ref a)] [] [(a, .inr (0, [.int 0, .int 5, .ref q1])), (q1, .inl (g.2.2 3, 6, .inr (.inr (.inr (.inr f)))))] [a, q1] (fun x => ∃ j : Int, 0 ≤ j ∧ j < k ∧ zCl7 (1 + j) x) ad (475 - 79 * n) (10560 - 1759 * n) := by
    intro hK n
    induction n with
    | zero =>
      intro k ad f hk0 hkn hf hf2
      have hk : k = 6 := by omega
      subst hk
      refine n_iload_n hC 0 dX0_init_20 rfl rfl ?_
      refine n_bipush hC dX0_init_21 rfl ?_
      refine n_icmp_ge hC dX0_init_23 (tgt := 45) rfl (by decide) (by decide) (fun _ => ?_) (fun q => absurd q (by decide))
      exact hK ad f hf hf2
    | succ n ih =>
      intro k ad f hk0 hkn hf hf2
      refine n_iload_n hC 0 dX0_init_20 rfl rfl ?_
      refine n_bipush hC dX0_init_21 rfl ?_
      refine n_icmp_ge hC dX0_init_23 (tgt := 45) rfl (by omega) (by decide) (fun q => absurd q (by omega)) (fun _ => ?_)
      refine n_aload_n hC 1 dX0_init_26 rfl rfl ?_
      refine n_getf hC dX0_init_27 FL_X0_17 rfl rfl ?_
      refine n_iload_n hC 0 dX0_init_30 rfl rfl ?_
      refine n_new hC dX0_init_31 NK_X0_15 (by rw [hR]; simp only [zNR]; omega) (by rw [hR]; simp only [zNR]; omega) (by simp) (fun q hq => ?_)
      refine n_dup hC dX0_init_34 ?_
      refine n_init hC dX0_init_35 LI_X0_21 (cn_X7 l g (s := 1 + k)) (by decide) hq (by simp) rfl rfl (Nat.le_of_ble_eq_true rfl) (by rw [hR]; simp only [zNR]; omega) (by rw [hR]; simp only [zNR]; omega) (Or.inl rfl) ?_ ?_ (fun _ _ o ho o' z => Or.inl (zCl7_r ho z)) (fun ad' ha hr => ?_)
      · intro x hx z
        obtain ⟨j, j0, j1, hj⟩ := hx
        have h1 := zCl7_t hj
        have h2 := zCl7_t (s := 1 + k) z
        omega
      · intro x hx o' zr z
        obtain ⟨j, j0, j1, hj⟩ := hx
        have h1 := zCl7_t (zCl7_r hj zr)
        have h2 := zCl7_t (s := 1 + k) z
        omega
      · rw [← hr]
        refine n_aast hC 3 (j0 := 1) dX0_init_38 (by decide) rfl rfl (o := (2, 1 + k, 0)) (Or.inr (Or.inl rfl)) rfl ⟨_, _, rfl⟩ hk0 (by omega) (by decide) (by simp) ?_
        change zNw X _ _ _ _ [(a, .inr (0, [.int 0, .int 5, .ref q1])), (q1, .inl (g.2.2 3, 6, .inr (.inr (.inr (.inr (va_up f k.toNat (some (ad' (2, 1 + k, 0)))))))))] [a, q1] _ _ _ _
        refine n_iinc hC 0 dX0_init_39 rfl (by decide) rfl ?_
        change zNw X _ _ [(1, .int (Int32.ofInt (k + 1))), (0, .ref a)] _ _ _ _ _ _ _
        refine n_goto hC dX0_init_42 (tgt := 20) rfl ?_
        refine n_widen (cl' := 475 - 79 * n) (sl' := 10560 - 1759 * n) (by omega) (by omega) ?_
        refine n_S (S' := fun x => ∃ j : Int, 0 ≤ j ∧ j < k + 1 ∧ zCl7 (1 + j) x) (fun x => ?_) ?_
        · constructor
          · rintro (⟨j, j0, j1, hj⟩ | hj)
            · exact ⟨j, j0, by omega, hj⟩
            · exact ⟨k, hk0, by omega, hj⟩
          · rintro ⟨j, j0, j1, hj⟩
            by_cases e : j = k
            · rw [e] at hj; exact Or.inr hj
            · exact Or.inl ⟨j, j0, by omega, hj⟩
        · refine ih (k + 1) ad' _ (by omega) (by omega) (fun j hj => ?_) (fun j hj => ?_)
          · unfold va_up
            by_cases e : j = k.toNat
            · rw [if_pos e, e, show ((k.toNat : Nat) : Int) = k by omega]
            · rw [if_neg e, hf j (by omega), ha _ (fun z => ?_)]
              have h1 := (zCl7_t (s := 1 + k) z).1
              simp at h1
              omega
          · unfold va_up
            rw [if_neg (by omega)]
            exact hf2 j (by omega)
  refine n_S (S' := fun x => ∃ j : Int, 0 ≤ j ∧ j < 0 ∧ zCl7 (1 + j) x) (fun x => ⟨fun z => z.elim, fun ⟨j, j0, j1, _⟩ => by omega⟩) ?_
  refine loop1 (fun ad f hf hf2 => ?_) 6 0 (fun _ => 0) _ (by decide) (by decide) (fun j hj => by omega) (fun j _ => rfl)
  refine n_mv2 (ow := [_]) hC (19, 0, 0) ?_ ?_ (fun ad2 e2 o2 => ⟨zentR (g := (g.1, ad2, g.2.2)) (t := 19) rfl rfl rfl (fun j hj => ?_) (fun j hj => hf2 j (by omega)), ?_⟩)
  · rintro ⟨j, j0, j1, hj⟩
    have h1 := zCl7_t hj
    simp at h1
  · rintro x ⟨j, j0, j1, hj⟩ zr
    have h1 := zCl7_t (zCl7_r hj zr)
    simp at h1
  · rw [hf j (by omega)]
    exact congrArg some (o2 (2, 1 + (j : Int), 0) (by simp)).symm
  · refine n_mv2 (ow := []) hC (1, 0, 0) ?_ ?_ (fun adr er or1 => ⟨?_, ?_⟩)
    · rintro (⟨j, j0, j1, hj⟩ | h)
      · have h1 := zCl7_t hj
        simp at h1
      · simp at h
    · rintro x (⟨j, j0, j1, hj⟩ | rfl) zr
      · have h1 := zCl7_t (zCl7_r hj zr)
        simp at h1
      · obtain ⟨j, hj, e⟩ := zref_arr (t := 19) rfl rfl zr
        simp [zAref] at e
    · have f1 : adr (19, 0, 0) = q1 := by rw [or1 _ (by simp), e2]
      rw [zent_obj (ci := 0) rfl, ← f1]
      rfl
    · refine n_ret hC dX0_init_45 hE rfl er trivial ?_ (Or.inl rfl)
      rintro x (rfl | rfl | h)
      · exact Or.inr rfl
      · exact Or.inl (Or.inr rfl)
      · exact Or.inl (Or.inl h)
def zCl2 (x : zO) : Prop := x = (6, 0, 0) ∨ x = (22, 0, 0)
theorem zCl2_t {x : zO} (h : zCl2 x) : (x.1 = 6 ∨ x.1 = 22) ∧ x.2.1 = 0 ∧ x.2.2 = 0 := by
  rcases h with rfl | rfl <;> simp
theorem zref6 {s i : Int} {o : zO} (h : zrefOf (6, s, i) o) : o = (22, 0, 0) := by
  rcases h with ⟨c, k, q1, q2, q3, q4⟩ | ⟨q, j, q1, -⟩
  · cases q1
    have hk : k < 2 := q2
    rcases (show k = 0 ∨ k = 1 by omega) with rfl | rfl <;> first | (cases q3; done) | exact q4
  · cases q1
theorem zCl2_r {x o : zO} (h : zCl2 x) (hr : zrefOf x o) : zCl2 o := by
  rcases h with rfl | rfl
  · exact Or.inr (zref6 hr)
  · exact absurd hr (zno_ref rfl rfl rfl)
def zCl3 (x : zO) : Prop := x = (7, 0, 0) ∨ zCl4 9 0 x ∨ zCl2 x
set_option maxRecDepth 20000 in
theorem cn_X3 (l : Launch) (g : zG) : zMetN l g Y_X3_init 3 13 406 [] (7, 0, 0) zCl3 3 zf0_X3 (fun _ => True) := by
  refine zN_intro (fun _ => 0) (by decide +kernel) rfl rfl (fun _ => Nat.le_of_ble_eq_true rfl) fun X a hC hN hR hE => ?_
  change zNw X _ 0 [(0, .ref a)] [] _ _ _ _ _ _
  refine n_aload_n hC 0 dX3_init_0 rfl rfl ?_
  refine n_objInit hC (by decide) dX3_init_1 KO_X3 KOi KOc ?_
  refine n_aload_n hC 0 dX3_init_4 rfl rfl ?_
  refine n_new hC dX3_init_5 NK_X3_9 (by rw [hR]; exact Nat.le_of_ble_eq_true rfl) (by rw [hR]; exact Nat.le_of_ble_eq_true rfl) (by simp) (fun q hq => ?_)
  refine n_dup hC dX3_init_8 ?_
  refine n_init (Cl := zCl4 9 0) hC dX3_init_9 LI_X3_11 (cn_X4 l g (s := 9) (i := 0)) (by decide) hq (by simp) rfl rfl (Nat.le_of_ble_eq_true rfl) (by rw [hR]; exact Nat.le_of_ble_eq_true rfl) (by rw [hR]; exact Nat.le_of_ble_eq_true rfl) (Or.inl rfl) (fun _ z => z.elim) (fun _ z => z.elim) (fun _ _ o ho o' z => Or.inl (zCl4_r ho z)) (fun ad' ha hr => ?_)
  refine n_S (S' := zCl4 9 0) (fun x => ⟨fun z => z.elim (fun z => z.elim) id, Or.inr⟩) ?_
  refine n_putF hC hN dX3_init_12 FF_X3_12 rfl (Nat.le_of_ble_eq_true rfl) (by simp) ?_
  change zNw X _ _ _ _ [(a, .inr (3, [.ref q, .null, .int 0, .int 0]))] [a] _ _ _ _
  refine n_aload_n hC 0 dX3_init_15 rfl rfl ?_
  refine n_new hC dX3_init_16 NK_X3_18 (by rw [hR]; exact Nat.le_of_ble_eq_true rfl) (by rw [hR]; exact Nat.le_of_ble_eq_true rfl) (by simp) (fun q2 hq2 => ?_)
  refine n_dup hC dX3_init_19 ?_
  refine n_initN (Cl := zCl2) (S := zCl4 9 0) hC dX3_init_20 LN_X3_20_i (cn_X2 l g) (by decide) hq2 (by simp) rfl rfl (Nat.le_of_ble_eq_true rfl) (by rw [hR]; exact Nat.le_of_ble_eq_true rfl) (by rw [hR]; exact Nat.le_of_ble_eq_true rfl) (Or.inl rfl) (fun x hx z => by have h1 := zCl4_t hx; have h2 := zCl2_t z; omega) (fun x hx o' zr z => by have h1 := zCl4_t (zCl4_r hx zr); have h2 := zCl2_t z; omega) (fun _ _ o ho o' z => Or.inl (zCl2_r ho z)) (fun ad2 u2 r2 => ?_)
  refine n_putF hC hN dX3_init_23 FF_X3_21 rfl (Nat.le_of_ble_eq_true rfl) (by simp) ?_
  change zNw X _ _ _ _ [(a, .inr (3, [.ref q, .ref q2, .int 0, .int 0]))] [a] _ _ _ _
  refine n_mv2 (ow := []) hC (7, 0, 0) ?_ ?_ (fun adr er or1 => ?_)
  · rintro (h | h)
    · have h1 := zCl4_t h
      simp at h1
    · have h1 := zCl2_t h
      simp at h1
  · rintro x (h | h) zr
    · have h1 := zCl4_t (zCl4_r h zr)
      simp at h1
    · have h1 := zCl2_t (zCl2_r h zr)
      simp at h1
  · have f2 : adr (6, 0, 0) = q2 := by rw [or1 _ (by simp), r2]
    have f1 : adr (4, 9, 0) = q := by rw [or1 _ (by simp), u2 _ (fun z => by have h1 := zCl2_t z; simp at h1), hr]
    refine ⟨?_, ?_⟩
    · rw [zent_obj (ci := 3) rfl]
      show _ = (Sum.inr (3, [.ref (adr (4, 9, 0)), .ref (adr (6, 0, 0)), .int 0, .int 0]) : va_E)
      rw [f1, f2]
    · refine n_ret hC dX3_init_26 hE rfl er trivial ?_ (Or.inl rfl)
      rintro x (rfl | h | h)
      · exact Or.inr rfl
      · exact Or.inl (Or.inl h)
      · exact Or.inl (Or.inr h)
