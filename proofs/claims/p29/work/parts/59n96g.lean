theorem n_S {X : zX} {A : Nat → Prop} {pc cl sl : Nat} {lv : List (Nat × Value)} {st : List Value} {ow : va_W} {wo : List Nat} {S S' : zO → Prop} {ad : zO → Nat} (h : ∀ x, S x ↔ S' x) (K : zNw X A pc lv st ow wo S' ad cl sl) : zNw X A pc lv st ow wo S ad cl sl := by
  have e : S = S' := funext fun x => propext (h x)
  rw [e]
  exact K
theorem zno5 {s i : Int} {o : zO} : ¬ zrefOf (5, s, i) o := by
  rintro (⟨c, k, q1, q2, q3, -⟩ | ⟨q, j, q1, -⟩)
  · cases q1
    have hk : k < 4 := q2
    rcases (show k = 0 ∨ k = 1 ∨ k = 2 ∨ k = 3 by omega) with rfl | rfl | rfl | rfl <;> cases q3
  · cases q1
/-- what an array of references refers to -/
theorem zref_arr {t k n : Nat} {s i : Int} {o : zO} (h1 : zTO t = none) (h2 : zTA t = some (k, n)) (h : zrefOf (t, s, i) o) : ∃ j : Nat, j < n ∧ o = zAref t s i j := by
  rcases h with ⟨c, k', q1, -⟩ | ⟨q, j, q1, q2, q3, q4, q5⟩
  · rw [h1] at q1
    cases q1
  · rw [h2] at q2
    cases q2
    exact ⟨j, q4, q5⟩
theorem zentR {g : zG} {t k n : Nat} {s i : Int} {f : Nat → Option Nat} (h1 : zTO t = none) (h2 : zTA t = some (k, n)) (h3 : zTR k = true) (hf : ∀ j : Nat, j < n → f j = some (g.2.1 (zAref t s i j))) (hf2 : ∀ j : Nat, n ≤ j → f j = none) : (Sum.inl (g.2.2 k, n, Sum.inr (Sum.inr (Sum.inr (Sum.inr f)))) : va_E) = zent g zM0 (t, s, i) := by
  rw [zent_rarr h1 h2 h3]
  congr 7
  funext j
  by_cases hj : j < n
  · rw [if_pos hj, hf j hj]
  · rw [if_neg hj, hf2 j (by omega)]
def zCl4 (s i : Int) (x : zO) : Prop := x = (4, s, i) ∨ x = (17, s, i) ∨ x = (18, s, i) ∨ ∃ k : Int, 0 ≤ k ∧ k < 8 ∧ x = (5, s, 8 * i + k)
set_option maxRecDepth 20000 in
theorem cn_X4 (l : Launch) (g : zG) {s i : Int} : zMetN l g Y_X4_init 2 10 264 [] (4, s, i) (zCl4 s i) 4 zf0_X4 (fun _ => True) := by
  refine zN_intro (fun _ => 0) (by decide +kernel) rfl rfl (fun _ => Nat.le_of_ble_eq_true rfl) fun X a hC hN hR hE => ?_
  change zNw X _ 0 [(0, .ref a)] [] _ _ _ _ _ _
  refine n_aload_n hC 0 dX4_init_0 rfl rfl ?_
  refine n_objInit hC (by decide) dX4_init_1 KO_X4 KOi KOc ?_
  refine n_aload_n hC 0 dX4_init_4 rfl rfl ?_
  refine n_bipush hC dX4_init_5 rfl ?_
  refine n_newa hC 0 dX4_init_7 rfl (by decide) rfl KA_int rfl (N := 8) rfl (by decide) (by decide) (by rw [hR]; exact Nat.le_of_ble_eq_true rfl) (by rw [hR]; exact Nat.le_of_ble_eq_true rfl) (by simp) (fun q1 => ?_)
  refine n_mv2 hC (17, s, i) (by simp) (fun _ z => z.elim) (fun ad1 e1 o1 => ⟨zent0 (g := (g.1, ad1, g.2.2)) (t := 17) rfl rfl rfl (by decide), ?_⟩)
  refine n_putF hC hN dX4_init_9 FF_X4_9 rfl (Nat.le_of_ble_eq_true rfl) (by simp) ?_
  change zNw X _ _ _ _ [(a, .inr (4, [.int 0, .int 0, .int 0, .ref q1, .null]))] [a] _ _ _ _
  refine n_aload_n hC 0 dX4_init_12 rfl rfl ?_
  refine n_bipush hC dX4_init_13 rfl ?_
  refine n_anewa hC 6 dX4_init_15 KL_X4_15 (by decide) (by decide) rfl (N := 8) rfl (by decide) (by rw [hR]; exact Nat.le_of_ble_eq_true rfl) (by rw [hR]; exact Nat.le_of_ble_eq_true rfl) (by simp) (fun q2 => ?_)
  refine n_putF hC hN dX4_init_18 FF_X4_17 rfl (Nat.le_of_ble_eq_true rfl) (by simp) ?_
  change zNw X _ _ _ _ [(a, .inr (4, [.int 0, .int 0, .int 0, .ref q1, .ref q2])), (q2, .inl (g.2.2 6, 8, .inr (.inr (.inr (.inr fun _ => none)))))] [a, q2] _ _ _ _
  refine n_iconst hC dX4_init_21 ?_
  refine n_istore_n hC dX4_init_22 rfl (by decide) rfl ?_
  change zNw X _ 23 [(1, .int (Int32.ofInt 0)), (0, .ref a)] [] _ _ _ _ _ _
  have loop : ∀ (n : Nat) (k : Int) (ad : zO → Nat) (f : Nat → Option Nat), 0 ≤ k → k + n = 8 → ad (17, s, i) = q1 → (∀ j : Nat, (j : Int) < k → f j = some (ad (5, s, 8 * i + j))) → (∀ j : Nat, k ≤ (j : Int) → f j = none) → zNw X (zNA a (zXs X)) 23 [(1, .int (Int32.ofInt k)), (0, .ref a)] [] [(a, .inr (4, [.int 0, .int 0, .int 0, .ref q1, .ref q2])), (q2, .inl (g.2.2 6, 8, .inr (.inr (.inr (.inr f)))))] [a, q2] (fun x => x = (17, s, i) ∨ ∃ j : Int, 0 ≤ j ∧ j < k ∧ x = (5, s, 8 * i + j)) ad (10 - n) (264 - 31 * n) := by
    intro n
    induction n with
    | zero =>
      intro k ad f hk0 hkn h17 hf hf2
      refine n_iload_n hC 0 dX4_init_23 rfl rfl ?_
      refine n_bipush hC dX4_init_24 rfl ?_
      refine n_icmp_ge hC dX4_init_26 (tgt := 48) rfl (by omega) (by decide) (fun _ => ?_) (fun q => absurd q (by omega))
      refine n_mv2 (ow := [_]) hC (18, s, i) (by simp) (by rintro x (rfl | ⟨j, -, -, rfl⟩); exact zno_ref rfl rfl rfl; exact zno5) (fun ad2 e2 o2 => ⟨zentR (g := (g.1, ad2, g.2.2)) (t := 18) rfl rfl rfl (fun j hj => ?_) (fun j hj => hf2 j (by omega)), ?_⟩)
      · rw [hf j (by omega)]
        exact congrArg some (o2 _ (by simp)).symm
      · refine n_mv2 (ow := []) hC (4, s, i) (by simp) ?_ (fun adr er or1 => ⟨?_, ?_⟩)
        · rintro x ((rfl | ⟨j, -, -, rfl⟩) | rfl)
          · exact zno_ref rfl rfl rfl
          · exact zno5
          · intro z
            obtain ⟨j, hj, e⟩ := zref_arr (t := 18) rfl rfl z
            simp [zAref] at e
        · have f1 : adr (17, s, i) = q1 := by rw [or1 _ (by simp), o2 _ (by simp), h17]
          have f2 : adr (18, s, i) = q2 := by rw [or1 _ (by simp), e2]
          rw [zent_obj (ci := 4) rfl, ← f1, ← f2]
          rfl
        · refine n_ret hC dX4_init_48 hE rfl er trivial ?_ (Or.inl rfl)
          rintro x (rfl | rfl | rfl | ⟨j, j0, j1, rfl⟩)
          · exact Or.inr rfl
          · exact Or.inl (Or.inl (Or.inl rfl))
          · exact Or.inl (Or.inr rfl)
          · exact Or.inl (Or.inl (Or.inr ⟨j, j0, by omega, rfl⟩))
    | succ n ih =>
      intro k ad f hk0 hkn h17 hf hf2
      refine n_iload_n hC 0 dX4_init_23 rfl rfl ?_
      refine n_bipush hC dX4_init_24 rfl ?_
      refine n_icmp_ge hC dX4_init_26 (tgt := 48) rfl (by omega) (by decide) (fun q => absurd q (by omega)) (fun _ => ?_)
      refine n_aload_n hC 1 dX4_init_29 rfl rfl ?_
      refine n_getf hC dX4_init_30 FL_X4_17 rfl rfl ?_
      refine n_iload_n hC 0 dX4_init_33 rfl rfl ?_
      refine n_new hC dX4_init_34 NK_X4_15 (by rw [hR]; simp only [zNR]; omega) (by rw [hR]; simp only [zNR]; omega) (by simp) (fun q hq => ?_)
      refine n_dup hC dX4_init_37 ?_
      refine n_initN hC dX4_init_38 LN_X4_21_i (cn_X8 l g (s := s) (i := 8 * i + k)) (by decide) hq (by simp) rfl rfl (Nat.le_of_ble_eq_true rfl) (by rw [hR]; simp only [zNR]; omega) (by rw [hR]; simp only [zNR]; omega) rfl ?_ ?_ (fun _ _ o ho o' z => absurd z (by rw [ho]; exact zno5)) (fun ad' ha hr => ?_)
      · rintro x (rfl | ⟨j, j0, j1, rfl⟩)
        · simp
        · simp
          omega
      · rintro x (rfl | ⟨j, j0, j1, rfl⟩) o' z
        · exact absurd z (zno_ref rfl rfl rfl)
        · exact absurd z zno5
      · rw [← hr]
        refine n_aast hC 6 (j0 := 1) dX4_init_41 (by decide) rfl rfl (o := (5, s, 8 * i + k)) (Or.inr rfl) rfl ⟨_, _, rfl⟩ hk0 (by omega) (by decide) (by simp) ?_
        change zNw X _ _ _ _ [(a, .inr (4, [.int 0, .int 0, .int 0, .ref q1, .ref q2])), (q2, .inl (g.2.2 6, 8, .inr (.inr (.inr (.inr (va_up f k.toNat (some (ad' (5, s, 8 * i + k)))))))))] [a, q2] _ _ _ _
        refine n_iinc hC 0 dX4_init_42 rfl (by decide) rfl ?_
        change zNw X _ _ [(1, .int (Int32.ofInt (k + 1))), (0, .ref a)] _ _ _ _ _ _ _
        refine n_goto hC dX4_init_45 (tgt := 23) rfl ?_
        refine n_widen (cl' := 10 - n) (sl' := 264 - 31 * n) (by omega) (by omega) ?_
        refine n_S (S' := fun x => x = (17, s, i) ∨ ∃ j : Int, 0 ≤ j ∧ j < k + 1 ∧ x = (5, s, 8 * i + j)) (fun x => ?_) ?_
        · constructor
          · rintro ((rfl | ⟨j, j0, j1, rfl⟩) | rfl)
            · exact Or.inl rfl
            · exact Or.inr ⟨j, j0, by omega, rfl⟩
            · exact Or.inr ⟨k, hk0, by omega, rfl⟩
          · rintro (rfl | ⟨j, j0, j1, rfl⟩)
            · exact Or.inl (Or.inl rfl)
            · by_cases e : j = k
              · rw [e]; exact Or.inr rfl
              · exact Or.inl (Or.inr ⟨j, j0, by omega, rfl⟩)
        · refine ih (k + 1) ad' _ (by omega) (by omega) (by rw [ha _ (by simp), h17]) (fun j hj => ?_) (fun j hj => ?_)
          · unfold va_up
            by_cases e : j = k.toNat
            · rw [if_pos e, e, show ((k.toNat : Nat) : Int) = k by omega]
            · rw [if_neg e, hf j (by omega), ha _ (by simp; omega)]
          · unfold va_up
            rw [if_neg (by omega)]
            exact hf2 j (by omega)
  refine n_S (S' := fun x => x = (17, s, i) ∨ ∃ j : Int, 0 ≤ j ∧ j < 0 ∧ x = (5, s, 8 * i + j)) (fun x => ?_) ?_
  · constructor
    · rintro (z | rfl)
      · exact z.elim
      · exact Or.inl rfl
    · rintro (rfl | ⟨j, j0, j1, -⟩)
      · exact Or.inr rfl
      · omega
  · exact loop 8 0 ad1 _ (by decide) (by decide) e1 (fun j hj => by omega) (fun j _ => rfl)
