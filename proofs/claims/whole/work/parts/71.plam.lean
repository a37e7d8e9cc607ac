/-- one row of the model's plan -/
def zMr (m : zM) (j : Int) (W : zPl) : Prop := (m 50 0 0 j = W 0 j ∧ m 51 0 0 j = W 1 j ∧ m 52 0 0 j = W 2 j ∧ m 53 0 0 j = W 3 j ∧ m 54 0 0 j = W 4 j ∧ m 55 0 0 j = W 5 j ∧ m 56 0 0 j = W 6 j ∧ m 57 0 0 j = W 7 j) ∧ (m 58 0 0 (3 * j) = W 8 j ∧ m 58 0 0 (3 * j + 1) = W 9 j ∧ m 58 0 0 (3 * j + 2) = W 10 j)
def zMod (m : zM) (W : zPl) : Prop := ∀ j : Int, 0 ≤ j → j < 8 → zMr m j W
/-- what the model's planning leaves -/
def zMo (m' m : zM) : Prop := ∀ (t : Nat) (s j q : Int), (t < 50 ∨ 58 < t) → (t ≠ 11 ∨ q < 16 ∨ 18 < q) → m' t s j q = m t s j q
/-- what the model's planning stands on -/
def zmp (a : zM) : Prop := zpc a ∧ (0 ≤ a 2 0 0 5 ∧ a 2 0 0 5 ≤ 4) ∧ (∀ r : Int, 0 ≤ r → r < 4 → (a 2 0 0 5 ≤ r → a 4 0 r 1 = 0) ∧ (r < a 2 0 0 5 → 1 ≤ a 4 0 r 0)) ∧ (∀ i : Int, 0 ≤ i → i < 8 → a 3 0 i 1 = 0 ∨ a 3 0 i 1 = 1) ∧ 0 ≤ a 2 0 0 0
theorem zscal_0 {a : zM} {r x : Int} (hp : a 4 0 r 1 = 0) : zscal a 0 r x = 0 := by
  unfold zscal
  split
  · rfl
  · rw [hp, Int.mul_zero]
    exact Int.ediv_eq_zero_of_lt (by omega) (by omega)
theorem zsum_stop {f : Int → Int} {k : Nat} : ∀ n : Nat, k ≤ n → (∀ j : Int, k ≤ j → j < n → f j = 0) → zsum n f = zsum k f
  | 0, h, _ => by rw [show k = 0 by omega]
  | n + 1, h, hz => by
    by_cases c : k = n + 1
    · rw [c]
    · rw [zsum, zsum_stop n (by omega) (fun j j0 j1 => hz j j0 (by omega)), hz n (by omega) (by omega)]
      omega
set_option maxRecDepth 20000 in
theorem ct_X11_byRecipes (l : Launch) (g : zG) {a m : zM} {i : Int} (hp : zmp a) (hR : zRel a 0 (m 45 0 0)) (hi : 0 ≤ i ∧ i < 8) : zMet l g Y_X11_byRecipes [zr 11 0 0, zi i] m (fun v m' => v = some (zi (zsum 4 (fun r => zscal a 0 r (a 17 0 r i)))) ∧ m' = m) := by
  refine zMet_introF (by decide +kernel) (Nat.le_of_ble_eq_true rfl) (ls0 := [some (zr 11 0 0), some (zi i), none, none]) rfl fun X hG hE => ?_
  have hG : zGood X l g RX11 cX11_byRecipes 1 4 := hG
  have hE : zEnd X (some .int) _ := hE
  have e2 := hR.2.2.1
  have eR := hR.2.2.2.2.2.2.2.2
  have hrec := hp.1.1
  have loop : ∀ (N k : Nat), (k : Int) + N = a 2 0 0 5 → zZ X 4 [some (zr 11 0 0), some (zi i), some (zi (zsum k (fun r => zscal a 0 r (a 17 0 r i)))), some (zi k)] [] m := by
    intro N
    induction N with
    | zero =>
      intro k hk
      refine z_iload_n (i := 3) hG dX11_byRecipes_4 rfl rfl ?_
      refine z_aload_n (i := 0) hG dX11_byRecipes_5 rfl rfl ?_
      refine z_get_11_0 hG dX11_byRecipes_6 FL_X11_7 ?_
      refine z_iconst hG dX11_byRecipes_9 rfl ?_
      refine z_iald hG dX11_byRecipes_10 rfl rfl (by omega) (by omega) ?_
      rw [e2]
      refine z_icmp_ge hG dX11_byRecipes_11 (tgt := 47) rfl (fun c11 => ?_) (fun c11 => ?_)
      · refine z_iload_n (i := 2) hG dX11_byRecipes_47 rfl rfl ?_
        refine z_iret hG hE dX11_byRecipes_48 trivial ?_
        refine ⟨?_, rfl⟩
        rw [zsum_stop (k := k) 4 (by have := hp.2.1; omega) (fun j j0 j1 => zscal_0 ((hp.2.2.1 j (by omega) (by omega)).1 (by omega)))]
      · exact absurd c11 (by omega)
    | succ N ih =>
      intro k hk
      have h4 := hp.2.1
      have er := eR k (by omega) (by omega) (by omega)
      have hrk := hrec k (by omega) (by omega)
      have hb1 := (hp.2.2.1 k (by omega) (by omega)).2 (by omega)
      have hxi := hrk.2.2.2 i hi.1 hi.2
      have hm := zmulb hxi.1 hxi.2 hrk.1.1 hrk.1.2
      have hs := zsum_le (f := fun r => zscal a 0 r (a 17 0 r i)) (B := 10020) k (fun r r0 r1 => zscal_le ((hrec r r0 (by omega)).2.2.2 i hi.1 hi.2) (hrec r r0 (by omega)).1 (hrec r r0 (by omega)).2.1.2)
      have hsk := zscal_le (m := a) (s := 0) (r := k) hxi hrk.1 hrk.2.1.2
      have hzk : (a 17 0 k i * a 4 0 k 1 + a 4 0 k 0 - 1) / a 4 0 k 0 = zscal a 0 k (a 17 0 k i) := by
        unfold zscal
        rw [if_neg (by omega)]
      refine z_iload_n (i := 3) hG dX11_byRecipes_4 rfl rfl ?_
      refine z_aload_n (i := 0) hG dX11_byRecipes_5 rfl rfl ?_
      refine z_get_11_0 hG dX11_byRecipes_6 FL_X11_7 ?_
      refine z_iconst hG dX11_byRecipes_9 rfl ?_
      refine z_iald hG dX11_byRecipes_10 rfl rfl (by omega) (by omega) ?_
      rw [e2]
      refine z_icmp_ge hG dX11_byRecipes_11 (tgt := 47) rfl (fun c11 => ?_) (fun c11 => ?_)
      · exact absurd c11 (by omega)
      · refine z_iload_n (i := 2) hG dX11_byRecipes_14 rfl rfl ?_
        refine z_aload_n (i := 0) hG dX11_byRecipes_15 rfl rfl ?_
        refine z_iload_n (i := 3) hG dX11_byRecipes_16 rfl rfl ?_
        refine z_iconst hG dX11_byRecipes_17 rfl ?_
        refine z_iload_n (i := 1) hG dX11_byRecipes_18 rfl rfl ?_
        refine z_iadd hG dX11_byRecipes_19 (by omega) (by omega) ?_
        refine z_callV hG dX11_byRecipes_20 LV_X11_68 (ct_X11_ofARecipe l g ⟨by omega, by omega⟩ ⟨by omega, by omega⟩) (by decide) rfl rfl rfl (Nat.le_of_ble_eq_true rfl) ?_
        intro v9 m9 h9
        rw [h9.1, h9.2, er.2.2.2.1 i hi.1 hi.2]
        clear h9 m9 v9
        refine z_aload_n (i := 0) hG dX11_byRecipes_23 rfl rfl ?_
        refine z_iload_n (i := 3) hG dX11_byRecipes_24 rfl rfl ?_
        refine z_iconst hG dX11_byRecipes_25 rfl ?_
        refine z_callV hG dX11_byRecipes_26 LV_X11_68 (ct_X11_ofARecipe l g ⟨by omega, by omega⟩ ⟨by omega, by omega⟩) (by decide) rfl rfl rfl (Nat.le_of_ble_eq_true rfl) ?_
        intro v9 m9 h9
        rw [h9.1, h9.2, er.2.2.1]
        clear h9 m9 v9
        refine z_imul hG dX11_byRecipes_29 (by omega) (by omega) ?_
        refine z_aload_n (i := 0) hG dX11_byRecipes_30 rfl rfl ?_
        refine z_iload_n (i := 3) hG dX11_byRecipes_31 rfl rfl ?_
        refine z_iconst hG dX11_byRecipes_32 rfl ?_
        refine z_callV hG dX11_byRecipes_33 LV_X11_68 (ct_X11_ofARecipe l g ⟨by omega, by omega⟩ ⟨by omega, by omega⟩) (by decide) rfl rfl rfl (Nat.le_of_ble_eq_true rfl) ?_
        intro v9 m9 h9
        rw [h9.1, h9.2, Int.add_zero, er.1]
        clear h9 m9 v9
        refine z_callS hG dX11_byRecipes_36 LS_X11_112 (ct_X11_up l g (by omega) (by omega) (by omega)) (by decide) rfl rfl (Nat.le_of_ble_eq_true rfl) ?_
        intro v9 m9 h9
        rw [h9.1, h9.2, hzk]
        clear h9 m9 v9
        refine z_iadd hG dX11_byRecipes_39 (by omega) (by omega) ?_
        refine z_istore_n (i := 2) hG dX11_byRecipes_40 rfl (by decide) (ls2 := [_, _, _, _]) rfl ?_
        refine z_iinc hG dX11_byRecipes_41 (by decide) rfl (by omega) (by omega) (ls2 := [_, _, _, _]) rfl ?_
        refine z_goto hG dX11_byRecipes_44 (tgt := 4) rfl ?_
        exact ih (k + 1) (by omega)
  refine z_iconst hG dX11_byRecipes_0 rfl ?_
  refine z_istore_n (i := 2) hG dX11_byRecipes_1 rfl (by decide) (ls2 := [_, _, _, _]) rfl ?_
  refine z_iconst hG dX11_byRecipes_2 rfl ?_
  refine z_istore_n (i := 3) hG dX11_byRecipes_3 rfl (by decide) (ls2 := [_, _, _, _]) rfl ?_
  exact loop (a 2 0 0 5).toNat 0 (by have := hp.2.1; omega)
set_option maxRecDepth 20000 in
theorem ct_X11_clearNeeds (l : Launch) (g : zG) {a m : zM} (hp : zmp a) (hR : zRel a 0 (m 45 0 0)) : zMet l g Y_X11_clearNeeds [zr 11 0 0] m (fun v m' => v = none ∧ zMod m' (zpN (zDc a) 0) ∧ zMo m' m) := by
  refine zMet_introF (by decide +kernel) (Nat.le_of_ble_eq_true rfl) (ls0 := [some (zr 11 0 0), none, none]) rfl fun X hG hE => ?_
  have hG : zGood X l g RX11 cX11_clearNeeds 2 3 := hG
  have hE : zEnd X (none) _ := hE
  have inner : ∀ (N : Nat) (i k : Int) (m0 : zM), (0 ≤ i ∧ i < 8) → 0 ≤ k → k + N = 3 → zMo m0 m → (∀ j : Int, 0 ≤ j → j < i → zMr m0 j (zpN (zDc a) 0)) → (m0 50 0 0 i = zDc a 0 i 0 ∧ m0 51 0 0 i = 0 ∧ m0 52 0 0 i = 0 ∧ m0 53 0 0 i = 0 ∧ m0 54 0 0 i = 0 ∧ m0 55 0 0 i = 0 ∧ m0 56 0 0 i = 0 ∧ m0 57 0 0 i = 0) → (∀ q : Int, 0 ≤ q → q < k → m0 58 0 0 (3 * i + q) = 0) → (∀ m1 : zM, zMo m1 m → (∀ j : Int, 0 ≤ j → j < i + 1 → zMr m1 j (zpN (zDc a) 0)) → zZ X 106 [some (zr 11 0 0), some (zi i), none] [] m1) → zZ X 84 [some (zr 11 0 0), some (zi i), some (zi k)] [] m0 := by
    intro N
    induction N with
    | zero =>
      intro i k m0 hi hk0 hk ho hJ h8 hq K
      refine z_iload_n (i := 2) hG dX11_clearNeeds_84 rfl rfl ?_
      refine z_iconst hG dX11_clearNeeds_85 rfl ?_
      refine z_icmp_ge hG dX11_clearNeeds_86 (tgt := 106) rfl (fun c86 => ?_) (fun c86 => ?_)
      · refine z_forget [true, true, false] rfl (K m0 ho (fun j j0 j1 => ?_))
        by_cases c : j = i
        · subst c
          obtain ⟨h50, h51, h52, h53, h54, h55, h56, h57⟩ := h8
          have q0 := hq 0 (by decide) (by omega)
          rw [Int.add_zero] at q0
          exact ⟨⟨h50, h51, h52, h53, h54, h55, h56, h57⟩, q0, hq 1 (by decide) (by omega), hq 2 (by decide) (by omega)⟩
        · exact hJ j j0 (by omega)
      · exact absurd c86 (by omega)
    | succ N ih =>
      intro i k m0 hi hk0 hk ho hJ h8 hq K
      refine z_iload_n (i := 2) hG dX11_clearNeeds_84 rfl rfl ?_
      refine z_iconst hG dX11_clearNeeds_85 rfl ?_
      refine z_icmp_ge hG dX11_clearNeeds_86 (tgt := 106) rfl (fun c86 => ?_) (fun c86 => ?_)
      · exact absurd c86 (by omega)
      · refine z_aload_n (i := 0) hG dX11_clearNeeds_89 rfl rfl ?_
        refine z_get_11_15 hG dX11_clearNeeds_90 FL_X11_50 ?_
        refine z_iconst hG dX11_clearNeeds_93 rfl ?_
        refine z_iload_n (i := 1) hG dX11_clearNeeds_94 rfl rfl ?_
        refine z_imul hG dX11_clearNeeds_95 (by omega) (by omega) ?_
        refine z_iload_n (i := 2) hG dX11_clearNeeds_96 rfl rfl ?_
        refine z_iadd hG dX11_clearNeeds_97 (by omega) (by omega) ?_
        refine z_iconst hG dX11_clearNeeds_98 rfl ?_
        refine z_iast hG dX11_clearNeeds_99 rfl rfl (by omega) (by omega) ?_
        refine z_iinc hG dX11_clearNeeds_100 (by decide) rfl (by omega) (by omega) (ls2 := [_, _, _]) rfl ?_
        refine z_goto hG dX11_clearNeeds_103 (tgt := 84) rfl ?_
        have he : ∀ (t : Nat) (s j q : Int), (t ≠ 58 ∨ q ≠ 3 * i + k) → zset m0 58 0 0 (3 * i + k) 0 t s j q = m0 t s j q := fun t s j q h => by
          simp only [zset]
          rw [if_neg (by omega)]
        refine ih i (k + 1) _ hi (by omega) (by omega) (fun t s j q h1 h2 => by rw [he t s j q (by omega)]; exact ho t s j q h1 h2) (fun j j0 j1 => ?_) ?_ (fun q q0 q1 => ?_) K
        · have := hJ j j0 j1
          rw [zMr, he 50 0 0 j (by omega), he 51 0 0 j (by omega), he 52 0 0 j (by omega), he 53 0 0 j (by omega), he 54 0 0 j (by omega), he 55 0 0 j (by omega), he 56 0 0 j (by omega), he 57 0 0 j (by omega), he 58 0 0 _ (by omega), he 58 0 0 (3 * j + 1) (by omega), he 58 0 0 (3 * j + 2) (by omega)]
          exact this
        · rw [he 50 0 0 i (by omega), he 51 0 0 i (by omega), he 52 0 0 i (by omega), he 53 0 0 i (by omega), he 54 0 0 i (by omega), he 55 0 0 i (by omega), he 56 0 0 i (by omega), he 57 0 0 i (by omega)]
          exact h8
        · by_cases c : q = k
          · subst c
            simp [zset]
          · rw [he 58 0 0 _ (by omega)]
            exact hq q q0 (by omega)
  have outer : ∀ (N : Nat) (i : Int) (m0 : zM) (k : Option zV), 0 ≤ i → i + N = 8 → zMo m0 m → (∀ j : Int, 0 ≤ j → j < i → zMr m0 j (zpN (zDc a) 0)) → zZ X 2 [some (zr 11 0 0), some (zi i), k] [] m0 := by
    intro N
    induction N with
    | zero =>
      intro i m0 k hi0 hi ho hJ
      obtain rfl : i = 8 := by omega
      refine z_iload_n (i := 1) hG dX11_clearNeeds_2 rfl rfl ?_
      refine z_bipush hG dX11_clearNeeds_3 rfl ?_
      refine z_icmp_ge hG dX11_clearNeeds_5 (tgt := 112) rfl (fun c5 => ?_) (fun c5 => ?_)
      · refine z_vret hG hE dX11_clearNeeds_112 ?_
        exact ⟨rfl, hJ, ho⟩
      · exact absurd c5 (by omega)
    | succ N ih =>
      intro i m0 k hi0 hi ho hJ
      have hR0 : zRel a 0 (m0 45 0 0) := by
        rw [show m0 45 0 0 = m 45 0 0 from funext fun q => ho 45 0 0 q (by omega) (by omega)]
        exact hR
      refine z_iload_n (i := 1) hG dX11_clearNeeds_2 rfl rfl ?_
      refine z_bipush hG dX11_clearNeeds_3 rfl ?_
      refine z_icmp_ge hG dX11_clearNeeds_5 (tgt := 112) rfl (fun c5 => ?_) (fun c5 => ?_)
      · exact absurd c5 (by omega)
      · refine z_aload_n (i := 0) hG dX11_clearNeeds_8 rfl rfl ?_
        refine z_get_11_7 hG dX11_clearNeeds_9 FL_X11_26 ?_
        refine z_iload_n (i := 1) hG dX11_clearNeeds_12 rfl rfl ?_
        refine z_iload_n (i := 1) hG dX11_clearNeeds_13 rfl rfl ?_
        refine z_aload_n (i := 0) hG dX11_clearNeeds_14 rfl rfl ?_
        refine z_get_11_0 hG dX11_clearNeeds_15 FL_X11_7 ?_
        refine z_iconst hG dX11_clearNeeds_18 rfl ?_
        refine z_iald hG dX11_clearNeeds_19 rfl rfl (by omega) (by omega) ?_
        rw [hR0.2.1]
        refine z_icmp_ge hG dX11_clearNeeds_20 (tgt := 31) rfl (fun c20 => ?_) (fun c20 => ?_)
        · refine z_iconst hG dX11_clearNeeds_31 rfl ?_
          refine z_top (y := zDc a 0 i 0) (by simp only [zDc]; first | (rw [if_pos (by omega)]; done) | (rw [if_neg (by omega)]; done)) ?_
          refine z_iast hG dX11_clearNeeds_32 rfl rfl (by omega) (by omega) ?_
          refine z_aload_n (i := 0) hG dX11_clearNeeds_33 rfl rfl ?_
          refine z_get_11_8 hG dX11_clearNeeds_34 FL_X11_29 ?_
          refine z_iload_n (i := 1) hG dX11_clearNeeds_37 rfl rfl ?_
          refine z_iconst hG dX11_clearNeeds_38 rfl ?_
          refine z_iast hG dX11_clearNeeds_39 rfl rfl (by omega) (by omega) ?_
          refine z_aload_n (i := 0) hG dX11_clearNeeds_40 rfl rfl ?_
          refine z_get_11_9 hG dX11_clearNeeds_41 FL_X11_32 ?_
          refine z_iload_n (i := 1) hG dX11_clearNeeds_44 rfl rfl ?_
          refine z_iconst hG dX11_clearNeeds_45 rfl ?_
          refine z_iast hG dX11_clearNeeds_46 rfl rfl (by omega) (by omega) ?_
          refine z_aload_n (i := 0) hG dX11_clearNeeds_47 rfl rfl ?_
          refine z_get_11_10 hG dX11_clearNeeds_48 FL_X11_35 ?_
          refine z_iload_n (i := 1) hG dX11_clearNeeds_51 rfl rfl ?_
          refine z_iconst hG dX11_clearNeeds_52 rfl ?_
          refine z_iast hG dX11_clearNeeds_53 rfl rfl (by omega) (by omega) ?_
          refine z_aload_n (i := 0) hG dX11_clearNeeds_54 rfl rfl ?_
          refine z_get_11_11 hG dX11_clearNeeds_55 FL_X11_38 ?_
          refine z_iload_n (i := 1) hG dX11_clearNeeds_58 rfl rfl ?_
          refine z_iconst hG dX11_clearNeeds_59 rfl ?_
          refine z_iast hG dX11_clearNeeds_60 rfl rfl (by omega) (by omega) ?_
          refine z_aload_n (i := 0) hG dX11_clearNeeds_61 rfl rfl ?_
          refine z_get_11_12 hG dX11_clearNeeds_62 FL_X11_41 ?_
          refine z_iload_n (i := 1) hG dX11_clearNeeds_65 rfl rfl ?_
          refine z_iconst hG dX11_clearNeeds_66 rfl ?_
          refine z_iast hG dX11_clearNeeds_67 rfl rfl (by omega) (by omega) ?_
          refine z_aload_n (i := 0) hG dX11_clearNeeds_68 rfl rfl ?_
          refine z_get_11_13 hG dX11_clearNeeds_69 FL_X11_44 ?_
          refine z_iload_n (i := 1) hG dX11_clearNeeds_72 rfl rfl ?_
          refine z_iconst hG dX11_clearNeeds_73 rfl ?_
          refine z_iast hG dX11_clearNeeds_74 rfl rfl (by omega) (by omega) ?_
          refine z_aload_n (i := 0) hG dX11_clearNeeds_75 rfl rfl ?_
          refine z_get_11_14 hG dX11_clearNeeds_76 FL_X11_47 ?_
          refine z_iload_n (i := 1) hG dX11_clearNeeds_79 rfl rfl ?_
          refine z_iconst hG dX11_clearNeeds_80 rfl ?_
          refine z_iast hG dX11_clearNeeds_81 rfl rfl (by omega) (by omega) ?_
          refine z_iconst hG dX11_clearNeeds_82 rfl ?_
          refine z_istore_n (i := 2) hG dX11_clearNeeds_83 rfl (by decide) (ls2 := [_, _, _]) rfl ?_
          have he : ∀ (t : Nat) (s j q : Int), ((t < 50 ∨ 57 < t) ∨ q ≠ i) → zset (zset (zset (zset (zset (zset (zset (zset m0 50 0 0 i (zDc a 0 i 0)) 51 0 0 i 0) 52 0 0 i 0) 53 0 0 i 0) 54 0 0 i 0) 55 0 0 i 0) 56 0 0 i 0) 57 0 0 i 0 t s j q = m0 t s j q := fun t s j q h => by
            simp only [zset]
            rw [if_neg (by omega), if_neg (by omega), if_neg (by omega), if_neg (by omega), if_neg (by omega), if_neg (by omega), if_neg (by omega), if_neg (by omega)]
          refine inner 3 i 0 _ ⟨hi0, by omega⟩ (by decide) rfl (fun t s j q h1 h2 => by rw [he t s j q (by omega)]; exact ho t s j q h1 h2) (fun j j0 j1 => ?_) (by simp [zset]) (fun q q0 q1 => by omega) (fun m1 ho1 hJ1 => ?_)
          · have := hJ j j0 j1
            rw [zMr, he 50 0 0 j (by omega), he 51 0 0 j (by omega), he 52 0 0 j (by omega), he 53 0 0 j (by omega), he 54 0 0 j (by omega), he 55 0 0 j (by omega), he 56 0 0 j (by omega), he 57 0 0 j (by omega), he 58 0 0 _ (by omega), he 58 0 0 (3 * j + 1) (by omega), he 58 0 0 (3 * j + 2) (by omega)]
            exact this
          refine z_iinc hG dX11_clearNeeds_106 (by decide) rfl (by omega) (by omega) (ls2 := [_, _, _]) rfl ?_
          refine z_goto hG dX11_clearNeeds_109 (tgt := 2) rfl ?_
          exact ih (i + 1) m1 none (by omega) (by omega) ho1 hJ1
        · refine z_aload_n (i := 0) hG dX11_clearNeeds_23 rfl rfl ?_
          refine z_iload_n (i := 1) hG dX11_clearNeeds_24 rfl rfl ?_
          refine z_callV hG dX11_clearNeeds_25 LV_X11_138 (ct_X11_byRecipes l g hp hR0 ⟨by omega, by omega⟩) (by decide) rfl rfl rfl (Nat.le_of_ble_eq_true rfl) ?_
          intro v9 m9 h9
          rw [h9.1, h9.2]
          clear h9 m9 v9
          refine z_goto hG dX11_clearNeeds_28 (tgt := 32) rfl ?_
          refine z_top (y := zDc a 0 i 0) (by simp only [zDc]; first | (rw [if_pos (by omega)]; done) | (rw [if_neg (by omega)]; done)) ?_
          refine z_iast hG dX11_clearNeeds_32 rfl rfl (by omega) (by omega) ?_
          refine z_aload_n (i := 0) hG dX11_clearNeeds_33 rfl rfl ?_
          refine z_get_11_8 hG dX11_clearNeeds_34 FL_X11_29 ?_
          refine z_iload_n (i := 1) hG dX11_clearNeeds_37 rfl rfl ?_
          refine z_iconst hG dX11_clearNeeds_38 rfl ?_
          refine z_iast hG dX11_clearNeeds_39 rfl rfl (by omega) (by omega) ?_
          refine z_aload_n (i := 0) hG dX11_clearNeeds_40 rfl rfl ?_
          refine z_get_11_9 hG dX11_clearNeeds_41 FL_X11_32 ?_
          refine z_iload_n (i := 1) hG dX11_clearNeeds_44 rfl rfl ?_
          refine z_iconst hG dX11_clearNeeds_45 rfl ?_
          refine z_iast hG dX11_clearNeeds_46 rfl rfl (by omega) (by omega) ?_
          refine z_aload_n (i := 0) hG dX11_clearNeeds_47 rfl rfl ?_
          refine z_get_11_10 hG dX11_clearNeeds_48 FL_X11_35 ?_
          refine z_iload_n (i := 1) hG dX11_clearNeeds_51 rfl rfl ?_
          refine z_iconst hG dX11_clearNeeds_52 rfl ?_
          refine z_iast hG dX11_clearNeeds_53 rfl rfl (by omega) (by omega) ?_
          refine z_aload_n (i := 0) hG dX11_clearNeeds_54 rfl rfl ?_
          refine z_get_11_11 hG dX11_clearNeeds_55 FL_X11_38 ?_
          refine z_iload_n (i := 1) hG dX11_clearNeeds_58 rfl rfl ?_
          refine z_iconst hG dX11_clearNeeds_59 rfl ?_
          refine z_iast hG dX11_clearNeeds_60 rfl rfl (by omega) (by omega) ?_
          refine z_aload_n (i := 0) hG dX11_clearNeeds_61 rfl rfl ?_
          refine z_get_11_12 hG dX11_clearNeeds_62 FL_X11_41 ?_
          refine z_iload_n (i := 1) hG dX11_clearNeeds_65 rfl rfl ?_
          refine z_iconst hG dX11_clearNeeds_66 rfl ?_
          refine z_iast hG dX11_clearNeeds_67 rfl rfl (by omega) (by omega) ?_
          refine z_aload_n (i := 0) hG dX11_clearNeeds_68 rfl rfl ?_
          refine z_get_11_13 hG dX11_clearNeeds_69 FL_X11_44 ?_
          refine z_iload_n (i := 1) hG dX11_clearNeeds_72 rfl rfl ?_
          refine z_iconst hG dX11_clearNeeds_73 rfl ?_
          refine z_iast hG dX11_clearNeeds_74 rfl rfl (by omega) (by omega) ?_
          refine z_aload_n (i := 0) hG dX11_clearNeeds_75 rfl rfl ?_
          refine z_get_11_14 hG dX11_clearNeeds_76 FL_X11_47 ?_
          refine z_iload_n (i := 1) hG dX11_clearNeeds_79 rfl rfl ?_
          refine z_iconst hG dX11_clearNeeds_80 rfl ?_
          refine z_iast hG dX11_clearNeeds_81 rfl rfl (by omega) (by omega) ?_
          refine z_iconst hG dX11_clearNeeds_82 rfl ?_
          refine z_istore_n (i := 2) hG dX11_clearNeeds_83 rfl (by decide) (ls2 := [_, _, _]) rfl ?_
          have he : ∀ (t : Nat) (s j q : Int), ((t < 50 ∨ 57 < t) ∨ q ≠ i) → zset (zset (zset (zset (zset (zset (zset (zset m0 50 0 0 i (zDc a 0 i 0)) 51 0 0 i 0) 52 0 0 i 0) 53 0 0 i 0) 54 0 0 i 0) 55 0 0 i 0) 56 0 0 i 0) 57 0 0 i 0 t s j q = m0 t s j q := fun t s j q h => by
            simp only [zset]
            rw [if_neg (by omega), if_neg (by omega), if_neg (by omega), if_neg (by omega), if_neg (by omega), if_neg (by omega), if_neg (by omega), if_neg (by omega)]
          refine inner 3 i 0 _ ⟨hi0, by omega⟩ (by decide) rfl (fun t s j q h1 h2 => by rw [he t s j q (by omega)]; exact ho t s j q h1 h2) (fun j j0 j1 => ?_) (by simp [zset]) (fun q q0 q1 => by omega) (fun m1 ho1 hJ1 => ?_)
          · have := hJ j j0 j1
            rw [zMr, he 50 0 0 j (by omega), he 51 0 0 j (by omega), he 52 0 0 j (by omega), he 53 0 0 j (by omega), he 54 0 0 j (by omega), he 55 0 0 j (by omega), he 56 0 0 j (by omega), he 57 0 0 j (by omega), he 58 0 0 _ (by omega), he 58 0 0 (3 * j + 1) (by omega), he 58 0 0 (3 * j + 2) (by omega)]
            exact this
          refine z_iinc hG dX11_clearNeeds_106 (by decide) rfl (by omega) (by omega) (ls2 := [_, _, _]) rfl ?_
          refine z_goto hG dX11_clearNeeds_109 (tgt := 2) rfl ?_
          exact ih (i + 1) m1 none (by omega) (by omega) ho1 hJ1
  refine z_iconst hG dX11_clearNeeds_0 rfl ?_
  refine z_istore_n (i := 1) hG dX11_clearNeeds_1 rfl (by decide) (ls2 := [_, _, _]) rfl ?_
  exact outer 8 0 m none (by decide) rfl (fun _ _ _ _ _ _ => rfl) (fun j j0 j1 => by omega)
