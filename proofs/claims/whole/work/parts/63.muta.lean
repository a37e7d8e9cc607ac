set_option maxRecDepth 20000 in
theorem ct_X11_hands (l : Launch) (g : zG) {a m : zM} {B : Int} {h : Int} (hI : zInv B a) (hB : B ≤ 11900000) (hR : zRM a m) : zMet l g Y_X11_hands [zr 11 0 0, zi h] m (fun v m' => v = some (zi (zk_hands h a).1) ∧ zRM (zk_hands h a).2 m' ∧ zKt m' m) := by
  refine zMet_introF (by decide +kernel) (Nat.le_of_ble_eq_true rfl) (ls0 := [some (zr 11 0 0), some (zi h), none]) rfl fun X hG hE => ?_
  have hG : zGood X l g RX11 cX11_hands 1 3 := hG
  have hE : zEnd X (some .int) _ := hE
  have hI0 := zInv0 hI
  obtain ⟨hday, hhan, hing, hrcp, hrec, hboo, hrow, hrow2, hstp⟩ := id hI0
  obtain ⟨⟨e0, e1, e2, e3, e4, e5, eI, eZ, eR⟩, eN, eP, eS, e6, eT⟩ := id hR
  have hb : ∀ (t : Nat) (i k : Int), t ≠ 1 → zrecd a t 0 i k = a t 0 i k := fun t i k ht => zrecd_0 hI.1.1.1 ht
  have hK := zRM_keep hI.1.1 hI.1.2 (fun s s0 s1 => (hI.2.2.1 s s0 s1).1.1) hR
  refine z_iload_n (i := 1) hG dX11_hands_0 rfl rfl ?_
  refine z_iconst hG dX11_hands_1 rfl ?_
  refine z_bipush hG dX11_hands_2 rfl ?_
  refine z_callS hG dX11_hands_4 LS_X11_76 (ct_X11_in l g) (by decide) rfl rfl (Nat.le_of_ble_eq_true rfl) ?_
  intro v9 m9 h9
  rw [h9.1, h9.2]
  clear h9 m9 v9
  refine z_if_ne hG dX11_hands_7 (tgt := 13) rfl (fun c7 => ?_) (fun c7 => ?_)
  · try simp only [zite_eq0, ne_eq, Classical.not_not] at c7
    refine z_aload_n (i := 0) hG dX11_hands_13 rfl rfl ?_
    refine z_callV hG dX11_hands_14 LV_X11_80 (ct_X11_keep l g (by rw [eN]; exact hI.1.2)) (by decide) rfl rfl rfl (Nat.le_of_ble_eq_true rfl) ?_
    intro v9 m9 h9
    rw [h9.1, h9.2]
    clear h9 m9 v9
    have hkt : zKt (zkp m) m := zKt_kp
    have h45 : ∀ q, zkp m 45 0 0 q = m 45 0 0 q := fun q => zkp_o (by decide) (Or.inl (by decide))
    generalize zkp m = n at *
    refine z_aload_n (i := 0) hG dX11_hands_17 rfl rfl ?_
    refine z_get_11_0 hG dX11_hands_18 FL_X11_7 ?_
    refine z_iconst hG dX11_hands_21 rfl ?_
    refine z_iald hG dX11_hands_22 rfl rfl (by omega) (by omega) ?_
    refine z_istore_n (i := 2) hG dX11_hands_23 rfl (by decide) (ls2 := [_, _, _]) rfl ?_
    refine z_aload_n (i := 0) hG dX11_hands_24 rfl rfl ?_
    refine z_get_11_0 hG dX11_hands_25 FL_X11_7 ?_
    refine z_iconst hG dX11_hands_28 rfl ?_
    refine z_iload_n (i := 1) hG dX11_hands_29 rfl rfl ?_
    refine z_iast hG dX11_hands_30 rfl rfl (by omega) (by omega) ?_
    refine z_iload_n (i := 2) hG dX11_hands_31 rfl rfl ?_
    refine z_iret hG hE dX11_hands_32 trivial ?_
    unfold zk_hands
    repeat (first | rw [if_pos (by omega)] | rw [if_neg (by omega)])
    dsimp only
    refine ⟨by rw [h45, e3], zRM_now hK (fun t s i k hh => by simp only [zset]; (repeat rw [if_neg (by omega)])) (fun t k hh => by simp only [zset]; (repeat rw [if_neg (by omega)])) (zRel_0 hK.1 (fun q h1 => by simp only [zset]; (repeat rw [if_neg (by omega)])) (fun t j k hh => by simp only [zset]; (repeat rw [if_neg (by omega)])) rfl ?_ ?_), zKt_set hkt (Or.inr (by decide))⟩
    · show n 45 0 0 4 = zrecd a 2 0 0 2
      exact hK.1.2.2.2.2.1
    · show n 45 0 0 5 = zrecd a 2 0 0 3
      exact hK.1.2.2.2.2.2.1
  · try simp only [zite_eq0, ne_eq, Classical.not_not] at c7
    refine z_bipush hG dX11_hands_10 rfl ?_
    refine z_iret hG hE dX11_hands_12 trivial ?_
    unfold zk_hands
    repeat (first | rw [if_pos (by omega)] | rw [if_neg (by omega)])
    exact ⟨rfl, hR, zKt_rf⟩
set_option maxRecDepth 20000 in
theorem ct_X11_menu (l : Launch) (g : zG) {a m : zM} {B : Int} {r p : Int} (hI : zInv B a) (hB : B ≤ 11900000) (hR : zRM a m) : zMet l g Y_X11_menu [zr 11 0 0, zi r, zi p] m (fun v m' => v = some (zi (zk_menu r p a).1) ∧ zRM (zk_menu r p a).2 m' ∧ zKt m' m) := by
  refine zMet_introF (by decide +kernel) (Nat.le_of_ble_eq_true rfl) (ls0 := [some (zr 11 0 0), some (zi r), some (zi p), none]) rfl fun X hG hE => ?_
  have hG : zGood X l g RX11 cX11_menu 1 4 := hG
  have hE : zEnd X (some .int) _ := hE
  have hI0 := zInv0 hI
  obtain ⟨hday, hhan, hing, hrcp, hrec, hboo, hrow, hrow2, hstp⟩ := id hI0
  obtain ⟨⟨e0, e1, e2, e3, e4, e5, eI, eZ, eR⟩, eN, eP, eS, e6, eT⟩ := id hR
  have hb : ∀ (t : Nat) (i k : Int), t ≠ 1 → zrecd a t 0 i k = a t 0 i k := fun t i k ht => zrecd_0 hI.1.1.1 ht
  have hK := zRM_keep hI.1.1 hI.1.2 (fun s s0 s1 => (hI.2.2.1 s s0 s1).1.1) hR
  refine z_aload_n (i := 0) hG dX11_menu_0 rfl rfl ?_
  refine z_iload_n (i := 1) hG dX11_menu_1 rfl rfl ?_
  refine z_callV hG dX11_menu_2 LV_X11_246 (ct_X11_isRecipe l g) (by decide) rfl rfl rfl (Nat.le_of_ble_eq_true rfl) ?_
  intro v9 m9 h9
  rw [h9.1, h9.2, e2]
  clear h9 m9 v9
  refine z_if_ne hG dX11_menu_5 (tgt := 10) rfl (fun c5 => ?_) (fun c5 => ?_)
  · try simp only [zite_eq0, ne_eq, Classical.not_not] at c5
    refine z_iload_n (i := 2) hG dX11_menu_10 rfl rfl ?_
    refine z_iconst hG dX11_menu_11 rfl ?_
    refine z_bipush hG dX11_menu_12 rfl ?_
    refine z_callS hG dX11_menu_14 LS_X11_76 (ct_X11_in l g) (by decide) rfl rfl (Nat.le_of_ble_eq_true rfl) ?_
    intro v9 m9 h9
    rw [h9.1, h9.2]
    clear h9 m9 v9
    refine z_if_ne hG dX11_menu_17 (tgt := 23) rfl (fun c17 => ?_) (fun c17 => ?_)
    · try simp only [zite_eq0, ne_eq, Classical.not_not] at c17
      refine z_aload_n (i := 0) hG dX11_menu_23 rfl rfl ?_
      refine z_callV hG dX11_menu_24 LV_X11_80 (ct_X11_keep l g (by rw [eN]; exact hI.1.2)) (by decide) rfl rfl rfl (Nat.le_of_ble_eq_true rfl) ?_
      intro v9 m9 h9
      rw [h9.1, h9.2]
      clear h9 m9 v9
      have hkt : zKt (zkp m) m := zKt_kp
      have h45 : ∀ q, zkp m 45 0 0 q = m 45 0 0 q := fun q => zkp_o (by decide) (Or.inl (by decide))
      generalize zkp m = n at *
      refine z_aload_n (i := 0) hG dX11_menu_27 rfl rfl ?_
      refine z_iload_n (i := 1) hG dX11_menu_28 rfl rfl ?_
      refine z_iconst hG dX11_menu_29 rfl ?_
      refine z_callV hG dX11_menu_30 LV_X11_68 (ct_X11_ofARecipe l g ⟨by omega, by omega⟩ ⟨by omega, by omega⟩) (by decide) rfl rfl rfl (Nat.le_of_ble_eq_true rfl) ?_
      intro v9 m9 h9
      rw [h9.1, h9.2]
      clear h9 m9 v9
      refine z_istore_n (i := 3) hG dX11_menu_33 rfl (by decide) (ls2 := [_, _, _, _]) rfl ?_
      refine z_aload_n (i := 0) hG dX11_menu_34 rfl rfl ?_
      refine z_get_11_0 hG dX11_menu_35 FL_X11_7 ?_
      refine z_sipush hG dX11_menu_38 rfl ?_
      refine z_bipush hG dX11_menu_41 rfl ?_
      refine z_iload_n (i := 1) hG dX11_menu_43 rfl rfl ?_
      refine z_imul hG dX11_menu_44 (by omega) (by omega) ?_
      refine z_iadd hG dX11_menu_45 (by omega) (by omega) ?_
      refine z_iconst hG dX11_menu_46 rfl ?_
      refine z_iadd hG dX11_menu_47 (by omega) (by omega) ?_
      refine z_iload_n (i := 2) hG dX11_menu_48 rfl rfl ?_
      refine z_iast hG dX11_menu_49 rfl rfl (by omega) (by omega) ?_
      refine z_iload_n (i := 3) hG dX11_menu_50 rfl rfl ?_
      refine z_iret hG hE dX11_menu_51 trivial ?_
      unfold zk_menu
      repeat (first | rw [if_pos (by omega)] | rw [if_neg (by omega)])
      dsimp only
      refine ⟨by rw [h45, (eR r (by omega) (by omega) (by omega)).2.2.1], zRM_now hK (fun t s i k hh => by simp only [zset]; (repeat rw [if_neg (by omega)])) (fun t k hh => by simp only [zset]; (repeat rw [if_neg (by omega)])) (zRel_r r (by omega) hK.1 (fun q h1 h2 => by simp only [zset]; (repeat rw [if_neg (by omega)])) (fun t i k hh => by simp only [zset]; (repeat rw [if_neg (by omega)])) (by simp only [zset]; (repeat rw [if_neg (by omega)]); exact hK.1.2.2.1) (fun q h1 h2 => h2) (fun h1 h2 => ?_)), zKt_set hkt (Or.inr (by decide))⟩
      obtain ⟨a0, a1, a2, a3, a4⟩ := hK.1.2.2.2.2.2.2.2.2 r (by omega) h1 h2
      refine ⟨?_, ?_, ?_, fun k k0 k1 => ?_, fun k w k0 k1 k2 w0 w1 => ?_⟩
      · simp only [zset]; (repeat rw [if_neg (by omega)]); exact a0
      · simp only [zset]; (repeat rw [if_neg (by omega)]); exact a1
      · simp [zset]
      · simp only [zset]; (repeat rw [if_neg (by omega)]); exact a3 k k0 k1
      · have k2 : k < zrecd a 4 0 r 2 := by simpa [zset] using k2
        simp only [zset]; (repeat rw [if_neg (by omega)]); exact a4 k w k0 k1 k2 w0 w1
    · try simp only [zite_eq0, ne_eq, Classical.not_not] at c17
      refine z_bipush hG dX11_menu_20 rfl ?_
      refine z_iret hG hE dX11_menu_22 trivial ?_
      unfold zk_menu
      repeat (first | rw [if_pos (by omega)] | rw [if_neg (by omega)])
      exact ⟨rfl, hR, zKt_rf⟩
  · try simp only [zite_eq0, ne_eq, Classical.not_not] at c5
    refine z_iconst hG dX11_menu_8 rfl ?_
    refine z_iret hG hE dX11_menu_9 trivial ?_
    unfold zk_menu
    repeat (first | rw [if_pos (by omega)] | rw [if_neg (by omega)])
    exact ⟨rfl, hR, zKt_rf⟩
set_option maxRecDepth 20000 in
theorem ct_X11_amount (l : Launch) (g : zG) {a m : zM} {B : Int} {r i x : Int} (hI : zInv B a) (hB : B ≤ 11900000) (hR : zRM a m) : zMet l g Y_X11_amount [zr 11 0 0, zi r, zi i, zi x] m (fun v m' => v = some (zi (zk_amount r i x a).1) ∧ zRM (zk_amount r i x a).2 m' ∧ zKt m' m) := by
  refine zMet_introF (by decide +kernel) (Nat.le_of_ble_eq_true rfl) (ls0 := [some (zr 11 0 0), some (zi r), some (zi i), some (zi x), none]) rfl fun X hG hE => ?_
  have hG : zGood X l g RX11 cX11_amount 1 5 := hG
  have hE : zEnd X (some .int) _ := hE
  have hI0 := zInv0 hI
  obtain ⟨hday, hhan, hing, hrcp, hrec, hboo, hrow, hrow2, hstp⟩ := id hI0
  obtain ⟨⟨e0, e1, e2, e3, e4, e5, eI, eZ, eR⟩, eN, eP, eS, e6, eT⟩ := id hR
  have hb : ∀ (t : Nat) (i k : Int), t ≠ 1 → zrecd a t 0 i k = a t 0 i k := fun t i k ht => zrecd_0 hI.1.1.1 ht
  have hK := zRM_keep hI.1.1 hI.1.2 (fun s s0 s1 => (hI.2.2.1 s s0 s1).1.1) hR
  refine z_aload_n (i := 0) hG dX11_amount_0 rfl rfl ?_
  refine z_iload_n (i := 1) hG dX11_amount_1 rfl rfl ?_
  refine z_callV hG dX11_amount_2 LV_X11_246 (ct_X11_isRecipe l g) (by decide) rfl rfl rfl (Nat.le_of_ble_eq_true rfl) ?_
  intro v9 m9 h9
  rw [h9.1, h9.2, e2]
  clear h9 m9 v9
  refine z_if_eq hG dX11_amount_5 (tgt := 16) rfl (fun c5 => ?_) (fun c5 => ?_)
  · try simp only [zite_eq0, ne_eq, Classical.not_not] at c5
    refine z_iconst hG dX11_amount_16 rfl ?_
    refine z_iret hG hE dX11_amount_17 trivial ?_
    unfold zk_amount
    repeat (first | rw [if_pos (by omega)] | rw [if_neg (by omega)])
    exact ⟨rfl, hR, zKt_rf⟩
  · try simp only [zite_eq0, ne_eq, Classical.not_not] at c5
    refine z_aload_n (i := 0) hG dX11_amount_8 rfl rfl ?_
    refine z_iload_n (i := 2) hG dX11_amount_9 rfl rfl ?_
    refine z_callV hG dX11_amount_10 LV_X11_90 (ct_X11_isIngredient l g) (by decide) rfl rfl rfl (Nat.le_of_ble_eq_true rfl) ?_
    intro v9 m9 h9
    rw [h9.1, h9.2, e1]
    clear h9 m9 v9
    refine z_if_ne hG dX11_amount_13 (tgt := 18) rfl (fun c13 => ?_) (fun c13 => ?_)
    · try simp only [zite_eq0, ne_eq, Classical.not_not] at c13
      refine z_iload_n (i := 3) hG dX11_amount_18 rfl rfl ?_
      refine z_iconst hG dX11_amount_19 rfl ?_
      refine z_sipush hG dX11_amount_20 rfl ?_
      refine z_callS hG dX11_amount_23 LS_X11_76 (ct_X11_in l g) (by decide) rfl rfl (Nat.le_of_ble_eq_true rfl) ?_
      intro v9 m9 h9
      rw [h9.1, h9.2]
      clear h9 m9 v9
      refine z_if_ne hG dX11_amount_26 (tgt := 32) rfl (fun c26 => ?_) (fun c26 => ?_)
      · try simp only [zite_eq0, ne_eq, Classical.not_not] at c26
        refine z_aload_n (i := 0) hG dX11_amount_32 rfl rfl ?_
        refine z_callV hG dX11_amount_33 LV_X11_80 (ct_X11_keep l g (by rw [eN]; exact hI.1.2)) (by decide) rfl rfl rfl (Nat.le_of_ble_eq_true rfl) ?_
        intro v9 m9 h9
        rw [h9.1, h9.2]
        clear h9 m9 v9
        have hkt : zKt (zkp m) m := zKt_kp
        have h45 : ∀ q, zkp m 45 0 0 q = m 45 0 0 q := fun q => zkp_o (by decide) (Or.inl (by decide))
        generalize zkp m = n at *
        refine z_aload_n (i := 0) hG dX11_amount_36 rfl rfl ?_
        refine z_iload_n (i := 1) hG dX11_amount_37 rfl rfl ?_
        refine z_iconst hG dX11_amount_38 rfl ?_
        refine z_iload_n (i := 2) hG dX11_amount_39 rfl rfl ?_
        refine z_iadd hG dX11_amount_40 (by omega) (by omega) ?_
        refine z_callV hG dX11_amount_41 LV_X11_68 (ct_X11_ofARecipe l g ⟨by omega, by omega⟩ ⟨by omega, by omega⟩) (by decide) rfl rfl rfl (Nat.le_of_ble_eq_true rfl) ?_
        intro v9 m9 h9
        rw [h9.1, h9.2]
        clear h9 m9 v9
        refine z_istore hG dX11_amount_44 (by decide) (ls2 := [_, _, _, _, _]) rfl ?_
        refine z_aload_n (i := 0) hG dX11_amount_46 rfl rfl ?_
        refine z_get_11_0 hG dX11_amount_47 FL_X11_7 ?_
        refine z_sipush hG dX11_amount_50 rfl ?_
        refine z_bipush hG dX11_amount_53 rfl ?_
        refine z_iload_n (i := 1) hG dX11_amount_55 rfl rfl ?_
        refine z_imul hG dX11_amount_56 (by omega) (by omega) ?_
        refine z_iadd hG dX11_amount_57 (by omega) (by omega) ?_
        refine z_iconst hG dX11_amount_58 rfl ?_
        refine z_iadd hG dX11_amount_59 (by omega) (by omega) ?_
        refine z_iload_n (i := 2) hG dX11_amount_60 rfl rfl ?_
        refine z_iadd hG dX11_amount_61 (by omega) (by omega) ?_
        refine z_iload_n (i := 3) hG dX11_amount_62 rfl rfl ?_
        refine z_iast hG dX11_amount_63 rfl rfl (by omega) (by omega) ?_
        refine z_iload hG dX11_amount_64 rfl ?_
        refine z_iret hG hE dX11_amount_66 trivial ?_
        unfold zk_amount
        repeat (first | rw [if_pos (by omega)] | rw [if_neg (by omega)])
        dsimp only
        refine ⟨by rw [h45, (eR r (by omega) (by omega) (by omega)).2.2.2.1 i (by omega) (by omega)], zRM_now hK (fun t s j k hh => by simp only [zset]; (repeat rw [if_neg (by omega)])) (fun t k hh => by simp only [zset]; (repeat rw [if_neg (by omega)])) (zRel_r r (by omega) hK.1 (fun q h1 h2 => by simp only [zset]; (repeat rw [if_neg (by omega)])) (fun t j k hh => by simp only [zset]; (repeat rw [if_neg (by omega)])) (by simp only [zset]; (repeat rw [if_neg (by omega)]); exact hK.1.2.2.1) (fun q h1 h2 => h2) (fun h1 h2 => ?_)), zKt_set hkt (Or.inr (by decide))⟩
        obtain ⟨a0, a1, a2, a3, a4⟩ := hK.1.2.2.2.2.2.2.2.2 r (by omega) h1 h2
        refine ⟨?_, ?_, ?_, fun k k0 k1 => ?_, fun k w k0 k1 k2 w0 w1 => ?_⟩
        · simp only [zset]; (repeat rw [if_neg (by omega)]); exact a0
        · simp only [zset]; (repeat rw [if_neg (by omega)]); exact a1
        · simp only [zset]; (repeat rw [if_neg (by omega)]); exact a2
        · simp only [zset]
          by_cases c : k = i
          · rw [if_pos ⟨trivial, trivial, trivial, by omega⟩, if_pos ⟨trivial, trivial, trivial, c⟩]
          · rw [if_neg (by omega), if_neg (by omega)]
            exact a3 k k0 k1
        · simp only [zset]; (repeat rw [if_neg (by omega)]); exact a4 k w k0 k1 k2 w0 w1
      · try simp only [zite_eq0, ne_eq, Classical.not_not] at c26
        refine z_bipush hG dX11_amount_29 rfl ?_
        refine z_iret hG hE dX11_amount_31 trivial ?_
        unfold zk_amount
        repeat (first | rw [if_pos (by omega)] | rw [if_neg (by omega)])
        exact ⟨rfl, hR, zKt_rf⟩
    · try simp only [zite_eq0, ne_eq, Classical.not_not] at c13
      refine z_iconst hG dX11_amount_16 rfl ?_
      refine z_iret hG hE dX11_amount_17 trivial ?_
      unfold zk_amount
      repeat (first | rw [if_pos (by omega)] | rw [if_neg (by omega)])
      exact ⟨rfl, hR, zKt_rf⟩
set_option maxRecDepth 20000 in
theorem ct_X11_buyable (l : Launch) (g : zG) {a m : zM} {B : Int} {i b : Int} (hI : zInv B a) (hB : B ≤ 11900000) (hR : zRM a m) : zMet l g Y_X11_buyable [zr 11 0 0, zi i, zi b] m (fun v m' => v = some (zi (zk_buyable i b a).1) ∧ zRM (zk_buyable i b a).2 m' ∧ zKt m' m) := by
  refine zMet_introF (by decide +kernel) (Nat.le_of_ble_eq_true rfl) (ls0 := [some (zr 11 0 0), some (zi i), some (zi b), none]) rfl fun X hG hE => ?_
  have hG : zGood X l g RX11 cX11_buyable 1 4 := hG
  have hE : zEnd X (some .int) _ := hE
  have hI0 := zInv0 hI
  obtain ⟨hday, hhan, hing, hrcp, hrec, hboo, hrow, hrow2, hstp⟩ := id hI0
  obtain ⟨⟨e0, e1, e2, e3, e4, e5, eI, eZ, eR⟩, eN, eP, eS, e6, eT⟩ := id hR
  have hb : ∀ (t : Nat) (i k : Int), t ≠ 1 → zrecd a t 0 i k = a t 0 i k := fun t i k ht => zrecd_0 hI.1.1.1 ht
  have hK := zRM_keep hI.1.1 hI.1.2 (fun s s0 s1 => (hI.2.2.1 s s0 s1).1.1) hR
  refine z_aload_n (i := 0) hG dX11_buyable_0 rfl rfl ?_
  refine z_iload_n (i := 1) hG dX11_buyable_1 rfl rfl ?_
  refine z_callV hG dX11_buyable_2 LV_X11_90 (ct_X11_isIngredient l g) (by decide) rfl rfl rfl (Nat.le_of_ble_eq_true rfl) ?_
  intro v9 m9 h9
  rw [h9.1, h9.2, e1]
  clear h9 m9 v9
  refine z_if_ne hG dX11_buyable_5 (tgt := 10) rfl (fun c5 => ?_) (fun c5 => ?_)
  · try simp only [zite_eq0, ne_eq, Classical.not_not] at c5
    refine z_iload_n (i := 2) hG dX11_buyable_10 rfl rfl ?_
    refine z_iconst hG dX11_buyable_11 rfl ?_
    refine z_iconst hG dX11_buyable_12 rfl ?_
    refine z_callS hG dX11_buyable_13 LS_X11_76 (ct_X11_in l g) (by decide) rfl rfl (Nat.le_of_ble_eq_true rfl) ?_
    intro v9 m9 h9
    rw [h9.1, h9.2]
    clear h9 m9 v9
    refine z_if_ne hG dX11_buyable_16 (tgt := 22) rfl (fun c16 => ?_) (fun c16 => ?_)
    · try simp only [zite_eq0, ne_eq, Classical.not_not] at c16
      refine z_aload_n (i := 0) hG dX11_buyable_22 rfl rfl ?_
      refine z_callV hG dX11_buyable_23 LV_X11_80 (ct_X11_keep l g (by rw [eN]; exact hI.1.2)) (by decide) rfl rfl rfl (Nat.le_of_ble_eq_true rfl) ?_
      intro v9 m9 h9
      rw [h9.1, h9.2]
      clear h9 m9 v9
      have hkt : zKt (zkp m) m := zKt_kp
      have h45 : ∀ q, zkp m 45 0 0 q = m 45 0 0 q := fun q => zkp_o (by decide) (Or.inl (by decide))
      generalize zkp m = n at *
      refine z_aload_n (i := 0) hG dX11_buyable_26 rfl rfl ?_
      refine z_iload_n (i := 1) hG dX11_buyable_27 rfl rfl ?_
      refine z_iconst hG dX11_buyable_28 rfl ?_
      refine z_callV hG dX11_buyable_29 LV_X11_87 (ct_X11_of l g ⟨by omega, by omega⟩ ⟨by omega, by omega⟩) (by decide) rfl rfl rfl (Nat.le_of_ble_eq_true rfl) ?_
      intro v9 m9 h9
      rw [h9.1, h9.2]
      clear h9 m9 v9
      refine z_istore_n (i := 3) hG dX11_buyable_32 rfl (by decide) (ls2 := [_, _, _, _]) rfl ?_
      refine z_aload_n (i := 0) hG dX11_buyable_33 rfl rfl ?_
      refine z_iload_n (i := 1) hG dX11_buyable_34 rfl rfl ?_
      refine z_iconst hG dX11_buyable_35 rfl ?_
      refine z_iload_n (i := 2) hG dX11_buyable_36 rfl rfl ?_
      refine z_callV hG dX11_buyable_37 LV_X11_83 (ct_X11_lay l g ⟨by omega, by omega⟩ ⟨by omega, by omega⟩) (by decide) rfl rfl rfl (Nat.le_of_ble_eq_true rfl) ?_
      intro v9 m9 h9
      rw [h9.1, h9.2]
      clear h9 m9 v9
      refine z_iload_n (i := 3) hG dX11_buyable_40 rfl rfl ?_
      refine z_iret hG hE dX11_buyable_41 trivial ?_
      unfold zk_buyable
      repeat (first | rw [if_pos (by omega)] | rw [if_neg (by omega)])
      dsimp only
      refine ⟨by rw [h45, (eI i (by omega) (by omega) (by omega)).2.1], zRM_now hK (fun t s j k hh => by simp only [zset]; (repeat rw [if_neg (by omega)])) (fun t k hh => by simp only [zset]; (repeat rw [if_neg (by omega)])) (zRel_i i (by omega) hK.1 (fun q h1 h2 => by simp only [zset]; (repeat rw [if_neg (by omega)])) (fun t j k hh => by simp only [zset]; (repeat rw [if_neg (by omega)])) (by simp only [zset]; (repeat rw [if_neg (by omega)]); exact hK.1.2.1) (fun q h1 => by simp [zset]) (by simp only [zset]; (repeat rw [if_neg (by omega)]); rw [hb 2 _ _ (by decide)]; omega) ?_), zKt_set hkt (Or.inr (by decide))⟩
      obtain ⟨a0, a1, a2, a3, a4, a5, a6, a7, a8, a9, a10, a11, a12⟩ := hK.1.2.2.2.2.2.2.1 i (by omega) (by omega) (by rw [hb 2 _ _ (by decide)]; omega)
      refine ⟨?_, ?_, ?_, ?_, ?_, ?_, ?_, ?_, ?_, ?_, fun k k0 k1 k2 => ?_, fun d d0 d1 => ?_, ?_⟩
      · simp only [zset]; (repeat rw [if_neg (by omega)]); exact a0
      · simp [zset]
      · simp only [zset]; (repeat rw [if_neg (by omega)]); exact a2
      · simp only [zset]; (repeat rw [if_neg (by omega)]); exact a3
      · simp only [zset]; (repeat rw [if_neg (by omega)]); exact a4
      · simp only [zset]; (repeat rw [if_neg (by omega)]); exact a5
      · simp only [zset]; (repeat rw [if_neg (by omega)]); exact a6
      · simp only [zset]; (repeat rw [if_neg (by omega)]); exact a7
      · simp only [zset]; (repeat rw [if_neg (by omega)]); exact a8
      · simp only [zset]; (repeat rw [if_neg (by omega)]); exact a9
      · have k2 : k < zrecd a 3 0 i 2 := by simpa [zset] using k2
        simp only [zset]; (repeat rw [if_neg (by omega)]); exact a10 k k0 k1 k2
      · simp only [zset]; (repeat rw [if_neg (by omega)]); exact a11 d d0 d1
      · simp only [zset]; (repeat rw [if_neg (by omega)]); exact a12
    · try simp only [zite_eq0, ne_eq, Classical.not_not] at c16
      refine z_bipush hG dX11_buyable_19 rfl ?_
      refine z_iret hG hE dX11_buyable_21 trivial ?_
      unfold zk_buyable
      repeat (first | rw [if_pos (by omega)] | rw [if_neg (by omega)])
      exact ⟨rfl, hR, zKt_rf⟩
  · try simp only [zite_eq0, ne_eq, Classical.not_not] at c5
    refine z_iconst hG dX11_buyable_8 rfl ?_
    refine z_iret hG hE dX11_buyable_9 trivial ?_
    unfold zk_buyable
    repeat (first | rw [if_pos (by omega)] | rw [if_neg (by omega)])
    exact ⟨rfl, hR, zKt_rf⟩
set_option maxRecDepth 20000 in
theorem ct_X11_substitute (l : Launch) (g : zG) {a m : zM} {B : Int} {i o q : Int} (hI : zInv B a) (hB : B ≤ 11900000) (hR : zRM a m) : zMet l g Y_X11_substitute [zr 11 0 0, zi i, zi o, zi q] m (fun v m' => v = some (zi (zk_substitute i o q a).1) ∧ zRM (zk_substitute i o q a).2 m' ∧ zKt m' m) := by
  refine zMet_introF (by decide +kernel) (Nat.le_of_ble_eq_true rfl) (ls0 := [some (zr 11 0 0), some (zi i), some (zi o), some (zi q), none]) rfl fun X hG hE => ?_
  have hG : zGood X l g RX11 cX11_substitute 1 5 := hG
  have hE : zEnd X (some .int) _ := hE
  have hI0 := zInv0 hI
  obtain ⟨hday, hhan, hing, hrcp, hrec, hboo, hrow, hrow2, hstp⟩ := id hI0
  obtain ⟨⟨e0, e1, e2, e3, e4, e5, eI, eZ, eR⟩, eN, eP, eS, e6, eT⟩ := id hR
  have hb : ∀ (t : Nat) (i k : Int), t ≠ 1 → zrecd a t 0 i k = a t 0 i k := fun t i k ht => zrecd_0 hI.1.1.1 ht
  have hK := zRM_keep hI.1.1 hI.1.2 (fun s s0 s1 => (hI.2.2.1 s s0 s1).1.1) hR
  refine z_aload_n (i := 0) hG dX11_substitute_0 rfl rfl ?_
  refine z_iload_n (i := 1) hG dX11_substitute_1 rfl rfl ?_
  refine z_callV hG dX11_substitute_2 LV_X11_90 (ct_X11_isIngredient l g) (by decide) rfl rfl rfl (Nat.le_of_ble_eq_true rfl) ?_
  intro v9 m9 h9
  rw [h9.1, h9.2, e1]
  clear h9 m9 v9
  refine z_if_eq hG dX11_substitute_5 (tgt := 22) rfl (fun c5 => ?_) (fun c5 => ?_)
  · try simp only [zite_eq0, ne_eq, Classical.not_not] at c5
    refine z_iconst hG dX11_substitute_22 rfl ?_
    refine z_iret hG hE dX11_substitute_23 trivial ?_
    first
    | (exfalso; omega; done)
    | (skip
       unfold zk_substitute
       repeat (first | rw [if_pos (by omega)] | rw [if_neg (by omega)])
       exact ⟨rfl, hR, zKt_rf⟩)
  · try simp only [zite_eq0, ne_eq, Classical.not_not] at c5
    refine z_iload_n (i := 2) hG dX11_substitute_8 rfl rfl ?_
    refine z_bipush hG dX11_substitute_9 rfl ?_
    refine z_icmp_eq hG dX11_substitute_11 (tgt := 24) rfl (fun c11 => ?_) (fun c11 => ?_)
    · refine z_iload_n (i := 2) hG dX11_substitute_24 rfl rfl ?_
      refine z_bipush hG dX11_substitute_25 rfl ?_
      refine z_icmp_eq hG dX11_substitute_27 (tgt := 50) rfl (fun c27 => ?_) (fun c27 => ?_)
      · refine z_aload_n (i := 0) hG dX11_substitute_50 rfl rfl ?_
        refine z_callV hG dX11_substitute_51 LV_X11_80 (ct_X11_keep l g (by rw [eN]; exact hI.1.2)) (by decide) rfl rfl rfl (Nat.le_of_ble_eq_true rfl) ?_
        intro v9 m9 h9
        rw [h9.1, h9.2]
        clear h9 m9 v9
        have hkt : zKt (zkp m) m := zKt_kp
        have h45 : ∀ q, zkp m 45 0 0 q = m 45 0 0 q := fun q => zkp_o (by decide) (Or.inl (by decide))
        generalize zkp m = n at *
        refine z_aload_n (i := 0) hG dX11_substitute_54 rfl rfl ?_
        refine z_iload_n (i := 1) hG dX11_substitute_55 rfl rfl ?_
        refine z_iconst hG dX11_substitute_56 rfl ?_
        refine z_callV hG dX11_substitute_57 LV_X11_87 (ct_X11_of l g ⟨by omega, by omega⟩ ⟨by omega, by omega⟩) (by decide) rfl rfl rfl (Nat.le_of_ble_eq_true rfl) ?_
        intro v9 m9 h9
        rw [h9.1, h9.2]
        clear h9 m9 v9
        refine z_istore hG dX11_substitute_60 (by decide) (ls2 := [_, _, _, _, _]) rfl ?_
        refine z_aload_n (i := 0) hG dX11_substitute_62 rfl rfl ?_
        refine z_iload_n (i := 1) hG dX11_substitute_63 rfl rfl ?_
        refine z_iconst hG dX11_substitute_64 rfl ?_
        refine z_iload_n (i := 2) hG dX11_substitute_65 rfl rfl ?_
        refine z_callV hG dX11_substitute_66 LV_X11_83 (ct_X11_lay l g ⟨by omega, by omega⟩ ⟨by omega, by omega⟩) (by decide) rfl rfl rfl (Nat.le_of_ble_eq_true rfl) ?_
        intro v9 m9 h9
        rw [h9.1, h9.2]
        clear h9 m9 v9
        refine z_aload_n (i := 0) hG dX11_substitute_69 rfl rfl ?_
        refine z_iload_n (i := 1) hG dX11_substitute_70 rfl rfl ?_
        refine z_iconst hG dX11_substitute_71 rfl ?_
        refine z_iload_n (i := 3) hG dX11_substitute_72 rfl rfl ?_
        refine z_callV hG dX11_substitute_73 LV_X11_83 (ct_X11_lay l g ⟨by omega, by omega⟩ ⟨by omega, by omega⟩) (by decide) rfl rfl rfl (Nat.le_of_ble_eq_true rfl) ?_
        intro v9 m9 h9
        rw [h9.1, h9.2]
        clear h9 m9 v9
        refine z_iload hG dX11_substitute_76 rfl ?_
        refine z_iret hG hE dX11_substitute_78 trivial ?_
        first
        | (exfalso; omega; done)
        | (skip
           unfold zk_substitute
           repeat (first | rw [if_pos (by omega)] | rw [if_neg (by omega)])
           dsimp only
           refine ⟨by rw [h45, (eI i (by omega) (by omega) (by omega)).2.2.2.1], zRM_now hK (fun t s j k hh => by simp only [zset]; (repeat rw [if_neg (by omega)])) (fun t k hh => by simp only [zset]; (repeat rw [if_neg (by omega)])) (zRel_i i (by omega) hK.1 (fun q h1 h2 => by simp only [zset]; (repeat rw [if_neg (by omega)])) (fun t j k hh => by simp only [zset]; (repeat rw [if_neg (by omega)])) (by simp only [zset]; (repeat rw [if_neg (by omega)]); exact hK.1.2.1) (fun q h1 => by simp [zset]) (by simp only [zset]; (repeat rw [if_neg (by omega)]); rw [hb 2 _ _ (by decide)]; omega) ?_), zKt_set (zKt_set hkt (Or.inr (by decide))) (Or.inr (by decide))⟩
           obtain ⟨a0, a1, a2, a3, a4, a5, a6, a7, a8, a9, a10, a11, a12⟩ := hK.1.2.2.2.2.2.2.1 i (by omega) (by omega) (by rw [hb 2 _ _ (by decide)]; omega)
           refine ⟨?_, ?_, ?_, ?_, ?_, ?_, ?_, ?_, ?_, ?_, fun k k0 k1 k2 => ?_, fun d d0 d1 => ?_, ?_⟩
           · simp only [zset]; (repeat rw [if_neg (by omega)]); exact a0
           · simp only [zset]; (repeat rw [if_neg (by omega)]); exact a1
           · simp only [zset]; (repeat rw [if_neg (by omega)]); exact a2
           · simp [zset]
           · intro q0
             simp [zset] at q0 ⊢
             try omega
           · intro q0
             simp [zset] at q0 ⊢
             try omega
           · simp only [zset]; (repeat rw [if_neg (by omega)]); exact a6
           · simp only [zset]; (repeat rw [if_neg (by omega)]); exact a7
           · simp only [zset]; (repeat rw [if_neg (by omega)]); exact a8
           · simp only [zset]; (repeat rw [if_neg (by omega)]); exact a9
           · have k2 : k < zrecd a 3 0 i 2 := by simpa [zset] using k2
             simp only [zset]; (repeat rw [if_neg (by omega)]); exact a10 k k0 k1 k2
           · simp only [zset]; (repeat rw [if_neg (by omega)]); exact a11 d d0 d1
           · simp only [zset]; (repeat rw [if_neg (by omega)]); exact a12)
      · refine z_iload_n (i := 2) hG dX11_substitute_30 rfl rfl ?_
        refine z_iload_n (i := 1) hG dX11_substitute_31 rfl rfl ?_
        refine z_icmp_le hG dX11_substitute_32 (tgt := 47) rfl (fun c32 => ?_) (fun c32 => ?_)
        · refine z_bipush hG dX11_substitute_47 rfl ?_
          refine z_iret hG hE dX11_substitute_49 trivial ?_
          first
          | (exfalso; omega; done)
          | (skip
             unfold zk_substitute
             repeat (first | rw [if_pos (by omega)] | rw [if_neg (by omega)])
             exact ⟨rfl, hR, zKt_rf⟩)
        · refine z_iload_n (i := 3) hG dX11_substitute_35 rfl rfl ?_
          refine z_bipush hG dX11_substitute_36 rfl ?_
          refine z_sipush hG dX11_substitute_38 rfl ?_
          refine z_callS hG dX11_substitute_41 LS_X11_76 (ct_X11_in l g) (by decide) rfl rfl (Nat.le_of_ble_eq_true rfl) ?_
          intro v9 m9 h9
          rw [h9.1, h9.2]
          clear h9 m9 v9
          refine z_if_ne hG dX11_substitute_44 (tgt := 50) rfl (fun c44 => ?_) (fun c44 => ?_)
          · try simp only [zite_eq0, ne_eq, Classical.not_not] at c44
            refine z_aload_n (i := 0) hG dX11_substitute_50 rfl rfl ?_
            refine z_callV hG dX11_substitute_51 LV_X11_80 (ct_X11_keep l g (by rw [eN]; exact hI.1.2)) (by decide) rfl rfl rfl (Nat.le_of_ble_eq_true rfl) ?_
            intro v9 m9 h9
            rw [h9.1, h9.2]
            clear h9 m9 v9
            have hkt : zKt (zkp m) m := zKt_kp
            have h45 : ∀ q, zkp m 45 0 0 q = m 45 0 0 q := fun q => zkp_o (by decide) (Or.inl (by decide))
            generalize zkp m = n at *
            refine z_aload_n (i := 0) hG dX11_substitute_54 rfl rfl ?_
            refine z_iload_n (i := 1) hG dX11_substitute_55 rfl rfl ?_
            refine z_iconst hG dX11_substitute_56 rfl ?_
            refine z_callV hG dX11_substitute_57 LV_X11_87 (ct_X11_of l g ⟨by omega, by omega⟩ ⟨by omega, by omega⟩) (by decide) rfl rfl rfl (Nat.le_of_ble_eq_true rfl) ?_
            intro v9 m9 h9
            rw [h9.1, h9.2]
            clear h9 m9 v9
            refine z_istore hG dX11_substitute_60 (by decide) (ls2 := [_, _, _, _, _]) rfl ?_
            refine z_aload_n (i := 0) hG dX11_substitute_62 rfl rfl ?_
            refine z_iload_n (i := 1) hG dX11_substitute_63 rfl rfl ?_
            refine z_iconst hG dX11_substitute_64 rfl ?_
            refine z_iload_n (i := 2) hG dX11_substitute_65 rfl rfl ?_
            refine z_callV hG dX11_substitute_66 LV_X11_83 (ct_X11_lay l g ⟨by omega, by omega⟩ ⟨by omega, by omega⟩) (by decide) rfl rfl rfl (Nat.le_of_ble_eq_true rfl) ?_
            intro v9 m9 h9
            rw [h9.1, h9.2]
            clear h9 m9 v9
            refine z_aload_n (i := 0) hG dX11_substitute_69 rfl rfl ?_
            refine z_iload_n (i := 1) hG dX11_substitute_70 rfl rfl ?_
            refine z_iconst hG dX11_substitute_71 rfl ?_
            refine z_iload_n (i := 3) hG dX11_substitute_72 rfl rfl ?_
            refine z_callV hG dX11_substitute_73 LV_X11_83 (ct_X11_lay l g ⟨by omega, by omega⟩ ⟨by omega, by omega⟩) (by decide) rfl rfl rfl (Nat.le_of_ble_eq_true rfl) ?_
            intro v9 m9 h9
            rw [h9.1, h9.2]
            clear h9 m9 v9
            refine z_iload hG dX11_substitute_76 rfl ?_
            refine z_iret hG hE dX11_substitute_78 trivial ?_
            first
            | (exfalso; omega; done)
            | (skip
               unfold zk_substitute
               repeat (first | rw [if_pos (by omega)] | rw [if_neg (by omega)])
               dsimp only
               refine ⟨by rw [h45, (eI i (by omega) (by omega) (by omega)).2.2.2.1], zRM_now hK (fun t s j k hh => by simp only [zset]; (repeat rw [if_neg (by omega)])) (fun t k hh => by simp only [zset]; (repeat rw [if_neg (by omega)])) (zRel_i i (by omega) hK.1 (fun q h1 h2 => by simp only [zset]; (repeat rw [if_neg (by omega)])) (fun t j k hh => by simp only [zset]; (repeat rw [if_neg (by omega)])) (by simp only [zset]; (repeat rw [if_neg (by omega)]); exact hK.1.2.1) (fun q h1 => by simp [zset]) (by simp only [zset]; (repeat rw [if_neg (by omega)]); rw [hb 2 _ _ (by decide)]; omega) ?_), zKt_set (zKt_set hkt (Or.inr (by decide))) (Or.inr (by decide))⟩
               obtain ⟨a0, a1, a2, a3, a4, a5, a6, a7, a8, a9, a10, a11, a12⟩ := hK.1.2.2.2.2.2.2.1 i (by omega) (by omega) (by rw [hb 2 _ _ (by decide)]; omega)
               refine ⟨?_, ?_, ?_, ?_, ?_, ?_, ?_, ?_, ?_, ?_, fun k k0 k1 k2 => ?_, fun d d0 d1 => ?_, ?_⟩
               · simp only [zset]; (repeat rw [if_neg (by omega)]); exact a0
               · simp only [zset]; (repeat rw [if_neg (by omega)]); exact a1
               · simp only [zset]; (repeat rw [if_neg (by omega)]); exact a2
               · simp [zset]
               · intro q0
                 simp [zset] at q0 ⊢
                 try omega
               · intro q0
                 simp [zset] at q0 ⊢
                 try omega
               · simp only [zset]; (repeat rw [if_neg (by omega)]); exact a6
               · simp only [zset]; (repeat rw [if_neg (by omega)]); exact a7
               · simp only [zset]; (repeat rw [if_neg (by omega)]); exact a8
               · simp only [zset]; (repeat rw [if_neg (by omega)]); exact a9
               · have k2 : k < zrecd a 3 0 i 2 := by simpa [zset] using k2
                 simp only [zset]; (repeat rw [if_neg (by omega)]); exact a10 k k0 k1 k2
               · simp only [zset]; (repeat rw [if_neg (by omega)]); exact a11 d d0 d1
               · simp only [zset]; (repeat rw [if_neg (by omega)]); exact a12)
          · try simp only [zite_eq0, ne_eq, Classical.not_not] at c44
            refine z_bipush hG dX11_substitute_47 rfl ?_
            refine z_iret hG hE dX11_substitute_49 trivial ?_
            first
            | (exfalso; omega; done)
            | (skip
               unfold zk_substitute
               repeat (first | rw [if_pos (by omega)] | rw [if_neg (by omega)])
               exact ⟨rfl, hR, zKt_rf⟩)
    · refine z_aload_n (i := 0) hG dX11_substitute_14 rfl rfl ?_
      refine z_iload_n (i := 2) hG dX11_substitute_15 rfl rfl ?_
      refine z_callV hG dX11_substitute_16 LV_X11_90 (ct_X11_isIngredient l g) (by decide) rfl rfl rfl (Nat.le_of_ble_eq_true rfl) ?_
      intro v9 m9 h9
      rw [h9.1, h9.2, e1]
      clear h9 m9 v9
      refine z_if_ne hG dX11_substitute_19 (tgt := 24) rfl (fun c19 => ?_) (fun c19 => ?_)
      · try simp only [zite_eq0, ne_eq, Classical.not_not] at c19
        refine z_iload_n (i := 2) hG dX11_substitute_24 rfl rfl ?_
        refine z_bipush hG dX11_substitute_25 rfl ?_
        refine z_icmp_eq hG dX11_substitute_27 (tgt := 50) rfl (fun c27 => ?_) (fun c27 => ?_)
        · refine z_aload_n (i := 0) hG dX11_substitute_50 rfl rfl ?_
          refine z_callV hG dX11_substitute_51 LV_X11_80 (ct_X11_keep l g (by rw [eN]; exact hI.1.2)) (by decide) rfl rfl rfl (Nat.le_of_ble_eq_true rfl) ?_
          intro v9 m9 h9
          rw [h9.1, h9.2]
          clear h9 m9 v9
          have hkt : zKt (zkp m) m := zKt_kp
          have h45 : ∀ q, zkp m 45 0 0 q = m 45 0 0 q := fun q => zkp_o (by decide) (Or.inl (by decide))
          generalize zkp m = n at *
          refine z_aload_n (i := 0) hG dX11_substitute_54 rfl rfl ?_
          refine z_iload_n (i := 1) hG dX11_substitute_55 rfl rfl ?_
          refine z_iconst hG dX11_substitute_56 rfl ?_
          refine z_callV hG dX11_substitute_57 LV_X11_87 (ct_X11_of l g ⟨by omega, by omega⟩ ⟨by omega, by omega⟩) (by decide) rfl rfl rfl (Nat.le_of_ble_eq_true rfl) ?_
          intro v9 m9 h9
          rw [h9.1, h9.2]
          clear h9 m9 v9
          refine z_istore hG dX11_substitute_60 (by decide) (ls2 := [_, _, _, _, _]) rfl ?_
          refine z_aload_n (i := 0) hG dX11_substitute_62 rfl rfl ?_
          refine z_iload_n (i := 1) hG dX11_substitute_63 rfl rfl ?_
          refine z_iconst hG dX11_substitute_64 rfl ?_
          refine z_iload_n (i := 2) hG dX11_substitute_65 rfl rfl ?_
          refine z_callV hG dX11_substitute_66 LV_X11_83 (ct_X11_lay l g ⟨by omega, by omega⟩ ⟨by omega, by omega⟩) (by decide) rfl rfl rfl (Nat.le_of_ble_eq_true rfl) ?_
          intro v9 m9 h9
          rw [h9.1, h9.2]
          clear h9 m9 v9
          refine z_aload_n (i := 0) hG dX11_substitute_69 rfl rfl ?_
          refine z_iload_n (i := 1) hG dX11_substitute_70 rfl rfl ?_
          refine z_iconst hG dX11_substitute_71 rfl ?_
          refine z_iload_n (i := 3) hG dX11_substitute_72 rfl rfl ?_
          refine z_callV hG dX11_substitute_73 LV_X11_83 (ct_X11_lay l g ⟨by omega, by omega⟩ ⟨by omega, by omega⟩) (by decide) rfl rfl rfl (Nat.le_of_ble_eq_true rfl) ?_
          intro v9 m9 h9
          rw [h9.1, h9.2]
          clear h9 m9 v9
          refine z_iload hG dX11_substitute_76 rfl ?_
          refine z_iret hG hE dX11_substitute_78 trivial ?_
          first
          | (exfalso; omega; done)
          | (skip
             unfold zk_substitute
             repeat (first | rw [if_pos (by omega)] | rw [if_neg (by omega)])
             dsimp only
             refine ⟨by rw [h45, (eI i (by omega) (by omega) (by omega)).2.2.2.1], zRM_now hK (fun t s j k hh => by simp only [zset]; (repeat rw [if_neg (by omega)])) (fun t k hh => by simp only [zset]; (repeat rw [if_neg (by omega)])) (zRel_i i (by omega) hK.1 (fun q h1 h2 => by simp only [zset]; (repeat rw [if_neg (by omega)])) (fun t j k hh => by simp only [zset]; (repeat rw [if_neg (by omega)])) (by simp only [zset]; (repeat rw [if_neg (by omega)]); exact hK.1.2.1) (fun q h1 => by simp [zset]) (by simp only [zset]; (repeat rw [if_neg (by omega)]); rw [hb 2 _ _ (by decide)]; omega) ?_), zKt_set (zKt_set hkt (Or.inr (by decide))) (Or.inr (by decide))⟩
             obtain ⟨a0, a1, a2, a3, a4, a5, a6, a7, a8, a9, a10, a11, a12⟩ := hK.1.2.2.2.2.2.2.1 i (by omega) (by omega) (by rw [hb 2 _ _ (by decide)]; omega)
             refine ⟨?_, ?_, ?_, ?_, ?_, ?_, ?_, ?_, ?_, ?_, fun k k0 k1 k2 => ?_, fun d d0 d1 => ?_, ?_⟩
             · simp only [zset]; (repeat rw [if_neg (by omega)]); exact a0
             · simp only [zset]; (repeat rw [if_neg (by omega)]); exact a1
             · simp only [zset]; (repeat rw [if_neg (by omega)]); exact a2
             · simp [zset]
             · intro q0
               simp [zset] at q0 ⊢
               try omega
             · intro q0
               simp [zset] at q0 ⊢
               try omega
             · simp only [zset]; (repeat rw [if_neg (by omega)]); exact a6
             · simp only [zset]; (repeat rw [if_neg (by omega)]); exact a7
             · simp only [zset]; (repeat rw [if_neg (by omega)]); exact a8
             · simp only [zset]; (repeat rw [if_neg (by omega)]); exact a9
             · have k2 : k < zrecd a 3 0 i 2 := by simpa [zset] using k2
               simp only [zset]; (repeat rw [if_neg (by omega)]); exact a10 k k0 k1 k2
             · simp only [zset]; (repeat rw [if_neg (by omega)]); exact a11 d d0 d1
             · simp only [zset]; (repeat rw [if_neg (by omega)]); exact a12)
        · refine z_iload_n (i := 2) hG dX11_substitute_30 rfl rfl ?_
          refine z_iload_n (i := 1) hG dX11_substitute_31 rfl rfl ?_
          refine z_icmp_le hG dX11_substitute_32 (tgt := 47) rfl (fun c32 => ?_) (fun c32 => ?_)
          · refine z_bipush hG dX11_substitute_47 rfl ?_
            refine z_iret hG hE dX11_substitute_49 trivial ?_
            first
            | (exfalso; omega; done)
            | (skip
               unfold zk_substitute
               repeat (first | rw [if_pos (by omega)] | rw [if_neg (by omega)])
               exact ⟨rfl, hR, zKt_rf⟩)
          · refine z_iload_n (i := 3) hG dX11_substitute_35 rfl rfl ?_
            refine z_bipush hG dX11_substitute_36 rfl ?_
            refine z_sipush hG dX11_substitute_38 rfl ?_
            refine z_callS hG dX11_substitute_41 LS_X11_76 (ct_X11_in l g) (by decide) rfl rfl (Nat.le_of_ble_eq_true rfl) ?_
            intro v9 m9 h9
            rw [h9.1, h9.2]
            clear h9 m9 v9
            refine z_if_ne hG dX11_substitute_44 (tgt := 50) rfl (fun c44 => ?_) (fun c44 => ?_)
            · try simp only [zite_eq0, ne_eq, Classical.not_not] at c44
              refine z_aload_n (i := 0) hG dX11_substitute_50 rfl rfl ?_
              refine z_callV hG dX11_substitute_51 LV_X11_80 (ct_X11_keep l g (by rw [eN]; exact hI.1.2)) (by decide) rfl rfl rfl (Nat.le_of_ble_eq_true rfl) ?_
              intro v9 m9 h9
              rw [h9.1, h9.2]
              clear h9 m9 v9
              have hkt : zKt (zkp m) m := zKt_kp
              have h45 : ∀ q, zkp m 45 0 0 q = m 45 0 0 q := fun q => zkp_o (by decide) (Or.inl (by decide))
              generalize zkp m = n at *
              refine z_aload_n (i := 0) hG dX11_substitute_54 rfl rfl ?_
              refine z_iload_n (i := 1) hG dX11_substitute_55 rfl rfl ?_
              refine z_iconst hG dX11_substitute_56 rfl ?_
              refine z_callV hG dX11_substitute_57 LV_X11_87 (ct_X11_of l g ⟨by omega, by omega⟩ ⟨by omega, by omega⟩) (by decide) rfl rfl rfl (Nat.le_of_ble_eq_true rfl) ?_
              intro v9 m9 h9
              rw [h9.1, h9.2]
              clear h9 m9 v9
              refine z_istore hG dX11_substitute_60 (by decide) (ls2 := [_, _, _, _, _]) rfl ?_
              refine z_aload_n (i := 0) hG dX11_substitute_62 rfl rfl ?_
              refine z_iload_n (i := 1) hG dX11_substitute_63 rfl rfl ?_
              refine z_iconst hG dX11_substitute_64 rfl ?_
              refine z_iload_n (i := 2) hG dX11_substitute_65 rfl rfl ?_
              refine z_callV hG dX11_substitute_66 LV_X11_83 (ct_X11_lay l g ⟨by omega, by omega⟩ ⟨by omega, by omega⟩) (by decide) rfl rfl rfl (Nat.le_of_ble_eq_true rfl) ?_
              intro v9 m9 h9
              rw [h9.1, h9.2]
              clear h9 m9 v9
              refine z_aload_n (i := 0) hG dX11_substitute_69 rfl rfl ?_
              refine z_iload_n (i := 1) hG dX11_substitute_70 rfl rfl ?_
              refine z_iconst hG dX11_substitute_71 rfl ?_
              refine z_iload_n (i := 3) hG dX11_substitute_72 rfl rfl ?_
              refine z_callV hG dX11_substitute_73 LV_X11_83 (ct_X11_lay l g ⟨by omega, by omega⟩ ⟨by omega, by omega⟩) (by decide) rfl rfl rfl (Nat.le_of_ble_eq_true rfl) ?_
              intro v9 m9 h9
              rw [h9.1, h9.2]
              clear h9 m9 v9
              refine z_iload hG dX11_substitute_76 rfl ?_
              refine z_iret hG hE dX11_substitute_78 trivial ?_
              first
              | (exfalso; omega; done)
              | (skip
                 unfold zk_substitute
                 repeat (first | rw [if_pos (by omega)] | rw [if_neg (by omega)])
                 dsimp only
                 refine ⟨by rw [h45, (eI i (by omega) (by omega) (by omega)).2.2.2.1], zRM_now hK (fun t s j k hh => by simp only [zset]; (repeat rw [if_neg (by omega)])) (fun t k hh => by simp only [zset]; (repeat rw [if_neg (by omega)])) (zRel_i i (by omega) hK.1 (fun q h1 h2 => by simp only [zset]; (repeat rw [if_neg (by omega)])) (fun t j k hh => by simp only [zset]; (repeat rw [if_neg (by omega)])) (by simp only [zset]; (repeat rw [if_neg (by omega)]); exact hK.1.2.1) (fun q h1 => by simp [zset]) (by simp only [zset]; (repeat rw [if_neg (by omega)]); rw [hb 2 _ _ (by decide)]; omega) ?_), zKt_set (zKt_set hkt (Or.inr (by decide))) (Or.inr (by decide))⟩
                 obtain ⟨a0, a1, a2, a3, a4, a5, a6, a7, a8, a9, a10, a11, a12⟩ := hK.1.2.2.2.2.2.2.1 i (by omega) (by omega) (by rw [hb 2 _ _ (by decide)]; omega)
                 refine ⟨?_, ?_, ?_, ?_, ?_, ?_, ?_, ?_, ?_, ?_, fun k k0 k1 k2 => ?_, fun d d0 d1 => ?_, ?_⟩
                 · simp only [zset]; (repeat rw [if_neg (by omega)]); exact a0
                 · simp only [zset]; (repeat rw [if_neg (by omega)]); exact a1
                 · simp only [zset]; (repeat rw [if_neg (by omega)]); exact a2
                 · simp [zset]
                 · intro q0
                   simp [zset] at q0 ⊢
                   try omega
                 · intro q0
                   simp [zset] at q0 ⊢
                   try omega
                 · simp only [zset]; (repeat rw [if_neg (by omega)]); exact a6
                 · simp only [zset]; (repeat rw [if_neg (by omega)]); exact a7
                 · simp only [zset]; (repeat rw [if_neg (by omega)]); exact a8
                 · simp only [zset]; (repeat rw [if_neg (by omega)]); exact a9
                 · have k2 : k < zrecd a 3 0 i 2 := by simpa [zset] using k2
                   simp only [zset]; (repeat rw [if_neg (by omega)]); exact a10 k k0 k1 k2
                 · simp only [zset]; (repeat rw [if_neg (by omega)]); exact a11 d d0 d1
                 · simp only [zset]; (repeat rw [if_neg (by omega)]); exact a12)
            · try simp only [zite_eq0, ne_eq, Classical.not_not] at c44
              refine z_bipush hG dX11_substitute_47 rfl ?_
              refine z_iret hG hE dX11_substitute_49 trivial ?_
              first
              | (exfalso; omega; done)
              | (skip
                 unfold zk_substitute
                 repeat (first | rw [if_pos (by omega)] | rw [if_neg (by omega)])
                 exact ⟨rfl, hR, zKt_rf⟩)
      · try simp only [zite_eq0, ne_eq, Classical.not_not] at c19
        refine z_iconst hG dX11_substitute_22 rfl ?_
        refine z_iret hG hE dX11_substitute_23 trivial ?_
        first
        | (exfalso; omega; done)
        | (skip
           unfold zk_substitute
           repeat (first | rw [if_pos (by omega)] | rw [if_neg (by omega)])
           exact ⟨rfl, hR, zKt_rf⟩)
