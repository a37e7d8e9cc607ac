set_option maxRecDepth 20000 in
theorem ct_X11_in (l : Launch) (g : zG) {m : zM} {x a b : Int} : zMet l g Y_X11_in [zi x, zi a, zi b] m (fun v m' => v = some (zi (if a ≤ x ∧ x ≤ b then 1 else 0)) ∧ m' = m) := by
  refine zMet_introF (by decide +kernel) (Nat.le_of_ble_eq_true rfl) (ls0 := [some (zi x), some (zi a), some (zi b)]) rfl fun X hG hE => ?_
  have hG : zGood X l g RX11 cX11_in 0 3 := hG
  have hE : zEnd X (some .boolean) _ := hE
  refine z_iload_n (i := 0) hG dX11_in_0 rfl rfl ?_
  refine z_iload_n (i := 1) hG dX11_in_1 rfl rfl ?_
  refine z_icmp_lt hG dX11_in_2 (tgt := 14) rfl (fun c2 => ?_) (fun c2 => ?_)
  · refine z_iconst hG dX11_in_14 rfl ?_
    refine z_iret hG hE dX11_in_15 (by first | exact Or.inl rfl | exact Or.inr rfl | (show _ ∨ _; omega)) ?_
    refine ⟨?_, rfl⟩
    first | rw [if_pos (by omega)] | rw [if_neg (by omega)]
  · refine z_iload_n (i := 0) hG dX11_in_5 rfl rfl ?_
    refine z_iload_n (i := 2) hG dX11_in_6 rfl rfl ?_
    refine z_icmp_gt hG dX11_in_7 (tgt := 14) rfl (fun c7 => ?_) (fun c7 => ?_)
    · refine z_iconst hG dX11_in_14 rfl ?_
      refine z_iret hG hE dX11_in_15 (by first | exact Or.inl rfl | exact Or.inr rfl | (show _ ∨ _; omega)) ?_
      refine ⟨?_, rfl⟩
      first | rw [if_pos (by omega)] | rw [if_neg (by omega)]
    · refine z_iconst hG dX11_in_10 rfl ?_
      refine z_goto hG dX11_in_11 (tgt := 15) rfl ?_
      refine z_iret hG hE dX11_in_15 (by first | exact Or.inl rfl | exact Or.inr rfl | (show _ ∨ _; omega)) ?_
      refine ⟨?_, rfl⟩
      first | rw [if_pos (by omega)] | rw [if_neg (by omega)]
set_option maxRecDepth 20000 in
theorem ct_X11_up (l : Launch) (g : zG) {m : zM} {x y : Int} (h0 : 0 ≤ x) (h1 : 0 < y) (h2 : x + y < 2147483648) : zMet l g Y_X11_up [zi x, zi y] m (fun v m' => v = some (zi ((x + y - 1) / y)) ∧ m' = m) := by
  refine zMet_introF (by decide +kernel) (Nat.le_of_ble_eq_true rfl) (ls0 := [some (zi x), some (zi y)]) rfl fun X hG hE => ?_
  have hG : zGood X l g RX11 cX11_up 0 2 := hG
  have hE : zEnd X (some .int) _ := hE
  refine z_iload_n (i := 0) hG dX11_up_0 rfl rfl ?_
  refine z_iload_n (i := 1) hG dX11_up_1 rfl rfl ?_
  refine z_iadd hG dX11_up_2 (by omega) (by omega) ?_
  refine z_iconst hG dX11_up_3 rfl ?_
  refine z_isub hG dX11_up_4 (by omega) (by omega) ?_
  refine z_iload_n (i := 1) hG dX11_up_5 rfl rfl ?_
  refine z_idiv hG dX11_up_6 (by omega) (by omega) ?_
  refine z_iret hG hE dX11_up_7 trivial ?_
  exact ⟨rfl, rfl⟩
set_option maxRecDepth 20000 in
theorem ct_X11_of (l : Launch) (g : zG) {m : zM} {i k : Int} (hi : 0 ≤ i ∧ i < 8) (hk : 0 ≤ k ∧ k < 46) : zMet l g Y_X11_of [zr 11 0 0, zi i, zi k] m (fun v m' => v = some (zi (m 45 0 0 (6 + 46 * i + k))) ∧ m' = m) := by
  refine zMet_introF (by decide +kernel) (Nat.le_of_ble_eq_true rfl) (ls0 := [some (zr 11 0 0), some (zi i), some (zi k)]) rfl fun X hG hE => ?_
  have hG : zGood X l g RX11 cX11_of 0 3 := hG
  have hE : zEnd X (some .int) _ := hE
  refine z_aload_n (i := 0) hG dX11_of_0 rfl rfl ?_
  refine z_get_11_0 hG dX11_of_1 FL_X11_7 ?_
  refine z_bipush hG dX11_of_4 rfl ?_
  refine z_bipush hG dX11_of_6 rfl ?_
  refine z_iload_n (i := 1) hG dX11_of_8 rfl rfl ?_
  refine z_imul hG dX11_of_9 (by omega) (by omega) ?_
  refine z_iadd hG dX11_of_10 (by omega) (by omega) ?_
  refine z_iload_n (i := 2) hG dX11_of_11 rfl rfl ?_
  refine z_iadd hG dX11_of_12 (by omega) (by omega) ?_
  refine z_iald hG dX11_of_13 rfl rfl (by omega) (by omega) ?_
  refine z_iret hG hE dX11_of_14 trivial ?_
  exact ⟨rfl, rfl⟩
set_option maxRecDepth 20000 in
theorem ct_X11_lay (l : Launch) (g : zG) {m : zM} {i k v : Int} (hi : 0 ≤ i ∧ i < 8) (hk : 0 ≤ k ∧ k < 46) : zMet l g Y_X11_lay [zr 11 0 0, zi i, zi k, zi v] m (fun v' m' => v' = none ∧ m' = zset m 45 0 0 (6 + 46 * i + k) v) := by
  refine zMet_introF (by decide +kernel) (Nat.le_of_ble_eq_true rfl) (ls0 := [some (zr 11 0 0), some (zi i), some (zi k), some (zi v)]) rfl fun X hG hE => ?_
  have hG : zGood X l g RX11 cX11_lay 0 4 := hG
  have hE : zEnd X (none) _ := hE
  refine z_aload_n (i := 0) hG dX11_lay_0 rfl rfl ?_
  refine z_get_11_0 hG dX11_lay_1 FL_X11_7 ?_
  refine z_bipush hG dX11_lay_4 rfl ?_
  refine z_bipush hG dX11_lay_6 rfl ?_
  refine z_iload_n (i := 1) hG dX11_lay_8 rfl rfl ?_
  refine z_imul hG dX11_lay_9 (by omega) (by omega) ?_
  refine z_iadd hG dX11_lay_10 (by omega) (by omega) ?_
  refine z_iload_n (i := 2) hG dX11_lay_11 rfl rfl ?_
  refine z_iadd hG dX11_lay_12 (by omega) (by omega) ?_
  refine z_iload_n (i := 3) hG dX11_lay_13 rfl rfl ?_
  refine z_iast hG dX11_lay_14 rfl rfl (by omega) (by omega) ?_
  refine z_vret hG hE dX11_lay_15 ?_
  exact ⟨rfl, rfl⟩
set_option maxRecDepth 20000 in
theorem ct_X11_ofARecipe (l : Launch) (g : zG) {m : zM} {r k : Int} (hr : 0 ≤ r ∧ r < 4) (hk : 0 ≤ k ∧ k < 43) : zMet l g Y_X11_ofARecipe [zr 11 0 0, zi r, zi k] m (fun v m' => v = some (zi (m 45 0 0 (374 + 43 * r + k))) ∧ m' = m) := by
  refine zMet_introF (by decide +kernel) (Nat.le_of_ble_eq_true rfl) (ls0 := [some (zr 11 0 0), some (zi r), some (zi k)]) rfl fun X hG hE => ?_
  have hG : zGood X l g RX11 cX11_ofARecipe 0 3 := hG
  have hE : zEnd X (some .int) _ := hE
  refine z_aload_n (i := 0) hG dX11_ofARecipe_0 rfl rfl ?_
  refine z_get_11_0 hG dX11_ofARecipe_1 FL_X11_7 ?_
  refine z_sipush hG dX11_ofARecipe_4 rfl ?_
  refine z_bipush hG dX11_ofARecipe_7 rfl ?_
  refine z_iload_n (i := 1) hG dX11_ofARecipe_9 rfl rfl ?_
  refine z_imul hG dX11_ofARecipe_10 (by omega) (by omega) ?_
  refine z_iadd hG dX11_ofARecipe_11 (by omega) (by omega) ?_
  refine z_iload_n (i := 2) hG dX11_ofARecipe_12 rfl rfl ?_
  refine z_iadd hG dX11_ofARecipe_13 (by omega) (by omega) ?_
  refine z_iald hG dX11_ofARecipe_14 rfl rfl (by omega) (by omega) ?_
  refine z_iret hG hE dX11_ofARecipe_15 trivial ?_
  exact ⟨rfl, rfl⟩
set_option maxRecDepth 20000 in
theorem ct_X11_ofStep (l : Launch) (g : zG) {m : zM} {r k w : Int} (hr : 0 ≤ r ∧ r < 4) (hk : 0 ≤ k ∧ k < 8) (hw : 0 ≤ w ∧ w < 4) : zMet l g Y_X11_ofStep [zr 11 0 0, zi r, zi k, zi w] m (fun v m' => v = some (zi (m 45 0 0 (374 + 43 * r + (11 + 4 * k + w)))) ∧ m' = m) := by
  refine zMet_introF (by decide +kernel) (Nat.le_of_ble_eq_true rfl) (ls0 := [some (zr 11 0 0), some (zi r), some (zi k), some (zi w)]) rfl fun X hG hE => ?_
  have hG : zGood X l g RX11 cX11_ofStep 1 4 := hG
  have hE : zEnd X (some .int) _ := hE
  refine z_aload_n (i := 0) hG dX11_ofStep_0 rfl rfl ?_
  refine z_iload_n (i := 1) hG dX11_ofStep_1 rfl rfl ?_
  refine z_bipush hG dX11_ofStep_2 rfl ?_
  refine z_iconst hG dX11_ofStep_4 rfl ?_
  refine z_iload_n (i := 2) hG dX11_ofStep_5 rfl rfl ?_
  refine z_imul hG dX11_ofStep_6 (by omega) (by omega) ?_
  refine z_iadd hG dX11_ofStep_7 (by omega) (by omega) ?_
  refine z_iload_n (i := 3) hG dX11_ofStep_8 rfl rfl ?_
  refine z_iadd hG dX11_ofStep_9 (by omega) (by omega) ?_
  refine z_callV hG dX11_ofStep_10 LV_X11_68 (ct_X11_ofARecipe l g hr ⟨by omega, by omega⟩) (by decide) rfl rfl rfl (Nat.le_of_ble_eq_true rfl) ?_
  intro v9 m9 h9
  rw [h9.1, h9.2]
  clear h9 m9 v9
  refine z_iret hG hE dX11_ofStep_13 trivial ?_
  exact ⟨rfl, rfl⟩
set_option maxRecDepth 20000 in
theorem ct_X11_isIngredient (l : Launch) (g : zG) {m : zM} {i : Int} : zMet l g Y_X11_isIngredient [zr 11 0 0, zi i] m (fun v m' => v = some (zi (if 0 ≤ i ∧ i < m 45 0 0 1 then 1 else 0)) ∧ m' = m) := by
  refine zMet_introF (by decide +kernel) (Nat.le_of_ble_eq_true rfl) (ls0 := [some (zr 11 0 0), some (zi i)]) rfl fun X hG hE => ?_
  have hG : zGood X l g RX11 cX11_isIngredient 0 2 := hG
  have hE : zEnd X (some .boolean) _ := hE
  refine z_iload_n (i := 1) hG dX11_isIngredient_0 rfl rfl ?_
  refine z_if_lt hG dX11_isIngredient_1 (tgt := 18) rfl (fun c1 => ?_) (fun c1 => ?_)
  · refine z_iconst hG dX11_isIngredient_18 rfl ?_
    refine z_iret hG hE dX11_isIngredient_19 (by first | exact Or.inl rfl | exact Or.inr rfl | (show _ ∨ _; omega)) ?_
    refine ⟨?_, rfl⟩
    first | rw [if_pos (by omega)] | rw [if_neg (by omega)]
  · refine z_iload_n (i := 1) hG dX11_isIngredient_4 rfl rfl ?_
    refine z_aload_n (i := 0) hG dX11_isIngredient_5 rfl rfl ?_
    refine z_get_11_0 hG dX11_isIngredient_6 FL_X11_7 ?_
    refine z_iconst hG dX11_isIngredient_9 rfl ?_
    refine z_iald hG dX11_isIngredient_10 rfl rfl (by omega) (by omega) ?_
    refine z_icmp_ge hG dX11_isIngredient_11 (tgt := 18) rfl (fun c11 => ?_) (fun c11 => ?_)
    · refine z_iconst hG dX11_isIngredient_18 rfl ?_
      refine z_iret hG hE dX11_isIngredient_19 (by first | exact Or.inl rfl | exact Or.inr rfl | (show _ ∨ _; omega)) ?_
      refine ⟨?_, rfl⟩
      first | rw [if_pos (by omega)] | rw [if_neg (by omega)]
    · refine z_iconst hG dX11_isIngredient_14 rfl ?_
      refine z_goto hG dX11_isIngredient_15 (tgt := 19) rfl ?_
      refine z_iret hG hE dX11_isIngredient_19 (by first | exact Or.inl rfl | exact Or.inr rfl | (show _ ∨ _; omega)) ?_
      refine ⟨?_, rfl⟩
      first | rw [if_pos (by omega)] | rw [if_neg (by omega)]
set_option maxRecDepth 20000 in
theorem ct_X11_isRecipe (l : Launch) (g : zG) {m : zM} {i : Int} : zMet l g Y_X11_isRecipe [zr 11 0 0, zi i] m (fun v m' => v = some (zi (if 0 ≤ i ∧ i < m 45 0 0 2 then 1 else 0)) ∧ m' = m) := by
  refine zMet_introF (by decide +kernel) (Nat.le_of_ble_eq_true rfl) (ls0 := [some (zr 11 0 0), some (zi i)]) rfl fun X hG hE => ?_
  have hG : zGood X l g RX11 cX11_isRecipe 0 2 := hG
  have hE : zEnd X (some .boolean) _ := hE
  refine z_iload_n (i := 1) hG dX11_isRecipe_0 rfl rfl ?_
  refine z_if_lt hG dX11_isRecipe_1 (tgt := 18) rfl (fun c1 => ?_) (fun c1 => ?_)
  · refine z_iconst hG dX11_isRecipe_18 rfl ?_
    refine z_iret hG hE dX11_isRecipe_19 (by first | exact Or.inl rfl | exact Or.inr rfl | (show _ ∨ _; omega)) ?_
    refine ⟨?_, rfl⟩
    first | rw [if_pos (by omega)] | rw [if_neg (by omega)]
  · refine z_iload_n (i := 1) hG dX11_isRecipe_4 rfl rfl ?_
    refine z_aload_n (i := 0) hG dX11_isRecipe_5 rfl rfl ?_
    refine z_get_11_0 hG dX11_isRecipe_6 FL_X11_7 ?_
    refine z_iconst hG dX11_isRecipe_9 rfl ?_
    refine z_iald hG dX11_isRecipe_10 rfl rfl (by omega) (by omega) ?_
    refine z_icmp_ge hG dX11_isRecipe_11 (tgt := 18) rfl (fun c11 => ?_) (fun c11 => ?_)
    · refine z_iconst hG dX11_isRecipe_18 rfl ?_
      refine z_iret hG hE dX11_isRecipe_19 (by first | exact Or.inl rfl | exact Or.inr rfl | (show _ ∨ _; omega)) ?_
      refine ⟨?_, rfl⟩
      first | rw [if_pos (by omega)] | rw [if_neg (by omega)]
    · refine z_iconst hG dX11_isRecipe_14 rfl ?_
      refine z_goto hG dX11_isRecipe_15 (tgt := 19) rfl ?_
      refine z_iret hG hE dX11_isRecipe_19 (by first | exact Or.inl rfl | exact Or.inr rfl | (show _ ∨ _; omega)) ?_
      refine ⟨?_, rfl⟩
      first | rw [if_pos (by omega)] | rw [if_neg (by omega)]
set_option maxRecDepth 20000 in
theorem ct_X11_stillNeeded (l : Launch) (g : zG) {m : zM} {x : Int} : zMet l g Y_X11_stillNeeded [zi x] m (fun v m' => v = some (zi (if 0 < x then x else 0)) ∧ m' = m) := by
  refine zMet_introF (by decide +kernel) (Nat.le_of_ble_eq_true rfl) (ls0 := [some (zi x)]) rfl fun X hG hE => ?_
  have hG : zGood X l g RX11 cX11_stillNeeded 0 1 := hG
  have hE : zEnd X (some .int) _ := hE
  refine z_iload_n (i := 0) hG dX11_stillNeeded_0 rfl rfl ?_
  refine z_if_le hG dX11_stillNeeded_1 (tgt := 8) rfl (fun c1 => ?_) (fun c1 => ?_)
  · refine z_iconst hG dX11_stillNeeded_8 rfl ?_
    refine z_iret hG hE dX11_stillNeeded_9 trivial ?_
    refine ⟨?_, rfl⟩
    first | rw [if_pos (by omega)] | rw [if_neg (by omega)]
  · refine z_iload_n (i := 0) hG dX11_stillNeeded_4 rfl rfl ?_
    refine z_goto hG dX11_stillNeeded_5 (tgt := 9) rfl ?_
    refine z_iret hG hE dX11_stillNeeded_9 trivial ?_
    refine ⟨?_, rfl⟩
    first | rw [if_pos (by omega)] | rw [if_neg (by omega)]
