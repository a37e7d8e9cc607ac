set_option maxRecDepth 20000 in
theorem ct_X11_sizeOf (l : Launch) (g : zG) {m : zM} {i k : Int} (hi : 0 ≤ i ∧ i < 8) (hk : 0 ≤ k ∧ k < 3) : zMet l g Y_X11_sizeOf [zr 11 0 0, zi i, zi k] m (fun v m' => v = some (zi (m 45 0 0 (6 + 46 * i + (9 + 2 * k)))) ∧ m' = m) := by
  refine zMet_introF (by decide +kernel) (Nat.le_of_ble_eq_true rfl) (ls0 := [some (zr 11 0 0), some (zi i), some (zi k)]) rfl fun X hG hE => ?_
  have hG : zGood X l g RX11 cX11_sizeOf 1 3 := hG
  have hE : zEnd X (some .int) _ := hE
  refine z_aload_n (i := 0) hG dX11_sizeOf_0 rfl rfl ?_
  refine z_iload_n (i := 1) hG dX11_sizeOf_1 rfl rfl ?_
  refine z_bipush hG dX11_sizeOf_2 rfl ?_
  refine z_iconst hG dX11_sizeOf_4 rfl ?_
  refine z_iload_n (i := 2) hG dX11_sizeOf_5 rfl rfl ?_
  refine z_imul hG dX11_sizeOf_6 (by omega) (by omega) ?_
  refine z_iadd hG dX11_sizeOf_7 (by omega) (by omega) ?_
  refine z_callV hG dX11_sizeOf_8 LV_X11_87 (ct_X11_of l g hi ⟨by omega, by omega⟩) (by decide) rfl rfl rfl (Nat.le_of_ble_eq_true rfl) ?_
  intro v9 m9 h9
  rw [h9.1, h9.2]
  clear h9 m9 v9
  refine z_iret hG hE dX11_sizeOf_11 trivial ?_
  exact ⟨rfl, rfl⟩
set_option maxRecDepth 20000 in
theorem ct_X11_priceOf (l : Launch) (g : zG) {m : zM} {i k : Int} (hi : 0 ≤ i ∧ i < 8) (hk : 0 ≤ k ∧ k < 3) : zMet l g Y_X11_priceOf [zr 11 0 0, zi i, zi k] m (fun v m' => v = some (zi (m 45 0 0 (6 + 46 * i + (9 + 2 * k + 1)))) ∧ m' = m) := by
  refine zMet_introF (by decide +kernel) (Nat.le_of_ble_eq_true rfl) (ls0 := [some (zr 11 0 0), some (zi i), some (zi k)]) rfl fun X hG hE => ?_
  have hG : zGood X l g RX11 cX11_priceOf 1 3 := hG
  have hE : zEnd X (some .int) _ := hE
  refine z_aload_n (i := 0) hG dX11_priceOf_0 rfl rfl ?_
  refine z_iload_n (i := 1) hG dX11_priceOf_1 rfl rfl ?_
  refine z_bipush hG dX11_priceOf_2 rfl ?_
  refine z_iconst hG dX11_priceOf_4 rfl ?_
  refine z_iload_n (i := 2) hG dX11_priceOf_5 rfl rfl ?_
  refine z_imul hG dX11_priceOf_6 (by omega) (by omega) ?_
  refine z_iadd hG dX11_priceOf_7 (by omega) (by omega) ?_
  refine z_iconst hG dX11_priceOf_8 rfl ?_
  refine z_iadd hG dX11_priceOf_9 (by omega) (by omega) ?_
  refine z_callV hG dX11_priceOf_10 LV_X11_87 (ct_X11_of l g hi ⟨by omega, by omega⟩) (by decide) rfl rfl rfl (Nat.le_of_ble_eq_true rfl) ?_
  intro v9 m9 h9
  rw [h9.1, h9.2]
  clear h9 m9 v9
  refine z_iret hG hE dX11_priceOf_13 trivial ?_
  exact ⟨rfl, rfl⟩
set_option maxRecDepth 20000 in
theorem ct_X11_lotOn (l : Launch) (g : zG) {m : zM} {i d : Int} (hi : 0 ≤ i ∧ i < 8) (hd : 0 ≤ d) : zMet l g Y_X11_lotOn [zr 11 0 0, zi i, zi d] m (fun v m' => v = some (zi (m 45 0 0 (6 + 46 * i + (15 + d % 31)))) ∧ m' = m) := by
  refine zMet_introF (by decide +kernel) (Nat.le_of_ble_eq_true rfl) (ls0 := [some (zr 11 0 0), some (zi i), some (zi d)]) rfl fun X hG hE => ?_
  have hG : zGood X l g RX11 cX11_lotOn 1 3 := hG
  have hE : zEnd X (some .int) _ := hE
  refine z_aload_n (i := 0) hG dX11_lotOn_0 rfl rfl ?_
  refine z_iload_n (i := 1) hG dX11_lotOn_1 rfl rfl ?_
  refine z_bipush hG dX11_lotOn_2 rfl ?_
  refine z_iload_n (i := 2) hG dX11_lotOn_4 rfl rfl ?_
  refine z_bipush hG dX11_lotOn_5 rfl ?_
  refine z_irem hG dX11_lotOn_7 (by omega) (by omega) ?_
  refine z_iadd hG dX11_lotOn_8 (by omega) (by omega) ?_
  refine z_callV hG dX11_lotOn_9 LV_X11_87 (ct_X11_of l g hi ⟨by omega, by omega⟩) (by decide) rfl rfl rfl (Nat.le_of_ble_eq_true rfl) ?_
  intro v9 m9 h9
  rw [h9.1, h9.2]
  clear h9 m9 v9
  refine z_iret hG hE dX11_lotOn_12 trivial ?_
  exact ⟨rfl, rfl⟩
set_option maxRecDepth 20000 in
theorem ct_X11_layLot (l : Launch) (g : zG) {m : zM} {i d v : Int} (hi : 0 ≤ i ∧ i < 8) (hd : 0 ≤ d) : zMet l g Y_X11_layLot [zr 11 0 0, zi i, zi d, zi v] m (fun v' m' => v' = none ∧ m' = zset m 45 0 0 (6 + 46 * i + (15 + d % 31)) v) := by
  refine zMet_introF (by decide +kernel) (Nat.le_of_ble_eq_true rfl) (ls0 := [some (zr 11 0 0), some (zi i), some (zi d), some (zi v)]) rfl fun X hG hE => ?_
  have hG : zGood X l g RX11 cX11_layLot 1 4 := hG
  have hE : zEnd X (none) _ := hE
  refine z_aload_n (i := 0) hG dX11_layLot_0 rfl rfl ?_
  refine z_iload_n (i := 1) hG dX11_layLot_1 rfl rfl ?_
  refine z_bipush hG dX11_layLot_2 rfl ?_
  refine z_iload_n (i := 2) hG dX11_layLot_4 rfl rfl ?_
  refine z_bipush hG dX11_layLot_5 rfl ?_
  refine z_irem hG dX11_layLot_7 (by omega) (by omega) ?_
  refine z_iadd hG dX11_layLot_8 (by omega) (by omega) ?_
  refine z_iload_n (i := 3) hG dX11_layLot_9 rfl rfl ?_
  refine z_callV hG dX11_layLot_10 LV_X11_83 (ct_X11_lay l g hi ⟨by omega, by omega⟩) (by decide) rfl rfl rfl (Nat.le_of_ble_eq_true rfl) ?_
  intro v9 m9 h9
  rw [h9.1, h9.2]
  clear h9 m9 v9
  refine z_vret hG hE dX11_layLot_13 ?_
  exact ⟨rfl, rfl⟩
