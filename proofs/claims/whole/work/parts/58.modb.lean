set_option maxRecDepth 20000 in
theorem ct_X11_sizeOf (l : Launch) (g : zG) {m : zM} {i k : Int} (hi : 0 ≤ i ∧ i < 8) (hk : 0 ≤ k ∧ k < 3) : zMet l g Y_X11_sizeOf [zr 11 0 0, zi i, zi k] m (fun v m' => v = some (zi (m 45 0 0 (6 + 46 * i + (9 + 2 * k)))) ∧ m' = m) := by
  refine zMet_introF (by decide +kernel) (Nat.le_of_ble_eq_true rfl) (ls0 := [some (zr 11 0 0), some (zi i), some (zi k)]) rfl fun X hG hE => ?_
  have hG : zGood X l g RX11 cX11_sizeOf 1 3 := hG
  have hE : zEnd X (some .int) _ := hE
  refine z_aload_n (i := 0) hG dX11_sizeOf_0 rfl rfl ?_
  refine z_iload_n (i := 1) hG dX11_sizeOf_1 rfl rfl ?_
  refine z_bipush hG dX11_sizeOf_2 rfl ?_
  refine z_iconst hG dX11_sizeOf_4 rfl ?_
  refine z_iload_n (i := 2) hG dX11_sizeOf_5 rfl rfl ?_
  refine z_imul hG dX11_sizeOf_6 (by omega) (by omega) ?_
  refine z_iadd hG dX11_sizeOf_7 (by omega) (by omega) ?_
  refine z_callV hG dX11_sizeOf_8 LV_X11_87 (ct_X11_of l g hi ⟨by omega, by omega⟩) (by decide) rfl rfl rfl (Nat.le_of_ble_eq_true rfl) ?_
  intro v9 m9 h9
  rw [h9.1, h9.2]
  clear h9 m9 v9
  refine z_iret hG hE dX11_sizeOf_11 trivial ?_
  exact ⟨rfl, rfl⟩
set_option maxRecDepth 20000 in
theorem ct_X11_priceOf (l : Launch) (g : zG) {m : zM} {i k : Int} (hi : 0 ≤ i ∧ i < 8) (hk : 0 ≤ k ∧ k < 3) : zMet l g Y_X11_priceOf [zr 11 0 0, zi i, zi k] m (fun v m' => v = some (zi (m 45 0 0 (6 + 46 * i + (9 + 2 * k + 1)))) ∧ m' = m) := by
  refine zMet_introF (by decide +kernel) (Nat.le_of_ble_eq_true rfl) (ls0 := [some (zr 11 0 0), some (zi i), some (zi k)]) rfl fun X hG hE => ?_
  have hG : zGood X l g RX11 cX11_priceOf 1 3 := hG
  have hE : zEnd X (some .int) _ := hE
  refine z_aload_n (i := 0) hG dX11_priceOf_0 rfl rfl ?_
  refine z_iload_n (i := 1) hG dX11_priceOf_1 rfl rfl ?_
  refine z_bipush hG dX11_priceOf_2 rfl ?_
  refine z_iconst hG dX11_priceOf_4 rfl ?_
  refine z_iload_n (i := 2) hG dX11_priceOf_5 rfl rfl ?_
  refine z_imul hG dX11_priceOf_6 (by omega) (by omega) ?_
  refine z_iadd hG dX11_priceOf_7 (by omega) (by omega) ?_
  refine z_iconst hG dX11_priceOf_8 rfl ?_
  refine z_iadd hG dX11_priceOf_9 (by omega) (by omega) ?_
  refine z_callV hG dX11_priceOf_10 LV_X11_87 (ct_X11_of l g hi ⟨by omega, by omega⟩) (by decide) rfl rfl rfl (Nat.le_of_ble_eq_true rfl) ?_
  intro v9 m9 h9
  rw [h9.1, h9.2]
  clear h9 m9 v9
  refine z_iret hG hE dX11_priceOf_13 trivial ?_
  exact ⟨rfl, rfl⟩
set_option maxRecDepth 20000 in
theorem ct_X11_lotOn (l : Launch) (g : zG) {m : zM} {i d : Int} (hi : 0 ≤ i ∧ i < 8) (hd : 0 ≤ d) : zMet l g Y_X11_lotOn [zr 11 0 0, zi i, zi d] m (fun v m' => v = some (zi (m 45 0 0 (6 + 46 * i + (15 + d % 31)))) ∧ m' = m) := by
  refine zMet_introF (by decide +kernel) (Nat.le_of_ble_eq_true rfl) (ls0 := [some (zr 11 0 0), some (zi i), some (zi d)]) rfl fun X hG hE => ?_
  have hG : zGood X l g RX11 cX11_lotOn 1 3 := hG
  have hE : zEnd X (some .int) _ := hE
  refine z_aload_n (i := 0) hG dX11_lotOn_0 rfl rfl ?_
  refine z_iload_n (i := 1) hG dX11_lotOn_1 rfl rfl ?_
  refine z_bipush hG dX11_lotOn_2 rfl ?_
  refine z_iload_n (i := 2) hG dX11_lotOn_4 rfl rfl ?_
  refine z_bipush hG dX11_lotOn_5 rfl ?_
  refine z_irem hG dX11_lotOn_7 (by omega) (by omega) ?_
  refine z_iadd hG dX11_lotOn_8 (by omega) (by omega) ?_
  refine z_callV hG dX11_lotOn_9 LV_X11_87 (ct_X11_of l g hi ⟨by omega, by omega⟩) (by decide) rfl rfl rfl (Nat.le_of_ble_eq_true rfl) ?_
  intro v9 m9 h9
  rw [h9.1, h9.2]
  clear h9 m9 v9
  refine z_iret hG hE dX11_lotOn_12 trivial ?_
  exact ⟨rfl, rfl⟩
set_option maxRecDepth 20000 in
theorem ct_X11_layLot (l : Launch) (g : zG) {m : zM} {i d v : Int} (hi : 0 ≤ i ∧ i < 8) (hd : 0 ≤ d) : zMet l g Y_X11_layLot [zr 11 0 0, zi i, zi d, zi v] m (fun v' m' => v' = none ∧ m' = zset m 45 0 0 (6 + 46 * i + (15 + d % 31)) v) := by
  refine zMet_introF (by decide +kernel) (Nat.le_of_ble_eq_true rfl) (ls0 := [some (zr 11 0 0), some (zi i), some (zi d), some (zi v)]) rfl fun X hG hE => ?_
  have hG : zGood X l g RX11 cX11_layLot 1 4 := hG
  have hE : zEnd X (none) _ := hE
  refine z_aload_n (i := 0) hG dX11_layLot_0 rfl rfl ?_
  refine z_iload_n (i := 1) hG dX11_layLot_1 rfl rfl ?_
  refine z_bipush hG dX11_layLot_2 rfl ?_
  refine z_iload_n (i := 2) hG dX11_layLot_4 rfl rfl ?_
  refine z_bipush hG dX11_layLot_5 rfl ?_
  refine z_irem hG dX11_layLot_7 (by omega) (by omega) ?_
  refine z_iadd hG dX11_layLot_8 (by omega) (by omega) ?_
  refine z_iload_n (i := 3) hG dX11_layLot_9 rfl rfl ?_
  refine z_callV hG dX11_layLot_10 LV_X11_83 (ct_X11_lay l g hi ⟨by omega, by omega⟩) (by decide) rfl rfl rfl (Nat.le_of_ble_eq_true rfl) ?_
  intro v9 m9 h9
  rw [h9.1, h9.2]
  clear h9 m9 v9
  refine z_vret hG hE dX11_layLot_13 ?_
  exact ⟨rfl, rfl⟩
set_option maxRecDepth 20000 in
theorem ct_X11_pantry (l : Launch) (g : zG) {m : zM} {i : Int} (hi : 0 ≤ i ∧ i < 8) (hB : ∀ j : Int, 0 ≤ j → j < 31 → 0 ≤ m 45 0 0 (6 + 46 * i + (15 + j)) ∧ m 45 0 0 (6 + 46 * i + (15 + j)) ≤ 12000000) : zMet l g Y_X11_pantry [zr 11 0 0, zi i] m (fun v m' => v = some (zi (zsum 31 (fun j => m 45 0 0 (6 + 46 * i + (15 + j))))) ∧ m' = m) := by
  refine zMet_introF (by decide +kernel) (Nat.le_of_ble_eq_true rfl) (ls0 := [some (zr 11 0 0), some (zi i), none, none]) rfl fun X hG hE => ?_
  have hG : zGood X l g RX11 cX11_pantry 1 4 := hG
  have hE : zEnd X (some .int) _ := hE
  have loop : ∀ n k : Nat, k + n = 31 → zZ X 4 [some (zr 11 0 0), some (zi i), some (zi (zsum k (fun j => m 45 0 0 (6 + 46 * i + (15 + j))))), some (zi k)] [] m := by
    intro n
    induction n with
    | zero =>
      intro k hk
      refine z_iload_n (i := 3) hG dX11_pantry_4 rfl rfl ?_
      refine z_bipush hG dX11_pantry_5 rfl ?_
      refine z_icmp_ge hG dX11_pantry_7 (tgt := 28) rfl (fun c7 => ?_) (fun c7 => ?_)
      · refine z_iload_n (i := 2) hG dX11_pantry_28 rfl rfl ?_
        refine z_iret hG hE dX11_pantry_29 trivial ?_
        obtain rfl : k = 31 := by omega
        exact ⟨rfl, rfl⟩
      · exact absurd c7 (by omega)
    | succ n ih =>
      intro k hk
      have hbd := zsum_le (f := (fun j => m 45 0 0 (6 + 46 * i + (15 + j)))) (B := 12000000) k (fun j j0 j1 => by have := hB j j0 (by omega); omega)
      refine z_iload_n (i := 3) hG dX11_pantry_4 rfl rfl ?_
      refine z_bipush hG dX11_pantry_5 rfl ?_
      refine z_icmp_ge hG dX11_pantry_7 (tgt := 28) rfl (fun c7 => ?_) (fun c7 => ?_)
      · exact absurd c7 (by omega)
      · refine z_iload_n (i := 2) hG dX11_pantry_10 rfl rfl ?_
        refine z_aload_n (i := 0) hG dX11_pantry_11 rfl rfl ?_
        refine z_iload_n (i := 1) hG dX11_pantry_12 rfl rfl ?_
        refine z_bipush hG dX11_pantry_13 rfl ?_
        refine z_iload_n (i := 3) hG dX11_pantry_15 rfl rfl ?_
        refine z_iadd hG dX11_pantry_16 (by omega) (by omega) ?_
        refine z_callV hG dX11_pantry_17 LV_X11_87 (ct_X11_of l g hi ⟨by omega, by omega⟩) (by decide) rfl rfl rfl (Nat.le_of_ble_eq_true rfl) ?_
        intro v9 m9 h9
        rw [h9.1, h9.2]
        clear h9 m9 v9
        have hb1 := hB k (by omega) (by omega)
        refine z_iadd hG dX11_pantry_20 (by omega) (by omega) ?_
        refine z_istore_n (i := 2) hG dX11_pantry_21 rfl (by decide) (ls2 := [_, _, _, _]) rfl ?_
        refine z_iinc hG dX11_pantry_22 (by decide) rfl (by omega) (by omega) (ls2 := [_, _, _, _]) rfl ?_
        refine z_goto hG dX11_pantry_25 (tgt := 4) rfl ?_
        exact ih (k + 1) (by omega)
  refine z_iconst hG dX11_pantry_0 rfl ?_
  refine z_istore_n (i := 2) hG dX11_pantry_1 rfl (by decide) (ls2 := [_, _, _, _]) rfl ?_
  refine z_iconst hG dX11_pantry_2 rfl ?_
  refine z_istore_n (i := 3) hG dX11_pantry_3 rfl (by decide) (ls2 := [_, _, _, _]) rfl ?_
  exact loop 31 0 rfl
set_option maxRecDepth 20000 in
theorem ct_X11_lots (l : Launch) (g : zG) {m : zM} {i : Int} (hi : 0 ≤ i ∧ i < 8) (hB : ∀ j : Int, 0 ≤ j → j < 31 → 0 ≤ m 45 0 0 (6 + 46 * i + (15 + j)) ∧ m 45 0 0 (6 + 46 * i + (15 + j)) ≤ 12000000) : zMet l g Y_X11_lots [zr 11 0 0, zi i] m (fun v m' => v = some (zi (zsum 31 (fun j => if 0 < m 45 0 0 (6 + 46 * i + (15 + j)) then 1 else 0))) ∧ m' = m) := by
  refine zMet_introF (by decide +kernel) (Nat.le_of_ble_eq_true rfl) (ls0 := [some (zr 11 0 0), some (zi i), none, none]) rfl fun X hG hE => ?_
  have hG : zGood X l g RX11 cX11_lots 1 4 := hG
  have hE : zEnd X (some .int) _ := hE
  have loop : ∀ n k : Nat, k + n = 31 → zZ X 4 [some (zr 11 0 0), some (zi i), some (zi (zsum k (fun j => if 0 < m 45 0 0 (6 + 46 * i + (15 + j)) then 1 else 0))), some (zi k)] [] m := by
    intro n
    induction n with
    | zero =>
      intro k hk
      refine z_iload_n (i := 3) hG dX11_lots_4 rfl rfl ?_
      refine z_bipush hG dX11_lots_5 rfl ?_
      refine z_icmp_ge hG dX11_lots_7 (tgt := 36) rfl (fun c7 => ?_) (fun c7 => ?_)
      · refine z_iload_n (i := 2) hG dX11_lots_36 rfl rfl ?_
        refine z_iret hG hE dX11_lots_37 trivial ?_
        obtain rfl : k = 31 := by omega
        exact ⟨rfl, rfl⟩
      · exact absurd c7 (by omega)
    | succ n ih =>
      intro k hk
      have hbd := zsum_le (f := (fun j => if 0 < m 45 0 0 (6 + 46 * i + (15 + j)) then 1 else 0)) (B := 12000000) k (fun j j0 j1 => by have := hB j j0 (by omega); split <;> omega)
      refine z_iload_n (i := 3) hG dX11_lots_4 rfl rfl ?_
      refine z_bipush hG dX11_lots_5 rfl ?_
      refine z_icmp_ge hG dX11_lots_7 (tgt := 36) rfl (fun c7 => ?_) (fun c7 => ?_)
      · exact absurd c7 (by omega)
      · refine z_iload_n (i := 2) hG dX11_lots_10 rfl rfl ?_
        refine z_aload_n (i := 0) hG dX11_lots_11 rfl rfl ?_
        refine z_iload_n (i := 1) hG dX11_lots_12 rfl rfl ?_
        refine z_bipush hG dX11_lots_13 rfl ?_
        refine z_iload_n (i := 3) hG dX11_lots_15 rfl rfl ?_
        refine z_iadd hG dX11_lots_16 (by omega) (by omega) ?_
        refine z_callV hG dX11_lots_17 LV_X11_87 (ct_X11_of l g hi ⟨by omega, by omega⟩) (by decide) rfl rfl rfl (Nat.le_of_ble_eq_true rfl) ?_
        intro v9 m9 h9
        rw [h9.1, h9.2]
        clear h9 m9 v9
        have hb1 := hB k (by omega) (by omega)
        refine z_if_le hG dX11_lots_20 (tgt := 27) rfl (fun c20 => ?_) (fun c20 => ?_)
        · refine z_iconst hG dX11_lots_27 rfl ?_
          refine z_iadd hG dX11_lots_28 (by omega) (by omega) ?_
          refine z_istore_n (i := 2) hG dX11_lots_29 rfl (by decide) (ls2 := [_, _, _, _]) rfl ?_
          refine z_iinc hG dX11_lots_30 (by decide) rfl (by omega) (by omega) (ls2 := [_, _, _, _]) rfl ?_
          refine z_goto hG dX11_lots_33 (tgt := 4) rfl ?_
          refine z_forget [true, true, true, true] (ls2 := [some (zr 11 0 0), some (zi i), some (zi (zsum (k + 1) (fun j => if 0 < m 45 0 0 (6 + 46 * i + (15 + j)) then 1 else 0))), some (zi ((k + 1 : Nat) : Int))]) ?_ (ih (k + 1) (by omega))
          first | (rw [zsum, if_pos c20]; rfl) | (rw [zsum, if_neg (by omega)]; rfl)
        · refine z_iconst hG dX11_lots_23 rfl ?_
          refine z_goto hG dX11_lots_24 (tgt := 28) rfl ?_
          refine z_iadd hG dX11_lots_28 (by omega) (by omega) ?_
          refine z_istore_n (i := 2) hG dX11_lots_29 rfl (by decide) (ls2 := [_, _, _, _]) rfl ?_
          refine z_iinc hG dX11_lots_30 (by decide) rfl (by omega) (by omega) (ls2 := [_, _, _, _]) rfl ?_
          refine z_goto hG dX11_lots_33 (tgt := 4) rfl ?_
          refine z_forget [true, true, true, true] (ls2 := [some (zr 11 0 0), some (zi i), some (zi (zsum (k + 1) (fun j => if 0 < m 45 0 0 (6 + 46 * i + (15 + j)) then 1 else 0))), some (zi ((k + 1 : Nat) : Int))]) ?_ (ih (k + 1) (by omega))
          first | (rw [zsum, if_pos c20]; rfl) | (rw [zsum, if_neg (by omega)]; rfl)
  refine z_iconst hG dX11_lots_0 rfl ?_
  refine z_istore_n (i := 2) hG dX11_lots_1 rfl (by decide) (ls2 := [_, _, _, _]) rfl ?_
  refine z_iconst hG dX11_lots_2 rfl ?_
  refine z_istore_n (i := 3) hG dX11_lots_3 rfl (by decide) (ls2 := [_, _, _, _]) rfl ?_
  exact loop 31 0 rfl
