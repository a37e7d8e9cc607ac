/-- one step is copied -/
def zstp (mem : zM) (s i s2 i2 : Int) : zM := fun t' s' i' k' => if t' = 5 ∧ s' = s ∧ i' = i ∧ 0 ≤ k' ∧ k' < 4 then mem 5 s2 i2 k' else mem t' s' i' k'
set_option maxRecDepth 20000 in
theorem ct_X8_copyFrom (l : Launch) (g : zG) {mem : zM} {s i s2 i2 : Int} (hb : mem 5 s2 i2 3 = 0 ∨ mem 5 s2 i2 3 = 1) : zMet l g Y_X8_copyFrom [zr 5 s i, zr 5 s2 i2] mem (fun v m' => v = none ∧ m' = zstp mem s i s2 i2) := by
  refine zMet_introF (by decide +kernel) (Nat.le_of_ble_eq_true rfl) (ls0 := [some (zr 5 s i), some (zr 5 s2 i2)]) rfl fun X hG hE => ?_
  have hG : zGood X l g RX8 cX8_copyFrom 0 2 := hG
  have hE : zEnd X (none) _ := hE
  refine z_aload_n (i := 0) hG dX8_copyFrom_0 rfl rfl ?_
  refine z_aload_n (i := 1) hG dX8_copyFrom_1 rfl rfl ?_
  refine z_getI hG dX8_copyFrom_2 FL_X8_7 rfl rfl (kk := 0) rfl ?_
  refine z_put hG dX8_copyFrom_5 FP_X8_7 rfl rfl (kk := 0) rfl ?_
  refine z_aload_n (i := 0) hG dX8_copyFrom_8 rfl rfl ?_
  refine z_aload_n (i := 1) hG dX8_copyFrom_9 rfl rfl ?_
  refine z_getI hG dX8_copyFrom_10 FL_X8_13 rfl rfl (kk := 1) rfl ?_
  refine z_put hG dX8_copyFrom_13 FP_X8_13 rfl rfl (kk := 1) rfl ?_
  refine z_aload_n (i := 0) hG dX8_copyFrom_16 rfl rfl ?_
  refine z_aload_n (i := 1) hG dX8_copyFrom_17 rfl rfl ?_
  refine z_getI hG dX8_copyFrom_18 FL_X8_16 rfl rfl (kk := 2) rfl ?_
  refine z_put hG dX8_copyFrom_21 FP_X8_16 rfl rfl (kk := 2) rfl ?_
  refine z_aload_n (i := 0) hG dX8_copyFrom_24 rfl rfl ?_
  refine z_aload_n (i := 1) hG dX8_copyFrom_25 rfl rfl ?_
  refine z_getI hG dX8_copyFrom_26 FL_X8_19 rfl rfl (kk := 3) rfl ?_
  refine z_putB hG dX8_copyFrom_29 FP_X8_19 rfl rfl (kk := 3) rfl (by (first | omega | (simp [zset]; omega) | grind [zset])) ?_
  refine z_vret hG hE dX8_copyFrom_32 ?_
  refine ⟨rfl, ?_⟩
  funext t' s' i' k'
  simp only [zset, zstp]
  grind (splits := 60)
set_option maxRecDepth 20000 in
theorem ct_X1_begin (l : Launch) (g : zG) {mem : zM} {s i d : Int} : zMet l g Y_X1_begin [zr 3 s i, zi d] mem (fun v m' => v = none ∧ m' = zset (zset (zset (zset (zfill (zset (zset (zset (zset (zset mem 3 s i 0 d) 3 s i 1 1) 3 s i 2 0) 3 s i 5 (-6)) 3 s i 6 (-6)) 14 s i 30 0) 3 s i 8 0) 3 s i 9 0) 3 s i 10 0) 3 s i 11 0) := by
  refine zMet_introF (by decide +kernel) (Nat.le_of_ble_eq_true rfl) (ls0 := [some (zr 3 s i), some (zi d), none]) rfl fun X hG hE => ?_
  have hG : zGood X l g RX1 cX1_begin 0 3 := hG
  have hE : zEnd X (none) _ := hE
  have loop : ∀ (n : Nat) (j : Int) (m0 : zM), 0 ≤ j → j + n = 30 → (∀ m1, m1 = zfill m0 14 s i 30 0 → zZ X 48 [some (zr 3 s i), some (zi d), none] [] m1) → zZ X 29 [some (zr 3 s i), some (zi d), some (zi j)] [] (zfill m0 14 s i j 0) := by
    intro n
    induction n with
    | zero =>
      intro j m0 hj0 hj K
      refine z_iload_n (i := 2) hG dX1_begin_29 rfl rfl ?_
      refine z_bipush hG dX1_begin_30 rfl ?_
      refine z_icmp_ge hG dX1_begin_32 (tgt := 48) rfl (fun c32 => ?_) (fun c32 => ?_)
      · refine z_forget [true, true, false] rfl (K _ ?_)
        rw [show j = 30 by omega]
      · exact absurd c32 (by omega)
    | succ n ih =>
      intro j m0 hj0 hj K
      refine z_iload_n (i := 2) hG dX1_begin_29 rfl rfl ?_
      refine z_bipush hG dX1_begin_30 rfl ?_
      refine z_icmp_ge hG dX1_begin_32 (tgt := 48) rfl (fun c32 => ?_) (fun c32 => ?_)
      · exact absurd c32 (by omega)
      · refine z_aload_n (i := 0) hG dX1_begin_35 rfl rfl ?_
        refine z_get_1_7 hG dX1_begin_36 FL_X1_18 ?_
        refine z_iload_n (i := 2) hG dX1_begin_39 rfl rfl ?_
        refine z_iconst hG dX1_begin_40 rfl ?_
        refine z_iast hG dX1_begin_41 rfl rfl (by omega) (by omega) ?_
        refine z_iinc hG dX1_begin_42 (by decide) rfl (by omega) (by omega) (ls2 := [_, _, _]) rfl ?_
        refine z_goto hG dX1_begin_45 (tgt := 29) rfl ?_
        exact z_mem (zfill_s hj0 rfl) (ih (j + 1) m0 (by omega) (by omega) K)
  refine z_aload_n (i := 0) hG dX1_begin_0 rfl rfl ?_
  refine z_iload_n (i := 1) hG dX1_begin_1 rfl rfl ?_
  refine z_put hG dX1_begin_2 FP_X1_21 rfl rfl (kk := 0) rfl ?_
  refine z_aload_n (i := 0) hG dX1_begin_5 rfl rfl ?_
  refine z_iconst hG dX1_begin_6 rfl ?_
  refine z_putB hG dX1_begin_7 FP_X1_25 rfl rfl (kk := 1) rfl (by omega) ?_
  refine z_aload_n (i := 0) hG dX1_begin_10 rfl rfl ?_
  refine z_iconst hG dX1_begin_11 rfl ?_
  refine z_put hG dX1_begin_12 FP_X1_29 rfl rfl (kk := 2) rfl ?_
  refine z_aload_n (i := 0) hG dX1_begin_15 rfl rfl ?_
  refine z_bipush hG dX1_begin_16 rfl ?_
  refine z_put hG dX1_begin_18 FP_X1_32 rfl rfl (kk := 5) rfl ?_
  refine z_aload_n (i := 0) hG dX1_begin_21 rfl rfl ?_
  refine z_bipush hG dX1_begin_22 rfl ?_
  refine z_put hG dX1_begin_24 FP_X1_35 rfl rfl (kk := 6) rfl ?_
  refine z_iconst hG dX1_begin_27 rfl ?_
  refine z_istore_n (i := 2) hG dX1_begin_28 rfl (by decide) (ls2 := [_, _, _]) rfl ?_
  refine z_mem zfill_0.symm (loop 30 0 _ (by decide) rfl fun m1 hm1 => ?_)
  subst hm1
  refine z_aload_n (i := 0) hG dX1_begin_48 rfl rfl ?_
  refine z_iconst hG dX1_begin_49 rfl ?_
  refine z_put hG dX1_begin_50 FP_X1_38 rfl rfl (kk := 8) rfl ?_
  refine z_aload_n (i := 0) hG dX1_begin_53 rfl rfl ?_
  refine z_iconst hG dX1_begin_54 rfl ?_
  refine z_put hG dX1_begin_55 FP_X1_41 rfl rfl (kk := 9) rfl ?_
  refine z_aload_n (i := 0) hG dX1_begin_58 rfl rfl ?_
  refine z_iconst hG dX1_begin_59 rfl ?_
  refine z_put hG dX1_begin_60 FP_X1_44 rfl rfl (kk := 10) rfl ?_
  refine z_aload_n (i := 0) hG dX1_begin_63 rfl rfl ?_
  refine z_iconst hG dX1_begin_64 rfl ?_
  refine z_put hG dX1_begin_65 FP_X1_47 rfl rfl (kk := 11) rfl ?_
  refine z_vret hG hE dX1_begin_68 ?_
  exact ⟨rfl, rfl⟩
