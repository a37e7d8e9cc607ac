/-- when the steps begin -/
noncomputable def zrb (E : zE) (h : Int) : Int → Int := Classical.epsilon (fun b => ∃ (k : Nat) (last : Int), zRn E h k 0 (fun _ => -6) b last)
theorem zrb_eq {E : zE} {h : Int} {k : Nat} {b : Int → Int} {last : Int} (hr : zRn E h k 0 (fun _ => -6) b last) : zrb E h = b := by
  obtain ⟨k', last', h'⟩ := Classical.epsilon_spec (p := fun b => ∃ (k : Nat) (last : Int), zRn E h k 0 (fun _ => -6) b last) ⟨b, k, last, hr⟩
  exact (zRn_det _ _ _ _ _ _ _ _ (Int.le_refl _) h' hr).1
set_option maxRecDepth 20000 in
theorem ct_X10_tailInMenu (l : Launch) (g : zG) {mem : zM} {B r k : Int} (hI0 : zIS B mem 0) (hsc : zsch mem) (hr : 0 ≤ r ∧ r < 4) (hk : 0 ≤ k ∧ k < 8) (hon : zEc mem 0 (r * 8 + k) = 1) : zMet l g Y_X10_tailInMenu [zr 0 0 0, zi r, zi k] mem (fun v m' => v = some (zi (zEc mem 4 (r * 8 + k))) ∧ zEqs m' mem ∧ zsch m') := by
  refine zMet_introF (by decide +kernel) (Nat.le_of_ble_eq_true rfl) (ls0 := [some (zr 0 0 0), some (zi r), some (zi k)]) rfl fun X hG hE => ?_
  have hG : zGood X l g RX10 cX10_tailInMenu 5 3 := hG
  have hE : zEnd X (some .int) _ := hE
  refine z_aload_n (i := 0) hG dX10_tailInMenu_0 rfl rfl ?_
  refine z_get_10_7 hG dX10_tailInMenu_1 FL_X10_53 ?_
  refine z_aload_n (i := 0) hG dX10_tailInMenu_4 rfl rfl ?_
  refine z_get_10_0 hG dX10_tailInMenu_5 FL_X10_12 ?_
  refine z_callV hG dX10_tailInMenu_8 LV_X10_282 (ct_X5_gather l g hI0 hsc) (by decide) rfl rfl rfl (Nat.le_of_ble_eq_true rfl) ?_
  intro v9 m1 h9
  obtain ⟨h9a, hGI⟩ := h9
  rw [h9a]
  clear h9a v9
  have hBd := zGI_done hGI
  have hEE := zEc_ok hI0
  refine z_aload_n (i := 0) hG dX10_tailInMenu_11 rfl rfl ?_
  refine z_get_10_7 hG dX10_tailInMenu_12 FL_X10_53 ?_
  refine z_get_5_0 hG dX10_tailInMenu_15 FL_X10_319 ?_
  refine z_iload_n (i := 1) hG dX10_tailInMenu_18 rfl rfl ?_
  refine z_bipush hG dX10_tailInMenu_19 rfl ?_
  refine z_imul hG dX10_tailInMenu_21 (by omega) (by omega) ?_
  refine z_iload_n (i := 2) hG dX10_tailInMenu_22 rfl rfl ?_
  refine z_iadd hG dX10_tailInMenu_23 (by omega) (by omega) ?_
  refine z_iald hG dX10_tailInMenu_24 rfl rfl (by omega) (by omega) ?_
  refine z_iret hG hE dX10_tailInMenu_25 trivial ?_
  exact ⟨by rw [(hBd.2.2.2.1 (r * 8 + k) (by omega) (by omega) hon).2.2.2], hBd.1, hBd.2.1⟩
set_option maxRecDepth 20000 in
theorem ct_X10_beginInMenu (l : Launch) (g : zG) {mem : zM} {B r k : Int} (hI0 : zIS B mem 0) (hsc : zsch mem) (hr : 0 ≤ r ∧ r < 4) (hk : 0 ≤ k ∧ k < 8) : zMet l g Y_X10_beginInMenu [zr 0 0 0, zi r, zi k] mem (fun v m' => v = some (zi (zrb (zEc mem) (mem 2 0 0 1) (r * 8 + k))) ∧ zEqs m' mem ∧ zsch m') := by
  refine zMet_introF (by decide +kernel) (Nat.le_of_ble_eq_true rfl) (ls0 := [some (zr 0 0 0), some (zi r), some (zi k)]) rfl fun X hG hE => ?_
  have hG : zGood X l g RX10 cX10_beginInMenu 5 3 := hG
  have hE : zEnd X (some .int) _ := hE
  refine z_aload_n (i := 0) hG dX10_beginInMenu_0 rfl rfl ?_
  refine z_get_10_7 hG dX10_beginInMenu_1 FL_X10_53 ?_
  refine z_aload_n (i := 0) hG dX10_beginInMenu_4 rfl rfl ?_
  refine z_get_10_0 hG dX10_beginInMenu_5 FL_X10_12 ?_
  refine z_callV hG dX10_beginInMenu_8 LV_X10_282 (ct_X5_gather l g hI0 hsc) (by decide) rfl rfl rfl (Nat.le_of_ble_eq_true rfl) ?_
  intro v9 m1 h9
  obtain ⟨h9a, hGI⟩ := h9
  rw [h9a]
  clear h9a v9
  have hBd := zGI_done hGI
  have hEE := zEc_ok hI0
  refine z_aload_n (i := 0) hG dX10_beginInMenu_11 rfl rfl ?_
  refine z_get_10_7 hG dX10_beginInMenu_12 FL_X10_53 ?_
  refine z_aload_n (i := 0) hG dX10_beginInMenu_15 rfl rfl ?_
  refine z_get_10_0 hG dX10_beginInMenu_16 FL_X10_12 ?_
  refine z_getI hG dX10_beginInMenu_19 FL_X10_159 rfl rfl (kk := 1) rfl ?_
  rw [hBd.1 2 0 0 1 (by simp [zsct])]
  refine z_callV hG dX10_beginInMenu_22 LV_X10_297 (ct_X5_run l g hBd.2.1 hBd.2.2.1 hEE hBd.2.2.2.1 hBd.2.2.2.2 (by have := hI0.2.1; omega)) (by decide) rfl rfl rfl (Nat.le_of_ble_eq_true rfl) ?_
  intro v9 m9 h9
  obtain ⟨h9a, b2, k2, last2, hR2, c2, ha2, hb2, h9b⟩ := h9
  rw [h9a, h9b]
  clear h9a h9b m9 v9
  refine z_aload_n (i := 0) hG dX10_beginInMenu_25 rfl rfl ?_
  refine z_get_10_7 hG dX10_beginInMenu_26 FL_X10_53 ?_
  refine z_get_5_1 hG dX10_beginInMenu_29 FL_X10_322 ?_
  refine z_iload_n (i := 1) hG dX10_beginInMenu_32 rfl rfl ?_
  refine z_bipush hG dX10_beginInMenu_33 rfl ?_
  refine z_imul hG dX10_beginInMenu_35 (by omega) (by omega) ?_
  refine z_iload_n (i := 2) hG dX10_beginInMenu_36 rfl rfl ?_
  refine z_iadd hG dX10_beginInMenu_37 (by omega) (by omega) ?_
  refine z_iald hG dX10_beginInMenu_38 rfl rfl (by omega) (by omega) ?_
  refine z_iret hG hE dX10_beginInMenu_39 trivial ?_
  exact ⟨by rw [zrw_b, zrb_eq hR2, ha2 (r * 8 + k) (by omega) (by omega)], (zBd_rw hBd).1, (zBd_rw hBd).2.1⟩
set_option maxRecDepth 20000 in
theorem ct_ofSchedule8 (l : Launch) (g : zG) {m m1 : zM} {B : Int} (hI0 : zIS B m 0) (hGI : zGI (zEc m) m 32 32 (fun p => p < 32) m1) : zMet l g Y_X10_ofSchedule [zr 0 0 0, zi 8] m1 (fun v m' => v = some (zi (zre (zEc m) (m 2 0 0 1))) ∧ zEqs m' m ∧ zsch m') := by
  refine zMet_introF (by decide +kernel) (Nat.le_of_ble_eq_true rfl) (ls0 := [some (zr 0 0 0), some (zi 8)]) rfl fun X hG hE => ?_
  have hG : zGood X l g RX10 cX10_ofSchedule 4 2 := hG
  have hE : zEnd X (some .int) _ := hE
  have hBd := zGI_done hGI
  have hEE := zEc_ok hI0
  refine z_iload_n (i := 1) hG dX10_ofSchedule_0 rfl rfl ?_
  refine z_lookup hG dX10_ofSchedule_1 (by decide) rfl (tgt := 28) rfl ?_
  refine z_aload_n (i := 0) hG dX10_ofSchedule_28 rfl rfl ?_
  refine z_get_10_7 hG dX10_ofSchedule_29 FL_X10_53 ?_
  refine z_aload_n (i := 0) hG dX10_ofSchedule_32 rfl rfl ?_
  refine z_get_10_0 hG dX10_ofSchedule_33 FL_X10_12 ?_
  refine z_getI hG dX10_ofSchedule_36 FL_X10_159 rfl rfl (kk := 1) rfl ?_
  rw [hBd.1 2 0 0 1 (by simp [zsct])]
  refine z_callV hG dX10_ofSchedule_39 LV_X10_297 (ct_X5_run l g hBd.2.1 hBd.2.2.1 hEE hBd.2.2.2.1 hBd.2.2.2.2 (by have := hI0.2.1; omega)) (by decide) rfl rfl rfl (Nat.le_of_ble_eq_true rfl) ?_
  intro v9 m9 h9
  obtain ⟨h9a, b2, k2, last2, hR2, c2, ha2, hb2, h9b⟩ := h9
  rw [h9a, h9b]
  clear h9a h9b m9 v9
  refine z_aload_n (i := 0) hG dX10_ofSchedule_42 rfl rfl ?_
  refine z_get_10_7 hG dX10_ofSchedule_43 FL_X10_53 ?_
  refine z_callV hG dX10_ofSchedule_46 LV_X10_300 (ct_X5_end l g (zBd_rw hBd).2.1 (fun j j0 j1 => by rw [zrw_b]; exact hb2 j j0 j1) (zBd_rw hBd).2.2.1) (by decide) rfl rfl rfl (Nat.le_of_ble_eq_true rfl) ?_
  intro v9 m9 h9
  obtain ⟨r9, h9a, h9b, h9c⟩ := h9
  rw [h9a, h9b]
  clear h9a h9b m9 v9
  have hre : zre (zEc m) (m 2 0 0 1) = r9 := zre_eq ⟨k2, b2, last2, hR2, zEd_ag ha2 (zEd_of hBd.2.2.2.1 hBd.2.2.1 hBd.2.2.2.2 h9c)⟩
  refine z_iret hG hE dX10_ofSchedule_49 trivial ?_
  exact ⟨by rw [hre], (zBd_rw hBd).1, (zBd_rw hBd).2.1⟩
set_option maxRecDepth 20000 in
theorem ct_ofSchedule9 (l : Launch) (g : zG) {m m1 : zM} {B : Int} (hI0 : zIS B m 0) (hGI : zGI (zEc m) m 32 32 (fun p => p < 32) m1) : zMet l g Y_X10_ofSchedule [zr 0 0 0, zi 9] m1 (fun v m' => (∃ G : Int, zmax (zEc m) (fun p => p < 32) G ∧ v = some (zi (if G < (zsum 32 (zwf (zEc m)) + m 2 0 0 1 - 1) / m 2 0 0 1 then (zsum 32 (zwf (zEc m)) + m 2 0 0 1 - 1) / m 2 0 0 1 else G))) ∧ zEqs m' m ∧ zsch m') := by
  refine zMet_introF (by decide +kernel) (Nat.le_of_ble_eq_true rfl) (ls0 := [some (zr 0 0 0), some (zi 9)]) rfl fun X hG hE => ?_
  have hG : zGood X l g RX10 cX10_ofSchedule 4 2 := hG
  have hE : zEnd X (some .int) _ := hE
  have hBd := zGI_done hGI
  have hEE := zEc_ok hI0
  refine z_iload_n (i := 1) hG dX10_ofSchedule_0 rfl rfl ?_
  refine z_lookup hG dX10_ofSchedule_1 (by decide) rfl (tgt := 50) rfl ?_
  refine z_aload_n (i := 0) hG dX10_ofSchedule_50 rfl rfl ?_
  refine z_get_10_7 hG dX10_ofSchedule_51 FL_X10_53 ?_
  refine z_aload_n (i := 0) hG dX10_ofSchedule_54 rfl rfl ?_
  refine z_get_10_0 hG dX10_ofSchedule_55 FL_X10_12 ?_
  refine z_getI hG dX10_ofSchedule_58 FL_X10_159 rfl rfl (kk := 1) rfl ?_
  rw [hBd.1 2 0 0 1 (by simp [zsct])]
  refine z_callV hG dX10_ofSchedule_61 LV_X10_325 (ct_X5_bound l g (by have := zwf_bd (zEc_ok hI0) (q := 32) (by decide) (by decide); have e := hGI.2.2.2.2.2.2.2.1; rw [e]; omega) hI0.2.1) (by decide) rfl rfl rfl (Nat.le_of_ble_eq_true rfl) ?_
  intro v9 m9 h9
  rw [h9.1, h9.2]
  clear h9 m9 v9
  refine z_iret hG hE dX10_ofSchedule_64 trivial ?_
  exact ⟨⟨_, hGI.2.2.2.2.2.2.2.2, by rw [hGI.2.2.2.2.2.2.2.1]; rfl⟩, hBd.1, hBd.2.1⟩
set_option maxRecDepth 20000 in
theorem ct_ofSchedule10 (l : Launch) (g : zG) {m m1 : zM} {B : Int} (hI0 : zIS B m 0) (hGI : zGI (zEc m) m 32 32 (fun p => p < 32) m1) : zMet l g Y_X10_ofSchedule [zr 0 0 0, zi 10] m1 (fun v m' => v = some (zi (zsum 32 (zwf (zEc m)))) ∧ zEqs m' m ∧ zsch m') := by
  refine zMet_introF (by decide +kernel) (Nat.le_of_ble_eq_true rfl) (ls0 := [some (zr 0 0 0), some (zi 10)]) rfl fun X hG hE => ?_
  have hG : zGood X l g RX10 cX10_ofSchedule 4 2 := hG
  have hE : zEnd X (some .int) _ := hE
  have hBd := zGI_done hGI
  have hEE := zEc_ok hI0
  refine z_iload_n (i := 1) hG dX10_ofSchedule_0 rfl rfl ?_
  refine z_lookup hG dX10_ofSchedule_1 (by decide) rfl (tgt := 65) rfl ?_
  refine z_aload_n (i := 0) hG dX10_ofSchedule_65 rfl rfl ?_
  refine z_get_10_7 hG dX10_ofSchedule_66 FL_X10_53 ?_
  refine z_getI hG dX10_ofSchedule_69 FL_X10_328 rfl rfl (kk := 2) rfl ?_
  refine z_iret hG hE dX10_ofSchedule_72 trivial ?_
  exact ⟨by rw [hGI.2.2.2.2.2.2.2.1]; rfl, hBd.1, hBd.2.1⟩
