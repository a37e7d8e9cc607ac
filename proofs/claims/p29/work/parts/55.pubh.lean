def zEqa (m2 m : zM) : Prop := ∀ (t : Nat) (s i k : Int), ¬ (zscr t ∨ zsct t ∨ t = 40) → m2 t s i k = m t s i k
theorem zEqa_1 {m2 m : zM} (h : zEq m2 m) : zEqa m2 m := fun t s i k ht => h t s i k (fun z => ht (Or.inl z))
theorem zEqa_2 {m2 m : zM} (h : zEqs m2 m) : zEqa m2 m := fun t s i k ht => h t s i k (fun z => ht (Or.inr z))
theorem zsch_eq {m2 m : zM} (h : zEq m2 m) (hs : zsch m) : zsch m2 := fun j j0 j1 => by
  rw [h 39 0 0 j (by simp [zscr]), h 41 0 0 j (by simp [zscr]), h 42 0 0 j (by simp [zscr])]
  exact hs j j0 j1
theorem zsea_eqs {m2 m : zM} (h : zEqs m2 m) (hs : zsea m) : zsea m2 := fun j j0 j1 => by
  rw [h 36 0 0 j (by simp [zsct]), h 37 0 0 j (by simp [zsct])]
  exact hs j j0 j1
def zgre (E : zE) : Int := zmxs (fun p => if E 0 p = 1 then E 4 p else 0) 32
theorem zmax_eq {E : zE} (hE : zEok E) {G : Int} (h : zmax E (fun p => p < 32) G) : G = zgre E := by
  obtain ⟨a1, a2, a3⟩ := zmxs_at (f := fun p => if E 0 p = 1 then E 4 p else 0) 32
  change (∀ j : Int, 0 ≤ j → j < ((32 : Nat) : Int) → (if E 0 j = 1 then E 4 j else 0) ≤ zgre E) at a1
  change (zgre E = 0 ∨ ∃ j : Int, 0 ≤ j ∧ j < ((32 : Nat) : Int) ∧ (if E 0 j = 1 then E 4 j else 0) = zgre E) at a2
  change 0 ≤ zgre E at a3
  obtain ⟨h1, h2, h3⟩ := h
  have x1 : G ≤ zgre E := by
    rcases h3 with z | ⟨p, p0, p1, p2, p3, p4⟩
    · omega
    · have := a1 p p0 p1
      rw [if_pos p2] at this
      omega
  have x2 : zgre E ≤ G := by
    rcases a2 with z | ⟨p, p0, p1, p2⟩
    · omega
    · by_cases c : E 0 p = 1
      · rw [if_pos c] at p2
        have := h2 p p0 p1 c p1
        omega
      · rw [if_neg c] at p2
        omega
  omega
def zshq (W : zPl) (m : zM) (w : Int) : Int := if w = 4 then zsum 8 (W 7) else if w = 5 then zsum 8 (W 4) else if w = 6 then zmss (W 6) 8 else if zmss (W 6) 8 = 0 ∧ zhp m then 1 else 0
noncomputable def zk_count (w : Int) (m : zM) : Int := if w = 0 then m 2 0 0 0 else if w = 1 then m 2 0 0 4 else if w = 2 then m 2 0 0 5 else if w = 3 then m 2 0 0 1 else if 4 ≤ w ∧ w ≤ 7 then zshq (zPl0 m) m w
  else if w = 8 then zre (zEc m) (m 2 0 0 1) else if w = 9 then (if zgre (zEc m) < (zsum 32 (zwf (zEc m)) + m 2 0 0 1 - 1) / m 2 0 0 1 then (zsum 32 (zwf (zEc m)) + m 2 0 0 1 - 1) / m 2 0 0 1 else zgre (zEc m)) else if w = 10 then zsum 32 (zwf (zEc m))
  else if w = 11 then m 2 0 0 2 else if w = 12 then m 2 0 0 3 else if w = 13 then m 6 0 0 0 else if w = 14 then m 1 0 0 0 else -2
set_option maxRecDepth 20000 in
theorem ct_X10_ofShopping (l : Launch) (g : zG) {mem : zM} {W : zPl} {w : Int} (hW : zShop mem W) (hb : zplb W) : zMet l g Y_X10_ofShopping [zr 0 0 0, zi w] mem (fun v m' => v = some (zi (zshq W mem w)) ∧ m' = mem) := by
  refine zMet_introF (by decide +kernel) (Nat.le_of_ble_eq_true rfl) (ls0 := [some (zr 0 0 0), some (zi w)]) rfl fun X hG hE => ?_
  have hG : zGood X l g RX10 cX10_ofShopping 2 2 := hG
  have hE : zEnd X (some .int) _ := hE
  refine z_iload_n (i := 1) hG dX10_ofShopping_0 rfl rfl ?_
  rcases (show (w < 4 ∨ 6 < w) ∨ w = 4 ∨ w = 5 ∨ w = 6 from by omega) with c1 | rfl | rfl | rfl
  · refine z_tabOut hG dX10_ofShopping_1 (by omega) (tgt := 52) rfl ?_
    refine z_aload_n (i := 0) hG dX10_ofShopping_52 rfl rfl ?_
    refine z_callV hG dX10_ofShopping_53 LV_X10_165 (ct_X10_canBeCooked l g hW) (by decide) rfl rfl rfl (Nat.le_of_ble_eq_true rfl) ?_
    intro v9 m9 h9
    rw [h9.1, h9.2]
    clear h9 m9 v9
    refine z_callS hG dX10_ofShopping_56 LS_X10_97 (ct_X10_asNumber l g (by split <;> simp)) (by decide) rfl rfl (Nat.le_of_ble_eq_true rfl) ?_
    intro v9 m9 h9
    rw [h9.1, h9.2]
    clear h9 m9 v9
    refine z_iret hG hE dX10_ofShopping_59 trivial ?_
    refine ⟨?_, rfl⟩
    have d4 : w ≠ 4 := by omega
    have d5 : w ≠ 5 := by omega
    have d6 : w ≠ 6 := by omega
    simp only [zshq, d4, d5, d6, if_false]
  · refine z_tabIn hG dX10_ofShopping_1 (by decide) (by decide) (off := 27) rfl (tgt := 28) rfl ?_
    refine z_aload_n (i := 0) hG dX10_ofShopping_28 rfl rfl ?_
    refine z_get_10_6 hG dX10_ofShopping_29 FL_X10_46 ?_
    refine z_callV hG dX10_ofShopping_32 LV_X10_172 (ct_X6_allPrices l g hW hb) (by decide) rfl rfl rfl (Nat.le_of_ble_eq_true rfl) ?_
    intro v9 m9 h9
    rw [h9.1, h9.2]
    clear h9 m9 v9
    refine z_iret hG hE dX10_ofShopping_35 trivial ?_
    refine ⟨?_, rfl⟩
    rw [zshq]
    repeat (first | rw [if_pos (by omega)] | rw [if_neg (by omega)])
  · refine z_tabIn hG dX10_ofShopping_1 (by decide) (by decide) (off := 35) rfl (tgt := 36) rfl ?_
    refine z_aload_n (i := 0) hG dX10_ofShopping_36 rfl rfl ?_
    refine z_get_10_6 hG dX10_ofShopping_37 FL_X10_46 ?_
    refine z_callV hG dX10_ofShopping_40 LV_X10_291 (ct_X6_allLeftOver l g hW hb) (by decide) rfl rfl rfl (Nat.le_of_ble_eq_true rfl) ?_
    intro v9 m9 h9
    rw [h9.1, h9.2]
    clear h9 m9 v9
    refine z_iret hG hE dX10_ofShopping_43 trivial ?_
    refine ⟨?_, rfl⟩
    rw [zshq]
    repeat (first | rw [if_pos (by omega)] | rw [if_neg (by omega)])
  · refine z_tabIn hG dX10_ofShopping_1 (by decide) (by decide) (off := 43) rfl (tgt := 44) rfl ?_
    refine z_aload_n (i := 0) hG dX10_ofShopping_44 rfl rfl ?_
    refine z_get_10_6 hG dX10_ofShopping_45 FL_X10_46 ?_
    refine z_callV hG dX10_ofShopping_48 LV_X10_294 (ct_X6_missingSet l g) (by decide) rfl rfl rfl (Nat.le_of_ble_eq_true rfl) ?_
    intro v9 m9 h9
    rw [h9.1, h9.2]
    clear h9 m9 v9
    rw [zShop_mss hW]
    refine z_iret hG hE dX10_ofShopping_51 trivial ?_
    refine ⟨?_, rfl⟩
    rw [zshq]
    repeat (first | rw [if_pos (by omega)] | rw [if_neg (by omega)])
set_option maxRecDepth 20000 in
theorem ct_X10_count (l : Launch) (g : zG) {mem : zM} {B : Int} {w : Int} (hI : zInv B mem) (hB : B ≤ 11900000) (hsc : zsch mem) : zMet l g Y_X10_count [zr 0 0 0, zi w] mem (fun v m' => v = some (zi (zk_count w mem)) ∧ zEqa m' mem ∧ zsea m' ∧ zsch m') := by
  refine zMet_introF (by decide +kernel) (Nat.le_of_ble_eq_true rfl) (ls0 := [some (zr 0 0 0), some (zi w)]) rfl fun X hG hE => ?_
  have hG : zGood X l g RX10 cX10_count 6 2 := hG
  have hE : zEnd X (some .int) _ := hE
  have hI0 := zInv0 hI
  obtain ⟨hday, hhan, hing, hrcp, hrec, hboo, hrow, hrow2, hstp⟩ := id hI0
  have hr0 : ∀ (t : Nat) (i k : Int), t ≠ 1 → zrecd mem t 0 i k = mem t 0 i k := fun t i k ht => zrecd_0 hI.1.1.1 ht
  refine z_iload_n (i := 1) hG dX10_count_0 rfl rfl ?_
  rcases (show (w < 0 ∨ 14 < w) ∨ w = 0 ∨ w = 1 ∨ w = 2 ∨ w = 3 ∨ w = 4 ∨ w = 5 ∨ w = 6 ∨ w = 7 ∨ w = 8 ∨ w = 9 ∨ w = 10 ∨ w = 11 ∨ w = 12 ∨ w = 13 ∨ w = 14 from by omega) with c1 | rfl | rfl | rfl | rfl | rfl | rfl | rfl | rfl | rfl | rfl | rfl | rfl | rfl | rfl | rfl
  · refine z_tabOut hG dX10_count_1 (by omega) (tgt := 174) rfl ?_
    refine z_bipush hG dX10_count_174 rfl ?_
    refine z_iret hG hE dX10_count_176 trivial ?_
    refine ⟨?_, zEqa_1 zEq_rf, hI.2.1, hsc⟩
    rw [zk_count]
    repeat (first | rw [if_pos (by omega)] | rw [if_neg (by omega)])
  · refine z_tabIn hG dX10_count_1 (by decide) (by decide) (off := 75) rfl (tgt := 76) rfl ?_
    refine z_aload_n (i := 0) hG dX10_count_76 rfl rfl ?_
    refine z_get_10_0 hG dX10_count_77 FL_X10_12 ?_
    refine z_getI hG dX10_count_80 FL_X10_112 rfl rfl (kk := 0) rfl ?_
    refine z_iret hG hE dX10_count_83 trivial ?_
    refine ⟨?_, zEqa_1 zEq_rf, hI.2.1, hsc⟩
    rw [zk_count]
    repeat (first | rw [if_pos (by omega)] | rw [if_neg (by omega)])
  · refine z_tabIn hG dX10_count_1 (by decide) (by decide) (off := 83) rfl (tgt := 84) rfl ?_
    refine z_aload_n (i := 0) hG dX10_count_84 rfl rfl ?_
    refine z_get_10_0 hG dX10_count_85 FL_X10_12 ?_
    refine z_getI hG dX10_count_88 FL_X10_61 rfl rfl (kk := 4) rfl ?_
    refine z_iret hG hE dX10_count_91 trivial ?_
    refine ⟨?_, zEqa_1 zEq_rf, hI.2.1, hsc⟩
    rw [zk_count]
    repeat (first | rw [if_pos (by omega)] | rw [if_neg (by omega)])
  · refine z_tabIn hG dX10_count_1 (by decide) (by decide) (off := 91) rfl (tgt := 92) rfl ?_
    refine z_aload_n (i := 0) hG dX10_count_92 rfl rfl ?_
    refine z_get_10_0 hG dX10_count_93 FL_X10_12 ?_
    refine z_getI hG dX10_count_96 FL_X10_124 rfl rfl (kk := 5) rfl ?_
    refine z_iret hG hE dX10_count_99 trivial ?_
    refine ⟨?_, zEqa_1 zEq_rf, hI.2.1, hsc⟩
    rw [zk_count]
    repeat (first | rw [if_pos (by omega)] | rw [if_neg (by omega)])
  · refine z_tabIn hG dX10_count_1 (by decide) (by decide) (off := 99) rfl (tgt := 100) rfl ?_
    refine z_aload_n (i := 0) hG dX10_count_100 rfl rfl ?_
    refine z_get_10_0 hG dX10_count_101 FL_X10_12 ?_
    refine z_getI hG dX10_count_104 FL_X10_159 rfl rfl (kk := 1) rfl ?_
    refine z_iret hG hE dX10_count_107 trivial ?_
    refine ⟨?_, zEqa_1 zEq_rf, hI.2.1, hsc⟩
    rw [zk_count]
    repeat (first | rw [if_pos (by omega)] | rw [if_neg (by omega)])
  · refine z_tabIn hG dX10_count_1 (by decide) (by decide) (off := 107) rfl (tgt := 108) rfl ?_
    refine z_aload_n (i := 0) hG dX10_count_108 rfl rfl ?_
    refine z_get_10_6 hG dX10_count_109 FL_X10_46 ?_
    refine z_aload_n (i := 0) hG dX10_count_112 rfl rfl ?_
    refine z_get_10_0 hG dX10_count_113 FL_X10_12 ?_
    refine z_callV hG dX10_count_116 LV_X10_162 (ct_X6_plan l g (zIS_pc hI0 (by omega)) hI.2.1) (by decide) rfl rfl rfl (Nat.le_of_ble_eq_true rfl) ?_
    intro v9 m1 h9
    obtain ⟨h9a, hO, hsea, hW, hb⟩ := h9
    rw [h9a]
    clear h9a v9
    change zShop m1 (zPl0 mem) at hW
    change zplb (zPl0 mem) at hb
    have hO : zEq m1 mem := hO
    refine z_aload_n (i := 0) hG dX10_count_119 rfl rfl ?_
    refine z_iload_n (i := 1) hG dX10_count_120 rfl rfl ?_
    refine z_callV hG dX10_count_121 LV_X10_279 (ct_X10_ofShopping l g hW hb) (by decide) rfl rfl rfl (Nat.le_of_ble_eq_true rfl) ?_
    intro v9 m9 h9
    rw [h9.1, h9.2]
    clear h9 m9 v9
    refine z_iret hG hE dX10_count_124 trivial ?_
    have e : zhp m1 ↔ zhp mem := by simp only [zhp, hO 4 _ _ _ (by simp [zscr] : ¬ zscr 4)]
    refine ⟨?_, zEqa_1 hO, hsea, zsch_eq hO hsc⟩
    rw [zk_count]
    repeat (first | rw [if_pos (by omega)] | rw [if_neg (by omega)])
    simp only [zshq, e]
  · refine z_tabIn hG dX10_count_1 (by decide) (by decide) (off := 107) rfl (tgt := 108) rfl ?_
    refine z_aload_n (i := 0) hG dX10_count_108 rfl rfl ?_
    refine z_get_10_6 hG dX10_count_109 FL_X10_46 ?_
    refine z_aload_n (i := 0) hG dX10_count_112 rfl rfl ?_
    refine z_get_10_0 hG dX10_count_113 FL_X10_12 ?_
    refine z_callV hG dX10_count_116 LV_X10_162 (ct_X6_plan l g (zIS_pc hI0 (by omega)) hI.2.1) (by decide) rfl rfl rfl (Nat.le_of_ble_eq_true rfl) ?_
    intro v9 m1 h9
    obtain ⟨h9a, hO, hsea, hW, hb⟩ := h9
    rw [h9a]
    clear h9a v9
    change zShop m1 (zPl0 mem) at hW
    change zplb (zPl0 mem) at hb
    have hO : zEq m1 mem := hO
    refine z_aload_n (i := 0) hG dX10_count_119 rfl rfl ?_
    refine z_iload_n (i := 1) hG dX10_count_120 rfl rfl ?_
    refine z_callV hG dX10_count_121 LV_X10_279 (ct_X10_ofShopping l g hW hb) (by decide) rfl rfl rfl (Nat.le_of_ble_eq_true rfl) ?_
    intro v9 m9 h9
    rw [h9.1, h9.2]
    clear h9 m9 v9
    refine z_iret hG hE dX10_count_124 trivial ?_
    have e : zhp m1 ↔ zhp mem := by simp only [zhp, hO 4 _ _ _ (by simp [zscr] : ¬ zscr 4)]
    refine ⟨?_, zEqa_1 hO, hsea, zsch_eq hO hsc⟩
    rw [zk_count]
    repeat (first | rw [if_pos (by omega)] | rw [if_neg (by omega)])
    simp only [zshq, e]
  · refine z_tabIn hG dX10_count_1 (by decide) (by decide) (off := 107) rfl (tgt := 108) rfl ?_
    refine z_aload_n (i := 0) hG dX10_count_108 rfl rfl ?_
    refine z_get_10_6 hG dX10_count_109 FL_X10_46 ?_
    refine z_aload_n (i := 0) hG dX10_count_112 rfl rfl ?_
    refine z_get_10_0 hG dX10_count_113 FL_X10_12 ?_
    refine z_callV hG dX10_count_116 LV_X10_162 (ct_X6_plan l g (zIS_pc hI0 (by omega)) hI.2.1) (by decide) rfl rfl rfl (Nat.le_of_ble_eq_true rfl) ?_
    intro v9 m1 h9
    obtain ⟨h9a, hO, hsea, hW, hb⟩ := h9
    rw [h9a]
    clear h9a v9
    change zShop m1 (zPl0 mem) at hW
    change zplb (zPl0 mem) at hb
    have hO : zEq m1 mem := hO
    refine z_aload_n (i := 0) hG dX10_count_119 rfl rfl ?_
    refine z_iload_n (i := 1) hG dX10_count_120 rfl rfl ?_
    refine z_callV hG dX10_count_121 LV_X10_279 (ct_X10_ofShopping l g hW hb) (by decide) rfl rfl rfl (Nat.le_of_ble_eq_true rfl) ?_
    intro v9 m9 h9
    rw [h9.1, h9.2]
    clear h9 m9 v9
    refine z_iret hG hE dX10_count_124 trivial ?_
    have e : zhp m1 ↔ zhp mem := by simp only [zhp, hO 4 _ _ _ (by simp [zscr] : ¬ zscr 4)]
    refine ⟨?_, zEqa_1 hO, hsea, zsch_eq hO hsc⟩
    rw [zk_count]
    repeat (first | rw [if_pos (by omega)] | rw [if_neg (by omega)])
    simp only [zshq, e]
  · refine z_tabIn hG dX10_count_1 (by decide) (by decide) (off := 107) rfl (tgt := 108) rfl ?_
    refine z_aload_n (i := 0) hG dX10_count_108 rfl rfl ?_
    refine z_get_10_6 hG dX10_count_109 FL_X10_46 ?_
    refine z_aload_n (i := 0) hG dX10_count_112 rfl rfl ?_
    refine z_get_10_0 hG dX10_count_113 FL_X10_12 ?_
    refine z_callV hG dX10_count_116 LV_X10_162 (ct_X6_plan l g (zIS_pc hI0 (by omega)) hI.2.1) (by decide) rfl rfl rfl (Nat.le_of_ble_eq_true rfl) ?_
    intro v9 m1 h9
    obtain ⟨h9a, hO, hsea, hW, hb⟩ := h9
    rw [h9a]
    clear h9a v9
    change zShop m1 (zPl0 mem) at hW
    change zplb (zPl0 mem) at hb
    have hO : zEq m1 mem := hO
    refine z_aload_n (i := 0) hG dX10_count_119 rfl rfl ?_
    refine z_iload_n (i := 1) hG dX10_count_120 rfl rfl ?_
    refine z_callV hG dX10_count_121 LV_X10_279 (ct_X10_ofShopping l g hW hb) (by decide) rfl rfl rfl (Nat.le_of_ble_eq_true rfl) ?_
    intro v9 m9 h9
    rw [h9.1, h9.2]
    clear h9 m9 v9
    refine z_iret hG hE dX10_count_124 trivial ?_
    have e : zhp m1 ↔ zhp mem := by simp only [zhp, hO 4 _ _ _ (by simp [zscr] : ¬ zscr 4)]
    refine ⟨?_, zEqa_1 hO, hsea, zsch_eq hO hsc⟩
    rw [zk_count]
    repeat (first | rw [if_pos (by omega)] | rw [if_neg (by omega)])
    simp only [zshq, e]
  · refine z_tabIn hG dX10_count_1 (by decide) (by decide) (off := 124) rfl (tgt := 125) rfl ?_
    refine z_aload_n (i := 0) hG dX10_count_125 rfl rfl ?_
    refine z_get_10_7 hG dX10_count_126 FL_X10_53 ?_
    refine z_aload_n (i := 0) hG dX10_count_129 rfl rfl ?_
    refine z_get_10_0 hG dX10_count_130 FL_X10_12 ?_
    refine z_callV hG dX10_count_133 LV_X10_282 (ct_X5_gather l g hI0 hsc) (by decide) rfl rfl rfl (Nat.le_of_ble_eq_true rfl) ?_
    intro v9 m1 h9
    obtain ⟨h9a, hGI⟩ := h9
    rw [h9a]
    clear h9a v9
    refine z_aload_n (i := 0) hG dX10_count_136 rfl rfl ?_
    refine z_iload_n (i := 1) hG dX10_count_137 rfl rfl ?_
    refine z_callV hG dX10_count_138 LV_X10_285 (ct_ofSchedule8 l g hI0 hGI) (by decide) rfl rfl rfl (Nat.le_of_ble_eq_true rfl) ?_
    intro v9 m9 h9
    obtain ⟨h9a, h9b, h9c⟩ := h9
    rw [h9a]
    refine z_iret hG hE dX10_count_141 trivial ?_
    refine ⟨?_, zEqa_2 h9b, zsea_eqs h9b hI.2.1, h9c⟩
    rw [zk_count]
    repeat (first | rw [if_pos (by omega)] | rw [if_neg (by omega)])
  · refine z_tabIn hG dX10_count_1 (by decide) (by decide) (off := 124) rfl (tgt := 125) rfl ?_
    refine z_aload_n (i := 0) hG dX10_count_125 rfl rfl ?_
    refine z_get_10_7 hG dX10_count_126 FL_X10_53 ?_
    refine z_aload_n (i := 0) hG dX10_count_129 rfl rfl ?_
    refine z_get_10_0 hG dX10_count_130 FL_X10_12 ?_
    refine z_callV hG dX10_count_133 LV_X10_282 (ct_X5_gather l g hI0 hsc) (by decide) rfl rfl rfl (Nat.le_of_ble_eq_true rfl) ?_
    intro v9 m1 h9
    obtain ⟨h9a, hGI⟩ := h9
    rw [h9a]
    clear h9a v9
    refine z_aload_n (i := 0) hG dX10_count_136 rfl rfl ?_
    refine z_iload_n (i := 1) hG dX10_count_137 rfl rfl ?_
    refine z_callV hG dX10_count_138 LV_X10_285 (ct_ofSchedule9 l g hI0 hGI) (by decide) rfl rfl rfl (Nat.le_of_ble_eq_true rfl) ?_
    intro v9 m9 h9
    obtain ⟨⟨G, hG1, h9a⟩, h9b, h9c⟩ := h9
    rw [h9a]
    refine z_iret hG hE dX10_count_141 trivial ?_
    refine ⟨?_, zEqa_2 h9b, zsea_eqs h9b hI.2.1, h9c⟩
    rw [zmax_eq (zEc_ok hI0) hG1]
    generalize hq : (if zgre (zEc mem) < (zsum 32 (zwf (zEc mem)) + mem 2 0 0 1 - 1) / mem 2 0 0 1 then (zsum 32 (zwf (zEc mem)) + mem 2 0 0 1 - 1) / mem 2 0 0 1 else zgre (zEc mem)) = q
    rw [zk_count, hq]
    repeat (first | rw [if_pos (by omega)] | rw [if_neg (by omega)])
  · refine z_tabIn hG dX10_count_1 (by decide) (by decide) (off := 124) rfl (tgt := 125) rfl ?_
    refine z_aload_n (i := 0) hG dX10_count_125 rfl rfl ?_
    refine z_get_10_7 hG dX10_count_126 FL_X10_53 ?_
    refine z_aload_n (i := 0) hG dX10_count_129 rfl rfl ?_
    refine z_get_10_0 hG dX10_count_130 FL_X10_12 ?_
    refine z_callV hG dX10_count_133 LV_X10_282 (ct_X5_gather l g hI0 hsc) (by decide) rfl rfl rfl (Nat.le_of_ble_eq_true rfl) ?_
    intro v9 m1 h9
    obtain ⟨h9a, hGI⟩ := h9
    rw [h9a]
    clear h9a v9
    refine z_aload_n (i := 0) hG dX10_count_136 rfl rfl ?_
    refine z_iload_n (i := 1) hG dX10_count_137 rfl rfl ?_
    refine z_callV hG dX10_count_138 LV_X10_285 (ct_ofSchedule10 l g hI0 hGI) (by decide) rfl rfl rfl (Nat.le_of_ble_eq_true rfl) ?_
    intro v9 m9 h9
    obtain ⟨h9a, h9b, h9c⟩ := h9
    rw [h9a]
    refine z_iret hG hE dX10_count_141 trivial ?_
    refine ⟨?_, zEqa_2 h9b, zsea_eqs h9b hI.2.1, h9c⟩
    rw [zk_count]
    repeat (first | rw [if_pos (by omega)] | rw [if_neg (by omega)])
  · refine z_tabIn hG dX10_count_1 (by decide) (by decide) (off := 141) rfl (tgt := 142) rfl ?_
    refine z_aload_n (i := 0) hG dX10_count_142 rfl rfl ?_
    refine z_get_10_0 hG dX10_count_143 FL_X10_12 ?_
    refine z_getI hG dX10_count_146 FL_X10_175 rfl rfl (kk := 2) rfl ?_
    refine z_iret hG hE dX10_count_149 trivial ?_
    refine ⟨?_, zEqa_1 zEq_rf, hI.2.1, hsc⟩
    rw [zk_count]
    repeat (first | rw [if_pos (by omega)] | rw [if_neg (by omega)])
  · refine z_tabIn hG dX10_count_1 (by decide) (by decide) (off := 149) rfl (tgt := 150) rfl ?_
    refine z_aload_n (i := 0) hG dX10_count_150 rfl rfl ?_
    refine z_get_10_0 hG dX10_count_151 FL_X10_12 ?_
    refine z_getI hG dX10_count_154 FL_X10_178 rfl rfl (kk := 3) rfl ?_
    refine z_iret hG hE dX10_count_157 trivial ?_
    refine ⟨?_, zEqa_1 zEq_rf, hI.2.1, hsc⟩
    rw [zk_count]
    repeat (first | rw [if_pos (by omega)] | rw [if_neg (by omega)])
  · refine z_tabIn hG dX10_count_1 (by decide) (by decide) (off := 157) rfl (tgt := 158) rfl ?_
    refine z_aload_n (i := 0) hG dX10_count_158 rfl rfl ?_
    refine z_get_10_5 hG dX10_count_159 FL_X10_42 ?_
    refine z_getI hG dX10_count_162 FL_X10_144 rfl rfl (kk := 0) rfl ?_
    refine z_iret hG hE dX10_count_165 trivial ?_
    refine ⟨?_, zEqa_1 zEq_rf, hI.2.1, hsc⟩
    rw [zk_count]
    repeat (first | rw [if_pos (by omega)] | rw [if_neg (by omega)])
  · refine z_tabIn hG dX10_count_1 (by decide) (by decide) (off := 165) rfl (tgt := 166) rfl ?_
    refine z_aload_n (i := 0) hG dX10_count_166 rfl rfl ?_
    refine z_get_10_1 hG dX10_count_167 FL_X10_19 ?_
    refine z_getI hG dX10_count_170 FL_X10_288 rfl rfl (kk := 0) rfl ?_
    refine z_iret hG hE dX10_count_173 trivial ?_
    refine ⟨?_, zEqa_1 zEq_rf, hI.2.1, hsc⟩
    rw [zk_count]
    repeat (first | rw [if_pos (by omega)] | rw [if_neg (by omega)])
