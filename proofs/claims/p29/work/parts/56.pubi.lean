noncomputable def zk_step (r k w : Int) (m : zM) : Int := if ¬ ((0 ≤ r ∧ r < m 2 0 0 5 ∧ r < 4) ∧ (0 ≤ k ∧ k < m 4 0 r 2 ∧ k < 8)) then -1 else if w = 0 then (if m 4 0 r 1 = 0 then m 5 0 (8 * r + k) 0 else zlast m 0 r k) else if w = 1 then m 5 0 (8 * r + k) 1 else if w = 2 then m 5 0 (8 * r + k) 2 else if w = 3 then m 5 0 (8 * r + k) 3
  else if w = 4 then (if m 4 0 r 1 = 0 then -6 else zEc m 4 (r * 8 + k)) else if w = 5 then (if m 4 0 r 1 = 0 then -6 else zrb (zEc m) (m 2 0 0 1) (r * 8 + k)) else -2
set_option maxRecDepth 20000 in
theorem ct_X10_step (l : Launch) (g : zG) {mem : zM} {B : Int} {r k w : Int} (hI : zInv B mem) (hB : B ≤ 11900000) (hsc : zsch mem) : zMet l g Y_X10_step [zr 0 0 0, zi r, zi k, zi w] mem (fun v m' => v = some (zi (zk_step r k w mem)) ∧ zEqa m' mem ∧ zsea m' ∧ zsch m') := by
  refine zMet_introF (by decide +kernel) (Nat.le_of_ble_eq_true rfl) (ls0 := [some (zr 0 0 0), some (zi r), some (zi k), some (zi w), none]) rfl fun X hG hE => ?_
  have hG : zGood X l g RX10 cX10_step 6 5 := hG
  have hE : zEnd X (some .int) _ := hE
  have hI0 := zInv0 hI
  obtain ⟨hday, hhan, hing, hrcp, hrec, hboo, hrow, hrow2, hstp⟩ := id hI0
  have hr0 : ∀ (t : Nat) (i k : Int), t ≠ 1 → zrecd mem t 0 i k = mem t 0 i k := fun t i k ht => zrecd_0 hI.1.1.1 ht
  refine z_aload_n (i := 0) hG dX10_step_0 rfl rfl ?_
  refine z_get_10_0 hG dX10_step_1 FL_X10_12 ?_
  refine z_iload_n (i := 1) hG dX10_step_4 rfl rfl ?_
  refine z_callV hG dX10_step_5 LV_X10_149 (ct_X7_hasRecipe l g) (by decide) rfl rfl rfl (Nat.le_of_ble_eq_true rfl) ?_
  intro v9 m9 h9
  rw [h9.1, h9.2]
  clear h9 m9 v9
  refine z_if_eq hG dX10_step_8 (tgt := 27) rfl (fun c8 => ?_) (fun c8 => ?_)
  · try simp only [zite_eq0, ne_eq, Classical.not_not] at c8
    refine z_iconst hG dX10_step_27 rfl ?_
    refine z_iret hG hE dX10_step_28 trivial ?_
    refine ⟨?_, zEqa_1 zEq_rf, hI.2.1, hsc⟩
    rw [zk_step]
    repeat (first | rw [if_pos (by omega)] | rw [if_neg (by omega)])
  · try simp only [zite_eq0, ne_eq, Classical.not_not] at c8
    refine z_aload_n (i := 0) hG dX10_step_11 rfl rfl ?_
    refine z_get_10_0 hG dX10_step_12 FL_X10_12 ?_
    refine z_get_7_7 hG dX10_step_15 FL_X10_136 ?_
    refine z_iload_n (i := 1) hG dX10_step_18 rfl rfl ?_
    refine z_aa_16 hG dX10_step_19 (by omega) (by omega) ?_
    refine z_iload_n (i := 2) hG dX10_step_20 rfl rfl ?_
    refine z_callV hG dX10_step_21 LV_X10_242 (ct_X4_hasStep l g) (by decide) rfl rfl rfl (Nat.le_of_ble_eq_true rfl) ?_
    intro v9 m9 h9
    rw [h9.1, h9.2]
    clear h9 m9 v9
    refine z_if_ne hG dX10_step_24 (tgt := 29) rfl (fun c24 => ?_) (fun c24 => ?_)
    · try simp only [zite_eq0, ne_eq, Classical.not_not] at c24
      refine z_aload_n (i := 0) hG dX10_step_29 rfl rfl ?_
      refine z_get_10_0 hG dX10_step_30 FL_X10_12 ?_
      refine z_get_7_7 hG dX10_step_33 FL_X10_136 ?_
      refine z_iload_n (i := 1) hG dX10_step_36 rfl rfl ?_
      refine z_aa_16 hG dX10_step_37 (by omega) (by omega) ?_
      refine z_astore hG dX10_step_38 (by decide) (ls2 := [_, _, _, _, _]) rfl ?_
      refine z_iload_n (i := 3) hG dX10_step_40 rfl rfl ?_
      rcases (show (w < 0 ∨ 5 < w) ∨ w = 0 ∨ w = 1 ∨ w = 2 ∨ w = 3 ∨ w = 4 ∨ w = 5 from by omega) with c41 | rfl | rfl | rfl | rfl | rfl | rfl
      · refine z_tabOut hG dX10_step_41 (by omega) (tgt := 184) rfl ?_
        refine z_bipush hG dX10_step_184 rfl ?_
        refine z_iret hG hE dX10_step_186 trivial ?_
        refine ⟨?_, zEqa_1 zEq_rf, hI.2.1, hsc⟩
        rw [zk_step]
        repeat (first | rw [if_pos (by omega)] | rw [if_neg (by omega)])
      · refine z_tabIn hG dX10_step_41 (by decide) (by decide) (off := 39) rfl (tgt := 80) rfl ?_
        refine z_aload hG dX10_step_80 rfl ?_
        refine z_getI hG dX10_step_82 FL_X10_156 rfl rfl (kk := 1) rfl ?_
        refine z_if_ne hG dX10_step_85 (tgt := 101) rfl (fun c85 => ?_) (fun c85 => ?_)
        · try simp only [zite_eq0, ne_eq, Classical.not_not] at c85
          refine z_aload hG dX10_step_101 rfl ?_
          refine z_iload_n (i := 2) hG dX10_step_103 rfl rfl ?_
          refine z_callV hG dX10_step_104 LV_X10_254 (ct_X4_lasts l g (fun j j0 j1 j2 => by have := hstp (8 * r + j) (by omega) (by omega) (by rw [show (8 * r + j) / 8 = r by omega]; omega); omega) (hrec r (by omega) (by omega)).1 (hrec r (by omega) (by omega)).2.1.2) (by decide) rfl rfl rfl (Nat.le_of_ble_eq_true rfl) ?_
          intro v9 m9 h9
          rw [h9.1, h9.2]
          clear h9 m9 v9
          refine z_iret hG hE dX10_step_107 trivial ?_
          refine ⟨?_, zEqa_1 zEq_rf, hI.2.1, hsc⟩
          rw [zk_step]
          repeat (first | rw [if_pos (by omega)] | rw [if_neg (by omega)])
        · try simp only [zite_eq0, ne_eq, Classical.not_not] at c85
          refine z_aload hG dX10_step_88 rfl ?_
          refine z_get_4_4 hG dX10_step_90 FL_X10_245 ?_
          refine z_iload_n (i := 2) hG dX10_step_93 rfl rfl ?_
          refine z_aa_18 hG dX10_step_94 (by omega) (by omega) ?_
          refine z_getI hG dX10_step_95 FL_X10_249 rfl rfl (kk := 0) rfl ?_
          refine z_goto hG dX10_step_98 (tgt := 107) rfl ?_
          refine z_iret hG hE dX10_step_107 trivial ?_
          refine ⟨?_, zEqa_1 zEq_rf, hI.2.1, hsc⟩
          rw [zk_step]
          repeat (first | rw [if_pos (by omega)] | rw [if_neg (by omega)])
      · refine z_tabIn hG dX10_step_41 (by decide) (by decide) (off := 67) rfl (tgt := 108) rfl ?_
        refine z_aload hG dX10_step_108 rfl ?_
        refine z_get_4_4 hG dX10_step_110 FL_X10_245 ?_
        refine z_iload_n (i := 2) hG dX10_step_113 rfl rfl ?_
        refine z_aa_18 hG dX10_step_114 (by omega) (by omega) ?_
        refine z_getI hG dX10_step_115 FL_X10_257 rfl rfl (kk := 1) rfl ?_
        refine z_iret hG hE dX10_step_118 trivial ?_
        refine ⟨?_, zEqa_1 zEq_rf, hI.2.1, hsc⟩
        rw [zk_step]
        repeat (first | rw [if_pos (by omega)] | rw [if_neg (by omega)])
      · refine z_tabIn hG dX10_step_41 (by decide) (by decide) (off := 78) rfl (tgt := 119) rfl ?_
        refine z_aload hG dX10_step_119 rfl ?_
        refine z_get_4_4 hG dX10_step_121 FL_X10_245 ?_
        refine z_iload_n (i := 2) hG dX10_step_124 rfl rfl ?_
        refine z_aa_18 hG dX10_step_125 (by omega) (by omega) ?_
        refine z_getI hG dX10_step_126 FL_X10_260 rfl rfl (kk := 2) rfl ?_
        refine z_iret hG hE dX10_step_129 trivial ?_
        refine ⟨?_, zEqa_1 zEq_rf, hI.2.1, hsc⟩
        rw [zk_step]
        repeat (first | rw [if_pos (by omega)] | rw [if_neg (by omega)])
      · refine z_tabIn hG dX10_step_41 (by decide) (by decide) (off := 89) rfl (tgt := 130) rfl ?_
        refine z_aload hG dX10_step_130 rfl ?_
        refine z_get_4_4 hG dX10_step_132 FL_X10_245 ?_
        refine z_iload_n (i := 2) hG dX10_step_135 rfl rfl ?_
        refine z_aa_18 hG dX10_step_136 (by omega) (by omega) ?_
        refine z_getI hG dX10_step_137 FL_X10_263 rfl rfl (kk := 3) rfl ?_
        refine z_callS hG dX10_step_140 LS_X10_97 (ct_X10_asNumber l g (hboo.2 (8 * r + k) (by omega) (by omega))) (by decide) rfl rfl (Nat.le_of_ble_eq_true rfl) ?_
        intro v9 m9 h9
        rw [h9.1, h9.2]
        clear h9 m9 v9
        refine z_iret hG hE dX10_step_143 trivial ?_
        refine ⟨?_, zEqa_1 zEq_rf, hI.2.1, hsc⟩
        rw [zk_step]
        repeat (first | rw [if_pos (by omega)] | rw [if_neg (by omega)])
      · refine z_tabIn hG dX10_step_41 (by decide) (by decide) (off := 103) rfl (tgt := 144) rfl ?_
        refine z_aload hG dX10_step_144 rfl ?_
        refine z_getI hG dX10_step_146 FL_X10_156 rfl rfl (kk := 1) rfl ?_
        refine z_if_ne hG dX10_step_149 (tgt := 157) rfl (fun c149 => ?_) (fun c149 => ?_)
        · try simp only [zite_eq0, ne_eq, Classical.not_not] at c149
          refine z_aload_n (i := 0) hG dX10_step_157 rfl rfl ?_
          refine z_iload_n (i := 1) hG dX10_step_158 rfl rfl ?_
          refine z_iload_n (i := 2) hG dX10_step_159 rfl rfl ?_
          refine z_callV hG dX10_step_160 LV_X10_266 (ct_X10_tailInMenu l g hI0 hsc ⟨by omega, by omega⟩ ⟨by omega, by omega⟩ (by have hq := (hrec r (by omega) (by omega)).1; simp only [zEc]; rw [show (r * 8 + k) / 8 = r by omega, show (r * 8 + k) % 8 = k by omega, if_pos ⟨by omega, by omega⟩])) (by decide) rfl rfl rfl (Nat.le_of_ble_eq_true rfl) ?_
          intro v9 m9 h9
          obtain ⟨h9a, h9b, h9c⟩ := h9
          rw [h9a]
          clear h9a v9
          refine z_iret hG hE dX10_step_163 trivial ?_
          have hp0 := c149
          first | (refine ⟨?_, zEqa_2 h9b, zsea_eqs h9b hI.2.1, h9c⟩; rw [zk_step]; repeat (first | rw [if_pos (by omega)] | rw [if_neg (by omega)])) | (refine ⟨?_, zEqa_1 zEq_rf, hI.2.1, hsc⟩; rw [zk_step]; repeat (first | rw [if_pos (by omega)] | rw [if_neg (by omega)]))
        · try simp only [zite_eq0, ne_eq, Classical.not_not] at c149
          refine z_bipush hG dX10_step_152 rfl ?_
          refine z_goto hG dX10_step_154 (tgt := 163) rfl ?_
          refine z_iret hG hE dX10_step_163 trivial ?_
          have hp0 := c149
          first | (refine ⟨?_, zEqa_2 h9b, zsea_eqs h9b hI.2.1, h9c⟩; rw [zk_step]; repeat (first | rw [if_pos (by omega)] | rw [if_neg (by omega)])) | (refine ⟨?_, zEqa_1 zEq_rf, hI.2.1, hsc⟩; rw [zk_step]; repeat (first | rw [if_pos (by omega)] | rw [if_neg (by omega)]))
      · refine z_tabIn hG dX10_step_41 (by decide) (by decide) (off := 123) rfl (tgt := 164) rfl ?_
        refine z_aload hG dX10_step_164 rfl ?_
        refine z_getI hG dX10_step_166 FL_X10_156 rfl rfl (kk := 1) rfl ?_
        refine z_if_ne hG dX10_step_169 (tgt := 177) rfl (fun c169 => ?_) (fun c169 => ?_)
        · try simp only [zite_eq0, ne_eq, Classical.not_not] at c169
          refine z_aload_n (i := 0) hG dX10_step_177 rfl rfl ?_
          refine z_iload_n (i := 1) hG dX10_step_178 rfl rfl ?_
          refine z_iload_n (i := 2) hG dX10_step_179 rfl rfl ?_
          refine z_callV hG dX10_step_180 LV_X10_270 (ct_X10_beginInMenu l g hI0 hsc ⟨by omega, by omega⟩ ⟨by omega, by omega⟩) (by decide) rfl rfl rfl (Nat.le_of_ble_eq_true rfl) ?_
          intro v9 m9 h9
          obtain ⟨h9a, h9b, h9c⟩ := h9
          rw [h9a]
          clear h9a v9
          refine z_iret hG hE dX10_step_183 trivial ?_
          have hp0 := c169
          first | (refine ⟨?_, zEqa_2 h9b, zsea_eqs h9b hI.2.1, h9c⟩; rw [zk_step]; repeat (first | rw [if_pos (by omega)] | rw [if_neg (by omega)])) | (refine ⟨?_, zEqa_1 zEq_rf, hI.2.1, hsc⟩; rw [zk_step]; repeat (first | rw [if_pos (by omega)] | rw [if_neg (by omega)]))
        · try simp only [zite_eq0, ne_eq, Classical.not_not] at c169
          refine z_bipush hG dX10_step_172 rfl ?_
          refine z_goto hG dX10_step_174 (tgt := 183) rfl ?_
          refine z_iret hG hE dX10_step_183 trivial ?_
          have hp0 := c169
          first | (refine ⟨?_, zEqa_2 h9b, zsea_eqs h9b hI.2.1, h9c⟩; rw [zk_step]; repeat (first | rw [if_pos (by omega)] | rw [if_neg (by omega)])) | (refine ⟨?_, zEqa_1 zEq_rf, hI.2.1, hsc⟩; rw [zk_step]; repeat (first | rw [if_pos (by omega)] | rw [if_neg (by omega)]))
    · try simp only [zite_eq0, ne_eq, Classical.not_not] at c24
      refine z_iconst hG dX10_step_27 rfl ?_
      refine z_iret hG hE dX10_step_28 trivial ?_
      refine ⟨?_, zEqa_1 zEq_rf, hI.2.1, hsc⟩
      rw [zk_step]
      repeat (first | rw [if_pos (by omega)] | rw [if_neg (by omega)])
