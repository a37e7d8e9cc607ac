set_option maxRecDepth 20000 in
theorem ct_X11_about (l : Launch) (g : zG) {a m : zM} {B : Int} {i w : Int} (hI : zInv B a) (hB : B ≤ 11900000) (hR : zRM a m) : zMet l g Y_X11_about [zr 11 0 0, zi i, zi w] m (fun v m' => v = some (zi (zk_about i w a).1) ∧ zRM (zk_about i w a).2 m' ∧ zKt m' m) := by
  refine zMet_introF (by decide +kernel) (Nat.le_of_ble_eq_true rfl) (ls0 := [some (zr 11 0 0), some (zi i), some (zi w)]) rfl fun X hG hE => ?_
  have hG : zGood X l g RX11 cX11_about 3 3 := hG
  have hE : zEnd X (some .int) _ := hE
  have hI0 := zInv0 hI
  obtain ⟨hday, hhan, hing, hrcp, hrec, hboo, hrow, hrow2, hstp⟩ := id hI0
  obtain ⟨⟨e0, e1, e2, e3, e4, e5, eI, eZ, eR⟩, eN, eP, eS, e6, eT⟩ := id hR
  have hb : ∀ (t : Nat) (i k : Int), t ≠ 1 → zrecd a t 0 i k = a t 0 i k := fun t i k ht => zrecd_0 hI.1.1.1 ht
  have hK := zRM_keep hI.1.1 hI.1.2 (fun s s0 s1 => (hI.2.2.1 s s0 s1).1.1) hR
  refine z_aload_n (i := 0) hG dX11_about_0 rfl rfl ?_
  refine z_iload_n (i := 1) hG dX11_about_1 rfl rfl ?_
  refine z_callV hG dX11_about_2 LV_X11_90 (ct_X11_isIngredient l g) (by decide) rfl rfl rfl (Nat.le_of_ble_eq_true rfl) ?_
  intro v9 m9 h9
  rw [h9.1, h9.2, e1]
  clear h9 m9 v9
  refine z_if_ne hG dX11_about_5 (tgt := 10) rfl (fun c5 => ?_) (fun c5 => ?_)
  · try simp only [zite_eq0, ne_eq, Classical.not_not] at c5
    refine z_iload_n (i := 2) hG dX11_about_10 rfl rfl ?_
    rcases (show (w < 0 ∨ 11 < w) ∨ w = 0 ∨ w = 1 ∨ w = 2 ∨ w = 3 ∨ w = 4 ∨ w = 5 ∨ w = 6 ∨ w = 7 ∨ w = 8 ∨ w = 9 ∨ w = 10 ∨ w = 11 from by omega) with c11 | rfl | rfl | rfl | rfl | rfl | rfl | rfl | rfl | rfl | rfl | rfl | rfl
    · refine z_tabOut hG dX11_about_11 (by omega) (tgt := 130) rfl ?_
      refine z_bipush hG dX11_about_130 rfl ?_
      refine z_iret hG hE dX11_about_132 trivial ?_
      simp only [zk_about]
      (repeat (first | rw [if_pos (by first | omega | trivial)] | rw [if_neg (by omega)]))
      exact ⟨rfl, hR, zKt_rf⟩
    · refine z_tabIn hG dX11_about_11 (by decide) (by decide) (off := 61) rfl (tgt := 72) rfl ?_
      refine z_aload_n (i := 0) hG dX11_about_72 rfl rfl ?_
      refine z_iload_n (i := 1) hG dX11_about_73 rfl rfl ?_
      refine z_iload_n (i := 2) hG dX11_about_74 rfl rfl ?_
      refine z_callV hG dX11_about_75 LV_X11_87 (ct_X11_of l g ⟨by omega, by omega⟩ ⟨by omega, by omega⟩) (by decide) rfl rfl rfl (Nat.le_of_ble_eq_true rfl) ?_
      intro v9 m9 h9
      rw [h9.1, h9.2]
      clear h9 m9 v9
      refine z_iret hG hE dX11_about_78 trivial ?_
      have hri := eI i (by omega) (by omega) (by omega)
      obtain ⟨a0, a1, a2, a3, a4, a5, a6, a7, a8, a9, a10, a11, a12⟩ := id hri
      refine ⟨?_, hR, zKt_rf⟩
      simp only [zk_about]
      (repeat (first | rw [if_pos (by first | omega | trivial)] | rw [if_neg (by omega)]))
      simp only [Int.add_zero, a0, a1, a2, a3]
    · refine z_tabIn hG dX11_about_11 (by decide) (by decide) (off := 61) rfl (tgt := 72) rfl ?_
      refine z_aload_n (i := 0) hG dX11_about_72 rfl rfl ?_
      refine z_iload_n (i := 1) hG dX11_about_73 rfl rfl ?_
      refine z_iload_n (i := 2) hG dX11_about_74 rfl rfl ?_
      refine z_callV hG dX11_about_75 LV_X11_87 (ct_X11_of l g ⟨by omega, by omega⟩ ⟨by omega, by omega⟩) (by decide) rfl rfl rfl (Nat.le_of_ble_eq_true rfl) ?_
      intro v9 m9 h9
      rw [h9.1, h9.2]
      clear h9 m9 v9
      refine z_iret hG hE dX11_about_78 trivial ?_
      have hri := eI i (by omega) (by omega) (by omega)
      obtain ⟨a0, a1, a2, a3, a4, a5, a6, a7, a8, a9, a10, a11, a12⟩ := id hri
      refine ⟨?_, hR, zKt_rf⟩
      simp only [zk_about]
      (repeat (first | rw [if_pos (by first | omega | trivial)] | rw [if_neg (by omega)]))
      simp only [Int.add_zero, a0, a1, a2, a3]
    · refine z_tabIn hG dX11_about_11 (by decide) (by decide) (off := 61) rfl (tgt := 72) rfl ?_
      refine z_aload_n (i := 0) hG dX11_about_72 rfl rfl ?_
      refine z_iload_n (i := 1) hG dX11_about_73 rfl rfl ?_
      refine z_iload_n (i := 2) hG dX11_about_74 rfl rfl ?_
      refine z_callV hG dX11_about_75 LV_X11_87 (ct_X11_of l g ⟨by omega, by omega⟩ ⟨by omega, by omega⟩) (by decide) rfl rfl rfl (Nat.le_of_ble_eq_true rfl) ?_
      intro v9 m9 h9
      rw [h9.1, h9.2]
      clear h9 m9 v9
      refine z_iret hG hE dX11_about_78 trivial ?_
      have hri := eI i (by omega) (by omega) (by omega)
      obtain ⟨a0, a1, a2, a3, a4, a5, a6, a7, a8, a9, a10, a11, a12⟩ := id hri
      refine ⟨?_, hR, zKt_rf⟩
      simp only [zk_about]
      (repeat (first | rw [if_pos (by first | omega | trivial)] | rw [if_neg (by omega)]))
      simp only [Int.add_zero, a0, a1, a2, a3]
    · refine z_tabIn hG dX11_about_11 (by decide) (by decide) (off := 61) rfl (tgt := 72) rfl ?_
      refine z_aload_n (i := 0) hG dX11_about_72 rfl rfl ?_
      refine z_iload_n (i := 1) hG dX11_about_73 rfl rfl ?_
      refine z_iload_n (i := 2) hG dX11_about_74 rfl rfl ?_
      refine z_callV hG dX11_about_75 LV_X11_87 (ct_X11_of l g ⟨by omega, by omega⟩ ⟨by omega, by omega⟩) (by decide) rfl rfl rfl (Nat.le_of_ble_eq_true rfl) ?_
      intro v9 m9 h9
      rw [h9.1, h9.2]
      clear h9 m9 v9
      refine z_iret hG hE dX11_about_78 trivial ?_
      have hri := eI i (by omega) (by omega) (by omega)
      obtain ⟨a0, a1, a2, a3, a4, a5, a6, a7, a8, a9, a10, a11, a12⟩ := id hri
      refine ⟨?_, hR, zKt_rf⟩
      simp only [zk_about]
      (repeat (first | rw [if_pos (by first | omega | trivial)] | rw [if_neg (by omega)]))
      simp only [Int.add_zero, a0, a1, a2, a3]
    · refine z_tabIn hG dX11_about_11 (by decide) (by decide) (off := 68) rfl (tgt := 79) rfl ?_
      refine z_aload_n (i := 0) hG dX11_about_79 rfl rfl ?_
      refine z_iload_n (i := 1) hG dX11_about_80 rfl rfl ?_
      refine z_iconst hG dX11_about_81 rfl ?_
      refine z_callV hG dX11_about_82 LV_X11_87 (ct_X11_of l g ⟨by omega, by omega⟩ ⟨by omega, by omega⟩) (by decide) rfl rfl rfl (Nat.le_of_ble_eq_true rfl) ?_
      intro v9 m9 h9
      rw [h9.1, h9.2]
      clear h9 m9 v9
      refine z_if_ge hG dX11_about_85 (tgt := 93) rfl (fun c85 => ?_) (fun c85 => ?_)
      · refine z_aload_n (i := 0) hG dX11_about_93 rfl rfl ?_
        refine z_iload_n (i := 1) hG dX11_about_94 rfl rfl ?_
        refine z_iconst hG dX11_about_95 rfl ?_
        refine z_callV hG dX11_about_96 LV_X11_87 (ct_X11_of l g ⟨by omega, by omega⟩ ⟨by omega, by omega⟩) (by decide) rfl rfl rfl (Nat.le_of_ble_eq_true rfl) ?_
        intro v9 m9 h9
        rw [h9.1, h9.2]
        clear h9 m9 v9
        refine z_iret hG hE dX11_about_99 trivial ?_
        have hri := eI i (by omega) (by omega) (by omega)
        obtain ⟨a0, a1, a2, a3, a4, a5, a6, a7, a8, a9, a10, a11, a12⟩ := id hri
        refine ⟨?_, hR, zKt_rf⟩
        simp only [zk_about]
        (repeat (first | rw [if_pos (by first | omega | trivial)] | rw [if_neg (by omega)]))
        first | rw [a5 (by omega)] | rw [a4 (by omega)]
      · refine z_bipush hG dX11_about_88 rfl ?_
        refine z_goto hG dX11_about_90 (tgt := 99) rfl ?_
        refine z_iret hG hE dX11_about_99 trivial ?_
        have hri := eI i (by omega) (by omega) (by omega)
        obtain ⟨a0, a1, a2, a3, a4, a5, a6, a7, a8, a9, a10, a11, a12⟩ := id hri
        refine ⟨?_, hR, zKt_rf⟩
        simp only [zk_about]
        (repeat (first | rw [if_pos (by first | omega | trivial)] | rw [if_neg (by omega)]))
        first | rw [a5 (by omega)] | rw [a4 (by omega)]
    · refine z_tabIn hG dX11_about_11 (by decide) (by decide) (off := 89) rfl (tgt := 100) rfl ?_
      refine z_aload_n (i := 0) hG dX11_about_100 rfl rfl ?_
      refine z_iload_n (i := 1) hG dX11_about_101 rfl rfl ?_
      refine z_callV hG dX11_about_102 LV_X11_103 (ct_X11_pantry l g ⟨by omega, by omega⟩ (zRi_B hday.1 (eI i (by omega) (by omega) (by omega)) (fun j j0 j1 => by have := (hrow i (by omega) (by omega)).2.1 j j0 j1; omega))) (by decide) rfl rfl rfl (Nat.le_of_ble_eq_true rfl) ?_
      intro v9 m9 h9
      rw [h9.1, h9.2]
      clear h9 m9 v9
      refine z_iret hG hE dX11_about_105 trivial ?_
      have hri := eI i (by omega) (by omega) (by omega)
      obtain ⟨a0, a1, a2, a3, a4, a5, a6, a7, a8, a9, a10, a11, a12⟩ := id hri
      refine ⟨?_, hR, zKt_rf⟩
      simp only [zk_about]
      (repeat (first | rw [if_pos (by first | omega | trivial)] | rw [if_neg (by omega)]))
      rw [zRi_sum hday.1 hri]
    · refine z_tabIn hG dX11_about_11 (by decide) (by decide) (off := 95) rfl (tgt := 106) rfl ?_
      refine z_aload_n (i := 0) hG dX11_about_106 rfl rfl ?_
      refine z_iload_n (i := 1) hG dX11_about_107 rfl rfl ?_
      refine z_callV hG dX11_about_108 LV_X11_249 (ct_X11_lots l g ⟨by omega, by omega⟩ (zRi_B hday.1 (eI i (by omega) (by omega) (by omega)) (fun j j0 j1 => by have := (hrow i (by omega) (by omega)).2.1 j j0 j1; omega))) (by decide) rfl rfl rfl (Nat.le_of_ble_eq_true rfl) ?_
      intro v9 m9 h9
      rw [h9.1, h9.2]
      clear h9 m9 v9
      refine z_iret hG hE dX11_about_111 trivial ?_
      have hri := eI i (by omega) (by omega) (by omega)
      obtain ⟨a0, a1, a2, a3, a4, a5, a6, a7, a8, a9, a10, a11, a12⟩ := id hri
      refine ⟨?_, hR, zKt_rf⟩
      simp only [zk_about]
      (repeat (first | rw [if_pos (by first | omega | trivial)] | rw [if_neg (by omega)]))
      rw [zRi_cnt hday.1 hri]
    · refine z_tabIn hG dX11_about_11 (by decide) (by decide) (off := 101) rfl (tgt := 112) rfl ?_
      refine z_aload_n (i := 0) hG dX11_about_112 rfl rfl ?_
      refine z_iload_n (i := 1) hG dX11_about_113 rfl rfl ?_
      refine z_callV hG dX11_about_114 LV_X11_252 (ct_X11_firstDay l g ⟨by omega, by omega⟩ ⟨by omega, by omega⟩ e0 (eI i (by omega) (by omega) (by omega)).2.2.2.2.2.2.2.2.2.2.2.1) (by decide) rfl rfl rfl (Nat.le_of_ble_eq_true rfl) ?_
      intro v9 m9 h9
      rw [h9.1, h9.2]
      clear h9 m9 v9
      refine z_iret hG hE dX11_about_117 trivial ?_
      have hri := eI i (by omega) (by omega) (by omega)
      obtain ⟨a0, a1, a2, a3, a4, a5, a6, a7, a8, a9, a10, a11, a12⟩ := id hri
      refine ⟨?_, hR, zKt_rf⟩
      simp only [zk_about]
      (repeat (first | rw [if_pos (by first | omega | trivial)] | rw [if_neg (by omega)]))
      try rfl
    · refine z_tabIn hG dX11_about_11 (by decide) (by decide) (off := 107) rfl (tgt := 118) rfl ?_
      refine z_aload_n (i := 0) hG dX11_about_118 rfl rfl ?_
      refine z_iload_n (i := 1) hG dX11_about_119 rfl rfl ?_
      refine z_iconst hG dX11_about_120 rfl ?_
      refine z_iload_n (i := 2) hG dX11_about_121 rfl rfl ?_
      refine z_iadd hG dX11_about_122 (by omega) (by omega) ?_
      refine z_bipush hG dX11_about_123 rfl ?_
      refine z_isub hG dX11_about_125 (by omega) (by omega) ?_
      refine z_callV hG dX11_about_126 LV_X11_87 (ct_X11_of l g ⟨by omega, by omega⟩ ⟨by omega, by omega⟩) (by decide) rfl rfl rfl (Nat.le_of_ble_eq_true rfl) ?_
      intro v9 m9 h9
      rw [h9.1, h9.2]
      clear h9 m9 v9
      refine z_iret hG hE dX11_about_129 trivial ?_
      have hri := eI i (by omega) (by omega) (by omega)
      obtain ⟨a0, a1, a2, a3, a4, a5, a6, a7, a8, a9, a10, a11, a12⟩ := id hri
      refine ⟨?_, hR, zKt_rf⟩
      simp only [zk_about]
      (repeat (first | rw [if_pos (by first | omega | trivial)] | rw [if_neg (by omega)]))
      first | rw [show (6 + 46 * i + (5 + 8 - 8) : Int) = 6 + 46 * i + 5 by omega, a6] | rw [show (6 + 46 * i + (5 + 9 - 8) : Int) = 6 + 46 * i + 6 by omega, a7] | rw [show (6 + 46 * i + (5 + 10 - 8) : Int) = 6 + 46 * i + 7 by omega, a8] | rw [show (6 + 46 * i + (5 + 11 - 8) : Int) = 6 + 46 * i + 8 by omega, a9]
    · refine z_tabIn hG dX11_about_11 (by decide) (by decide) (off := 107) rfl (tgt := 118) rfl ?_
      refine z_aload_n (i := 0) hG dX11_about_118 rfl rfl ?_
      refine z_iload_n (i := 1) hG dX11_about_119 rfl rfl ?_
      refine z_iconst hG dX11_about_120 rfl ?_
      refine z_iload_n (i := 2) hG dX11_about_121 rfl rfl ?_
      refine z_iadd hG dX11_about_122 (by omega) (by omega) ?_
      refine z_bipush hG dX11_about_123 rfl ?_
      refine z_isub hG dX11_about_125 (by omega) (by omega) ?_
      refine z_callV hG dX11_about_126 LV_X11_87 (ct_X11_of l g ⟨by omega, by omega⟩ ⟨by omega, by omega⟩) (by decide) rfl rfl rfl (Nat.le_of_ble_eq_true rfl) ?_
      intro v9 m9 h9
      rw [h9.1, h9.2]
      clear h9 m9 v9
      refine z_iret hG hE dX11_about_129 trivial ?_
      have hri := eI i (by omega) (by omega) (by omega)
      obtain ⟨a0, a1, a2, a3, a4, a5, a6, a7, a8, a9, a10, a11, a12⟩ := id hri
      refine ⟨?_, hR, zKt_rf⟩
      simp only [zk_about]
      (repeat (first | rw [if_pos (by first | omega | trivial)] | rw [if_neg (by omega)]))
      first | rw [show (6 + 46 * i + (5 + 8 - 8) : Int) = 6 + 46 * i + 5 by omega, a6] | rw [show (6 + 46 * i + (5 + 9 - 8) : Int) = 6 + 46 * i + 6 by omega, a7] | rw [show (6 + 46 * i + (5 + 10 - 8) : Int) = 6 + 46 * i + 7 by omega, a8] | rw [show (6 + 46 * i + (5 + 11 - 8) : Int) = 6 + 46 * i + 8 by omega, a9]
    · refine z_tabIn hG dX11_about_11 (by decide) (by decide) (off := 107) rfl (tgt := 118) rfl ?_
      refine z_aload_n (i := 0) hG dX11_about_118 rfl rfl ?_
      refine z_iload_n (i := 1) hG dX11_about_119 rfl rfl ?_
      refine z_iconst hG dX11_about_120 rfl ?_
      refine z_iload_n (i := 2) hG dX11_about_121 rfl rfl ?_
      refine z_iadd hG dX11_about_122 (by omega) (by omega) ?_
      refine z_bipush hG dX11_about_123 rfl ?_
      refine z_isub hG dX11_about_125 (by omega) (by omega) ?_
      refine z_callV hG dX11_about_126 LV_X11_87 (ct_X11_of l g ⟨by omega, by omega⟩ ⟨by omega, by omega⟩) (by decide) rfl rfl rfl (Nat.le_of_ble_eq_true rfl) ?_
      intro v9 m9 h9
      rw [h9.1, h9.2]
      clear h9 m9 v9
      refine z_iret hG hE dX11_about_129 trivial ?_
      have hri := eI i (by omega) (by omega) (by omega)
      obtain ⟨a0, a1, a2, a3, a4, a5, a6, a7, a8, a9, a10, a11, a12⟩ := id hri
      refine ⟨?_, hR, zKt_rf⟩
      simp only [zk_about]
      (repeat (first | rw [if_pos (by first | omega | trivial)] | rw [if_neg (by omega)]))
      first | rw [show (6 + 46 * i + (5 + 8 - 8) : Int) = 6 + 46 * i + 5 by omega, a6] | rw [show (6 + 46 * i + (5 + 9 - 8) : Int) = 6 + 46 * i + 6 by omega, a7] | rw [show (6 + 46 * i + (5 + 10 - 8) : Int) = 6 + 46 * i + 7 by omega, a8] | rw [show (6 + 46 * i + (5 + 11 - 8) : Int) = 6 + 46 * i + 8 by omega, a9]
    · refine z_tabIn hG dX11_about_11 (by decide) (by decide) (off := 107) rfl (tgt := 118) rfl ?_
      refine z_aload_n (i := 0) hG dX11_about_118 rfl rfl ?_
      refine z_iload_n (i := 1) hG dX11_about_119 rfl rfl ?_
      refine z_iconst hG dX11_about_120 rfl ?_
      refine z_iload_n (i := 2) hG dX11_about_121 rfl rfl ?_
      refine z_iadd hG dX11_about_122 (by omega) (by omega) ?_
      refine z_bipush hG dX11_about_123 rfl ?_
      refine z_isub hG dX11_about_125 (by omega) (by omega) ?_
      refine z_callV hG dX11_about_126 LV_X11_87 (ct_X11_of l g ⟨by omega, by omega⟩ ⟨by omega, by omega⟩) (by decide) rfl rfl rfl (Nat.le_of_ble_eq_true rfl) ?_
      intro v9 m9 h9
      rw [h9.1, h9.2]
      clear h9 m9 v9
      refine z_iret hG hE dX11_about_129 trivial ?_
      have hri := eI i (by omega) (by omega) (by omega)
      obtain ⟨a0, a1, a2, a3, a4, a5, a6, a7, a8, a9, a10, a11, a12⟩ := id hri
      refine ⟨?_, hR, zKt_rf⟩
      simp only [zk_about]
      (repeat (first | rw [if_pos (by first | omega | trivial)] | rw [if_neg (by omega)]))
      first | rw [show (6 + 46 * i + (5 + 8 - 8) : Int) = 6 + 46 * i + 5 by omega, a6] | rw [show (6 + 46 * i + (5 + 9 - 8) : Int) = 6 + 46 * i + 6 by omega, a7] | rw [show (6 + 46 * i + (5 + 10 - 8) : Int) = 6 + 46 * i + 7 by omega, a8] | rw [show (6 + 46 * i + (5 + 11 - 8) : Int) = 6 + 46 * i + 8 by omega, a9]
  · try simp only [zite_eq0, ne_eq, Classical.not_not] at c5
    refine z_iconst hG dX11_about_8 rfl ?_
    refine z_iret hG hE dX11_about_9 trivial ?_
    simp only [zk_about]
    (repeat (first | rw [if_pos (by first | omega | trivial)] | rw [if_neg (by omega)]))
    exact ⟨rfl, hR, zKt_rf⟩
set_option maxRecDepth 20000 in
theorem ct_X11_ofRecipe (l : Launch) (g : zG) {a m : zM} {B : Int} {r w : Int} (hI : zInv B a) (hB : B ≤ 11900000) (hR : zRM a m) : zMet l g Y_X11_ofRecipe [zr 11 0 0, zi r, zi w] m (fun v m' => v = some (zi (zk_ofRecipe r w a).1) ∧ zRM (zk_ofRecipe r w a).2 m' ∧ zKt m' m) := by
  refine zMet_introF (by decide +kernel) (Nat.le_of_ble_eq_true rfl) (ls0 := [some (zr 11 0 0), some (zi r), some (zi w)]) rfl fun X hG hE => ?_
  have hG : zGood X l g RX11 cX11_ofRecipe 1 3 := hG
  have hE : zEnd X (some .int) _ := hE
  have hI0 := zInv0 hI
  obtain ⟨hday, hhan, hing, hrcp, hrec, hboo, hrow, hrow2, hstp⟩ := id hI0
  obtain ⟨⟨e0, e1, e2, e3, e4, e5, eI, eZ, eR⟩, eN, eP, eS, e6, eT⟩ := id hR
  have hb : ∀ (t : Nat) (i k : Int), t ≠ 1 → zrecd a t 0 i k = a t 0 i k := fun t i k ht => zrecd_0 hI.1.1.1 ht
  have hK := zRM_keep hI.1.1 hI.1.2 (fun s s0 s1 => (hI.2.2.1 s s0 s1).1.1) hR
  refine z_aload_n (i := 0) hG dX11_ofRecipe_0 rfl rfl ?_
  refine z_iload_n (i := 1) hG dX11_ofRecipe_1 rfl rfl ?_
  refine z_callV hG dX11_ofRecipe_2 LV_X11_246 (ct_X11_isRecipe l g) (by decide) rfl rfl rfl (Nat.le_of_ble_eq_true rfl) ?_
  intro v9 m9 h9
  rw [h9.1, h9.2, e2]
  clear h9 m9 v9
  refine z_if_ne hG dX11_ofRecipe_5 (tgt := 10) rfl (fun c5 => ?_) (fun c5 => ?_)
  · try simp only [zite_eq0, ne_eq, Classical.not_not] at c5
    refine z_iload_n (i := 2) hG dX11_ofRecipe_10 rfl rfl ?_
    refine z_iconst hG dX11_ofRecipe_11 rfl ?_
    refine z_bipush hG dX11_ofRecipe_12 rfl ?_
    refine z_callS hG dX11_ofRecipe_14 LS_X11_76 (ct_X11_in l g) (by decide) rfl rfl (Nat.le_of_ble_eq_true rfl) ?_
    intro v9 m9 h9
    rw [h9.1, h9.2]
    clear h9 m9 v9
    refine z_if_eq hG dX11_ofRecipe_17 (tgt := 29) rfl (fun c17 => ?_) (fun c17 => ?_)
    · try simp only [zite_eq0, ne_eq, Classical.not_not] at c17
      refine z_bipush hG dX11_ofRecipe_29 rfl ?_
      refine z_iret hG hE dX11_ofRecipe_31 trivial ?_
      first
      | (exfalso; omega; done)
      | (have hrr := eR r (by omega) (by omega) (by omega)
         refine ⟨?_, hR, zKt_rf⟩
         simp only [zk_ofRecipe]
         rw [if_neg (by omega)]
         rcases (show (w < 0 ∨ 10 < w) ∨ w = 0 ∨ w = 1 ∨ w = 2 ∨ (3 ≤ w ∧ w ≤ 10) by omega) with q | rfl | rfl | rfl | q
         · first | (exfalso; omega; done) | (repeat (first | rw [if_pos (by first | omega | trivial)] | rw [if_neg (by omega)]))
         · first | (exfalso; omega; done) | rw [if_pos rfl, Int.add_zero, hrr.1]
         · first | (exfalso; omega; done) | rw [if_neg (by omega), if_pos rfl, hrr.2.1]
         · first | (exfalso; omega; done) | rw [if_neg (by omega), if_neg (by omega), if_pos rfl, hrr.2.2.1]
         · refine Classical.byContradiction fun hno => ?_
           refine hno ?_
           have := hrr.2.2.2.1 (w - 3) (by omega) (by omega)
           rw [show (3 : Int) + (w - 3) = w by omega] at this
           first | (exfalso; omega; done) | (rw [if_neg (by omega), if_neg (by omega), if_neg (by omega), if_pos (by omega), this]; done))
    · try simp only [zite_eq0, ne_eq, Classical.not_not] at c17
      refine z_aload_n (i := 0) hG dX11_ofRecipe_20 rfl rfl ?_
      refine z_iload_n (i := 1) hG dX11_ofRecipe_21 rfl rfl ?_
      refine z_iload_n (i := 2) hG dX11_ofRecipe_22 rfl rfl ?_
      refine z_callV hG dX11_ofRecipe_23 LV_X11_68 (ct_X11_ofARecipe l g ⟨by omega, by omega⟩ ⟨by omega, by omega⟩) (by decide) rfl rfl rfl (Nat.le_of_ble_eq_true rfl) ?_
      intro v9 m9 h9
      rw [h9.1, h9.2]
      clear h9 m9 v9
      refine z_goto hG dX11_ofRecipe_26 (tgt := 31) rfl ?_
      refine z_iret hG hE dX11_ofRecipe_31 trivial ?_
      first
      | (exfalso; omega; done)
      | (have hrr := eR r (by omega) (by omega) (by omega)
         refine ⟨?_, hR, zKt_rf⟩
         simp only [zk_ofRecipe]
         rw [if_neg (by omega)]
         rcases (show (w < 0 ∨ 10 < w) ∨ w = 0 ∨ w = 1 ∨ w = 2 ∨ (3 ≤ w ∧ w ≤ 10) by omega) with q | rfl | rfl | rfl | q
         · first | (exfalso; omega; done) | (repeat (first | rw [if_pos (by first | omega | trivial)] | rw [if_neg (by omega)]))
         · first | (exfalso; omega; done) | rw [if_pos rfl, Int.add_zero, hrr.1]
         · first | (exfalso; omega; done) | rw [if_neg (by omega), if_pos rfl, hrr.2.1]
         · first | (exfalso; omega; done) | rw [if_neg (by omega), if_neg (by omega), if_pos rfl, hrr.2.2.1]
         · refine Classical.byContradiction fun hno => ?_
           refine hno ?_
           have := hrr.2.2.2.1 (w - 3) (by omega) (by omega)
           rw [show (3 : Int) + (w - 3) = w by omega] at this
           first | (exfalso; omega; done) | (rw [if_neg (by omega), if_neg (by omega), if_neg (by omega), if_pos (by omega), this]; done))
  · try simp only [zite_eq0, ne_eq, Classical.not_not] at c5
    refine z_iconst hG dX11_ofRecipe_8 rfl ?_
    refine z_iret hG hE dX11_ofRecipe_9 trivial ?_
    simp only [zk_ofRecipe]
    (repeat (first | rw [if_pos (by first | omega | trivial)] | rw [if_neg (by omega)]))
    exact ⟨rfl, hR, zKt_rf⟩
theorem zu_255 (x : Int64) : zu (x &&& 255) = zu x % 256 := by
  have h : zu (x &&& 255) = (x.toBitVec &&& 255#64).toNat := rfl
  rw [h, BitVec.toNat_and]
  exact Nat.and_two_pow_sub_one_eq_mod (zu x) 8
theorem zcmp255 {x : Int64} : (lg_cmp (x &&& 255) 0).toInt = 0 ↔ zu x % 256 = 0 := by
  rw [zcmp0, ← zu_0, zu_255]
theorem zsar_b (x : Int64) : ∀ n : Nat, n < 8 → ((x >>> ((Int32.ofInt (8 * n)).toInt64 &&& 63)) &&& 255).toInt32.toInt = zby (zu x) n := by
  intro n hn
  rw [zu_and, zby]
  congr 1
  have h : ∀ n : Nat, n < 8 → ((((Int32.ofInt (8 * n)).toInt64 &&& 63).toBitVec.smod 64#64).toNat) = 8 * n := by decide
  have e : zu (x >>> ((Int32.ofInt (8 * n)).toInt64 &&& 63)) = (x.toBitVec.sshiftRight (8 * n)).toNat := by
    show (x >>> ((Int32.ofInt (8 * n)).toInt64 &&& 63)).toBitVec.toNat = _
    rw [Int64.toBitVec_shiftRight, BitVec.sshiftRight_eq']
    exact congrArg (fun q => (x.toBitVec.sshiftRight q).toNat) (h n hn)
  rw [e, show (256 : Nat) = 2 ^ 8 from rfl, ← Nat.pow_mul]
  apply Nat.eq_of_testBit_eq
  intro i
  rw [Nat.testBit_mod_two_pow, Nat.testBit_mod_two_pow, Nat.testBit_div_two_pow]
  by_cases hi : i < 8
  · simp only [hi, decide_true, Bool.true_and]
    rw [BitVec.testBit_toNat, BitVec.getLsbD_sshiftRight, if_pos (by omega)]
    have : ¬ 64 ≤ i := by omega
    simp only [this, decide_false, Bool.not_false, Bool.true_and]
    show x.toBitVec.getLsbD (8 * n + i) = (x.toBitVec.toNat).testBit (i + 8 * n)
    rw [BitVec.testBit_toNat, Nat.add_comm]
  · simp [hi]
theorem zapp_o {u : Nat} {t : Nat} {s i k : Int} (h6 : t ≠ 6) (h22 : t ≠ 22) : ∀ (n : Nat) (m : zM), zapp u n m t s i k = m t s i k
  | 0, _ => rfl
  | n + 1, m => by
    rw [zapp, zapp_o h6 h22 n]
    simp [zset, h6, h22]
theorem zapp_22 {u : Nat} : ∀ (n : Nat) (m : zM) (j : Int), zapp u n m 22 0 0 j = if m 6 0 0 0 ≤ j ∧ j < m 6 0 0 0 + n then zby u (n - 1 - (j - m 6 0 0 0).toNat) else m 22 0 0 j
  | 0, m, j => by
    rw [if_neg (by omega)]
    rfl
  | n + 1, m, j => by
    rw [zapp, zapp_22 n]
    have q6 : zset (zset m 22 0 0 (m 6 0 0 0) (zby u n)) 6 0 0 0 (m 6 0 0 0 + 1) 6 0 0 0 = m 6 0 0 0 + 1 := by simp [zset]
    have q22 : zset (zset m 22 0 0 (m 6 0 0 0) (zby u n)) 6 0 0 0 (m 6 0 0 0 + 1) 22 0 0 j = if j = m 6 0 0 0 then zby u n else m 22 0 0 j := by simp [zset]
    rw [q6, q22]
    by_cases c : j = m 6 0 0 0
    · rw [if_neg (by omega), if_pos c, if_pos (by omega)]
      congr 1
      omega
    · rw [if_neg c]
      by_cases c2 : m 6 0 0 0 + 1 ≤ j ∧ j < m 6 0 0 0 + 1 + n
      · rw [if_pos c2, if_pos (by omega)]
        congr 1
        omega
      · rw [if_neg c2, if_neg (by omega)]
/-- k of a put's signs are written -/
def zkpt (m : zM) (u : Nat) (p c k : Int) : zM := fun t s i q => if t = 49 ∧ s = 0 ∧ i = 0 ∧ p ≤ q ∧ q < p + k then zby u (c - 1 - (q - p)).toNat else m t s i q
theorem zkpt_0 {m : zM} {u : Nat} {p c : Int} : zkpt m u p c 0 = m := by
  funext t s i q
  simp only [zkpt]
  rw [if_neg (by omega)]
theorem zkpt_s {m : zM} {u : Nat} {p c k : Int} (h : 0 ≤ k) : zset (zkpt m u p c k) 49 0 0 (p + k) (zby u (c - 1 - k).toNat) = zkpt m u p c (k + 1) := by
  funext t s i q
  simp only [zkpt, zset]
  by_cases e : t = 49 ∧ s = 0 ∧ i = 0 ∧ q = p + k
  · obtain ⟨rfl, rfl, rfl, rfl⟩ := e
    rw [if_pos (by simp), if_pos (by simp; omega), show p + k - p = k by omega]
  · rw [if_neg e]
    by_cases e2 : t = 49 ∧ s = 0 ∧ i = 0 ∧ p ≤ q ∧ q < p + k
    · rw [if_pos e2, if_pos (by omega)]
    · rw [if_neg e2, if_neg (by omega)]
theorem zkpt_o {m : zM} {u : Nat} {p c k : Int} {t : Nat} {s i q : Int} (h : t ≠ 49) : zkpt m u p c k t s i q = m t s i q := by
  simp only [zkpt]
  rw [if_neg (by omega)]
set_option maxRecDepth 20000 in
theorem ct_X11_put (l : Launch) (g : zG) {a m : zM} {B : Int} {x : Int64} (hI : zInv B a) (hR : zRM a m) : zMet l g Y_X11_put [zr 11 0 0, zl x] m (fun v m' => v = some (zi (zk_put x a).1) ∧ zRM (zk_put x a).2 m' ∧ zKt m' m) := by
  refine zMet_introF (by decide +kernel) (Nat.le_of_ble_eq_true rfl) (ls0 := [some (zr 11 0 0), some (zl x), none, none, none, none, none]) rfl fun X hG hE => ?_
  have hG : zGood X l g RX11 cX11_put 1 7 := hG
  have hE : zEnd X (some .int) _ := hE
  obtain ⟨⟨e0, e1, e2, e3, e4, e5, eI, eZ, eR⟩, eN, eP, eS, e6, eT⟩ := id hR
  have hp6 := hI.2.2.2.1
  have tail : ∀ (c : Int) (y : Int64), 1 ≤ c ∧ c ≤ 8 → zlen 8 (zu x) 0 = c → a 6 0 0 0 + c ≤ 80 → ∀ (n : Nat) (k : Int), 0 ≤ k → k + n = c → zZ X 86 [some (zr 11 0 0), some (zl x), none, some (zi c), some (zl y), none, some (zi k)] [] (zkpt m (zu x) (a 6 0 0 0) c k) := by
    intro c y hc hz h80 n
    induction n with
    | zero =>
      intro k hk0 hk
      obtain rfl : k = c := by omega
      have q6 : zkpt m (zu x) (a 6 0 0 0) k k 11 0 0 6 = a 6 0 0 0 := by rw [zkpt_o (by decide), e6]
      refine z_iload hG dX11_put_86 rfl ?_
      refine z_iload_n (i := 3) hG dX11_put_88 rfl rfl ?_
      refine z_icmp_ge hG dX11_put_89 (tgt := 126) rfl (fun c89 => ?_) (fun c89 => ?_)
      · refine z_aload_n (i := 0) hG dX11_put_126 rfl rfl ?_
        first | refine z_dup_r hG dX11_put_127 ?_ | refine z_dup_i hG dX11_put_127 ?_
        refine z_getI hG dX11_put_128 FL_X11_215 rfl rfl (kk := 6) rfl ?_
        rw [q6]
        refine z_iload_n (i := 3) hG dX11_put_131 rfl rfl ?_
        refine z_iadd hG dX11_put_132 (by omega) (by omega) ?_
        refine z_put hG dX11_put_133 FP_X11_215 rfl rfl (kk := 6) rfl ?_
        refine z_aload_n (i := 0) hG dX11_put_136 rfl rfl ?_
        refine z_getI hG dX11_put_137 FL_X11_215 rfl rfl (kk := 6) rfl ?_
        refine z_iret hG hE dX11_put_140 trivial ?_
        refine ⟨?_, ?_, zKt_set (fun t s i k h1 h2 => zkpt_o (by omega)) (Or.inl rfl)⟩
        · rw [zk_put, hz, if_neg (by omega), if_neg (by omega)]
          simp [zset]
        · rw [zk_put, hz, if_neg (by omega), if_neg (by omega)]
          dsimp only
          have z6 := zapp_6 (zu x) k.toNat a
          refine zRM_pad hR (fun t s i k' h1 h2 => zapp_o (by simp only [zrt] at h2; omega) (by simp only [zrt] at h2; omega) _ _) (fun t k' h => by simp only [zset]; rw [if_neg (by omega), zkpt_o (by omega)]) ?_ (fun j j0 j1 => ?_)
          · rw [z6]
            simp [zset]
            omega
          · rw [z6] at j1
            rw [zapp_22]
            simp only [zset, zkpt]
            rw [if_neg (by omega)]
            by_cases e : a 6 0 0 0 ≤ j
            · rw [if_pos (by simp; omega), if_pos (by omega)]
              congr 1
              omega
            · rw [if_neg (by omega), if_neg (by omega)]
              exact eT j j0 (by omega)
      · exact absurd c89 (by omega)
    | succ n ih =>
      intro k hk0 hk
      have q6 : zkpt m (zu x) (a 6 0 0 0) c k 11 0 0 6 = a 6 0 0 0 := by rw [zkpt_o (by decide), e6]
      obtain ⟨w, hw⟩ := Int.eq_ofNat_of_zero_le (show 0 ≤ c - 1 - k by omega)
      refine z_iload hG dX11_put_86 rfl ?_
      refine z_iload_n (i := 3) hG dX11_put_88 rfl rfl ?_
      refine z_icmp_ge hG dX11_put_89 (tgt := 126) rfl (fun c89 => ?_) (fun c89 => ?_)
      · exact absurd c89 (by omega)
      · refine z_aload_n (i := 0) hG dX11_put_92 rfl rfl ?_
        refine z_get_11_5 hG dX11_put_93 FL_X11_23 ?_
        refine z_aload_n (i := 0) hG dX11_put_96 rfl rfl ?_
        refine z_getI hG dX11_put_97 FL_X11_215 rfl rfl (kk := 6) rfl ?_
        rw [q6]
        refine z_iload hG dX11_put_100 rfl ?_
        refine z_iadd hG dX11_put_102 (by omega) (by omega) ?_
        refine z_lload_n (i := 1) hG dX11_put_103 rfl rfl ?_
        refine z_bipush hG dX11_put_104 rfl ?_
        refine z_iload_n (i := 3) hG dX11_put_106 rfl rfl ?_
        refine z_iconst hG dX11_put_107 rfl ?_
        refine z_isub hG dX11_put_108 (by omega) (by omega) ?_
        refine z_iload hG dX11_put_109 rfl ?_
        refine z_isub hG dX11_put_111 (by omega) (by omega) ?_
        rw [hw]
        refine z_imul hG dX11_put_112 (by omega) (by omega) ?_
        refine z_lshr hG dX11_put_113 ?_
        refine z_ldc2 hG dX11_put_114 KC_X11_264 ?_
        refine z_land hG dX11_put_117 ?_
        refine z_l2i hG dX11_put_118 ?_
        rw [zsar_b x w (by omega), show w = (c - 1 - k).toNat by omega]
        refine z_iast hG dX11_put_119 rfl rfl (by omega) (by omega) ?_
        refine z_mem (zkpt_s hk0) ?_
        refine z_iinc hG dX11_put_120 (by decide) rfl (by omega) (by omega) (ls2 := [_, _, _, _, _, _, _]) rfl ?_
        refine z_goto hG dX11_put_123 (tgt := 86) rfl ?_
        exact ih (k + 1) (by omega) (by omega)
  have loop : ∀ (n : Nat) (c : Int) (y : Int64), 0 ≤ c → c + n = 8 → zu y = zu x / 256 ^ c.toNat → zlen n (zu y) c = zlen 8 (zu x) 0 → zZ X 5 [some (zr 11 0 0), some (zl x), none, some (zi c), some (zl y), none, none] [] m := by
    intro n
    have last : ∀ (n' : Nat) (c : Int) (y : Int64), 0 ≤ c → c + n' = 8 → zu y % 256 = 0 ∨ n' = 0 → (n' = 0 → zu y = 0) → zlen n' (zu y) c = zlen 8 (zu x) 0 → zZ X 55 [some (zr 11 0 0), some (zl x), none, some (zi c), some (zl y), none, none] [] m := by
      intro n' c y hc0 hc he hy0 hz
      refine z_iload_n (i := 3) hG dX11_put_55 rfl rfl ?_
      refine z_if_eq hG dX11_put_56 (tgt := 66) rfl (fun c56 => ?_) (fun c56 => ?_)
      · try simp only [zite_eq0, ne_eq, Classical.not_not] at c56
        refine z_bipush hG dX11_put_66 rfl ?_
        refine z_iret hG hE dX11_put_68 trivial ?_
        have hzc : zlen 8 (zu x) 0 = 0 := by
          rw [← hz]
          cases n' with
          | zero =>
            first
            | (exfalso; omega)
            | exact absurd (zcmp0.mpr (zu_0.mp (hy0 rfl))) c63
          | succ n' =>
            rw [zlen]
            by_cases q : zu y = 0
            · rw [if_pos q]
              first
              | exact c56
              | exact absurd (zcmp0.mpr (zu_0.mp q)) c63
            · rw [if_neg q, if_pos (by omega)]
        rw [zk_put, if_pos hzc]
        exact ⟨rfl, hR, zKt_rf⟩
      · try simp only [zite_eq0, ne_eq, Classical.not_not] at c56
        refine z_lload hG dX11_put_59 rfl ?_
        refine z_lconst hG dX11_put_61 ?_
        refine z_lcmp hG dX11_put_62 ?_
        refine z_if_eq hG dX11_put_63 (tgt := 69) rfl (fun c63 => ?_) (fun c63 => ?_)
        · try simp only [zite_eq0, ne_eq, Classical.not_not] at c63
          refine z_aload_n (i := 0) hG dX11_put_69 rfl rfl ?_
          refine z_getI hG dX11_put_70 FL_X11_215 rfl rfl (kk := 6) rfl ?_
          rw [e6]
          refine z_iload_n (i := 3) hG dX11_put_73 rfl rfl ?_
          refine z_iadd hG dX11_put_74 (by omega) (by omega) ?_
          refine z_bipush hG dX11_put_75 rfl ?_
          refine z_icmp_le hG dX11_put_77 (tgt := 83) rfl (fun c77 => ?_) (fun c77 => ?_)
          · refine z_iconst hG dX11_put_83 rfl ?_
            refine z_istore hG dX11_put_84 (by decide) (ls2 := [_, _, _, _, _, _, _]) rfl ?_
            have hy : zu y = 0 := zu_0.mpr (zcmp0.mp c63)
            have hzc : zlen 8 (zu x) 0 = c := by
              rw [← hz]
              cases n' with
              | zero => rfl
              | succ n' => rw [zlen, if_pos hy]
            exact z_mem zkpt_0.symm (tail c y ⟨by omega, by omega⟩ hzc (by omega) c.toNat 0 (by decide) (by omega))
          · refine z_bipush hG dX11_put_80 rfl ?_
            refine z_iret hG hE dX11_put_82 trivial ?_
            have hy : zu y = 0 := zu_0.mpr (zcmp0.mp c63)
            have hzc : zlen 8 (zu x) 0 = c := by
              rw [← hz]
              cases n' with
              | zero => rfl
              | succ n' => rw [zlen, if_pos hy]
            rw [zk_put, hzc, if_neg (by omega), if_pos (by omega)]
            exact ⟨rfl, hR, zKt_rf⟩
        · try simp only [zite_eq0, ne_eq, Classical.not_not] at c63
          refine z_bipush hG dX11_put_66 rfl ?_
          refine z_iret hG hE dX11_put_68 trivial ?_
          have hzc : zlen 8 (zu x) 0 = 0 := by
            rw [← hz]
            cases n' with
            | zero =>
              first
              | (exfalso; omega)
              | exact absurd (zcmp0.mpr (zu_0.mp (hy0 rfl))) c63
            | succ n' =>
              rw [zlen]
              by_cases q : zu y = 0
              · rw [if_pos q]
                first
                | exact c56
                | exact absurd (zcmp0.mpr (zu_0.mp q)) c63
              · rw [if_neg q, if_pos (by omega)]
          rw [zk_put, if_pos hzc]
          exact ⟨rfl, hR, zKt_rf⟩
    induction n with
    | zero =>
      intro c y hc0 hc hy hz
      obtain rfl : c = 8 := by omega
      have hy8 : zu y = 0 := by
        rw [hy]
        have := zu_lt x
        exact Nat.div_eq_of_lt (by simpa using this)
      refine z_iload_n (i := 3) hG dX11_put_5 rfl rfl ?_
      refine z_bipush hG dX11_put_6 rfl ?_
      refine z_icmp_ge hG dX11_put_8 (tgt := 55) rfl (fun c8 => ?_) (fun c8 => ?_)
      · exact last 0 8 y (by decide) rfl (Or.inr rfl) (fun _ => hy8) hz
      · exact absurd c8 (by omega)
    | succ n ih =>
      intro c y hc0 hc hy hz
      have hz0 := hz
      rw [zlen] at hz
      refine z_iload_n (i := 3) hG dX11_put_5 rfl rfl ?_
      refine z_bipush hG dX11_put_6 rfl ?_
      refine z_icmp_ge hG dX11_put_8 (tgt := 55) rfl (fun c8 => ?_) (fun c8 => ?_)
      · exact absurd c8 (by omega)
      · refine z_lload hG dX11_put_11 rfl ?_
        refine z_ldc2 hG dX11_put_13 KC_X11_264 ?_
        refine z_land hG dX11_put_16 ?_
        refine z_lconst hG dX11_put_17 ?_
        refine z_lcmp hG dX11_put_18 ?_
        refine z_if_eq hG dX11_put_19 (tgt := 55) rfl (fun c19 => ?_) (fun c19 => ?_)
        · try simp only [zite_eq0, ne_eq, Classical.not_not] at c19
          exact last (n + 1) c y hc0 hc (Or.inl (zcmp255.mp c19)) (fun q => absurd q (by omega)) hz0
        · try simp only [zite_eq0, ne_eq, Classical.not_not] at c19
          refine z_lload hG dX11_put_22 rfl ?_
          refine z_ldc2 hG dX11_put_24 KC_X11_264 ?_
          refine z_land hG dX11_put_27 ?_
          refine z_l2i hG dX11_put_28 ?_
          refine z_bipush hG dX11_put_29 rfl ?_
          refine z_bipush hG dX11_put_31 rfl ?_
          rw [zu_and]
          refine z_callS hG dX11_put_33 LS_X11_76 (ct_X11_in l g) (by decide) rfl rfl (Nat.le_of_ble_eq_true rfl) ?_
          intro v9 m9 h9
          rw [h9.1, h9.2]
          clear h9 m9 v9
          refine z_if_ne hG dX11_put_36 (tgt := 42) rfl (fun c36 => ?_) (fun c36 => ?_)
          · try simp only [zite_eq0, ne_eq, Classical.not_not] at c36
            refine z_iinc hG dX11_put_42 (by decide) rfl (by omega) (by omega) (ls2 := [_, _, _, _, _, _, _]) rfl ?_
            refine z_lload hG dX11_put_45 rfl ?_
            refine z_bipush hG dX11_put_47 rfl ?_
            refine z_lushr hG dX11_put_49 ?_
            refine z_lstore hG dX11_put_50 (by decide) (ls2 := [_, _, _, _, _, _, _]) rfl ?_
            refine z_goto hG dX11_put_52 (tgt := 5) rfl ?_
            have hy1 : ¬ zu y % 256 = 0 := fun q => c19 (zcmp255.mpr q)
            rw [if_neg (fun q => hy1 (by rw [q])), if_neg (by omega)] at hz
            refine ih (c + 1) (zush y 8) (by omega) (by omega) ?_ (by rw [zush8]; exact hz)
            rw [zush8, hy, show (c + 1).toNat = c.toNat + 1 by omega, Nat.pow_succ, Nat.div_div_eq_div_mul]
          · try simp only [zite_eq0, ne_eq, Classical.not_not] at c36
            refine z_bipush hG dX11_put_39 rfl ?_
            refine z_iret hG hE dX11_put_41 trivial ?_
            have hy1 : ¬ zu y % 256 = 0 := fun q => c19 (zcmp255.mpr q)
            rw [if_neg (fun q => hy1 (by rw [q])), if_pos (by omega)] at hz
            rw [zk_put, if_pos hz.symm]
            exact ⟨rfl, hR, zKt_rf⟩
  refine z_iconst hG dX11_put_0 rfl ?_
  refine z_istore_n (i := 3) hG dX11_put_1 rfl (by decide) (ls2 := [_, _, _, _, _, _, _]) rfl ?_
  refine z_lload_n (i := 1) hG dX11_put_2 rfl rfl ?_
  refine z_lstore hG dX11_put_3 (by decide) (ls2 := [_, _, _, _, _, _, _]) rfl ?_
  exact loop 8 0 x (by decide) rfl (by simp) rfl
