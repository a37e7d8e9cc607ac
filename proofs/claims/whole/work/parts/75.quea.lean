theorem zMo_RM {a m m1 : zM} (h : zMo m1 m) (hR : zRM a m) : zRM a m1 := zRM_now hR (fun _ _ _ _ _ => rfl) (fun t k hh => h t 0 0 k (by omega) (by omega)) (by rw [zMo_45 h]; exact hR.1)
theorem zMo_Kt {m m1 : zM} (h : zMo m1 m) : zKt m1 m := fun t s i k h1 h2 => h t s i k (by omega) (by omega)
theorem zmp_b {a : zM} (h : zmp a) {i b : Int} (hb : 0 ≤ b ∧ b ≤ 1) : zmp (zset a 3 0 i 1 b) := by
  obtain ⟨h1, h2, h3, h4, h5⟩ := h
  refine ⟨zpc_setb h1, by simpa [zset] using h2, fun r r0 r1 => by simpa [zset] using h3 r r0 r1, fun j j0 j1 => ?_, by simpa [zset] using h5⟩
  have := h4 j j0 j1
  simp only [zset]
  split
  · omega
  · exact this
theorem zmp_p {a : zM} (h : zmp a) {r p : Int} (hr : r < a 2 0 0 5) (hp : 0 ≤ p ∧ p ≤ 20) : zmp (zset a 4 0 r 1 p) := by
  obtain ⟨h1, h2, h3, h4, h5⟩ := h
  refine ⟨zpc_setp h1 hp, by simpa [zset] using h2, fun q q0 q1 => ?_, fun j j0 j1 => by simpa [zset] using h4 j j0 j1, by simpa [zset] using h5⟩
  have := h3 q q0 q1
  have e5 : zset a 4 0 r 1 p 2 0 0 5 = a 2 0 0 5 := by simp [zset]
  have e0 : zset a 4 0 r 1 p 4 0 q 0 = a 4 0 q 0 := by simp [zset]
  rw [e5, e0]
  refine ⟨fun z => ?_, this.2⟩
  simp only [zset]
  rw [if_neg (by omega)]
  exact this.1 z
set_option maxRecDepth 20000 in
theorem ct_X11_needs (l : Launch) (g : zG) {a m : zM} {B : Int} {i w : Int} (hI : zInv B a) (hB : B ≤ 11900000) (hR : zRM a m) : zMet l g Y_X11_needs [zr 11 0 0, zi i, zi w] m (fun v m' => v = some (zi (zk_needs i w a)) ∧ zRM a m' ∧ zKt m' m) := by
  refine zMet_introF (by decide +kernel) (Nat.le_of_ble_eq_true rfl) (ls0 := [some (zr 11 0 0), some (zi i), some (zi w)]) rfl fun X hG hE => ?_
  have hG : zGood X l g RX11 cX11_needs 7 3 := hG
  have hE : zEnd X (some .int) _ := hE
  have hI0 := zInv0 hI
  obtain ⟨hday, hhan, hing, hrcp, hrec, hboo, hrow, hrow2, hstp⟩ := id hI0
  obtain ⟨⟨e0, e1, e2, e3, e4, e5, eI, eZ, eR⟩, eN, eP, eS, e6, eT⟩ := id hR
  have hb : ∀ (t : Nat) (i k : Int), t ≠ 1 → zrecd a t 0 i k = a t 0 i k := fun t i k ht => zrecd_0 hI.1.1.1 ht
  have hK := zRM_keep hI.1.1 hI.1.2 (fun s s0 s1 => (hI.2.2.1 s s0 s1).1.1) hR

  have hmp := zIS_mp hI0 (by omega)
  refine z_aload_n (i := 0) hG dX11_needs_0 rfl rfl ?_
  refine z_iload_n (i := 1) hG dX11_needs_1 rfl rfl ?_
  refine z_callV hG dX11_needs_2 LV_X11_90 (ct_X11_isIngredient l g) (by decide) rfl rfl rfl (Nat.le_of_ble_eq_true rfl) ?_
  intro v9 m9 h9
  rw [h9.1, h9.2, e1]
  clear h9 m9 v9
  refine z_if_ne hG dX11_needs_5 (tgt := 10) rfl (fun zcq5 => ?_) (fun zcq5 => ?_)
  · try simp only [zite_eq0, ne_eq, Classical.not_not] at zcq5
    refine z_aload_n (i := 0) hG dX11_needs_10 rfl rfl ?_
    refine z_callV hG dX11_needs_11 LV_X11_150 (ct_X11_findNeeds l g hmp hR.1) (by decide) rfl rfl rfl (Nat.le_of_ble_eq_true rfl) ?_
    intro v9 m1 h9
    obtain ⟨h9a, hW, hbw, hO⟩ := h9
    rw [h9a]
    clear h9a v9
    refine z_iload_n (i := 2) hG dX11_needs_14 rfl rfl ?_
    rcases (show (w < 0 ∨ 7 < w) ∨ w = 0 ∨ w = 1 ∨ w = 2 ∨ w = 3 ∨ w = 4 ∨ w = 5 ∨ w = 6 ∨ w = 7 from by omega) with zcq15 | rfl | rfl | rfl | rfl | rfl | rfl | rfl | rfl
    · refine z_tabOut hG dX11_needs_15 (by omega) (tgt := 116) rfl ?_
      refine z_bipush hG dX11_needs_116 rfl ?_
      refine z_iret hG hE dX11_needs_118 trivial ?_
      have hWi := (hW i (by omega) (by omega)).1
      refine ⟨?_, zMo_RM hO hR, zMo_Kt hO⟩
      rw [zk_needs, if_neg (by omega), zpick]
      (repeat (first | rw [if_pos (by first | omega | trivial)] | rw [if_neg (by omega)]))
      try simp only [hWi]
    · refine z_tabIn hG dX11_needs_15 (by decide) (by decide) (off := 45) rfl (tgt := 60) rfl ?_
      refine z_aload_n (i := 0) hG dX11_needs_60 rfl rfl ?_
      refine z_get_11_7 hG dX11_needs_61 FL_X11_26 ?_
      refine z_iload_n (i := 1) hG dX11_needs_64 rfl rfl ?_
      refine z_iald hG dX11_needs_65 rfl rfl (by omega) (by omega) ?_
      refine z_iret hG hE dX11_needs_66 trivial ?_
      have hWi := (hW i (by omega) (by omega)).1
      refine ⟨?_, zMo_RM hO hR, zMo_Kt hO⟩
      rw [zk_needs, if_neg (by omega), zpick]
      (repeat (first | rw [if_pos (by first | omega | trivial)] | rw [if_neg (by omega)]))
      try simp only [hWi]
    · refine z_tabIn hG dX11_needs_15 (by decide) (by decide) (off := 52) rfl (tgt := 67) rfl ?_
      refine z_aload_n (i := 0) hG dX11_needs_67 rfl rfl ?_
      refine z_get_11_8 hG dX11_needs_68 FL_X11_29 ?_
      refine z_iload_n (i := 1) hG dX11_needs_71 rfl rfl ?_
      refine z_iald hG dX11_needs_72 rfl rfl (by omega) (by omega) ?_
      refine z_iret hG hE dX11_needs_73 trivial ?_
      have hWi := (hW i (by omega) (by omega)).1
      refine ⟨?_, zMo_RM hO hR, zMo_Kt hO⟩
      rw [zk_needs, if_neg (by omega), zpick]
      (repeat (first | rw [if_pos (by first | omega | trivial)] | rw [if_neg (by omega)]))
      try simp only [hWi]
    · refine z_tabIn hG dX11_needs_15 (by decide) (by decide) (off := 59) rfl (tgt := 74) rfl ?_
      refine z_aload_n (i := 0) hG dX11_needs_74 rfl rfl ?_
      refine z_get_11_9 hG dX11_needs_75 FL_X11_32 ?_
      refine z_iload_n (i := 1) hG dX11_needs_78 rfl rfl ?_
      refine z_iald hG dX11_needs_79 rfl rfl (by omega) (by omega) ?_
      refine z_iret hG hE dX11_needs_80 trivial ?_
      have hWi := (hW i (by omega) (by omega)).1
      refine ⟨?_, zMo_RM hO hR, zMo_Kt hO⟩
      rw [zk_needs, if_neg (by omega), zpick]
      (repeat (first | rw [if_pos (by first | omega | trivial)] | rw [if_neg (by omega)]))
      try simp only [hWi]
    · refine z_tabIn hG dX11_needs_15 (by decide) (by decide) (off := 66) rfl (tgt := 81) rfl ?_
      refine z_aload_n (i := 0) hG dX11_needs_81 rfl rfl ?_
      refine z_get_11_10 hG dX11_needs_82 FL_X11_35 ?_
      refine z_iload_n (i := 1) hG dX11_needs_85 rfl rfl ?_
      refine z_iald hG dX11_needs_86 rfl rfl (by omega) (by omega) ?_
      refine z_iret hG hE dX11_needs_87 trivial ?_
      have hWi := (hW i (by omega) (by omega)).1
      refine ⟨?_, zMo_RM hO hR, zMo_Kt hO⟩
      rw [zk_needs, if_neg (by omega), zpick]
      (repeat (first | rw [if_pos (by first | omega | trivial)] | rw [if_neg (by omega)]))
      try simp only [hWi]
    · refine z_tabIn hG dX11_needs_15 (by decide) (by decide) (off := 73) rfl (tgt := 88) rfl ?_
      refine z_aload_n (i := 0) hG dX11_needs_88 rfl rfl ?_
      refine z_get_11_11 hG dX11_needs_89 FL_X11_38 ?_
      refine z_iload_n (i := 1) hG dX11_needs_92 rfl rfl ?_
      refine z_iald hG dX11_needs_93 rfl rfl (by omega) (by omega) ?_
      refine z_iret hG hE dX11_needs_94 trivial ?_
      have hWi := (hW i (by omega) (by omega)).1
      refine ⟨?_, zMo_RM hO hR, zMo_Kt hO⟩
      rw [zk_needs, if_neg (by omega), zpick]
      (repeat (first | rw [if_pos (by first | omega | trivial)] | rw [if_neg (by omega)]))
      try simp only [hWi]
    · refine z_tabIn hG dX11_needs_15 (by decide) (by decide) (off := 80) rfl (tgt := 95) rfl ?_
      refine z_aload_n (i := 0) hG dX11_needs_95 rfl rfl ?_
      refine z_get_11_12 hG dX11_needs_96 FL_X11_41 ?_
      refine z_iload_n (i := 1) hG dX11_needs_99 rfl rfl ?_
      refine z_iald hG dX11_needs_100 rfl rfl (by omega) (by omega) ?_
      refine z_iret hG hE dX11_needs_101 trivial ?_
      have hWi := (hW i (by omega) (by omega)).1
      refine ⟨?_, zMo_RM hO hR, zMo_Kt hO⟩
      rw [zk_needs, if_neg (by omega), zpick]
      (repeat (first | rw [if_pos (by first | omega | trivial)] | rw [if_neg (by omega)]))
      try simp only [hWi]
    · refine z_tabIn hG dX11_needs_15 (by decide) (by decide) (off := 87) rfl (tgt := 102) rfl ?_
      refine z_aload_n (i := 0) hG dX11_needs_102 rfl rfl ?_
      refine z_get_11_13 hG dX11_needs_103 FL_X11_44 ?_
      refine z_iload_n (i := 1) hG dX11_needs_106 rfl rfl ?_
      refine z_iald hG dX11_needs_107 rfl rfl (by omega) (by omega) ?_
      refine z_iret hG hE dX11_needs_108 trivial ?_
      have hWi := (hW i (by omega) (by omega)).1
      refine ⟨?_, zMo_RM hO hR, zMo_Kt hO⟩
      rw [zk_needs, if_neg (by omega), zpick]
      (repeat (first | rw [if_pos (by first | omega | trivial)] | rw [if_neg (by omega)]))
      try simp only [hWi]
    · refine z_tabIn hG dX11_needs_15 (by decide) (by decide) (off := 94) rfl (tgt := 109) rfl ?_
      refine z_aload_n (i := 0) hG dX11_needs_109 rfl rfl ?_
      refine z_get_11_14 hG dX11_needs_110 FL_X11_47 ?_
      refine z_iload_n (i := 1) hG dX11_needs_113 rfl rfl ?_
      refine z_iald hG dX11_needs_114 rfl rfl (by omega) (by omega) ?_
      refine z_iret hG hE dX11_needs_115 trivial ?_
      have hWi := (hW i (by omega) (by omega)).1
      refine ⟨?_, zMo_RM hO hR, zMo_Kt hO⟩
      rw [zk_needs, if_neg (by omega), zpick]
      (repeat (first | rw [if_pos (by first | omega | trivial)] | rw [if_neg (by omega)]))
      try simp only [hWi]
  · try simp only [zite_eq0, ne_eq, Classical.not_not] at zcq5
    refine z_iconst hG dX11_needs_8 rfl ?_
    refine z_iret hG hE dX11_needs_9 trivial ?_
    unfold zk_needs
    (repeat (first | rw [if_pos (by omega)] | rw [if_neg (by omega)]))
    exact ⟨rfl, hR, zKt_rf⟩
set_option maxRecDepth 20000 in
theorem ct_X11_ofTin (l : Launch) (g : zG) {a m : zM} {B : Int} {i k w : Int} (hI : zInv B a) (hB : B ≤ 11900000) (hR : zRM a m) : zMet l g Y_X11_ofTin [zr 11 0 0, zi i, zi k, zi w] m (fun v m' => v = some (zi (zk_ofTin i k w a)) ∧ zRM a m' ∧ zKt m' m) := by
  refine zMet_introF (by decide +kernel) (Nat.le_of_ble_eq_true rfl) (ls0 := [some (zr 11 0 0), some (zi i), some (zi k), some (zi w)]) rfl fun X hG hE => ?_
  have hG : zGood X l g RX11 cX11_ofTin 7 4 := hG
  have hE : zEnd X (some .int) _ := hE
  have hI0 := zInv0 hI
  obtain ⟨hday, hhan, hing, hrcp, hrec, hboo, hrow, hrow2, hstp⟩ := id hI0
  obtain ⟨⟨e0, e1, e2, e3, e4, e5, eI, eZ, eR⟩, eN, eP, eS, e6, eT⟩ := id hR
  have hb : ∀ (t : Nat) (i k : Int), t ≠ 1 → zrecd a t 0 i k = a t 0 i k := fun t i k ht => zrecd_0 hI.1.1.1 ht
  have hK := zRM_keep hI.1.1 hI.1.2 (fun s s0 s1 => (hI.2.2.1 s s0 s1).1.1) hR

  have hmp := zIS_mp hI0 (by omega)
  refine z_aload_n (i := 0) hG dX11_ofTin_0 rfl rfl ?_
  refine z_iload_n (i := 1) hG dX11_ofTin_1 rfl rfl ?_
  refine z_callV hG dX11_ofTin_2 LV_X11_90 (ct_X11_isIngredient l g) (by decide) rfl rfl rfl (Nat.le_of_ble_eq_true rfl) ?_
  intro v9 m9 h9
  rw [h9.1, h9.2, e1]
  clear h9 m9 v9
  refine z_if_eq hG dX11_ofTin_5 (tgt := 22) rfl (fun zcq5 => ?_) (fun zcq5 => ?_)
  · try simp only [zite_eq0, ne_eq, Classical.not_not] at zcq5
    refine z_iconst hG dX11_ofTin_22 rfl ?_
    refine z_iret hG hE dX11_ofTin_23 trivial ?_
    unfold zk_ofTin
    (repeat (first | rw [if_pos (by omega)] | rw [if_neg (by omega)]))
    exact ⟨rfl, hR, zKt_rf⟩
  · try simp only [zite_eq0, ne_eq, Classical.not_not] at zcq5
    refine z_iload_n (i := 2) hG dX11_ofTin_8 rfl rfl ?_
    refine z_if_lt hG dX11_ofTin_9 (tgt := 22) rfl (fun zcq9 => ?_) (fun zcq9 => ?_)
    · refine z_iconst hG dX11_ofTin_22 rfl ?_
      refine z_iret hG hE dX11_ofTin_23 trivial ?_
      unfold zk_ofTin
      (repeat (first | rw [if_pos (by omega)] | rw [if_neg (by omega)]))
      exact ⟨rfl, hR, zKt_rf⟩
    · refine z_iload_n (i := 2) hG dX11_ofTin_12 rfl rfl ?_
      refine z_aload_n (i := 0) hG dX11_ofTin_13 rfl rfl ?_
      refine z_iload_n (i := 1) hG dX11_ofTin_14 rfl rfl ?_
      refine z_iconst hG dX11_ofTin_15 rfl ?_
      refine z_callV hG dX11_ofTin_16 LV_X11_87 (ct_X11_of l g ⟨by omega, by omega⟩ ⟨by omega, by omega⟩) (by decide) rfl rfl rfl (Nat.le_of_ble_eq_true rfl) ?_
      intro v9 m9 h9
      rw [h9.1, h9.2, (eI i (by omega) (by omega) (by omega)).2.2.1]
      clear h9 m9 v9
      have hkn := (hrow i (by omega) (by omega)).1.1
      refine z_icmp_lt hG dX11_ofTin_19 (tgt := 24) rfl (fun zcq19 => ?_) (fun zcq19 => ?_)
      · refine z_iload_n (i := 3) hG dX11_ofTin_24 rfl rfl ?_
        refine z_iconst hG dX11_ofTin_25 rfl ?_
        refine z_iconst hG dX11_ofTin_26 rfl ?_
        refine z_callS hG dX11_ofTin_27 LS_X11_76 (ct_X11_in l g) (by decide) rfl rfl (Nat.le_of_ble_eq_true rfl) ?_
        intro v9 m9 h9
        rw [h9.1, h9.2]
        clear h9 m9 v9
        refine z_if_ne hG dX11_ofTin_30 (tgt := 36) rfl (fun zcq30 => ?_) (fun zcq30 => ?_)
        · try simp only [zite_eq0, ne_eq, Classical.not_not] at zcq30
          refine z_iload_n (i := 3) hG dX11_ofTin_36 rfl rfl ?_
          refine z_iconst hG dX11_ofTin_37 rfl ?_
          refine z_icmp_ge hG dX11_ofTin_38 (tgt := 55) rfl (fun zcq38 => ?_) (fun zcq38 => ?_)
          · refine z_aload_n (i := 0) hG dX11_ofTin_55 rfl rfl ?_
            refine z_callV hG dX11_ofTin_56 LV_X11_150 (ct_X11_findNeeds l g hmp hR.1) (by decide) rfl rfl rfl (Nat.le_of_ble_eq_true rfl) ?_
            intro v9 m1 h9
            obtain ⟨h9a, hW, hbw, hO⟩ := h9
            rw [h9a]
            clear h9a v9
            refine z_aload_n (i := 0) hG dX11_ofTin_59 rfl rfl ?_
            refine z_get_11_15 hG dX11_ofTin_60 FL_X11_50 ?_
            refine z_iconst hG dX11_ofTin_63 rfl ?_
            refine z_iload_n (i := 1) hG dX11_ofTin_64 rfl rfl ?_
            refine z_imul hG dX11_ofTin_65 (by omega) (by omega) ?_
            refine z_iload_n (i := 2) hG dX11_ofTin_66 rfl rfl ?_
            refine z_iadd hG dX11_ofTin_67 (by omega) (by omega) ?_
            refine z_iald hG dX11_ofTin_68 rfl rfl (by omega) (by omega) ?_
            refine z_iret hG hE dX11_ofTin_69 trivial ?_
            have hWi := (hW i (by omega) (by omega)).2
            refine ⟨?_, zMo_RM hO hR, zMo_Kt hO⟩
            rw [zk_ofTin, if_neg (by omega), if_neg (by omega), if_neg (by omega), if_pos (by omega)]
            rcases (show k = 0 ∨ k = 1 ∨ k = 2 by omega) with rfl | rfl | rfl
            · rw [if_pos rfl, Int.add_zero, hWi.1]
            · rw [if_neg (by decide), if_pos rfl, hWi.2.1]
            · rw [if_neg (by decide), if_neg (by decide), hWi.2.2]
          · refine z_aload_n (i := 0) hG dX11_ofTin_41 rfl rfl ?_
            refine z_iload_n (i := 1) hG dX11_ofTin_42 rfl rfl ?_
            refine z_bipush hG dX11_ofTin_43 rfl ?_
            refine z_iconst hG dX11_ofTin_45 rfl ?_
            refine z_iload_n (i := 2) hG dX11_ofTin_46 rfl rfl ?_
            refine z_imul hG dX11_ofTin_47 (by omega) (by omega) ?_
            refine z_iadd hG dX11_ofTin_48 (by omega) (by omega) ?_
            refine z_iload_n (i := 3) hG dX11_ofTin_49 rfl rfl ?_
            refine z_iadd hG dX11_ofTin_50 (by omega) (by omega) ?_
            refine z_callV hG dX11_ofTin_51 LV_X11_87 (ct_X11_of l g ⟨by omega, by omega⟩ ⟨by omega, by omega⟩) (by decide) rfl rfl rfl (Nat.le_of_ble_eq_true rfl) ?_
            intro v9 m9 h9
            rw [h9.1, h9.2]
            clear h9 m9 v9
            refine z_iret hG hE dX11_ofTin_54 trivial ?_
            have h10 := (eI i (by omega) (by omega) (by omega)).2.2.2.2.2.2.2.2.2.2.1 k (by omega) (by omega) (by omega)
            refine ⟨?_, hR, zKt_rf⟩
            rw [zk_ofTin, if_neg (by omega)]
            rcases (show w = 0 ∨ w = 1 by omega) with rfl | rfl
            · rw [if_pos rfl, Int.add_zero, h10.1]
            · rw [if_neg (by omega), if_pos rfl, h10.2]
        · try simp only [zite_eq0, ne_eq, Classical.not_not] at zcq30
          refine z_bipush hG dX11_ofTin_33 rfl ?_
          refine z_iret hG hE dX11_ofTin_35 trivial ?_
          unfold zk_ofTin
          (repeat (first | rw [if_pos (by omega)] | rw [if_neg (by omega)]))
          exact ⟨rfl, hR, zKt_rf⟩
      · refine z_iconst hG dX11_ofTin_22 rfl ?_
        refine z_iret hG hE dX11_ofTin_23 trivial ?_
        unfold zk_ofTin
        (repeat (first | rw [if_pos (by omega)] | rw [if_neg (by omega)]))
        exact ⟨rfl, hR, zKt_rf⟩
set_option maxRecDepth 20000 in
theorem ct_X11_ifBuyable (l : Launch) (g : zG) {a m : zM} {B : Int} {i b : Int} (hI : zInv B a) (hB : B ≤ 11900000) (hR : zRM a m) : zMet l g Y_X11_ifBuyable [zr 11 0 0, zi i, zi b] m (fun v m' => v = some (zi (zk_ifBuyable i b a)) ∧ zRM a m' ∧ zKt m' m) := by
  refine zMet_introF (by decide +kernel) (Nat.le_of_ble_eq_true rfl) (ls0 := [some (zr 11 0 0), some (zi i), some (zi b), none]) rfl fun X hG hE => ?_
  have hG : zGood X l g RX11 cX11_ifBuyable 7 4 := hG
  have hE : zEnd X (some .int) _ := hE
  have hI0 := zInv0 hI
  obtain ⟨hday, hhan, hing, hrcp, hrec, hboo, hrow, hrow2, hstp⟩ := id hI0
  obtain ⟨⟨e0, e1, e2, e3, e4, e5, eI, eZ, eR⟩, eN, eP, eS, e6, eT⟩ := id hR
  have hb : ∀ (t : Nat) (i k : Int), t ≠ 1 → zrecd a t 0 i k = a t 0 i k := fun t i k ht => zrecd_0 hI.1.1.1 ht
  have hK := zRM_keep hI.1.1 hI.1.2 (fun s s0 s1 => (hI.2.2.1 s s0 s1).1.1) hR

  have hmp := zIS_mp hI0 (by omega)
  refine z_aload_n (i := 0) hG dX11_ifBuyable_0 rfl rfl ?_
  refine z_iload_n (i := 1) hG dX11_ifBuyable_1 rfl rfl ?_
  refine z_callV hG dX11_ifBuyable_2 LV_X11_90 (ct_X11_isIngredient l g) (by decide) rfl rfl rfl (Nat.le_of_ble_eq_true rfl) ?_
  intro v9 m9 h9
  rw [h9.1, h9.2, e1]
  clear h9 m9 v9
  refine z_if_ne hG dX11_ifBuyable_5 (tgt := 10) rfl (fun zcq5 => ?_) (fun zcq5 => ?_)
  · try simp only [zite_eq0, ne_eq, Classical.not_not] at zcq5
    refine z_iload_n (i := 2) hG dX11_ifBuyable_10 rfl rfl ?_
    refine z_iconst hG dX11_ifBuyable_11 rfl ?_
    refine z_iconst hG dX11_ifBuyable_12 rfl ?_
    refine z_callS hG dX11_ifBuyable_13 LS_X11_76 (ct_X11_in l g) (by decide) rfl rfl (Nat.le_of_ble_eq_true rfl) ?_
    intro v9 m9 h9
    rw [h9.1, h9.2]
    clear h9 m9 v9
    refine z_if_ne hG dX11_ifBuyable_16 (tgt := 22) rfl (fun zcq16 => ?_) (fun zcq16 => ?_)
    · try simp only [zite_eq0, ne_eq, Classical.not_not] at zcq16
      refine z_aload_n (i := 0) hG dX11_ifBuyable_22 rfl rfl ?_
      refine z_iload_n (i := 1) hG dX11_ifBuyable_23 rfl rfl ?_
      refine z_iconst hG dX11_ifBuyable_24 rfl ?_
      refine z_callV hG dX11_ifBuyable_25 LV_X11_87 (ct_X11_of l g ⟨by omega, by omega⟩ ⟨by omega, by omega⟩) (by decide) rfl rfl rfl (Nat.le_of_ble_eq_true rfl) ?_
      intro v9 m9 h9
      rw [h9.1, h9.2]
      clear h9 m9 v9
      rw [(eI i (by omega) (by omega) (by omega)).2.1]
      refine z_istore_n (i := 3) hG dX11_ifBuyable_28 rfl (by decide) (ls2 := [_, _, _, _]) rfl ?_
      refine z_aload_n (i := 0) hG dX11_ifBuyable_29 rfl rfl ?_
      refine z_iload_n (i := 1) hG dX11_ifBuyable_30 rfl rfl ?_
      refine z_iconst hG dX11_ifBuyable_31 rfl ?_
      refine z_iload_n (i := 2) hG dX11_ifBuyable_32 rfl rfl ?_
      refine z_callV hG dX11_ifBuyable_33 LV_X11_83 (ct_X11_lay l g ⟨by omega, by omega⟩ ⟨by omega, by omega⟩) (by decide) rfl rfl rfl (Nat.le_of_ble_eq_true rfl) ?_
      intro v9 m9 h9
      rw [h9.1, h9.2]
      clear h9 m9 v9
      have hri := eI i (by omega) (by omega) (by omega)
      have hRb : zRel (zset a 3 0 i 1 b) 0 (zset m 45 0 0 (6 + 46 * i + 1) b 45 0 0) := by
        refine zRel_i i (by omega) hR.1 (fun q h1 h2 => by simp only [zset]; rw [if_neg (by omega)]) (fun t j k hh => by simp only [zset]; rw [if_neg (by omega)]) (by simp only [zset]; rw [if_neg (by omega), if_neg (by omega)]; exact e1) (fun q h1 => by simp [zset]) (by simp only [zset]; rw [if_neg (by omega)]; omega) ?_
        obtain ⟨a0, a1, a2, a3, a4, a5, a6, a7, a8, a9, a10, a11, a12⟩ := hri
        refine ⟨?_, ?_, ?_, ?_, ?_, ?_, ?_, ?_, ?_, ?_, fun k k0 k1 k2 => ?_, fun d d0 d1 => ?_, ?_⟩
        · simp only [zset]; rw [if_neg (by omega), if_neg (by omega)]; exact a0
        · simp [zset]
        · simp only [zset]; rw [if_neg (by omega), if_neg (by omega)]; exact a2
        · simp only [zset]; rw [if_neg (by omega), if_neg (by omega)]; exact a3
        · simp only [zset]; rw [if_neg (by omega), if_neg (by omega), if_neg (by omega)]; exact a4
        · simp only [zset]; rw [if_neg (by omega), if_neg (by omega)]; exact a5
        · simp only [zset]; rw [if_neg (by omega), if_neg (by omega)]; exact a6
        · simp only [zset]; rw [if_neg (by omega), if_neg (by omega)]; exact a7
        · simp only [zset]; rw [if_neg (by omega), if_neg (by omega)]; exact a8
        · simp only [zset]; rw [if_neg (by omega), if_neg (by omega)]; exact a9
        · have k3 : k < a 3 0 i 2 := by simpa [zset] using k2
          simp only [zset]; rw [if_neg (by omega), if_neg (by omega), if_neg (by omega), if_neg (by omega)]; exact a10 k k0 k1 k3
        · have e20 : zset a 3 0 i 1 b 2 0 0 0 = a 2 0 0 0 := by simp [zset]
          rw [e20]
          simp only [zset]; rw [if_neg (by omega), if_neg (by omega)]; exact a11 d d0 d1
        · have e20 : zset a 3 0 i 1 b 2 0 0 0 = a 2 0 0 0 := by simp [zset]
          rw [e20]
          simp only [zset]; rw [if_neg (by omega)]; exact a12
      refine z_aload_n (i := 0) hG dX11_ifBuyable_36 rfl rfl ?_
      refine z_callV hG dX11_ifBuyable_37 LV_X11_150 (ct_X11_findNeeds l g (zmp_b hmp (i := i) (b := b) ⟨by omega, by omega⟩) hRb) (by decide) rfl rfl rfl (Nat.le_of_ble_eq_true rfl) ?_
      intro v9 m1 h9
      obtain ⟨h9a, hW, hbw, hO⟩ := h9
      rw [h9a]
      clear h9a v9
      refine z_aload_n (i := 0) hG dX11_ifBuyable_40 rfl rfl ?_
      refine z_iload_n (i := 1) hG dX11_ifBuyable_41 rfl rfl ?_
      refine z_iconst hG dX11_ifBuyable_42 rfl ?_
      refine z_iload_n (i := 3) hG dX11_ifBuyable_43 rfl rfl ?_
      refine z_callV hG dX11_ifBuyable_44 LV_X11_83 (ct_X11_lay l g ⟨by omega, by omega⟩ ⟨by omega, by omega⟩) (by decide) rfl rfl rfl (Nat.le_of_ble_eq_true rfl) ?_
      intro v9 m9 h9
      rw [h9.1, h9.2]
      clear h9 m9 v9
      have hW2 : zMod (zset m1 45 0 0 (6 + 46 * i + 1) (a 3 0 i 1)) (zPl0 (zset a 3 0 i 1 b)) := zMod_congr hW (fun t q h1 h2 => by simp only [zset]; rw [if_neg (by omega)])
      have hM2 : ∀ (t : Nat) (s j q : Int), (t < 50 ∨ 58 < t) → (t ≠ 11 ∨ q < 16 ∨ 18 < q) → zset m1 45 0 0 (6 + 46 * i + 1) (a 3 0 i 1) t s j q = m t s j q := fun t s j q h1 h2 => by
        simp only [zset]
        by_cases e : t = 45 ∧ s = 0 ∧ j = 0 ∧ q = 6 + 46 * i + 1
        · rw [if_pos e, e.1, e.2.1, e.2.2.1, e.2.2.2, hri.2.1]
        · rw [if_neg e, hO t s j q h1 h2]
          simp only [zset]
          rw [if_neg e]
      generalize zset m1 45 0 0 (6 + 46 * i + 1) (a 3 0 i 1) = m2 at *
      refine z_aload_n (i := 0) hG dX11_ifBuyable_47 rfl rfl ?_
      refine z_callV hG dX11_ifBuyable_48 LV_X11_157 (ct_X11_missingSet l g) (by decide) rfl rfl rfl (Nat.le_of_ble_eq_true rfl) ?_
      intro v9 m9 h9
      rw [h9.1, h9.2, zMod_mss hW2]
      clear h9 m9 v9
      refine z_if_ne hG dX11_ifBuyable_51 (tgt := 65) rfl (fun zcq51 => ?_) (fun zcq51 => ?_)
      · try simp only [zite_eq0, ne_eq, Classical.not_not] at zcq51
        refine z_bipush hG dX11_ifBuyable_65 rfl ?_
        refine z_iret hG hE dX11_ifBuyable_67 trivial ?_
        refine ⟨?_, zMo_RM hM2 hR, zMo_Kt hM2⟩
        rw [zk_ifBuyable, if_neg (by omega), if_neg (by omega)]
        first
        | (rw [if_pos (by assumption)]; done)
        | (rw [if_neg (by assumption)]; done)
      · try simp only [zite_eq0, ne_eq, Classical.not_not] at zcq51
        refine z_aload_n (i := 0) hG dX11_ifBuyable_54 rfl rfl ?_
        refine z_aload_n (i := 0) hG dX11_ifBuyable_55 rfl rfl ?_
        refine z_get_11_14 hG dX11_ifBuyable_56 FL_X11_47 ?_
        refine z_callV hG dX11_ifBuyable_59 LV_X11_167 (ct_sum7 l g hW2 hbw) (by decide) rfl rfl rfl (Nat.le_of_ble_eq_true rfl) ?_
        intro v9 m9 h9
        rw [h9.1, h9.2]
        clear h9 m9 v9
        refine z_goto hG dX11_ifBuyable_62 (tgt := 67) rfl ?_
        refine z_iret hG hE dX11_ifBuyable_67 trivial ?_
        refine ⟨?_, zMo_RM hM2 hR, zMo_Kt hM2⟩
        rw [zk_ifBuyable, if_neg (by omega), if_neg (by omega)]
        first
        | (rw [if_pos (by assumption)]; done)
        | (rw [if_neg (by assumption)]; done)
    · try simp only [zite_eq0, ne_eq, Classical.not_not] at zcq16
      refine z_bipush hG dX11_ifBuyable_19 rfl ?_
      refine z_iret hG hE dX11_ifBuyable_21 trivial ?_
      unfold zk_ifBuyable
      (repeat (first | rw [if_pos (by omega)] | rw [if_neg (by omega)]))
      exact ⟨rfl, hR, zKt_rf⟩
  · try simp only [zite_eq0, ne_eq, Classical.not_not] at zcq5
    refine z_iconst hG dX11_ifBuyable_8 rfl ?_
    refine z_iret hG hE dX11_ifBuyable_9 trivial ?_
    unfold zk_ifBuyable
    (repeat (first | rw [if_pos (by omega)] | rw [if_neg (by omega)]))
    exact ⟨rfl, hR, zKt_rf⟩
set_option maxRecDepth 20000 in
theorem ct_X11_bestPortions (l : Launch) (g : zG) {a m : zM} {B : Int} {r y z : Int} (hI : zInv B a) (hB : B ≤ 11900000) (hR : zRM a m) : zMet l g Y_X11_bestPortions [zr 11 0 0, zi r, zi y, zi z] m (fun v m' => v = some (zi (zk_bestPortions r y z a)) ∧ zRM a m' ∧ zKt m' m) := by
  refine zMet_introF (by decide +kernel) (Nat.le_of_ble_eq_true rfl) (ls0 := [some (zr 11 0 0), some (zi r), some (zi y), some (zi z), none, none, none, none, none]) rfl fun X hG hE => ?_
  have hG : zGood X l g RX11 cX11_bestPortions 8 9 := hG
  have hE : zEnd X (some .int) _ := hE
  have hI0 := zInv0 hI
  obtain ⟨hday, hhan, hing, hrcp, hrec, hboo, hrow, hrow2, hstp⟩ := id hI0
  obtain ⟨⟨e0, e1, e2, e3, e4, e5, eI, eZ, eR⟩, eN, eP, eS, e6, eT⟩ := id hR
  have hb : ∀ (t : Nat) (i k : Int), t ≠ 1 → zrecd a t 0 i k = a t 0 i k := fun t i k ht => zrecd_0 hI.1.1.1 ht
  have hK := zRM_keep hI.1.1 hI.1.2 (fun s s0 s1 => (hI.2.2.1 s s0 s1).1.1) hR

  have hmp := zIS_mp hI0 (by omega)

  have loop : (0 ≤ r ∧ r < a 2 0 0 5) → ∀ (N : Nat) (p bst lst fw : Int) (M : zM), p + N = z + 1 → 1 ≤ p → z ≤ 20 → ((bst = -6 ∧ fw = 1000000000) ∨ (bst ≠ -6 ∧ fw = lst)) → zk_bestPortions r y z a = zbp a r N p bst lst → (∀ (t : Nat) (s j q : Int), (t < 50 ∨ 58 < t) → (t ≠ 11 ∨ q < 16 ∨ 18 < q) → (t ≠ 45 ∨ s ≠ 0 ∨ j ≠ 0 ∨ q ≠ 374 + 43 * r + 2) → M t s j q = m t s j q) → zZ X 65 [some (zr 11 0 0), some (zi r), some (zi y), some (zi z), some (zi (374 + 43 * r + 2)), some (zi (a 4 0 r 1)), some (zi bst), some (zi fw), some (zi p)] [] M := by
    intro hr N
    induction N with
    | zero =>
      intro p bst lst fw M hp hp1 hz hbf hk hM
      refine z_iload hG dX11_bestPortions_65 rfl ?_
      refine z_iload_n (i := 3) hG dX11_bestPortions_67 rfl rfl ?_
      refine z_icmp_gt hG dX11_bestPortions_68 (tgt := 120) rfl (fun zcq68 => ?_) (fun zcq68 => ?_)
      · refine z_aload_n (i := 0) hG dX11_bestPortions_120 rfl rfl ?_
        refine z_get_11_0 hG dX11_bestPortions_121 FL_X11_7 ?_
        refine z_iload hG dX11_bestPortions_124 rfl ?_
        refine z_iload hG dX11_bestPortions_126 rfl ?_
        refine z_iast hG dX11_bestPortions_128 rfl rfl (by omega) (by omega) ?_
        refine z_iload hG dX11_bestPortions_129 rfl ?_
        refine z_iret hG hE dX11_bestPortions_131 trivial ?_
        have hrr := eR r hr.1 (by omega) hr.2
        have hM2 : ∀ (t : Nat) (s j q : Int), (t < 50 ∨ 58 < t) → (t ≠ 11 ∨ q < 16 ∨ 18 < q) → zset M 45 0 0 (374 + 43 * r + 2) (a 4 0 r 1) t s j q = m t s j q := fun t s j q h1 h2 => by
          simp only [zset]
          by_cases e : t = 45 ∧ s = 0 ∧ j = 0 ∧ q = 374 + 43 * r + 2
          · rw [if_pos e, e.1, e.2.1, e.2.2.1, e.2.2.2, hrr.2.2.1]
          · rw [if_neg e]
            exact hM t s j q h1 h2 (by omega)
        exact ⟨by rw [hk]; rfl, zMo_RM hM2 hR, zMo_Kt hM2⟩
      · exact absurd zcq68 (by omega)
    | succ N ih =>
      intro p bst lst fw M hp hp1 hz hbf hk hM
      have hrr := eR r hr.1 (by omega) hr.2
      have hmpp := zmp_p (p := p) hmp hr.2 ⟨by omega, by omega⟩
      have hMp : ∀ q : Int, zset M 45 0 0 (374 + 43 * r + 2) p 45 0 0 q = if q = 374 + 43 * r + 2 then p else m 45 0 0 q := fun q => by
        simp only [zset]
        by_cases e : q = 374 + 43 * r + 2
        · rw [if_pos (by simp [e]), if_pos e]
        · rw [if_neg (by simp [e]), if_neg e]
          exact hM 45 0 0 q (by omega) (by omega) (by omega)
      have hRp : zRel (zset a 4 0 r 1 p) 0 (zset M 45 0 0 (374 + 43 * r + 2) p 45 0 0) := by
        refine zRel_r r hr.1 hR.1 (fun q h1 h2 => by rw [hMp, if_neg (by omega)]) (fun t j k hh => by simp only [zset]; rw [if_neg (by omega)]) (by rw [hMp, if_neg (by omega)]; simp only [zset]; rw [if_neg (by omega)]; exact e2) (fun q h1 h2 => by simpa [zset] using h2) (fun h1 h2 => ?_)
        obtain ⟨a0, a1, a2, a3, a4⟩ := hrr
        refine ⟨?_, ?_, ?_, fun k k0 k1 => ?_, fun k w k0 k1 k2 w0 w1 => ?_⟩
        · rw [hMp, if_neg (by omega)]; simp only [zset]; rw [if_neg (by omega)]; exact a0
        · rw [hMp, if_neg (by omega)]; simp only [zset]; rw [if_neg (by omega)]; exact a1
        · rw [hMp, if_pos rfl]; simp [zset]
        · rw [hMp, if_neg (by omega)]; simp only [zset]; rw [if_neg (by omega)]; exact a3 k k0 k1
        · have k3 : k < a 4 0 r 2 := by simpa [zset] using k2
          rw [hMp, if_neg (by omega)]; simp only [zset]; rw [if_neg (by omega)]; exact a4 k w k0 k1 k3 w0 w1
      have hhp : zhp (zset a 4 0 r 1 p) := zhp_iff.mp ⟨r, hr.1, by omega, by simp [zset]; omega⟩
      have hMo : ∀ M3 : zM, zMo M3 (zset M 45 0 0 (374 + 43 * r + 2) p) → ∀ (t : Nat) (s j q : Int), (t < 50 ∨ 58 < t) → (t ≠ 11 ∨ q < 16 ∨ 18 < q) → (t ≠ 45 ∨ s ≠ 0 ∨ j ≠ 0 ∨ q ≠ 374 + 43 * r + 2) → M3 t s j q = m t s j q := fun M3 h3 t s j q h1 h2 h4 => by
        rw [h3 t s j q h1 h2]
        simp only [zset]
        rw [if_neg (by omega)]
        exact hM t s j q h1 h2 h4
      refine z_iload hG dX11_bestPortions_65 rfl ?_
      refine z_iload_n (i := 3) hG dX11_bestPortions_67 rfl rfl ?_
      refine z_icmp_gt hG dX11_bestPortions_68 (tgt := 120) rfl (fun zcq68 => ?_) (fun zcq68 => ?_)
      · exact absurd zcq68 (by omega)
      · refine z_aload_n (i := 0) hG dX11_bestPortions_71 rfl rfl ?_
        refine z_get_11_0 hG dX11_bestPortions_72 FL_X11_7 ?_
        refine z_iload hG dX11_bestPortions_75 rfl ?_
        refine z_iload hG dX11_bestPortions_77 rfl ?_
        refine z_iast hG dX11_bestPortions_79 rfl rfl (by omega) (by omega) ?_
        refine z_aload_n (i := 0) hG dX11_bestPortions_80 rfl rfl ?_
        refine z_callV hG dX11_bestPortions_81 LV_X11_161 (ct_X11_canCook l g hmpp hRp) (by decide) rfl rfl rfl (Nat.le_of_ble_eq_true rfl) ?_
        intro v9 m1 h9
        obtain ⟨h9a, hW, hbw, hO⟩ := h9
        rw [h9a]
        clear h9a v9
        have hs4 := zsum_le (f := zPl0 (zset a 4 0 r 1 p) 4) (B := 2000) 8 (fun j j0 j1 => (hbw j j0 j1).2.2.2.2.1)
        have hk2 : zbp a r (N + 1) p bst lst = if zmss (zPl0 (zset a 4 0 r 1 p) 6) 8 = 0 ∧ (bst = -6 ∨ zsum 8 (zPl0 (zset a 4 0 r 1 p) 4) ≤ lst) then zbp a r N (p + 1) p (zsum 8 (zPl0 (zset a 4 0 r 1 p) 4)) else zbp a r N (p + 1) bst lst := rfl
        refine z_if_eq hG dX11_bestPortions_84 (tgt := 114) rfl (fun zcq84 => ?_) (fun zcq84 => ?_)
        · try simp only [zite_eq0, ne_eq, Classical.not_not] at zcq84
          refine z_iinc hG dX11_bestPortions_114 (by decide) rfl (by omega) (by omega) (ls2 := [_, _, _, _, _, _, _, _, _]) rfl ?_
          refine z_goto hG dX11_bestPortions_117 (tgt := 65) rfl ?_
          first
          | (refine ih (p + 1) p (zsum 8 (zPl0 (zset a 4 0 r 1 p) 4)) (zsum 8 (zPl0 (zset a 4 0 r 1 p) 4)) m1 (by omega) (by omega) hz (Or.inr ⟨by omega, rfl⟩) ?_ (hMo m1 hO)
             have hm0 : zmss (zPl0 (zset a 4 0 r 1 p) 6) 8 = 0 ∧ zhp (zset a 4 0 r 1 p) := by assumption
             rw [hk, hk2, if_pos ⟨hm0.1, by omega⟩]
             done)
          | (refine ih (p + 1) bst lst fw m1 (by omega) (by omega) hz hbf ?_ (hMo m1 hO)
             rw [hk, hk2, if_neg (fun q => by omega)]
             done)
          | (refine ih (p + 1) bst lst fw m1 (by omega) (by omega) hz hbf ?_ (hMo m1 hO)
             rw [hk, hk2, if_neg (fun q => absurd (And.intro q.1 hhp) (by assumption))]
             done)
        · try simp only [zite_eq0, ne_eq, Classical.not_not] at zcq84
          refine z_aload_n (i := 0) hG dX11_bestPortions_87 rfl rfl ?_
          refine z_aload_n (i := 0) hG dX11_bestPortions_88 rfl rfl ?_
          refine z_get_11_11 hG dX11_bestPortions_89 FL_X11_38 ?_
          refine z_callV hG dX11_bestPortions_92 LV_X11_167 (ct_sum4 l g hW hbw) (by decide) rfl rfl rfl (Nat.le_of_ble_eq_true rfl) ?_
          intro v9 m9 h9
          rw [h9.1, h9.2]
          clear h9 m9 v9
          refine z_iload hG dX11_bestPortions_95 rfl ?_
          refine z_icmp_gt hG dX11_bestPortions_97 (tgt := 114) rfl (fun zcq97 => ?_) (fun zcq97 => ?_)
          · refine z_iinc hG dX11_bestPortions_114 (by decide) rfl (by omega) (by omega) (ls2 := [_, _, _, _, _, _, _, _, _]) rfl ?_
            refine z_goto hG dX11_bestPortions_117 (tgt := 65) rfl ?_
            first
            | (refine ih (p + 1) p (zsum 8 (zPl0 (zset a 4 0 r 1 p) 4)) (zsum 8 (zPl0 (zset a 4 0 r 1 p) 4)) m1 (by omega) (by omega) hz (Or.inr ⟨by omega, rfl⟩) ?_ (hMo m1 hO)
               have hm0 : zmss (zPl0 (zset a 4 0 r 1 p) 6) 8 = 0 ∧ zhp (zset a 4 0 r 1 p) := by assumption
               rw [hk, hk2, if_pos ⟨hm0.1, by omega⟩]
               done)
            | (refine ih (p + 1) bst lst fw m1 (by omega) (by omega) hz hbf ?_ (hMo m1 hO)
               rw [hk, hk2, if_neg (fun q => by omega)]
               done)
            | (refine ih (p + 1) bst lst fw m1 (by omega) (by omega) hz hbf ?_ (hMo m1 hO)
               rw [hk, hk2, if_neg (fun q => absurd (And.intro q.1 hhp) (by assumption))]
               done)
          · refine z_iload hG dX11_bestPortions_100 rfl ?_
            refine z_istore hG dX11_bestPortions_102 (by decide) (ls2 := [_, _, _, _, _, _, _, _, _]) rfl ?_
            refine z_aload_n (i := 0) hG dX11_bestPortions_104 rfl rfl ?_
            refine z_aload_n (i := 0) hG dX11_bestPortions_105 rfl rfl ?_
            refine z_get_11_11 hG dX11_bestPortions_106 FL_X11_38 ?_
            refine z_callV hG dX11_bestPortions_109 LV_X11_167 (ct_sum4 l g hW hbw) (by decide) rfl rfl rfl (Nat.le_of_ble_eq_true rfl) ?_
            intro v9 m9 h9
            rw [h9.1, h9.2]
            clear h9 m9 v9
            refine z_istore hG dX11_bestPortions_112 (by decide) (ls2 := [_, _, _, _, _, _, _, _, _]) rfl ?_
            refine z_iinc hG dX11_bestPortions_114 (by decide) rfl (by omega) (by omega) (ls2 := [_, _, _, _, _, _, _, _, _]) rfl ?_
            refine z_goto hG dX11_bestPortions_117 (tgt := 65) rfl ?_
            first
            | (refine ih (p + 1) p (zsum 8 (zPl0 (zset a 4 0 r 1 p) 4)) (zsum 8 (zPl0 (zset a 4 0 r 1 p) 4)) m1 (by omega) (by omega) hz (Or.inr ⟨by omega, rfl⟩) ?_ (hMo m1 hO)
               have hm0 : zmss (zPl0 (zset a 4 0 r 1 p) 6) 8 = 0 ∧ zhp (zset a 4 0 r 1 p) := by assumption
               rw [hk, hk2, if_pos ⟨hm0.1, by omega⟩]
               done)
            | (refine ih (p + 1) bst lst fw m1 (by omega) (by omega) hz hbf ?_ (hMo m1 hO)
               rw [hk, hk2, if_neg (fun q => by omega)]
               done)
            | (refine ih (p + 1) bst lst fw m1 (by omega) (by omega) hz hbf ?_ (hMo m1 hO)
               rw [hk, hk2, if_neg (fun q => absurd (And.intro q.1 hhp) (by assumption))]
               done)
  refine z_aload_n (i := 0) hG dX11_bestPortions_0 rfl rfl ?_
  refine z_iload_n (i := 1) hG dX11_bestPortions_1 rfl rfl ?_
  refine z_callV hG dX11_bestPortions_2 LV_X11_246 (ct_X11_isRecipe l g) (by decide) rfl rfl rfl (Nat.le_of_ble_eq_true rfl) ?_
  intro v9 m9 h9
  rw [h9.1, h9.2, e2]
  clear h9 m9 v9
  refine z_if_ne hG dX11_bestPortions_5 (tgt := 10) rfl (fun zcq5 => ?_) (fun zcq5 => ?_)
  · try simp only [zite_eq0, ne_eq, Classical.not_not] at zcq5
    refine z_iload_n (i := 2) hG dX11_bestPortions_10 rfl rfl ?_
    refine z_iconst hG dX11_bestPortions_11 rfl ?_
    refine z_bipush hG dX11_bestPortions_12 rfl ?_
    refine z_callS hG dX11_bestPortions_14 LS_X11_76 (ct_X11_in l g) (by decide) rfl rfl (Nat.le_of_ble_eq_true rfl) ?_
    intro v9 m9 h9
    rw [h9.1, h9.2]
    clear h9 m9 v9
    refine z_if_eq hG dX11_bestPortions_17 (tgt := 30) rfl (fun zcq17 => ?_) (fun zcq17 => ?_)
    · try simp only [zite_eq0, ne_eq, Classical.not_not] at zcq17
      refine z_bipush hG dX11_bestPortions_30 rfl ?_
      refine z_iret hG hE dX11_bestPortions_32 trivial ?_
      unfold zk_bestPortions
      (repeat (first | rw [if_pos (by omega)] | rw [if_neg (by omega)]))
      exact ⟨rfl, hR, zKt_rf⟩
    · try simp only [zite_eq0, ne_eq, Classical.not_not] at zcq17
      refine z_iload_n (i := 3) hG dX11_bestPortions_20 rfl rfl ?_
      refine z_iload_n (i := 2) hG dX11_bestPortions_21 rfl rfl ?_
      refine z_bipush hG dX11_bestPortions_22 rfl ?_
      refine z_callS hG dX11_bestPortions_24 LS_X11_76 (ct_X11_in l g) (by decide) rfl rfl (Nat.le_of_ble_eq_true rfl) ?_
      intro v9 m9 h9
      rw [h9.1, h9.2]
      clear h9 m9 v9
      refine z_if_ne hG dX11_bestPortions_27 (tgt := 33) rfl (fun zcq27 => ?_) (fun zcq27 => ?_)
      · try simp only [zite_eq0, ne_eq, Classical.not_not] at zcq27
        refine z_sipush hG dX11_bestPortions_33 rfl ?_
        refine z_bipush hG dX11_bestPortions_36 rfl ?_
        refine z_iload_n (i := 1) hG dX11_bestPortions_38 rfl rfl ?_
        refine z_imul hG dX11_bestPortions_39 (by omega) (by omega) ?_
        refine z_iadd hG dX11_bestPortions_40 (by omega) (by omega) ?_
        refine z_iconst hG dX11_bestPortions_41 rfl ?_
        refine z_iadd hG dX11_bestPortions_42 (by omega) (by omega) ?_
        refine z_istore hG dX11_bestPortions_43 (by decide) (ls2 := [_, _, _, _, _, _, _, _, _]) rfl ?_
        refine z_aload_n (i := 0) hG dX11_bestPortions_45 rfl rfl ?_
        refine z_get_11_0 hG dX11_bestPortions_46 FL_X11_7 ?_
        refine z_iload hG dX11_bestPortions_49 rfl ?_
        refine z_iald hG dX11_bestPortions_51 rfl rfl (by omega) (by omega) ?_
        refine z_istore hG dX11_bestPortions_52 (by decide) (ls2 := [_, _, _, _, _, _, _, _, _]) rfl ?_
        rw [(eR r (by omega) (by omega) (by omega)).2.2.1]
        refine z_bipush hG dX11_bestPortions_54 rfl ?_
        refine z_istore hG dX11_bestPortions_56 (by decide) (ls2 := [_, _, _, _, _, _, _, _, _]) rfl ?_
        refine z_ldc hG dX11_bestPortions_58 KC_X11_127 rfl ?_
        refine z_istore hG dX11_bestPortions_60 (by decide) (ls2 := [_, _, _, _, _, _, _, _, _]) rfl ?_
        refine z_iload_n (i := 2) hG dX11_bestPortions_62 rfl rfl ?_
        refine z_istore hG dX11_bestPortions_63 (by decide) (ls2 := [_, _, _, _, _, _, _, _, _]) rfl ?_
        refine loop (by omega) (z + 1 - y).toNat y (-6) 0 1000000000 m (by omega) (by omega) (by omega) (Or.inl ⟨rfl, rfl⟩) ?_ (fun _ _ _ _ _ _ _ => rfl)
        rw [zk_bestPortions, if_neg (by omega), if_neg (by omega)]
      · try simp only [zite_eq0, ne_eq, Classical.not_not] at zcq27
        refine z_bipush hG dX11_bestPortions_30 rfl ?_
        refine z_iret hG hE dX11_bestPortions_32 trivial ?_
        unfold zk_bestPortions
        (repeat (first | rw [if_pos (by omega)] | rw [if_neg (by omega)]))
        exact ⟨rfl, hR, zKt_rf⟩
  · try simp only [zite_eq0, ne_eq, Classical.not_not] at zcq5
    refine z_iconst hG dX11_bestPortions_8 rfl ?_
    refine z_iret hG hE dX11_bestPortions_9 trivial ?_
    unfold zk_bestPortions
    (repeat (first | rw [if_pos (by omega)] | rw [if_neg (by omega)]))
    exact ⟨rfl, hR, zKt_rf⟩
set_option maxRecDepth 20000 in
theorem ct_X11_ofPlan (l : Launch) (g : zG) {a m : zM} {B : Int} {w : Int} (hI : zInv B a) (hB : B ≤ 11900000) (hR : zRM a m) (hw : 4 ≤ w ∧ w ≤ 7) : zMet l g Y_X11_ofPlan [zr 11 0 0, zi w] m (fun v m' => v = some (zi (zshq (zPl0 a) a w)) ∧ zRM a m' ∧ zKt m' m) := by
  refine zMet_introF (by decide +kernel) (Nat.le_of_ble_eq_true rfl) (ls0 := [some (zr 11 0 0), some (zi w), none]) rfl fun X hG hE => ?_
  have hG : zGood X l g RX11 cX11_ofPlan 8 3 := hG
  have hE : zEnd X (some .int) _ := hE
  have hI0 := zInv0 hI
  obtain ⟨hday, hhan, hing, hrcp, hrec, hboo, hrow, hrow2, hstp⟩ := id hI0
  obtain ⟨⟨e0, e1, e2, e3, e4, e5, eI, eZ, eR⟩, eN, eP, eS, e6, eT⟩ := id hR
  have hb : ∀ (t : Nat) (i k : Int), t ≠ 1 → zrecd a t 0 i k = a t 0 i k := fun t i k ht => zrecd_0 hI.1.1.1 ht
  have hK := zRM_keep hI.1.1 hI.1.2 (fun s s0 s1 => (hI.2.2.1 s s0 s1).1.1) hR

  have hmp := zIS_mp hI0 (by omega)
  refine z_aload_n (i := 0) hG dX11_ofPlan_0 rfl rfl ?_
  refine z_callV hG dX11_ofPlan_1 LV_X11_161 (ct_X11_canCook l g hmp hR.1) (by decide) rfl rfl rfl (Nat.le_of_ble_eq_true rfl) ?_
  intro v9 m1 h9
  obtain ⟨h9a, hW, hbw, hO⟩ := h9
  rw [h9a]
  clear h9a v9
  refine z_istore_n (i := 2) hG dX11_ofPlan_4 rfl (by decide) (ls2 := [_, _, _]) rfl ?_
  refine z_iload_n (i := 1) hG dX11_ofPlan_5 rfl rfl ?_
  rcases (show (w < 4 ∨ 6 < w) ∨ w = 4 ∨ w = 5 ∨ w = 6 from by omega) with zcq6 | rfl | rfl | rfl
  · refine z_tabOut hG dX11_ofPlan_6 (by omega) (tgt := 55) rfl ?_
    refine z_iload_n (i := 2) hG dX11_ofPlan_55 rfl rfl ?_
    refine z_if_eq hG dX11_ofPlan_56 (tgt := 63) rfl (fun zcq56 => ?_) (fun zcq56 => ?_)
    · try simp only [zite_eq0, ne_eq, Classical.not_not] at zcq56
      refine z_iconst hG dX11_ofPlan_63 rfl ?_
      refine z_iret hG hE dX11_ofPlan_64 trivial ?_
      refine ⟨?_, zMo_RM hO hR, zMo_Kt hO⟩
      first
      | (simp only [zshq]; (repeat (first | rw [if_pos (by first | omega | trivial)] | rw [if_neg (by omega)])); done)
      | (simp only [zshq]
         rw [if_neg (by omega), if_neg (by omega), if_neg (by omega)]
         first
         | (rw [if_pos (by assumption)]; done)
         | (rw [if_neg (by assumption)]; done))
    · try simp only [zite_eq0, ne_eq, Classical.not_not] at zcq56
      refine z_iconst hG dX11_ofPlan_59 rfl ?_
      refine z_goto hG dX11_ofPlan_60 (tgt := 64) rfl ?_
      refine z_iret hG hE dX11_ofPlan_64 trivial ?_
      refine ⟨?_, zMo_RM hO hR, zMo_Kt hO⟩
      first
      | (simp only [zshq]; (repeat (first | rw [if_pos (by first | omega | trivial)] | rw [if_neg (by omega)])); done)
      | (simp only [zshq]
         rw [if_neg (by omega), if_neg (by omega), if_neg (by omega)]
         first
         | (rw [if_pos (by assumption)]; done)
         | (rw [if_neg (by assumption)]; done))
  · refine z_tabIn hG dX11_ofPlan_6 (by decide) (by decide) (off := 26) rfl (tgt := 32) rfl ?_
    refine z_aload_n (i := 0) hG dX11_ofPlan_32 rfl rfl ?_
    refine z_aload_n (i := 0) hG dX11_ofPlan_33 rfl rfl ?_
    refine z_get_11_14 hG dX11_ofPlan_34 FL_X11_47 ?_
    refine z_callV hG dX11_ofPlan_37 LV_X11_167 (ct_sum7 l g hW hbw) (by decide) rfl rfl rfl (Nat.le_of_ble_eq_true rfl) ?_
    intro v9 m9 h9
    rw [h9.1, h9.2]
    clear h9 m9 v9
    refine z_iret hG hE dX11_ofPlan_40 trivial ?_
    refine ⟨?_, zMo_RM hO hR, zMo_Kt hO⟩
    first
    | (simp only [zshq]; (repeat (first | rw [if_pos (by first | omega | trivial)] | rw [if_neg (by omega)])); done)
    | (simp only [zshq]
       rw [if_neg (by omega), if_neg (by omega), if_neg (by omega)]
       first
       | (rw [if_pos (by assumption)]; done)
       | (rw [if_neg (by assumption)]; done))
  · refine z_tabIn hG dX11_ofPlan_6 (by decide) (by decide) (off := 35) rfl (tgt := 41) rfl ?_
    refine z_aload_n (i := 0) hG dX11_ofPlan_41 rfl rfl ?_
    refine z_aload_n (i := 0) hG dX11_ofPlan_42 rfl rfl ?_
    refine z_get_11_11 hG dX11_ofPlan_43 FL_X11_38 ?_
    refine z_callV hG dX11_ofPlan_46 LV_X11_167 (ct_sum4 l g hW hbw) (by decide) rfl rfl rfl (Nat.le_of_ble_eq_true rfl) ?_
    intro v9 m9 h9
    rw [h9.1, h9.2]
    clear h9 m9 v9
    refine z_iret hG hE dX11_ofPlan_49 trivial ?_
    refine ⟨?_, zMo_RM hO hR, zMo_Kt hO⟩
    first
    | (simp only [zshq]; (repeat (first | rw [if_pos (by first | omega | trivial)] | rw [if_neg (by omega)])); done)
    | (simp only [zshq]
       rw [if_neg (by omega), if_neg (by omega), if_neg (by omega)]
       first
       | (rw [if_pos (by assumption)]; done)
       | (rw [if_neg (by assumption)]; done))
  · refine z_tabIn hG dX11_ofPlan_6 (by decide) (by decide) (off := 44) rfl (tgt := 50) rfl ?_
    refine z_aload_n (i := 0) hG dX11_ofPlan_50 rfl rfl ?_
    refine z_callV hG dX11_ofPlan_51 LV_X11_157 (ct_X11_missingSet l g) (by decide) rfl rfl rfl (Nat.le_of_ble_eq_true rfl) ?_
    intro v9 m9 h9
    rw [h9.1, h9.2, zMod_mss hW]
    clear h9 m9 v9
    refine z_iret hG hE dX11_ofPlan_54 trivial ?_
    refine ⟨?_, zMo_RM hO hR, zMo_Kt hO⟩
    first
    | (simp only [zshq]; (repeat (first | rw [if_pos (by first | omega | trivial)] | rw [if_neg (by omega)])); done)
    | (simp only [zshq]
       rw [if_neg (by omega), if_neg (by omega), if_neg (by omega)]
       first
       | (rw [if_pos (by assumption)]; done)
       | (rw [if_neg (by assumption)]; done))
