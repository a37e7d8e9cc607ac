theorem zEc_01 {a : zM} {s : Int} : zEc a 0 s = 0 ∨ zEc a 0 s = 1 := by
  simp only [zEc]
  split
  · exact Or.inr rfl
  · exact Or.inl rfl
theorem zEc_on {a : zM} {s : Int} (h : zEc a 0 s = 1) : 0 < a 4 0 (s / 8) 1 ∧ s % 8 < a 4 0 (s / 8) 2 := by
  simp only [zEc] at h
  split at h
  · assumption
  · omega
/-- what is on in the menu, in the model's row -/
theorem zon_r {B : Int} {a : zM} (hI : zIS B a 0) {s : Int} (hs : 0 ≤ s ∧ s < 32) (h : zEc a 0 s = 1) : s / 8 < a 2 0 0 5 := by
  have h1 := (zEc_on h).1
  refine Classical.byContradiction fun q => ?_
  have := (hI.2.2.2.2.2.2.2.1 (s / 8) (by omega) (by omega)).2.1 (by omega)
  omega
set_option maxRecDepth 20000 in
theorem ct_X11_isOn (l : Launch) (g : zG) {a m : zM} {B s : Int} (hI : zIS B a 0) (hR : zRel a 0 (m 45 0 0)) (hs : 0 ≤ s ∧ s < 32) : zMet l g Y_X11_isOn [zr 11 0 0, zi s] m (fun v m' => v = some (zi (zEc a 0 s)) ∧ m' = m) := by
  refine zMet_introF (by decide +kernel) (Nat.le_of_ble_eq_true rfl) (ls0 := [some (zr 11 0 0), some (zi s), none]) rfl fun X hG hE => ?_
  have hG : zGood X l g RX11 cX11_isOn 1 3 := hG
  have hE : zEnd X (some .boolean) _ := hE
  obtain ⟨hday, hhan, hing, hrcp, hrec, hboo, hrow, hrow2, hstp⟩ := id hI
  have e2 := hR.2.2.1
  have eR := hR.2.2.2.2.2.2.2.2
  refine z_iload_n (i := 1) hG dX11_isOn_0 rfl rfl ?_
  refine z_bipush hG dX11_isOn_1 rfl ?_
  refine z_idiv hG dX11_isOn_3 (by omega) (by omega) ?_
  refine z_istore_n (i := 2) hG dX11_isOn_4 rfl (by decide) (ls2 := [_, _, _]) rfl ?_
  refine z_iload_n (i := 2) hG dX11_isOn_5 rfl rfl ?_
  refine z_aload_n (i := 0) hG dX11_isOn_6 rfl rfl ?_
  refine z_get_11_0 hG dX11_isOn_7 FL_X11_7 ?_
  refine z_iconst hG dX11_isOn_10 rfl ?_
  refine z_iald hG dX11_isOn_11 rfl rfl (by omega) (by omega) ?_
  rw [e2]
  refine z_icmp_ge hG dX11_isOn_12 (tgt := 41) rfl (fun zcq12 => ?_) (fun zcq12 => ?_)
  · refine z_iconst hG dX11_isOn_41 rfl ?_
    refine z_iret hG hE dX11_isOn_42 (by first | exact Or.inl rfl | exact Or.inr rfl | (show _ ∨ _; omega)) ?_
    refine ⟨?_, rfl⟩
    simp only [zEc]
    first
    | (rw [if_pos (by omega)]; done)
    | (rw [if_neg (by omega)]; done)
    | (have := (hrow2 (s / 8) (by omega) (by omega)).2.1 (by omega)
       rw [if_neg (by omega)])
  · refine z_aload_n (i := 0) hG dX11_isOn_15 rfl rfl ?_
    refine z_iload_n (i := 2) hG dX11_isOn_16 rfl rfl ?_
    refine z_iconst hG dX11_isOn_17 rfl ?_
    refine z_callV hG dX11_isOn_18 LV_X11_68 (ct_X11_ofARecipe l g ⟨by omega, by omega⟩ ⟨by omega, by omega⟩) (by decide) rfl rfl rfl (Nat.le_of_ble_eq_true rfl) ?_
    intro v9 m9 h9
    rw [h9.1, h9.2, (eR (s / 8) (by omega) (by omega) (by omega)).2.2.1]
    clear h9 m9 v9
    refine z_if_le hG dX11_isOn_21 (tgt := 41) rfl (fun zcq21 => ?_) (fun zcq21 => ?_)
    · refine z_iconst hG dX11_isOn_41 rfl ?_
      refine z_iret hG hE dX11_isOn_42 (by first | exact Or.inl rfl | exact Or.inr rfl | (show _ ∨ _; omega)) ?_
      refine ⟨?_, rfl⟩
      simp only [zEc]
      first
      | (rw [if_pos (by omega)]; done)
      | (rw [if_neg (by omega)]; done)
      | (have := (hrow2 (s / 8) (by omega) (by omega)).2.1 (by omega)
         rw [if_neg (by omega)])
    · refine z_iload_n (i := 1) hG dX11_isOn_24 rfl rfl ?_
      refine z_bipush hG dX11_isOn_25 rfl ?_
      refine z_irem hG dX11_isOn_27 (by omega) (by omega) ?_
      refine z_aload_n (i := 0) hG dX11_isOn_28 rfl rfl ?_
      refine z_iload_n (i := 2) hG dX11_isOn_29 rfl rfl ?_
      refine z_iconst hG dX11_isOn_30 rfl ?_
      refine z_callV hG dX11_isOn_31 LV_X11_68 (ct_X11_ofARecipe l g ⟨by omega, by omega⟩ ⟨by omega, by omega⟩) (by decide) rfl rfl rfl (Nat.le_of_ble_eq_true rfl) ?_
      intro v9 m9 h9
      rw [h9.1, h9.2, (eR (s / 8) (by omega) (by omega) (by omega)).2.1]
      clear h9 m9 v9
      refine z_icmp_ge hG dX11_isOn_34 (tgt := 41) rfl (fun zcq34 => ?_) (fun zcq34 => ?_)
      · refine z_iconst hG dX11_isOn_41 rfl ?_
        refine z_iret hG hE dX11_isOn_42 (by first | exact Or.inl rfl | exact Or.inr rfl | (show _ ∨ _; omega)) ?_
        refine ⟨?_, rfl⟩
        simp only [zEc]
        first
        | (rw [if_pos (by omega)]; done)
        | (rw [if_neg (by omega)]; done)
        | (have := (hrow2 (s / 8) (by omega) (by omega)).2.1 (by omega)
           rw [if_neg (by omega)])
      · refine z_iconst hG dX11_isOn_37 rfl ?_
        refine z_goto hG dX11_isOn_38 (tgt := 42) rfl ?_
        refine z_iret hG hE dX11_isOn_42 (by first | exact Or.inl rfl | exact Or.inr rfl | (show _ ∨ _; omega)) ?_
        refine ⟨?_, rfl⟩
        simp only [zEc]
        first
        | (rw [if_pos (by omega)]; done)
        | (rw [if_neg (by omega)]; done)
        | (have := (hrow2 (s / 8) (by omega) (by omega)).2.1 (by omega)
           rw [if_neg (by omega)])
set_option maxRecDepth 20000 in
theorem ct_X11_handsOf (l : Launch) (g : zG) {a m : zM} {B s : Int} (hI : zIS B a 0) (hR : zRel a 0 (m 45 0 0)) (hs : 0 ≤ s ∧ s < 32) (hon : zEc a 0 s = 1) : zMet l g Y_X11_handsOf [zr 11 0 0, zi s] m (fun v m' => v = some (zi (zEc a 2 s)) ∧ m' = m) := by
  refine zMet_introF (by decide +kernel) (Nat.le_of_ble_eq_true rfl) (ls0 := [some (zr 11 0 0), some (zi s)]) rfl fun X hG hE => ?_
  have hG : zGood X l g RX11 cX11_handsOf 2 2 := hG
  have hE : zEnd X (some .int) _ := hE
  obtain ⟨hday, hhan, hing, hrcp, hrec, hboo, hrow, hrow2, hstp⟩ := id hI
  have e2 := hR.2.2.1
  have eR := hR.2.2.2.2.2.2.2.2
  have hrr := zon_r hI hs hon
  have ho2 := zEc_on hon
  refine z_aload_n (i := 0) hG dX11_handsOf_0 rfl rfl ?_
  refine z_iload_n (i := 1) hG dX11_handsOf_1 rfl rfl ?_
  refine z_bipush hG dX11_handsOf_2 rfl ?_
  refine z_idiv hG dX11_handsOf_4 (by omega) (by omega) ?_
  refine z_iload_n (i := 1) hG dX11_handsOf_5 rfl rfl ?_
  refine z_bipush hG dX11_handsOf_6 rfl ?_
  refine z_irem hG dX11_handsOf_8 (by omega) (by omega) ?_
  refine z_iconst hG dX11_handsOf_9 rfl ?_
  refine z_callV hG dX11_handsOf_10 LV_X11_171 (ct_X11_ofStep l g ⟨by omega, by omega⟩ ⟨by omega, by omega⟩ ⟨by omega, by omega⟩) (by decide) rfl rfl rfl (Nat.le_of_ble_eq_true rfl) ?_
  intro v9 m9 h9
  rw [h9.1, h9.2, (eR (s / 8) (by omega) (by omega) (by omega)).2.2.2.2 (s % 8) 1 (by omega) (by omega) (by omega) (by decide) (by decide), show 8 * (s / 8) + s % 8 = s by omega]
  clear h9 m9 v9
  refine z_iret hG hE dX11_handsOf_13 trivial ?_
  exact ⟨rfl, rfl⟩
set_option maxRecDepth 20000 in
theorem ct_X11_aheadOf (l : Launch) (g : zG) {a m : zM} {B s : Int} (hI : zIS B a 0) (hR : zRel a 0 (m 45 0 0)) (hs : 0 ≤ s ∧ s < 32) (hon : zEc a 0 s = 1) : zMet l g Y_X11_aheadOf [zr 11 0 0, zi s] m (fun v m' => v = some (zi (zEc a 3 s)) ∧ m' = m) := by
  refine zMet_introF (by decide +kernel) (Nat.le_of_ble_eq_true rfl) (ls0 := [some (zr 11 0 0), some (zi s)]) rfl fun X hG hE => ?_
  have hG : zGood X l g RX11 cX11_aheadOf 2 2 := hG
  have hE : zEnd X (some .int) _ := hE
  obtain ⟨hday, hhan, hing, hrcp, hrec, hboo, hrow, hrow2, hstp⟩ := id hI
  have e2 := hR.2.2.1
  have eR := hR.2.2.2.2.2.2.2.2
  have hrr := zon_r hI hs hon
  have ho2 := zEc_on hon
  refine z_aload_n (i := 0) hG dX11_aheadOf_0 rfl rfl ?_
  refine z_iload_n (i := 1) hG dX11_aheadOf_1 rfl rfl ?_
  refine z_bipush hG dX11_aheadOf_2 rfl ?_
  refine z_idiv hG dX11_aheadOf_4 (by omega) (by omega) ?_
  refine z_iload_n (i := 1) hG dX11_aheadOf_5 rfl rfl ?_
  refine z_bipush hG dX11_aheadOf_6 rfl ?_
  refine z_irem hG dX11_aheadOf_8 (by omega) (by omega) ?_
  refine z_iconst hG dX11_aheadOf_9 rfl ?_
  refine z_callV hG dX11_aheadOf_10 LV_X11_171 (ct_X11_ofStep l g ⟨by omega, by omega⟩ ⟨by omega, by omega⟩ ⟨by omega, by omega⟩) (by decide) rfl rfl rfl (Nat.le_of_ble_eq_true rfl) ?_
  intro v9 m9 h9
  rw [h9.1, h9.2, (eR (s / 8) (by omega) (by omega) (by omega)).2.2.2.2 (s % 8) 2 (by omega) (by omega) (by omega) (by decide) (by decide), show 8 * (s / 8) + s % 8 = s by omega]
  clear h9 m9 v9
  refine z_iret hG hE dX11_aheadOf_13 trivial ?_
  exact ⟨rfl, rfl⟩
set_option maxRecDepth 20000 in
theorem ct_X11_lastsOf (l : Launch) (g : zG) {a m : zM} {B r k : Int} (hI : zIS B a 0) (hR : zRel a 0 (m 45 0 0)) (hr : 0 ≤ r ∧ r < a 2 0 0 5) (hk : 0 ≤ k ∧ k < a 4 0 r 2) : zMet l g Y_X11_lastsOf [zr 11 0 0, zi r, zi k, zi (a 4 0 r 1)] m (fun v m' => v = some (zi (if a 4 0 r 1 = 0 then a 5 0 (8 * r + k) 0 else zlast a 0 r k)) ∧ m' = m) := by
  refine zMet_introF (by decide +kernel) (Nat.le_of_ble_eq_true rfl) (ls0 := [some (zr 11 0 0), some (zi r), some (zi k), some (zi (a 4 0 r 1)), none, none]) rfl fun X hG hE => ?_
  have hG : zGood X l g RX11 cX11_lastsOf 2 6 := hG
  have hE : zEnd X (some .int) _ := hE
  obtain ⟨hday, hhan, hing, hrcp, hrec, hboo, hrow, hrow2, hstp⟩ := id hI
  have e2 := hR.2.2.1
  have eR := hR.2.2.2.2.2.2.2.2

  have hr4 : r < 4 := by omega
  have er := eR r hr.1 hr4 hr.2
  have hrr := hrec r hr.1 hr4
  have hb1 := (hrow2 r hr.1 hr4).2.2 hr.2
  have f0 := er.2.2.2.2 k 0 hk.1 (by omega) hk.2 (by decide) (by decide)
  have f3 := er.2.2.2.2 k 3 hk.1 (by omega) hk.2 (by decide) (by decide)
  have hgr := hboo.2 (8 * r + k) (by omega) (by omega)
  have hd := hstp (8 * r + k) (by omega) (by omega) (by rw [show (8 * r + k) / 8 = r by omega]; omega)
  have hm := zmulb (show 0 ≤ a 5 0 (8 * r + k) 0 by omega) hd.1.2 hrr.1.1 hrr.1.2
  refine z_aload_n (i := 0) hG dX11_lastsOf_0 rfl rfl ?_
  refine z_iload_n (i := 1) hG dX11_lastsOf_1 rfl rfl ?_
  refine z_iload_n (i := 2) hG dX11_lastsOf_2 rfl rfl ?_
  refine z_iconst hG dX11_lastsOf_3 rfl ?_
  refine z_callV hG dX11_lastsOf_4 LV_X11_171 (ct_X11_ofStep l g ⟨by omega, by omega⟩ ⟨by omega, by omega⟩ ⟨by omega, by omega⟩) (by decide) rfl rfl rfl (Nat.le_of_ble_eq_true rfl) ?_
  intro v9 m9 h9
  rw [h9.1, h9.2, f0]
  clear h9 m9 v9
  refine z_istore hG dX11_lastsOf_7 (by decide) (ls2 := [_, _, _, _, _, _]) rfl ?_
  refine z_aload_n (i := 0) hG dX11_lastsOf_9 rfl rfl ?_
  refine z_iload_n (i := 1) hG dX11_lastsOf_10 rfl rfl ?_
  refine z_iload_n (i := 2) hG dX11_lastsOf_11 rfl rfl ?_
  refine z_iconst hG dX11_lastsOf_12 rfl ?_
  refine z_callV hG dX11_lastsOf_13 LV_X11_171 (ct_X11_ofStep l g ⟨by omega, by omega⟩ ⟨by omega, by omega⟩ ⟨by omega, by omega⟩) (by decide) rfl rfl rfl (Nat.le_of_ble_eq_true rfl) ?_
  intro v9 m9 h9
  rw [h9.1, h9.2, f3]
  clear h9 m9 v9
  refine z_iconst hG dX11_lastsOf_16 rfl ?_
  refine z_icmp_ne hG dX11_lastsOf_17 (tgt := 28) rfl (fun zcq17 => ?_) (fun zcq17 => ?_)
  · refine z_iconst hG dX11_lastsOf_28 rfl ?_
    refine z_istore hG dX11_lastsOf_29 (by decide) (ls2 := [_, _, _, _, _, _]) rfl ?_
    refine z_iload hG dX11_lastsOf_31 rfl ?_
    refine z_if_eq hG dX11_lastsOf_33 (tgt := 52) rfl (fun zcq33 => ?_) (fun zcq33 => ?_)
    · try simp only [zite_eq0, ne_eq, Classical.not_not] at zcq33
      refine z_iload hG dX11_lastsOf_52 rfl ?_
      refine z_iret hG hE dX11_lastsOf_54 trivial ?_
      first
      | (exfalso; omega; done)
      | exact absurd trivial zcq33
      | (refine ⟨?_, rfl⟩
         by_cases e : a 4 0 r 1 = 0
         · first
           | (exfalso; omega; done)
           | (rw [if_pos e]; done)
         · rw [if_neg e]
           unfold zlast
           rw [if_pos ⟨hk.1, hk.2, by omega⟩]
           first
           | (rw [if_pos (by omega)]; done)
           | (rw [if_neg (by omega)]
              unfold zscal
              rw [if_neg (by omega)]
              done))
    · try simp only [zite_eq0, ne_eq, Classical.not_not] at zcq33
      refine z_iload hG dX11_lastsOf_36 rfl ?_
      refine z_iload_n (i := 3) hG dX11_lastsOf_38 rfl rfl ?_
      refine z_imul hG dX11_lastsOf_39 (by omega) (by omega) ?_
      refine z_aload_n (i := 0) hG dX11_lastsOf_40 rfl rfl ?_
      refine z_iload_n (i := 1) hG dX11_lastsOf_41 rfl rfl ?_
      refine z_iconst hG dX11_lastsOf_42 rfl ?_
      refine z_callV hG dX11_lastsOf_43 LV_X11_68 (ct_X11_ofARecipe l g ⟨by omega, by omega⟩ ⟨by omega, by omega⟩) (by decide) rfl rfl rfl (Nat.le_of_ble_eq_true rfl) ?_
      intro v9 m9 h9
      rw [h9.1, h9.2, Int.add_zero, er.1]
      clear h9 m9 v9
      refine z_callS hG dX11_lastsOf_46 LS_X11_112 (ct_X11_up l g (by omega) (by omega) (by omega)) (by decide) rfl rfl (Nat.le_of_ble_eq_true rfl) ?_
      intro v9 m9 h9
      rw [h9.1, h9.2]
      clear h9 m9 v9
      refine z_goto hG dX11_lastsOf_49 (tgt := 54) rfl ?_
      refine z_iret hG hE dX11_lastsOf_54 trivial ?_
      first
      | (exfalso; omega; done)
      | exact absurd trivial zcq33
      | (refine ⟨?_, rfl⟩
         by_cases e : a 4 0 r 1 = 0
         · first
           | (exfalso; omega; done)
           | (rw [if_pos e]; done)
         · rw [if_neg e]
           unfold zlast
           rw [if_pos ⟨hk.1, hk.2, by omega⟩]
           first
           | (rw [if_pos (by omega)]; done)
           | (rw [if_neg (by omega)]
              unfold zscal
              rw [if_neg (by omega)]
              done))
  · refine z_iload_n (i := 3) hG dX11_lastsOf_20 rfl rfl ?_
    refine z_if_le hG dX11_lastsOf_21 (tgt := 28) rfl (fun zcq21 => ?_) (fun zcq21 => ?_)
    · refine z_iconst hG dX11_lastsOf_28 rfl ?_
      refine z_istore hG dX11_lastsOf_29 (by decide) (ls2 := [_, _, _, _, _, _]) rfl ?_
      refine z_iload hG dX11_lastsOf_31 rfl ?_
      refine z_if_eq hG dX11_lastsOf_33 (tgt := 52) rfl (fun zcq33 => ?_) (fun zcq33 => ?_)
      · try simp only [zite_eq0, ne_eq, Classical.not_not] at zcq33
        refine z_iload hG dX11_lastsOf_52 rfl ?_
        refine z_iret hG hE dX11_lastsOf_54 trivial ?_
        first
        | (exfalso; omega; done)
        | exact absurd trivial zcq33
        | (refine ⟨?_, rfl⟩
           by_cases e : a 4 0 r 1 = 0
           · first
             | (exfalso; omega; done)
             | (rw [if_pos e]; done)
           · rw [if_neg e]
             unfold zlast
             rw [if_pos ⟨hk.1, hk.2, by omega⟩]
             first
             | (rw [if_pos (by omega)]; done)
             | (rw [if_neg (by omega)]
                unfold zscal
                rw [if_neg (by omega)]
                done))
      · try simp only [zite_eq0, ne_eq, Classical.not_not] at zcq33
        refine z_iload hG dX11_lastsOf_36 rfl ?_
        refine z_iload_n (i := 3) hG dX11_lastsOf_38 rfl rfl ?_
        refine z_imul hG dX11_lastsOf_39 (by omega) (by omega) ?_
        refine z_aload_n (i := 0) hG dX11_lastsOf_40 rfl rfl ?_
        refine z_iload_n (i := 1) hG dX11_lastsOf_41 rfl rfl ?_
        refine z_iconst hG dX11_lastsOf_42 rfl ?_
        refine z_callV hG dX11_lastsOf_43 LV_X11_68 (ct_X11_ofARecipe l g ⟨by omega, by omega⟩ ⟨by omega, by omega⟩) (by decide) rfl rfl rfl (Nat.le_of_ble_eq_true rfl) ?_
        intro v9 m9 h9
        rw [h9.1, h9.2, Int.add_zero, er.1]
        clear h9 m9 v9
        refine z_callS hG dX11_lastsOf_46 LS_X11_112 (ct_X11_up l g (by omega) (by omega) (by omega)) (by decide) rfl rfl (Nat.le_of_ble_eq_true rfl) ?_
        intro v9 m9 h9
        rw [h9.1, h9.2]
        clear h9 m9 v9
        refine z_goto hG dX11_lastsOf_49 (tgt := 54) rfl ?_
        refine z_iret hG hE dX11_lastsOf_54 trivial ?_
        first
        | (exfalso; omega; done)
        | exact absurd trivial zcq33
        | (refine ⟨?_, rfl⟩
           by_cases e : a 4 0 r 1 = 0
           · first
             | (exfalso; omega; done)
             | (rw [if_pos e]; done)
           · rw [if_neg e]
             unfold zlast
             rw [if_pos ⟨hk.1, hk.2, by omega⟩]
             first
             | (rw [if_pos (by omega)]; done)
             | (rw [if_neg (by omega)]
                unfold zscal
                rw [if_neg (by omega)]
                done))
    · refine z_iconst hG dX11_lastsOf_24 rfl ?_
      refine z_goto hG dX11_lastsOf_25 (tgt := 29) rfl ?_
      refine z_istore hG dX11_lastsOf_29 (by decide) (ls2 := [_, _, _, _, _, _]) rfl ?_
      refine z_iload hG dX11_lastsOf_31 rfl ?_
      refine z_if_eq hG dX11_lastsOf_33 (tgt := 52) rfl (fun zcq33 => ?_) (fun zcq33 => ?_)
      · try simp only [zite_eq0, ne_eq, Classical.not_not] at zcq33
        refine z_iload hG dX11_lastsOf_52 rfl ?_
        refine z_iret hG hE dX11_lastsOf_54 trivial ?_
        first
        | (exfalso; omega; done)
        | exact absurd trivial zcq33
        | (refine ⟨?_, rfl⟩
           by_cases e : a 4 0 r 1 = 0
           · first
             | (exfalso; omega; done)
             | (rw [if_pos e]; done)
           · rw [if_neg e]
             unfold zlast
             rw [if_pos ⟨hk.1, hk.2, by omega⟩]
             first
             | (rw [if_pos (by omega)]; done)
             | (rw [if_neg (by omega)]
                unfold zscal
                rw [if_neg (by omega)]
                done))
      · try simp only [zite_eq0, ne_eq, Classical.not_not] at zcq33
        refine z_iload hG dX11_lastsOf_36 rfl ?_
        refine z_iload_n (i := 3) hG dX11_lastsOf_38 rfl rfl ?_
        refine z_imul hG dX11_lastsOf_39 (by omega) (by omega) ?_
        refine z_aload_n (i := 0) hG dX11_lastsOf_40 rfl rfl ?_
        refine z_iload_n (i := 1) hG dX11_lastsOf_41 rfl rfl ?_
        refine z_iconst hG dX11_lastsOf_42 rfl ?_
        refine z_callV hG dX11_lastsOf_43 LV_X11_68 (ct_X11_ofARecipe l g ⟨by omega, by omega⟩ ⟨by omega, by omega⟩) (by decide) rfl rfl rfl (Nat.le_of_ble_eq_true rfl) ?_
        intro v9 m9 h9
        rw [h9.1, h9.2, Int.add_zero, er.1]
        clear h9 m9 v9
        refine z_callS hG dX11_lastsOf_46 LS_X11_112 (ct_X11_up l g (by omega) (by omega) (by omega)) (by decide) rfl rfl (Nat.le_of_ble_eq_true rfl) ?_
        intro v9 m9 h9
        rw [h9.1, h9.2]
        clear h9 m9 v9
        refine z_goto hG dX11_lastsOf_49 (tgt := 54) rfl ?_
        refine z_iret hG hE dX11_lastsOf_54 trivial ?_
        first
        | (exfalso; omega; done)
        | exact absurd trivial zcq33
        | (refine ⟨?_, rfl⟩
           by_cases e : a 4 0 r 1 = 0
           · first
             | (exfalso; omega; done)
             | (rw [if_pos e]; done)
           · rw [if_neg e]
             unfold zlast
             rw [if_pos ⟨hk.1, hk.2, by omega⟩]
             first
             | (rw [if_pos (by omega)]; done)
             | (rw [if_neg (by omega)]
                unfold zscal
                rw [if_neg (by omega)]
                done))
/-- the steps behind place s, their work -/
def zwk (E : zE) (s : Int) : Int := zsum 32 (fun p => if s < p then zwf E p else 0)
theorem zwk_s {E : zE} {s : Int} (hs : 0 ≤ s ∧ s < 32) : zwk E (s - 1) = zwk E s + zwf E s := by
  unfold zwk
  have h := zsum_one (f := zwf E) (p := s) hs.1 (S := fun p => s < p) (S' := fun p => s - 1 < p) (by omega) (by omega) 32 (fun j j0 j1 hj => by omega)
  rw [h, if_pos (show s < ((32 : Nat) : Int) by omega)]
theorem zwk_31 {E : zE} : zwk E 31 = 0 := by
  unfold zwk
  rw [zsum_congr 32 (f' := fun _ => 0) (fun j j0 j1 => if_neg (by omega))]
  rfl
theorem zwk_m {E : zE} : zwk E (-1) = zsum 32 (zwf E) := zsum_congr 32 (fun j j0 j1 => if_pos (by omega))
theorem zwf_b {E : zE} (hE : zEok E) {q : Int} (h0 : 0 ≤ q) (h1 : q < 32) : 0 ≤ zwf E q ∧ zwf E q ≤ 15000 := by
  unfold zwf
  split
  · next hon =>
    have := hE q h0 h1 hon
    have := zmulb (x := E 1 q) (y := E 2 q) (A := 5000) (B := 3) (by omega) (by omega) (by omega) (by omega)
    omega
  · omega
theorem zwk_bd {E : zE} (hE : zEok E) {s : Int} : 0 ≤ zwk E s ∧ zwk E s ≤ 480000 := by
  have := zsum_le (f := fun p => if s < p then zwf E p else 0) (B := 15000) 32 (fun j j0 j1 => by
    have := zwf_b hE j0 j1
    split <;> omega)
  unfold zwk
  omega
/-- what finding the tails leaves -/
def zFt (m1 m : zM) : Prop := ∀ (t : Nat) (s j q : Int), (t < 59 ∨ 61 < t) → (t ≠ 11 ∨ q < 22 ∨ 24 < q) → m1 t s j q = m t s j q
/-- the tails of the places behind s are found -/
def zTd (E : zE) (m1 : zM) (s : Int) : Prop := (∀ p : Int, s < p → p < 32 → m1 61 0 0 p = -6 ∧ (E 0 p = 1 → m1 59 0 0 p = E 1 p ∧ m1 60 0 0 p = E 4 p)) ∧ zmax E (fun p => s < p) (m1 11 0 0 23) ∧ m1 11 0 0 24 = zwk E s
theorem zmax_s {E : zE} {G s : Int} (h : zmax E (fun p => s < p) G) (hs : 0 ≤ s ∧ s < 32) : zmax E (fun p => s - 1 < p) (if E 0 s = 1 then (if G < E 4 s then E 4 s else G) else G) := by
  obtain ⟨h0, h1, h2⟩ := h
  split
  · next hon =>
    refine ⟨by split <;> omega, fun p p0 p1 p2 p3 => ?_, ?_⟩
    · by_cases e : p = s
      · subst e
        split <;> omega
      · have := h1 p p0 p1 p2 (by omega)
        split <;> omega
    · split
      · exact Or.inr ⟨s, hs.1, hs.2, hon, by omega, rfl⟩
      · rcases h2 with h2 | ⟨p, p0, p1, p2, p3, p4⟩
        · exact Or.inl h2
        · exact Or.inr ⟨p, p0, p1, p2, by omega, p4⟩
  · next hon =>
    refine ⟨h0, fun p p0 p1 p2 p3 => ?_, ?_⟩
    · by_cases e : p = s
      · subst e
        exact absurd p2 hon
      · exact h1 p p0 p1 p2 (by omega)
    · rcases h2 with h2 | ⟨p, p0, p1, p2, p3, p4⟩
      · exact Or.inl h2
      · exact Or.inr ⟨p, p0, p1, p2, by omega, p4⟩
theorem zmxs_nn {f : Int → Int} : ∀ n : Nat, 0 ≤ zmxs f n
  | 0 => Int.le_refl _
  | n + 1 => by
    have := zmxs_nn (f := f) n
    rw [zmxs]
    split <;> omega
/-- places that give 0 change nothing -/
theorem zmxs_z {f : Int → Int} {k : Nat} : ∀ n : Nat, k ≤ n → (∀ j : Int, k ≤ j → j < n → f j = 0) → zmxs f n = zmxs f k
  | 0, h, _ => by rw [show k = 0 by omega]
  | n + 1, h, hz => by
    by_cases c : k = n + 1
    · rw [c]
    · have hnn := zmxs_nn (f := f) k
      rw [zmxs, zmxs_z n (by omega) (fun j j0 j1 => hz j j0 (by omega)), hz n (by omega) (by omega), if_neg (by omega)]
set_option maxRecDepth 20000 in
theorem ct_X11_findTails (l : Launch) (g : zG) {a m : zM} {B : Int} (hI : zIS B a 0) (hR : zRel a 0 (m 45 0 0)) : zMet l g Y_X11_findTails [zr 11 0 0] m (fun v m' => v = none ∧ zTd (zEc a) m' (-1) ∧ zFt m' m) := by
  refine zMet_introF (by decide +kernel) (Nat.le_of_ble_eq_true rfl) (ls0 := [some (zr 11 0 0), none, none, none, none]) rfl fun X hG hE => ?_
  have hG : zGood X l g RX11 cX11_findTails 3 5 := hG
  have hE : zEnd X (none) _ := hE
  have hEE := zEc_ok hI
  have hrec := hI.2.2.2.2.1
  obtain ⟨E, hEe⟩ : ∃ E, E = zEc a := ⟨_, rfl⟩
  have hR45 : ∀ m1 : zM, zFt m1 m → zRel a 0 (m1 45 0 0) := fun m1 h => by
    rw [show m1 45 0 0 = m 45 0 0 from funext fun q => h 45 0 0 q (by omega) (by omega)]
    exact hR
  have hE01 : ∀ p : Int, E 0 p = 0 ∨ E 0 p = 1 := fun p => by rw [hEe]; exact zEc_01
  rw [← hEe] at hEE
  have inner : ∀ (N : Nat) (s k : Int) (nm : Option zV) (m1 : zM), (0 ≤ s ∧ s < 32) → E 0 s = 1 → s < k → k + N = 8 * (s / 8 + 1) → zFt m1 m → zTd E m1 s → m1 59 0 0 s = E 1 s → (∀ tl : Int, tl = zmxs (fun j => if E 0 (s + 1 + j) = 1 ∧ zbit (E 3 (s + 1 + j)) (s % 8) then E 4 (s + 1 + j) else 0) (8 * (s / 8 + 1) - s - 1).toNat → zZ X 142 [some (zr 11 0 0), some (zi s), some (zi tl), none, none] [] m1) → zZ X 66 [some (zr 11 0 0), some (zi s), some (zi (zmxs (fun j => if E 0 (s + 1 + j) = 1 ∧ zbit (E 3 (s + 1 + j)) (s % 8) then E 4 (s + 1 + j) else 0) (k - s - 1).toNat)), some (zi k), nm] [] m1 := by
    intro N
    induction N with
    | zero =>
      intro s k nm m1 hs hon hk hkN hF hTd h59 K
      refine z_iload_n (i := 3) hG dX11_findTails_66 rfl rfl ?_
      refine z_bipush hG dX11_findTails_67 rfl ?_
      refine z_iload_n (i := 1) hG dX11_findTails_69 rfl rfl ?_
      refine z_bipush hG dX11_findTails_70 rfl ?_
      refine z_idiv hG dX11_findTails_72 (by omega) (by omega) ?_
      refine z_iconst hG dX11_findTails_73 rfl ?_
      refine z_iadd hG dX11_findTails_74 (by omega) (by omega) ?_
      refine z_imul hG dX11_findTails_75 (by omega) (by omega) ?_
      refine z_icmp_ge hG dX11_findTails_76 (tgt := 142) rfl (fun zcq76 => ?_) (fun zcq76 => ?_)
      · refine z_forget [true, true, true, false, false] rfl (K _ ?_)
        rw [show k = 8 * (s / 8 + 1) by omega]
      · exact absurd zcq76 (by omega)
    | succ N ih =>
      intro s k nm m1 hs hon hk hkN hF hTd h59 K
      have hR1 := hR45 m1 hF
      have htk := hTd.1 k hk (by omega)
      have hcur := zmxs_nn (f := fun j => if E 0 (s + 1 + j) = 1 ∧ zbit (E 3 (s + 1 + j)) (s % 8) then E 4 (s + 1 + j) else 0) (k - s - 1).toNat
      have hnext : zmxs (fun j => if E 0 (s + 1 + j) = 1 ∧ zbit (E 3 (s + 1 + j)) (s % 8) then E 4 (s + 1 + j) else 0) (k + 1 - s - 1).toNat = if zmxs (fun j => if E 0 (s + 1 + j) = 1 ∧ zbit (E 3 (s + 1 + j)) (s % 8) then E 4 (s + 1 + j) else 0) (k - s - 1).toNat < (if E 0 k = 1 ∧ zbit (E 3 k) (s % 8) then E 4 k else 0) then (if E 0 k = 1 ∧ zbit (E 3 k) (s % 8) then E 4 k else 0) else zmxs (fun j => if E 0 (s + 1 + j) = 1 ∧ zbit (E 3 (s + 1 + j)) (s % 8) then E 4 (s + 1 + j) else 0) (k - s - 1).toNat := by
        rw [show (k + 1 - s - 1).toNat = (k - s - 1).toNat + 1 by omega, zmxs]
        rw [show s + 1 + (((k - s - 1).toNat : Nat) : Int) = k by omega]
      obtain ⟨cur, hcu⟩ : ∃ cur, cur = zmxs (fun j => if E 0 (s + 1 + j) = 1 ∧ zbit (E 3 (s + 1 + j)) (s % 8) then E 4 (s + 1 + j) else 0) (k - s - 1).toNat := ⟨_, rfl⟩
      rw [← hcu] at hnext hcur ⊢
      refine z_iload_n (i := 3) hG dX11_findTails_66 rfl rfl ?_
      refine z_bipush hG dX11_findTails_67 rfl ?_
      refine z_iload_n (i := 1) hG dX11_findTails_69 rfl rfl ?_
      refine z_bipush hG dX11_findTails_70 rfl ?_
      refine z_idiv hG dX11_findTails_72 (by omega) (by omega) ?_
      refine z_iconst hG dX11_findTails_73 rfl ?_
      refine z_iadd hG dX11_findTails_74 (by omega) (by omega) ?_
      refine z_imul hG dX11_findTails_75 (by omega) (by omega) ?_
      refine z_icmp_ge hG dX11_findTails_76 (tgt := 142) rfl (fun zcq76 => ?_) (fun zcq76 => ?_)
      · exact absurd zcq76 (by omega)
      · refine z_aload_n (i := 0) hG dX11_findTails_79 rfl rfl ?_
        refine z_iload_n (i := 3) hG dX11_findTails_80 rfl rfl ?_
        refine z_callV hG dX11_findTails_81 LV_X11_181 (ct_X11_isOn l g hI hR1 ⟨by omega, by omega⟩) (by decide) rfl rfl rfl (Nat.le_of_ble_eq_true rfl) ?_
        intro v9 m9 h9
        rw [h9.1, h9.2, ← hEe]
        clear h9 m9 v9
        refine z_if_eq hG dX11_findTails_84 (tgt := 107) rfl (fun zcq84 => ?_) (fun zcq84 => ?_)
        · try simp only [zite_eq0, ne_eq, Classical.not_not] at zcq84
          refine z_iconst hG dX11_findTails_107 rfl ?_
          refine z_istore hG dX11_findTails_108 (by decide) (ls2 := [_, _, _, _, _]) rfl ?_
          refine z_iload hG dX11_findTails_110 rfl ?_
          refine z_if_eq hG dX11_findTails_112 (tgt := 134) rfl (fun zcq112 => ?_) (fun zcq112 => ?_)
          · try simp only [zite_eq0, ne_eq, Classical.not_not] at zcq112
            refine z_iload_n (i := 2) hG dX11_findTails_134 rfl rfl ?_
            refine z_istore_n (i := 2) hG dX11_findTails_135 rfl (by decide) (ls2 := [_, _, _, _, _]) rfl ?_
            refine z_iinc hG dX11_findTails_136 (by decide) rfl (by omega) (by omega) (ls2 := [_, _, _, _, _]) rfl ?_
            refine z_goto hG dX11_findTails_139 (tgt := 66) rfl ?_
            have hstep := ih s (k + 1) none m1 hs hon (by omega) (by omega) hF hTd h59 K
            rw [hnext] at hstep
            refine z_forget [true, true, true, true, false] ?_ hstep
            first
            | (exfalso; omega; done)
            | exact absurd trivial zcq112
            | (rw [if_pos (show E 0 k = 1 ∧ zbit (E 3 k) (s % 8) from ⟨by assumption, by assumption⟩)]
               first
               | (rw [if_pos (by omega)]; rfl)
               | (rw [if_neg (by omega)]; rfl))
            | (rw [if_neg (show ¬ (E 0 k = 1 ∧ zbit (E 3 k) (s % 8)) from fun z => by first | exact absurd z.2 (by assumption) | (have := z.1; omega)), if_neg (by omega)]; rfl)
          · try simp only [zite_eq0, ne_eq, Classical.not_not] at zcq112
            refine z_aload_n (i := 0) hG dX11_findTails_115 rfl rfl ?_
            refine z_get_11_20 hG dX11_findTails_116 FL_X11_56 ?_
            refine z_iload_n (i := 3) hG dX11_findTails_119 rfl rfl ?_
            refine z_iald hG dX11_findTails_120 rfl rfl (by omega) (by omega) ?_
            rw [(htk.2 (by first | (have := hE01 k; omega) | exact absurd trivial zcq112)).2]
            refine z_iload_n (i := 2) hG dX11_findTails_121 rfl rfl ?_
            refine z_icmp_le hG dX11_findTails_122 (tgt := 134) rfl (fun zcq122 => ?_) (fun zcq122 => ?_)
            · refine z_iload_n (i := 2) hG dX11_findTails_134 rfl rfl ?_
              refine z_istore_n (i := 2) hG dX11_findTails_135 rfl (by decide) (ls2 := [_, _, _, _, _]) rfl ?_
              refine z_iinc hG dX11_findTails_136 (by decide) rfl (by omega) (by omega) (ls2 := [_, _, _, _, _]) rfl ?_
              refine z_goto hG dX11_findTails_139 (tgt := 66) rfl ?_
              have hstep := ih s (k + 1) none m1 hs hon (by omega) (by omega) hF hTd h59 K
              rw [hnext] at hstep
              refine z_forget [true, true, true, true, false] ?_ hstep
              first
              | (exfalso; omega; done)
              | exact absurd trivial zcq112
              | (rw [if_pos (show E 0 k = 1 ∧ zbit (E 3 k) (s % 8) from ⟨by assumption, by assumption⟩)]
                 first
                 | (rw [if_pos (by omega)]; rfl)
                 | (rw [if_neg (by omega)]; rfl))
              | (rw [if_neg (show ¬ (E 0 k = 1 ∧ zbit (E 3 k) (s % 8)) from fun z => by first | exact absurd z.2 (by assumption) | (have := z.1; omega)), if_neg (by omega)]; rfl)
            · refine z_aload_n (i := 0) hG dX11_findTails_125 rfl rfl ?_
              refine z_get_11_20 hG dX11_findTails_126 FL_X11_56 ?_
              refine z_iload_n (i := 3) hG dX11_findTails_129 rfl rfl ?_
              refine z_iald hG dX11_findTails_130 rfl rfl (by omega) (by omega) ?_
              rw [(htk.2 (by first | (have := hE01 k; omega) | exact absurd trivial zcq112)).2]
              refine z_goto hG dX11_findTails_131 (tgt := 135) rfl ?_
              refine z_istore_n (i := 2) hG dX11_findTails_135 rfl (by decide) (ls2 := [_, _, _, _, _]) rfl ?_
              refine z_iinc hG dX11_findTails_136 (by decide) rfl (by omega) (by omega) (ls2 := [_, _, _, _, _]) rfl ?_
              refine z_goto hG dX11_findTails_139 (tgt := 66) rfl ?_
              have hstep := ih s (k + 1) none m1 hs hon (by omega) (by omega) hF hTd h59 K
              rw [hnext] at hstep
              refine z_forget [true, true, true, true, false] ?_ hstep
              first
              | (exfalso; omega; done)
              | exact absurd trivial zcq112
              | (rw [if_pos (show E 0 k = 1 ∧ zbit (E 3 k) (s % 8) from ⟨by assumption, by assumption⟩)]
                 first
                 | (rw [if_pos (by omega)]; rfl)
                 | (rw [if_neg (by omega)]; rfl))
              | (rw [if_neg (show ¬ (E 0 k = 1 ∧ zbit (E 3 k) (s % 8)) from fun z => by first | exact absurd z.2 (by assumption) | (have := z.1; omega)), if_neg (by omega)]; rfl)
        · try simp only [zite_eq0, ne_eq, Classical.not_not] at zcq84
          refine z_aload_n (i := 0) hG dX11_findTails_87 rfl rfl ?_
          refine z_iload_n (i := 3) hG dX11_findTails_88 rfl rfl ?_
          refine z_callV hG dX11_findTails_89 LV_X11_187 (ct_X11_aheadOf l g hI hR1 ⟨by omega, by omega⟩ (by rw [← hEe]; have := hE01 k; omega)) (by decide) rfl rfl rfl (Nat.le_of_ble_eq_true rfl) ?_
          intro v9 m9 h9
          rw [h9.1, h9.2, ← hEe]
          clear h9 m9 v9
          have hon2 : E 0 k = 1 := by have := hE01 k; omega
          refine z_iload_n (i := 1) hG dX11_findTails_92 rfl rfl ?_
          refine z_bipush hG dX11_findTails_93 rfl ?_
          refine z_irem hG dX11_findTails_95 (by omega) (by omega) ?_
          refine z_ishr hG dX11_findTails_96 ?_
          refine z_iconst hG dX11_findTails_97 rfl ?_
          refine z_iand hG dX11_findTails_98 ?_
          refine z_iconst hG dX11_findTails_99 rfl ?_
          refine z_icmp_ne hG dX11_findTails_100 (tgt := 107) rfl (fun zcq100 => ?_) (fun zcq100 => ?_)
          · refine z_iconst hG dX11_findTails_107 rfl ?_
            refine z_istore hG dX11_findTails_108 (by decide) (ls2 := [_, _, _, _, _]) rfl ?_
            refine z_iload hG dX11_findTails_110 rfl ?_
            refine z_if_eq hG dX11_findTails_112 (tgt := 134) rfl (fun zcq112 => ?_) (fun zcq112 => ?_)
            · try simp only [zite_eq0, ne_eq, Classical.not_not] at zcq112
              refine z_iload_n (i := 2) hG dX11_findTails_134 rfl rfl ?_
              refine z_istore_n (i := 2) hG dX11_findTails_135 rfl (by decide) (ls2 := [_, _, _, _, _]) rfl ?_
              refine z_iinc hG dX11_findTails_136 (by decide) rfl (by omega) (by omega) (ls2 := [_, _, _, _, _]) rfl ?_
              refine z_goto hG dX11_findTails_139 (tgt := 66) rfl ?_
              have hstep := ih s (k + 1) none m1 hs hon (by omega) (by omega) hF hTd h59 K
              rw [hnext] at hstep
              refine z_forget [true, true, true, true, false] ?_ hstep
              first
              | (exfalso; omega; done)
              | exact absurd trivial zcq112
              | (rw [if_pos (show E 0 k = 1 ∧ zbit (E 3 k) (s % 8) from ⟨by assumption, by assumption⟩)]
                 first
                 | (rw [if_pos (by omega)]; rfl)
                 | (rw [if_neg (by omega)]; rfl))
              | (rw [if_neg (show ¬ (E 0 k = 1 ∧ zbit (E 3 k) (s % 8)) from fun z => by first | exact absurd z.2 (by assumption) | (have := z.1; omega)), if_neg (by omega)]; rfl)
            · try simp only [zite_eq0, ne_eq, Classical.not_not] at zcq112
              refine z_aload_n (i := 0) hG dX11_findTails_115 rfl rfl ?_
              refine z_get_11_20 hG dX11_findTails_116 FL_X11_56 ?_
              refine z_iload_n (i := 3) hG dX11_findTails_119 rfl rfl ?_
              refine z_iald hG dX11_findTails_120 rfl rfl (by omega) (by omega) ?_
              rw [(htk.2 (by first | (have := hE01 k; omega) | exact absurd trivial zcq112)).2]
              refine z_iload_n (i := 2) hG dX11_findTails_121 rfl rfl ?_
              refine z_icmp_le hG dX11_findTails_122 (tgt := 134) rfl (fun zcq122 => ?_) (fun zcq122 => ?_)
              · refine z_iload_n (i := 2) hG dX11_findTails_134 rfl rfl ?_
                refine z_istore_n (i := 2) hG dX11_findTails_135 rfl (by decide) (ls2 := [_, _, _, _, _]) rfl ?_
                refine z_iinc hG dX11_findTails_136 (by decide) rfl (by omega) (by omega) (ls2 := [_, _, _, _, _]) rfl ?_
                refine z_goto hG dX11_findTails_139 (tgt := 66) rfl ?_
                have hstep := ih s (k + 1) none m1 hs hon (by omega) (by omega) hF hTd h59 K
                rw [hnext] at hstep
                refine z_forget [true, true, true, true, false] ?_ hstep
                first
                | (exfalso; omega; done)
                | exact absurd trivial zcq112
                | (rw [if_pos (show E 0 k = 1 ∧ zbit (E 3 k) (s % 8) from ⟨by assumption, by assumption⟩)]
                   first
                   | (rw [if_pos (by omega)]; rfl)
                   | (rw [if_neg (by omega)]; rfl))
                | (rw [if_neg (show ¬ (E 0 k = 1 ∧ zbit (E 3 k) (s % 8)) from fun z => by first | exact absurd z.2 (by assumption) | (have := z.1; omega)), if_neg (by omega)]; rfl)
              · refine z_aload_n (i := 0) hG dX11_findTails_125 rfl rfl ?_
                refine z_get_11_20 hG dX11_findTails_126 FL_X11_56 ?_
                refine z_iload_n (i := 3) hG dX11_findTails_129 rfl rfl ?_
                refine z_iald hG dX11_findTails_130 rfl rfl (by omega) (by omega) ?_
                rw [(htk.2 (by first | (have := hE01 k; omega) | exact absurd trivial zcq112)).2]
                refine z_goto hG dX11_findTails_131 (tgt := 135) rfl ?_
                refine z_istore_n (i := 2) hG dX11_findTails_135 rfl (by decide) (ls2 := [_, _, _, _, _]) rfl ?_
                refine z_iinc hG dX11_findTails_136 (by decide) rfl (by omega) (by omega) (ls2 := [_, _, _, _, _]) rfl ?_
                refine z_goto hG dX11_findTails_139 (tgt := 66) rfl ?_
                have hstep := ih s (k + 1) none m1 hs hon (by omega) (by omega) hF hTd h59 K
                rw [hnext] at hstep
                refine z_forget [true, true, true, true, false] ?_ hstep
                first
                | (exfalso; omega; done)
                | exact absurd trivial zcq112
                | (rw [if_pos (show E 0 k = 1 ∧ zbit (E 3 k) (s % 8) from ⟨by assumption, by assumption⟩)]
                   first
                   | (rw [if_pos (by omega)]; rfl)
                   | (rw [if_neg (by omega)]; rfl))
                | (rw [if_neg (show ¬ (E 0 k = 1 ∧ zbit (E 3 k) (s % 8)) from fun z => by first | exact absurd z.2 (by assumption) | (have := z.1; omega)), if_neg (by omega)]; rfl)
          · refine z_iconst hG dX11_findTails_103 rfl ?_
            refine z_goto hG dX11_findTails_104 (tgt := 108) rfl ?_
            refine z_istore hG dX11_findTails_108 (by decide) (ls2 := [_, _, _, _, _]) rfl ?_
            refine z_iload hG dX11_findTails_110 rfl ?_
            refine z_if_eq hG dX11_findTails_112 (tgt := 134) rfl (fun zcq112 => ?_) (fun zcq112 => ?_)
            · try simp only [zite_eq0, ne_eq, Classical.not_not] at zcq112
              refine z_iload_n (i := 2) hG dX11_findTails_134 rfl rfl ?_
              refine z_istore_n (i := 2) hG dX11_findTails_135 rfl (by decide) (ls2 := [_, _, _, _, _]) rfl ?_
              refine z_iinc hG dX11_findTails_136 (by decide) rfl (by omega) (by omega) (ls2 := [_, _, _, _, _]) rfl ?_
              refine z_goto hG dX11_findTails_139 (tgt := 66) rfl ?_
              have hstep := ih s (k + 1) none m1 hs hon (by omega) (by omega) hF hTd h59 K
              rw [hnext] at hstep
              refine z_forget [true, true, true, true, false] ?_ hstep
              first
              | (exfalso; omega; done)
              | exact absurd trivial zcq112
              | (rw [if_pos (show E 0 k = 1 ∧ zbit (E 3 k) (s % 8) from ⟨by assumption, by assumption⟩)]
                 first
                 | (rw [if_pos (by omega)]; rfl)
                 | (rw [if_neg (by omega)]; rfl))
              | (rw [if_neg (show ¬ (E 0 k = 1 ∧ zbit (E 3 k) (s % 8)) from fun z => by first | exact absurd z.2 (by assumption) | (have := z.1; omega)), if_neg (by omega)]; rfl)
            · try simp only [zite_eq0, ne_eq, Classical.not_not] at zcq112
              refine z_aload_n (i := 0) hG dX11_findTails_115 rfl rfl ?_
              refine z_get_11_20 hG dX11_findTails_116 FL_X11_56 ?_
              refine z_iload_n (i := 3) hG dX11_findTails_119 rfl rfl ?_
              refine z_iald hG dX11_findTails_120 rfl rfl (by omega) (by omega) ?_
              rw [(htk.2 (by first | (have := hE01 k; omega) | exact absurd trivial zcq112)).2]
              refine z_iload_n (i := 2) hG dX11_findTails_121 rfl rfl ?_
              refine z_icmp_le hG dX11_findTails_122 (tgt := 134) rfl (fun zcq122 => ?_) (fun zcq122 => ?_)
              · refine z_iload_n (i := 2) hG dX11_findTails_134 rfl rfl ?_
                refine z_istore_n (i := 2) hG dX11_findTails_135 rfl (by decide) (ls2 := [_, _, _, _, _]) rfl ?_
                refine z_iinc hG dX11_findTails_136 (by decide) rfl (by omega) (by omega) (ls2 := [_, _, _, _, _]) rfl ?_
                refine z_goto hG dX11_findTails_139 (tgt := 66) rfl ?_
                have hstep := ih s (k + 1) none m1 hs hon (by omega) (by omega) hF hTd h59 K
                rw [hnext] at hstep
                refine z_forget [true, true, true, true, false] ?_ hstep
                first
                | (exfalso; omega; done)
                | exact absurd trivial zcq112
                | (rw [if_pos (show E 0 k = 1 ∧ zbit (E 3 k) (s % 8) from ⟨by assumption, by assumption⟩)]
                   first
                   | (rw [if_pos (by omega)]; rfl)
                   | (rw [if_neg (by omega)]; rfl))
                | (rw [if_neg (show ¬ (E 0 k = 1 ∧ zbit (E 3 k) (s % 8)) from fun z => by first | exact absurd z.2 (by assumption) | (have := z.1; omega)), if_neg (by omega)]; rfl)
              · refine z_aload_n (i := 0) hG dX11_findTails_125 rfl rfl ?_
                refine z_get_11_20 hG dX11_findTails_126 FL_X11_56 ?_
                refine z_iload_n (i := 3) hG dX11_findTails_129 rfl rfl ?_
                refine z_iald hG dX11_findTails_130 rfl rfl (by omega) (by omega) ?_
                rw [(htk.2 (by first | (have := hE01 k; omega) | exact absurd trivial zcq112)).2]
                refine z_goto hG dX11_findTails_131 (tgt := 135) rfl ?_
                refine z_istore_n (i := 2) hG dX11_findTails_135 rfl (by decide) (ls2 := [_, _, _, _, _]) rfl ?_
                refine z_iinc hG dX11_findTails_136 (by decide) rfl (by omega) (by omega) (ls2 := [_, _, _, _, _]) rfl ?_
                refine z_goto hG dX11_findTails_139 (tgt := 66) rfl ?_
                have hstep := ih s (k + 1) none m1 hs hon (by omega) (by omega) hF hTd h59 K
                rw [hnext] at hstep
                refine z_forget [true, true, true, true, false] ?_ hstep
                first
                | (exfalso; omega; done)
                | exact absurd trivial zcq112
                | (rw [if_pos (show E 0 k = 1 ∧ zbit (E 3 k) (s % 8) from ⟨by assumption, by assumption⟩)]
                   first
                   | (rw [if_pos (by omega)]; rfl)
                   | (rw [if_neg (by omega)]; rfl))
                | (rw [if_neg (show ¬ (E 0 k = 1 ∧ zbit (E 3 k) (s % 8)) from fun z => by first | exact absurd z.2 (by assumption) | (have := z.1; omega)), if_neg (by omega)]; rfl)
  have outer : ∀ (N : Nat) (s : Int) (l2 l3 l4 : Option zV) (m1 : zM), s + 1 = N → s < 32 → zFt m1 m → zTd E m1 s → zZ X 13 [some (zr 11 0 0), some (zi s), l2, l3, l4] [] m1 := by
    intro N
    induction N with
    | zero =>
      intro s l2 l3 l4 m1 hsN hs hF hTd
      obtain rfl : s = -1 := by omega
      refine z_iload_n (i := 1) hG dX11_findTails_13 rfl rfl ?_
      refine z_if_lt hG dX11_findTails_14 (tgt := 213) rfl (fun zcq14 => ?_) (fun zcq14 => ?_)
      · refine z_vret hG hE dX11_findTails_213 ?_
        exact ⟨rfl, by rw [← hEe]; exact hTd, hF⟩
      · exact absurd zcq14 (by omega)
    | succ N ih =>
      intro s l2 l3 l4 m1 hsN hs hF hTd
      have hE01s := hE01 s
      refine z_iload_n (i := 1) hG dX11_findTails_13 rfl rfl ?_
      refine z_if_lt hG dX11_findTails_14 (tgt := 213) rfl (fun zcq14 => ?_) (fun zcq14 => ?_)
      · exact absurd zcq14 (by omega)
      · refine z_aload_n (i := 0) hG dX11_findTails_17 rfl rfl ?_
        refine z_get_11_21 hG dX11_findTails_18 FL_X11_59 ?_
        refine z_iload_n (i := 1) hG dX11_findTails_21 rfl rfl ?_
        refine z_bipush hG dX11_findTails_22 rfl ?_
        refine z_iast hG dX11_findTails_24 rfl rfl (by omega) (by omega) ?_
        have hF1 : zFt (zset m1 61 0 0 s (-6)) m := fun t s' j q h1 h2 => by
          simp only [zset]
          rw [if_neg (by omega)]
          exact hF t s' j q h1 h2
        have hR1 := hR45 _ hF1
        have h61 : ∀ p : Int, s - 1 < p → p < 32 → zset m1 61 0 0 s (-6) 61 0 0 p = -6 := fun p p0 p1 => by
          simp only [zset]
          by_cases e : p = s
          · rw [if_pos (by simp [e])]
          · rw [if_neg (by simp [e])]
            exact (hTd.1 p (by omega) p1).1
        have h596 : ∀ (t : Nat) (p : Int), t ≠ 61 → zset m1 61 0 0 s (-6) t 0 0 p = m1 t 0 0 p := fun t p h => by
          simp only [zset]
          rw [if_neg (by omega)]
        generalize zset m1 61 0 0 s (-6) = m2 at *
        refine z_aload_n (i := 0) hG dX11_findTails_25 rfl rfl ?_
        refine z_iload_n (i := 1) hG dX11_findTails_26 rfl rfl ?_
        refine z_callV hG dX11_findTails_27 LV_X11_181 (ct_X11_isOn l g hI hR1 ⟨by omega, by omega⟩) (by decide) rfl rfl rfl (Nat.le_of_ble_eq_true rfl) ?_
        intro v9 m9 h9
        rw [h9.1, h9.2, ← hEe]
        clear h9 m9 v9
        refine z_if_eq hG dX11_findTails_30 (tgt := 207) rfl (fun zcq30 => ?_) (fun zcq30 => ?_)
        · try simp only [zite_eq0, ne_eq, Classical.not_not] at zcq30
          refine z_iinc hG dX11_findTails_207 (by decide) rfl (by omega) (by omega) (ls2 := [_, _, _, _, _]) rfl ?_
          refine z_goto hG dX11_findTails_210 (tgt := 13) rfl ?_
          refine ih (s - 1) l2 l3 l4 m2 (by omega) (by omega) hF1 ⟨fun p p0 p1 => ⟨h61 p (by omega) p1, fun hp => ?_⟩, ?_, ?_⟩
          · have hne : p ≠ s := by rintro rfl; omega
            rw [h596 59 p (by omega), h596 60 p (by omega)]
            exact (hTd.1 p (by omega) p1).2 hp
          · have := zmax_s hTd.2.1 ⟨by omega, hs⟩
            rw [if_neg (by omega)] at this
            have e := hF1 11 0 0 23
            rw [show m2 11 0 0 23 = m1 11 0 0 23 from h596 11 23 (by omega)]
            exact this
          · rw [zwk_s ⟨by omega, hs⟩, show zwf E s = 0 by unfold zwf; rw [if_neg (by omega)], show m2 11 0 0 24 = m1 11 0 0 24 from h596 11 24 (by omega), hTd.2.2]
            omega
        · try simp only [zite_eq0, ne_eq, Classical.not_not] at zcq30
          refine z_aload_n (i := 0) hG dX11_findTails_33 rfl rfl ?_
          refine z_get_11_19 hG dX11_findTails_34 FL_X11_53 ?_
          refine z_iload_n (i := 1) hG dX11_findTails_37 rfl rfl ?_
          refine z_aload_n (i := 0) hG dX11_findTails_38 rfl rfl ?_
          refine z_iload_n (i := 1) hG dX11_findTails_39 rfl rfl ?_
          refine z_bipush hG dX11_findTails_40 rfl ?_
          refine z_idiv hG dX11_findTails_42 (by omega) (by omega) ?_
          refine z_iload_n (i := 1) hG dX11_findTails_43 rfl rfl ?_
          refine z_bipush hG dX11_findTails_44 rfl ?_
          refine z_irem hG dX11_findTails_46 (by omega) (by omega) ?_
          refine z_aload_n (i := 0) hG dX11_findTails_47 rfl rfl ?_
          refine z_iload_n (i := 1) hG dX11_findTails_48 rfl rfl ?_
          refine z_bipush hG dX11_findTails_49 rfl ?_
          refine z_idiv hG dX11_findTails_51 (by omega) (by omega) ?_
          refine z_iconst hG dX11_findTails_52 rfl ?_
          refine z_callV hG dX11_findTails_53 LV_X11_68 (ct_X11_ofARecipe l g ⟨by omega, by omega⟩ ⟨by decide, by decide⟩) (by decide) rfl rfl rfl (Nat.le_of_ble_eq_true rfl) ?_
          intro v9 m9 h9
          have hon : E 0 s = 1 := by omega
          have hon' : zEc a 0 s = 1 := by rw [← hEe]; exact hon
          have hrr := zon_r hI ⟨by omega, by omega⟩ hon'
          have ho2 := zEc_on hon'
          rw [h9.1, h9.2, (hR1.2.2.2.2.2.2.2.2 (s / 8) (by omega) (by omega) hrr).2.2.1]
          clear h9 m9 v9
          refine z_callV hG dX11_findTails_56 LV_X11_184 (ct_X11_lastsOf l g hI hR1 ⟨by omega, hrr⟩ ⟨by omega, ho2.2⟩) (by decide) rfl rfl rfl (Nat.le_of_ble_eq_true rfl) ?_
          intro v9 m9 h9
          rw [h9.1, h9.2, if_neg (by omega), show zlast a 0 (s / 8) (s % 8) = E 1 s by rw [hEe]; rfl]
          clear h9 m9 v9
          have hok := hEE s (by omega) hs hon
          refine z_iast hG dX11_findTails_59 rfl rfl (by omega) (by omega) ?_
          refine z_iconst hG dX11_findTails_60 rfl ?_
          refine z_istore_n (i := 2) hG dX11_findTails_61 rfl (by decide) (ls2 := [_, _, _, _, _]) rfl ?_
          refine z_iload_n (i := 1) hG dX11_findTails_62 rfl rfl ?_
          refine z_iconst hG dX11_findTails_63 rfl ?_
          refine z_iadd hG dX11_findTails_64 (by omega) (by omega) ?_
          refine z_istore_n (i := 3) hG dX11_findTails_65 rfl (by decide) (ls2 := [_, _, _, _, _]) rfl ?_
          obtain ⟨m3, hm3⟩ : ∃ m3, m3 = zset m2 59 0 0 s (E 1 s) := ⟨_, rfl⟩
          refine z_mem hm3.symm ?_
          have h3o : ∀ (t : Nat) (p : Int), (t ≠ 59 ∨ p ≠ s) → m3 t 0 0 p = m2 t 0 0 p := fun t p h => by
            rw [hm3]
            simp only [zset]
            rw [if_neg (by omega)]
          have h359 : m3 59 0 0 s = E 1 s := by rw [hm3]; simp [zset]
          have hF3 : zFt m3 m := fun t s' j q h1 h2 => by
            rw [hm3]
            simp only [zset]
            rw [if_neg (by omega)]
            exact hF1 t s' j q h1 h2
          clear hm3
          have hTd3 : zTd E m3 s := by
            refine ⟨fun p p0 p1 => ⟨by rw [h3o 61 p (by omega)]; exact h61 p (by omega) p1, fun hp => ?_⟩, ?_, ?_⟩
            · rw [h3o 59 p (by omega), h3o 60 p (by omega), h596 59 p (by omega), h596 60 p (by omega)]
              exact (hTd.1 p (by omega) p1).2 hp
            · rw [h3o 11 23 (by omega), h596 11 23 (by omega)]
              exact hTd.2.1
            · rw [h3o 11 24 (by omega), h596 11 24 (by omega)]
              exact hTd.2.2
          have h61s : m3 61 0 0 s = -6 := by rw [h3o 61 s (by omega)]; exact h61 s (by omega) hs
          have hz0 : (0 : Int) = zmxs (fun j => if E 0 (s + 1 + j) = 1 ∧ zbit (E 3 (s + 1 + j)) (s % 8) then E 4 (s + 1 + j) else 0) (s + 1 - s - 1).toNat := by
            rw [show (s + 1 - s - 1).toNat = 0 by omega]
            rfl
          refine z_forget [true, true, true, true, true] (ls2 := [some (zr 11 0 0), some (zi s), some (zi (zmxs (fun j => if E 0 (s + 1 + j) = 1 ∧ zbit (E 3 (s + 1 + j)) (s % 8) then E 4 (s + 1 + j) else 0) (s + 1 - s - 1).toNat)), some (zi (s + 1)), l4]) (by rw [← hz0]; rfl) (inner (8 * (s / 8 + 1) - s - 1).toNat s (s + 1) l4 m3 ⟨by omega, hs⟩ hon (by omega) (by omega) hF3 hTd3 h359 (fun tl htl => ?_))
          have hE4 : E 4 s = E 1 s + tl := by
            have hrec8 := (hrec (s / 8) (by omega) (by omega)).2.2.1
            have h4 := ((zEc_rc (m := a) (r := s / 8) ⟨by omega, by omega⟩ ho2.1 hrec8) (s % 8) (by omega) (by omega)).1 ho2.2
            rw [show s / 8 * 8 + s % 8 = s by omega, ← hEe] at h4
            rw [h4.2.2.2.2, htl]
            congr 1
            have hz := zmxs_z (f := fun j => if E 0 (s + 1 + j) = 1 ∧ zbit (E 3 (s + 1 + j)) (s % 8) then E 4 (s + 1 + j) else 0) (k := (a 4 0 (s / 8) 2 - s % 8 - 1).toNat) (8 * (s / 8 + 1) - s - 1).toNat (by omega) (fun j j0 j1 => by
              refine if_neg (fun z => ?_)
              have := ((zEc_rc (m := a) (r := s / 8) ⟨by omega, by omega⟩ ho2.1 hrec8) (s % 8 + 1 + j) (by omega) (by omega)).2 (by omega)
              rw [show s / 8 * 8 + (s % 8 + 1 + j) = s + 1 + j by omega, ← hEe] at this
              omega)
            rw [hz]
            refine zmxs_congr _ (fun j j0 j1 => ?_)
            have hj := ((zEc_rc (m := a) (r := s / 8) ⟨by omega, by omega⟩ ho2.1 hrec8) (s % 8 + 1 + j) (by omega) (by omega)).1 (by omega)
            rw [show s / 8 * 8 + (s % 8 + 1 + j) = s + 1 + j by omega, ← hEe] at hj
            rw [show s / 8 * 8 + (s % 8 + 1 + j) = s + 1 + j by omega]
            by_cases z : zbit (E 3 (s + 1 + j)) (s % 8)
            · rw [if_pos z, if_pos ⟨hj.1, z⟩]
            · rw [if_neg z, if_neg (fun y => z y.2)]
          have htl0 : 0 ≤ tl := by rw [htl]; exact zmxs_nn _
          refine z_aload_n (i := 0) hG dX11_findTails_142 rfl rfl ?_
          refine z_get_11_20 hG dX11_findTails_143 FL_X11_56 ?_
          refine z_iload_n (i := 1) hG dX11_findTails_146 rfl rfl ?_
          refine z_aload_n (i := 0) hG dX11_findTails_147 rfl rfl ?_
          refine z_get_11_19 hG dX11_findTails_148 FL_X11_53 ?_
          refine z_iload_n (i := 1) hG dX11_findTails_151 rfl rfl ?_
          refine z_iald hG dX11_findTails_152 rfl rfl (by omega) (by omega) ?_
          rw [h359]
          refine z_iload_n (i := 2) hG dX11_findTails_153 rfl rfl ?_
          refine z_iadd hG dX11_findTails_154 (by omega) (by omega) ?_
          refine z_iast hG dX11_findTails_155 rfl rfl (by omega) (by omega) ?_
          rw [← hE4]
          obtain ⟨m4, hm4⟩ : ∃ m4, m4 = zset m3 60 0 0 s (E 4 s) := ⟨_, rfl⟩
          refine z_mem hm4.symm ?_
          have h4o : ∀ (t : Nat) (p : Int), (t ≠ 60 ∨ p ≠ s) → m4 t 0 0 p = m3 t 0 0 p := fun t p h => by
            rw [hm4]
            simp only [zset]
            rw [if_neg (by omega)]
          have h460 : m4 60 0 0 s = E 4 s := by rw [hm4]; simp [zset]
          have hF4 : zFt m4 m := fun t s' j q h1 h2 => by
            rw [hm4]
            simp only [zset]
            rw [if_neg (by omega)]
            exact hF3 t s' j q h1 h2
          clear hm4
          have hG23 : m4 11 0 0 23 = m3 11 0 0 23 := h4o 11 23 (by omega)
          have hW24 : m4 11 0 0 24 = zwk E s := by rw [h4o 11 24 (by omega)]; exact hTd3.2.2
          refine z_aload_n (i := 0) hG dX11_findTails_156 rfl rfl ?_
          refine z_aload_n (i := 0) hG dX11_findTails_157 rfl rfl ?_
          refine z_get_11_20 hG dX11_findTails_158 FL_X11_56 ?_
          refine z_iload_n (i := 1) hG dX11_findTails_161 rfl rfl ?_
          refine z_iald hG dX11_findTails_162 rfl rfl (by omega) (by omega) ?_
          rw [h460]
          refine z_aload_n (i := 0) hG dX11_findTails_163 rfl rfl ?_
          refine z_getI hG dX11_findTails_164 FL_X11_175 rfl rfl (kk := 23) rfl ?_
          rw [hG23]
          refine z_icmp_le hG dX11_findTails_167 (tgt := 179) rfl (fun zcq167 => ?_) (fun zcq167 => ?_)
          · refine z_aload_n (i := 0) hG dX11_findTails_179 rfl rfl ?_
            refine z_getI hG dX11_findTails_180 FL_X11_175 rfl rfl (kk := 23) rfl ?_
            refine z_top (y := if m3 11 0 0 23 < E 4 s then E 4 s else m3 11 0 0 23) (by
              first
              | (rw [if_pos (by omega)]; done)
              | (rw [if_neg (by omega)]; exact hG23)) ?_
            refine z_put hG dX11_findTails_183 FP_X11_175 rfl rfl (kk := 23) rfl ?_
            obtain ⟨m5, hm5⟩ : ∃ m5, m5 = zset m4 11 0 0 23 (if m3 11 0 0 23 < E 4 s then E 4 s else m3 11 0 0 23) := ⟨_, rfl⟩
            refine z_mem hm5.symm ?_
            have h5o : ∀ (t : Nat) (p : Int), (t ≠ 11 ∨ p ≠ 23) → m5 t 0 0 p = m4 t 0 0 p := fun t p h => by
              rw [hm5]
              simp only [zset]
              rw [if_neg (by omega)]
            have h523 : m5 11 0 0 23 = if m3 11 0 0 23 < E 4 s then E 4 s else m3 11 0 0 23 := by rw [hm5]; simp [zset]
            have hF5 : zFt m5 m := fun t s' j q h1 h2 => by
              rw [hm5]
              simp only [zset]
              rw [if_neg (by omega)]
              exact hF4 t s' j q h1 h2
            clear hm5
            have hR5 := hR45 m5 hF5
            have h559 : m5 59 0 0 s = E 1 s := by rw [h5o 59 s (by omega), h4o 59 s (by omega), h359]
            have h524 : m5 11 0 0 24 = zwk E s := by rw [h5o 11 24 (by omega), hW24]
            have hwb := zwk_bd hEE (s := s)
            have hwp := zmulb (x := E 1 s) (y := E 2 s) (A := 5000) (B := 3) (by omega) (by omega) (by omega) (by omega)
            refine z_aload_n (i := 0) hG dX11_findTails_186 rfl rfl ?_
            first | refine z_dup_r hG dX11_findTails_187 ?_ | refine z_dup_i hG dX11_findTails_187 ?_
            refine z_getI hG dX11_findTails_188 FL_X11_178 rfl rfl (kk := 24) rfl ?_
            rw [h524]
            refine z_aload_n (i := 0) hG dX11_findTails_191 rfl rfl ?_
            refine z_get_11_19 hG dX11_findTails_192 FL_X11_53 ?_
            refine z_iload_n (i := 1) hG dX11_findTails_195 rfl rfl ?_
            refine z_iald hG dX11_findTails_196 rfl rfl (by omega) (by omega) ?_
            rw [h559]
            refine z_aload_n (i := 0) hG dX11_findTails_197 rfl rfl ?_
            refine z_iload_n (i := 1) hG dX11_findTails_198 rfl rfl ?_
            refine z_callV hG dX11_findTails_199 LV_X11_190 (ct_X11_handsOf l g hI hR5 ⟨by omega, by omega⟩ hon') (by decide) rfl rfl rfl (Nat.le_of_ble_eq_true rfl) ?_
            intro v9 m9 h9
            rw [h9.1, h9.2, ← hEe]
            clear h9 m9 v9
            skip
            refine z_imul hG dX11_findTails_202 (by omega) (by omega) ?_
            refine z_iadd hG dX11_findTails_203 (by omega) (by omega) ?_
            refine z_put hG dX11_findTails_204 FP_X11_178 rfl rfl (kk := 24) rfl ?_
            refine z_iinc hG dX11_findTails_207 (by decide) rfl (by omega) (by omega) (ls2 := [_, _, _, _, _]) rfl ?_
            refine z_goto hG dX11_findTails_210 (tgt := 13) rfl ?_
            refine ih (s - 1) _ _ _ _ (by omega) (by omega) (fun t s' j q h1 h2 => ?_) ⟨fun p p0 p1 => ⟨?_, fun hp => ?_⟩, ?_, ?_⟩
            · simp only [zset]
              rw [if_neg (by omega)]
              exact hF5 t s' j q h1 h2
            · simp only [zset]
              rw [if_neg (by omega), h5o 61 p (by omega), h4o 61 p (by omega), h3o 61 p (by omega)]
              exact h61 p (by omega) p1
            · simp only [zset]
              rw [if_neg (by omega), if_neg (by omega), h5o 59 p (by omega), h5o 60 p (by omega), h4o 59 p (by omega)]
              by_cases e : p = s
              · subst e
                exact ⟨h359, h460⟩
              · rw [h4o 60 p (by omega)]
                exact (hTd3.1 p (by omega) p1).2 hp
            · have := zmax_s hTd3.2.1 ⟨by omega, hs⟩
              rw [if_pos hon] at this
              have e : ∀ v : Int, zset m5 11 0 0 24 v 11 0 0 23 = m5 11 0 0 23 := fun v => by simp [zset]
              rw [e, h523]
              exact this
            · rw [zwk_s ⟨by omega, hs⟩, show zwf E s = E 1 s * E 2 s by unfold zwf; rw [if_pos hon]]
              simp [zset]
          · refine z_aload_n (i := 0) hG dX11_findTails_170 rfl rfl ?_
            refine z_get_11_20 hG dX11_findTails_171 FL_X11_56 ?_
            refine z_iload_n (i := 1) hG dX11_findTails_174 rfl rfl ?_
            skip
            refine z_iald hG dX11_findTails_175 rfl rfl (by omega) (by omega) ?_
            rw [h460]
            refine z_goto hG dX11_findTails_176 (tgt := 183) rfl ?_
            refine z_top (y := if m3 11 0 0 23 < E 4 s then E 4 s else m3 11 0 0 23) (by
              first
              | (rw [if_pos (by omega)]; done)
              | (rw [if_neg (by omega)]; exact hG23)) ?_
            refine z_put hG dX11_findTails_183 FP_X11_175 rfl rfl (kk := 23) rfl ?_
            obtain ⟨m5, hm5⟩ : ∃ m5, m5 = zset m4 11 0 0 23 (if m3 11 0 0 23 < E 4 s then E 4 s else m3 11 0 0 23) := ⟨_, rfl⟩
            refine z_mem hm5.symm ?_
            have h5o : ∀ (t : Nat) (p : Int), (t ≠ 11 ∨ p ≠ 23) → m5 t 0 0 p = m4 t 0 0 p := fun t p h => by
              rw [hm5]
              simp only [zset]
              rw [if_neg (by omega)]
            have h523 : m5 11 0 0 23 = if m3 11 0 0 23 < E 4 s then E 4 s else m3 11 0 0 23 := by rw [hm5]; simp [zset]
            have hF5 : zFt m5 m := fun t s' j q h1 h2 => by
              rw [hm5]
              simp only [zset]
              rw [if_neg (by omega)]
              exact hF4 t s' j q h1 h2
            clear hm5
            have hR5 := hR45 m5 hF5
            have h559 : m5 59 0 0 s = E 1 s := by rw [h5o 59 s (by omega), h4o 59 s (by omega), h359]
            have h524 : m5 11 0 0 24 = zwk E s := by rw [h5o 11 24 (by omega), hW24]
            have hwb := zwk_bd hEE (s := s)
            have hwp := zmulb (x := E 1 s) (y := E 2 s) (A := 5000) (B := 3) (by omega) (by omega) (by omega) (by omega)
            refine z_aload_n (i := 0) hG dX11_findTails_186 rfl rfl ?_
            first | refine z_dup_r hG dX11_findTails_187 ?_ | refine z_dup_i hG dX11_findTails_187 ?_
            refine z_getI hG dX11_findTails_188 FL_X11_178 rfl rfl (kk := 24) rfl ?_
            rw [h524]
            refine z_aload_n (i := 0) hG dX11_findTails_191 rfl rfl ?_
            refine z_get_11_19 hG dX11_findTails_192 FL_X11_53 ?_
            refine z_iload_n (i := 1) hG dX11_findTails_195 rfl rfl ?_
            refine z_iald hG dX11_findTails_196 rfl rfl (by omega) (by omega) ?_
            rw [h559]
            refine z_aload_n (i := 0) hG dX11_findTails_197 rfl rfl ?_
            refine z_iload_n (i := 1) hG dX11_findTails_198 rfl rfl ?_
            refine z_callV hG dX11_findTails_199 LV_X11_190 (ct_X11_handsOf l g hI hR5 ⟨by omega, by omega⟩ hon') (by decide) rfl rfl rfl (Nat.le_of_ble_eq_true rfl) ?_
            intro v9 m9 h9
            rw [h9.1, h9.2, ← hEe]
            clear h9 m9 v9
            skip
            refine z_imul hG dX11_findTails_202 (by omega) (by omega) ?_
            refine z_iadd hG dX11_findTails_203 (by omega) (by omega) ?_
            refine z_put hG dX11_findTails_204 FP_X11_178 rfl rfl (kk := 24) rfl ?_
            refine z_iinc hG dX11_findTails_207 (by decide) rfl (by omega) (by omega) (ls2 := [_, _, _, _, _]) rfl ?_
            refine z_goto hG dX11_findTails_210 (tgt := 13) rfl ?_
            refine ih (s - 1) _ _ _ _ (by omega) (by omega) (fun t s' j q h1 h2 => ?_) ⟨fun p p0 p1 => ⟨?_, fun hp => ?_⟩, ?_, ?_⟩
            · simp only [zset]
              rw [if_neg (by omega)]
              exact hF5 t s' j q h1 h2
            · simp only [zset]
              rw [if_neg (by omega), h5o 61 p (by omega), h4o 61 p (by omega), h3o 61 p (by omega)]
              exact h61 p (by omega) p1
            · simp only [zset]
              rw [if_neg (by omega), if_neg (by omega), h5o 59 p (by omega), h5o 60 p (by omega), h4o 59 p (by omega)]
              by_cases e : p = s
              · subst e
                exact ⟨h359, h460⟩
              · rw [h4o 60 p (by omega)]
                exact (hTd3.1 p (by omega) p1).2 hp
            · have := zmax_s hTd3.2.1 ⟨by omega, hs⟩
              rw [if_pos hon] at this
              have e : ∀ v : Int, zset m5 11 0 0 24 v 11 0 0 23 = m5 11 0 0 23 := fun v => by simp [zset]
              rw [e, h523]
              exact this
            · rw [zwk_s ⟨by omega, hs⟩, show zwf E s = E 1 s * E 2 s by unfold zwf; rw [if_pos hon]]
              simp [zset]
  refine z_aload_n (i := 0) hG dX11_findTails_0 rfl rfl ?_
  refine z_iconst hG dX11_findTails_1 rfl ?_
  refine z_put hG dX11_findTails_2 FP_X11_175 rfl rfl (kk := 23) rfl ?_
  refine z_aload_n (i := 0) hG dX11_findTails_5 rfl rfl ?_
  refine z_iconst hG dX11_findTails_6 rfl ?_
  refine z_put hG dX11_findTails_7 FP_X11_178 rfl rfl (kk := 24) rfl ?_
  refine z_bipush hG dX11_findTails_10 rfl ?_
  refine z_istore_n (i := 1) hG dX11_findTails_12 rfl (by decide) (ls2 := [_, _, _, _, _]) rfl ?_
  refine outer 32 31 none none none _ rfl (by decide) (fun t s j q h1 h2 => ?_) ⟨fun p p0 p1 => by omega, ⟨by simp [zset], fun p p0 p1 p2 p3 => by omega, Or.inl (by simp [zset])⟩, by rw [zwk_31]; simp [zset]⟩
  simp only [zset]
  rw [if_neg (by omega), if_neg (by omega)]
