theorem zRel_up {a a' : zM} {f : Int → Int} (h : zRel a 0 f) (hA : ∀ (t : Nat) (j k : Int), (t ≠ 14 ∧ t ≠ 3) ∨ j < a 2 0 0 4 → a' t 0 j k = a t 0 j k) : zRel a' 0 f := by
  obtain ⟨h0, h1, h2, h3, h4, h5, hi, hz, hr⟩ := h
  have hA2 : ∀ k : Int, a' 2 0 0 k = a 2 0 0 k := fun k => hA 2 0 k (by omega)
  refine ⟨by rw [hA2, h0], by rw [hA2, h1], by rw [hA2, h2], by rw [hA2, h3], by rw [hA2, h4], by rw [hA2, h5], fun j j0 j1 j2 => ?_, fun j k j0 j1 j2 k0 k1 => ?_, fun r r0 r1 r2 => ?_⟩
  · rw [hA2] at j2
    exact zRi_mv (fun _ _ _ => rfl) (fun t' k hh => hA t' j k (by omega)) (hA2 0) (hi j j0 j1 j2)
  · rw [hA2] at j2
    exact hz j k j0 j1 j2 k0 k1
  · rw [hA2] at r2
    exact zRr_mv (fun _ _ _ => rfl) (fun t' k hh => hA t' r k (by omega)) (fun k w k0 k1 => hA 5 _ w (by omega)) (hr r r0 r1 r2)
theorem zRel_car {b : zM} {W : zPl} {f : Int → Int} {k : Nat} (hk : b 2 0 0 4 ≤ k) (h : zRel (zcarry W k b) 0 f) : ∀ n : Nat, zRel (zcarry W (k + n) b) 0 f
  | 0 => h
  | n + 1 => by
    have ih := zRel_car hk h n
    refine zRel_up ih (fun t j q hh => ?_)
    show zcar1 W ((k + n : Nat) : Int) (zcarry W (k + n) b) t 0 j q = _
    refine zcar1_out ?_
    rw [zcarry_out (k + n) b (by omega)] at hh
    omega
set_option maxRecDepth 20000 in
theorem ct_X11_takeOut (l : Launch) (g : zG) {A m : zM} {i w t : Int} (hi : 0 ≤ i ∧ i < 8) (ht : 0 ≤ t ∧ t ≤ 3000) (hA : A 2 0 0 0 = t) (hm0 : m 45 0 0 0 = t) (hri : zRi A 0 i (m 45 0 0)) (hlot : ∀ j : Int, 0 ≤ j → j < 30 → 0 ≤ A 14 0 i j ∧ A 14 0 i j ≤ 12000000) (hw : 0 ≤ w ∧ w ≤ 200000) : zMet l g Y_X11_takeOut [zr 11 0 0, zi i, zi w] m (fun v m' => v = none ∧ zRi (ztake 0 i t 30 1 w A) 0 i (m' 45 0 0) ∧ (∀ (t' : Nat) (s j q : Int), (t' ≠ 45 ∨ q < 6 + 46 * i + 15 ∨ 52 + 46 * i ≤ q) → m' t' s j q = m t' s j q)) := by
  refine zMet_introF (by decide +kernel) (Nat.le_of_ble_eq_true rfl) (ls0 := [some (zr 11 0 0), some (zi i), some (zi w), none, none, none]) rfl fun X hG hE => ?_
  have hG : zGood X l g RX11 cX11_takeOut 2 6 := hG
  have hE : zEnd X (none) _ := hE
  have loop : ∀ (N : Nat) (d lf : Int) (A0 M : zM) (part : Option zV), 1 ≤ d → d + N = 31 → 0 ≤ lf ∧ lf ≤ 200000 → A0 2 0 0 0 = t → zRi A0 0 i (M 45 0 0) → (∀ j : Int, 0 ≤ j → j < 30 → 0 ≤ A0 14 0 i j ∧ A0 14 0 i j ≤ 12000000) → ztake 0 i t N d lf A0 = ztake 0 i t 30 1 w A → (∀ (t' : Nat) (s j q : Int), (t' ≠ 45 ∨ q < 6 + 46 * i + 15 ∨ 52 + 46 * i ≤ q) → M t' s j q = m t' s j q) → zZ X 12 [some (zr 11 0 0), some (zi i), some (zi w), some (zi lf), some (zi (t + d)), part] [] M := by
    intro N
    induction N with
    | zero =>
      intro d lf A0 M part hd0 hd hl hA0 hr0 hb0 hz ho
      have hM0 : M 45 0 0 0 = t := by rw [ho 45 0 0 0 (by omega), hm0]
      refine z_iload hG dX11_takeOut_12 rfl ?_
      refine z_aload_n (i := 0) hG dX11_takeOut_14 rfl rfl ?_
      refine z_get_11_0 hG dX11_takeOut_15 FL_X11_7 ?_
      refine z_iconst hG dX11_takeOut_18 rfl ?_
      refine z_iald hG dX11_takeOut_19 rfl rfl (by omega) (by omega) ?_
      rw [hM0]
      refine z_bipush hG dX11_takeOut_20 rfl ?_
      refine z_iadd hG dX11_takeOut_22 (by omega) (by omega) ?_
      refine z_icmp_ge hG dX11_takeOut_23 (tgt := 78) rfl (fun zcq23 => ?_) (fun zcq23 => ?_)
      · refine z_vret hG hE dX11_takeOut_78 ?_
        exact ⟨rfl, by rw [← hz]; exact hr0, ho⟩
      · exact absurd zcq23 (by omega)
    | succ N ih =>
      intro d lf A0 M part hd0 hd hl hA0 hr0 hb0 hz ho
      have hM0 : M 45 0 0 0 = t := by rw [ho 45 0 0 0 (by omega), hm0]
      have hL : M 45 0 0 (6 + 46 * i + (15 + (t + d) % 31)) = A0 14 0 i ((t + d) % 30) := by
        have := hr0.2.2.2.2.2.2.2.2.2.2.2.1 d hd0 (by omega)
        rw [hA0] at this
        exact this
      have hbl := hb0 ((t + d) % 30) (by omega) (by omega)
      rw [ztake] at hz
      obtain ⟨pt, hpt⟩ : ∃ pt : Int, pt = (if A0 14 0 i ((t + d) % 30) < lf then A0 14 0 i ((t + d) % 30) else lf) := ⟨_, rfl⟩
      rw [← hpt] at hz
      have hpb : 0 ≤ pt ∧ pt ≤ lf ∧ pt ≤ A0 14 0 i ((t + d) % 30) := by rw [hpt]; split <;> omega
      refine z_iload hG dX11_takeOut_12 rfl ?_
      refine z_aload_n (i := 0) hG dX11_takeOut_14 rfl rfl ?_
      refine z_get_11_0 hG dX11_takeOut_15 FL_X11_7 ?_
      refine z_iconst hG dX11_takeOut_18 rfl ?_
      refine z_iald hG dX11_takeOut_19 rfl rfl (by omega) (by omega) ?_
      rw [hM0]
      refine z_bipush hG dX11_takeOut_20 rfl ?_
      refine z_iadd hG dX11_takeOut_22 (by omega) (by omega) ?_
      refine z_icmp_ge hG dX11_takeOut_23 (tgt := 78) rfl (fun zcq23 => ?_) (fun zcq23 => ?_)
      · exact absurd zcq23 (by omega)
      · refine z_aload_n (i := 0) hG dX11_takeOut_26 rfl rfl ?_
        refine z_iload_n (i := 1) hG dX11_takeOut_27 rfl rfl ?_
        refine z_iload hG dX11_takeOut_28 rfl ?_
        refine z_callV hG dX11_takeOut_30 LV_X11_97 (ct_X11_lotOn l g hi (by omega)) (by decide) rfl rfl rfl (Nat.le_of_ble_eq_true rfl) ?_
        intro v9 m9 h9
        rw [h9.1, h9.2, hL]
        clear h9 m9 v9
        refine z_iload_n (i := 3) hG dX11_takeOut_33 rfl rfl ?_
        refine z_icmp_ge hG dX11_takeOut_34 (tgt := 47) rfl (fun zcq34 => ?_) (fun zcq34 => ?_)
        · refine z_iload_n (i := 3) hG dX11_takeOut_47 rfl rfl ?_
          refine z_top (y := pt) (by
            rw [hpt]
            first
            | (rw [if_pos (by omega)]; done)
            | (rw [if_neg (by omega)]; done)) ?_
          refine z_istore hG dX11_takeOut_48 (by decide) (ls2 := [_, _, _, _, _, _]) rfl ?_
          refine z_aload_n (i := 0) hG dX11_takeOut_50 rfl rfl ?_
          refine z_iload_n (i := 1) hG dX11_takeOut_51 rfl rfl ?_
          refine z_iload hG dX11_takeOut_52 rfl ?_
          refine z_aload_n (i := 0) hG dX11_takeOut_54 rfl rfl ?_
          refine z_iload_n (i := 1) hG dX11_takeOut_55 rfl rfl ?_
          refine z_iload hG dX11_takeOut_56 rfl ?_
          refine z_callV hG dX11_takeOut_58 LV_X11_97 (ct_X11_lotOn l g hi (by omega)) (by decide) rfl rfl rfl (Nat.le_of_ble_eq_true rfl) ?_
          intro v9 m9 h9
          rw [h9.1, h9.2, hL]
          clear h9 m9 v9
          refine z_iload hG dX11_takeOut_61 rfl ?_
          refine z_isub hG dX11_takeOut_63 (by omega) (by omega) ?_
          refine z_callV hG dX11_takeOut_64 LV_X11_100 (ct_X11_layLot l g hi (by omega)) (by decide) rfl rfl rfl (Nat.le_of_ble_eq_true rfl) ?_
          intro v9 m9 h9
          rw [h9.1, h9.2]
          clear h9 m9 v9
          refine z_iload_n (i := 3) hG dX11_takeOut_67 rfl rfl ?_
          refine z_iload hG dX11_takeOut_68 rfl ?_
          refine z_isub hG dX11_takeOut_70 (by omega) (by omega) ?_
          refine z_istore_n (i := 3) hG dX11_takeOut_71 rfl (by decide) (ls2 := [_, _, _, _, _, _]) rfl ?_
          refine z_iinc hG dX11_takeOut_72 (by decide) rfl (by omega) (by omega) (ls2 := [_, _, _, _, _, _]) rfl ?_
          refine z_goto hG dX11_takeOut_75 (tgt := 12) rfl ?_
          rw [show t + d + 1 = t + (d + 1) by omega]
          refine ih (d + 1) (lf - pt) (zset A0 14 0 i ((t + d) % 30) (A0 14 0 i ((t + d) % 30) - pt)) _ _ (by omega) (by omega) (by omega) (by simp [zset, hA0]) (zRi_lot (a := A0) (d := d) (v := A0 14 0 i ((t + d) % 30) - pt) (by omega) hr0 ⟨hd0, by omega⟩ (fun q q0 q1 => ?_) (fun k => by simp [zset]) (fun k => by simp [zset]) (fun k => by simp [zset]) (by simp [zset]) (fun q q0 q1 => ?_)) (fun j j0 j1 => ?_) hz (fun t' s j q hh => ?_)
          · rw [hA0]
            simp only [zset]
            by_cases e : q = 6 + 46 * i + (15 + (t + d) % 31)
            · rw [if_pos (by first | omega | (simp; done) | (simp; omega)), if_pos e]
            · rw [if_neg (by omega), if_neg e]
          · rw [hA0]
            simp only [zset]
            by_cases e : q = (t + d) % 30
            · rw [if_pos (by simp [e]), if_pos e]
            · rw [if_neg (by simp [e]), if_neg e]
          · have := hb0 j j0 j1
            simp only [zset]
            split <;> omega
          · simp only [zset]
            rw [if_neg (by omega)]
            exact ho t' s j q hh
        · refine z_aload_n (i := 0) hG dX11_takeOut_37 rfl rfl ?_
          refine z_iload_n (i := 1) hG dX11_takeOut_38 rfl rfl ?_
          refine z_iload hG dX11_takeOut_39 rfl ?_
          refine z_callV hG dX11_takeOut_41 LV_X11_97 (ct_X11_lotOn l g hi (by omega)) (by decide) rfl rfl rfl (Nat.le_of_ble_eq_true rfl) ?_
          intro v9 m9 h9
          rw [h9.1, h9.2, hL]
          clear h9 m9 v9
          refine z_goto hG dX11_takeOut_44 (tgt := 48) rfl ?_
          refine z_top (y := pt) (by
            rw [hpt]
            first
            | (rw [if_pos (by omega)]; done)
            | (rw [if_neg (by omega)]; done)) ?_
          refine z_istore hG dX11_takeOut_48 (by decide) (ls2 := [_, _, _, _, _, _]) rfl ?_
          refine z_aload_n (i := 0) hG dX11_takeOut_50 rfl rfl ?_
          refine z_iload_n (i := 1) hG dX11_takeOut_51 rfl rfl ?_
          refine z_iload hG dX11_takeOut_52 rfl ?_
          refine z_aload_n (i := 0) hG dX11_takeOut_54 rfl rfl ?_
          refine z_iload_n (i := 1) hG dX11_takeOut_55 rfl rfl ?_
          refine z_iload hG dX11_takeOut_56 rfl ?_
          refine z_callV hG dX11_takeOut_58 LV_X11_97 (ct_X11_lotOn l g hi (by omega)) (by decide) rfl rfl rfl (Nat.le_of_ble_eq_true rfl) ?_
          intro v9 m9 h9
          rw [h9.1, h9.2, hL]
          clear h9 m9 v9
          refine z_iload hG dX11_takeOut_61 rfl ?_
          refine z_isub hG dX11_takeOut_63 (by omega) (by omega) ?_
          refine z_callV hG dX11_takeOut_64 LV_X11_100 (ct_X11_layLot l g hi (by omega)) (by decide) rfl rfl rfl (Nat.le_of_ble_eq_true rfl) ?_
          intro v9 m9 h9
          rw [h9.1, h9.2]
          clear h9 m9 v9
          refine z_iload_n (i := 3) hG dX11_takeOut_67 rfl rfl ?_
          refine z_iload hG dX11_takeOut_68 rfl ?_
          refine z_isub hG dX11_takeOut_70 (by omega) (by omega) ?_
          refine z_istore_n (i := 3) hG dX11_takeOut_71 rfl (by decide) (ls2 := [_, _, _, _, _, _]) rfl ?_
          refine z_iinc hG dX11_takeOut_72 (by decide) rfl (by omega) (by omega) (ls2 := [_, _, _, _, _, _]) rfl ?_
          refine z_goto hG dX11_takeOut_75 (tgt := 12) rfl ?_
          rw [show t + d + 1 = t + (d + 1) by omega]
          refine ih (d + 1) (lf - pt) (zset A0 14 0 i ((t + d) % 30) (A0 14 0 i ((t + d) % 30) - pt)) _ _ (by omega) (by omega) (by omega) (by simp [zset, hA0]) (zRi_lot (a := A0) (d := d) (v := A0 14 0 i ((t + d) % 30) - pt) (by omega) hr0 ⟨hd0, by omega⟩ (fun q q0 q1 => ?_) (fun k => by simp [zset]) (fun k => by simp [zset]) (fun k => by simp [zset]) (by simp [zset]) (fun q q0 q1 => ?_)) (fun j j0 j1 => ?_) hz (fun t' s j q hh => ?_)
          · rw [hA0]
            simp only [zset]
            by_cases e : q = 6 + 46 * i + (15 + (t + d) % 31)
            · rw [if_pos (by first | omega | (simp; done) | (simp; omega)), if_pos e]
            · rw [if_neg (by omega), if_neg e]
          · rw [hA0]
            simp only [zset]
            by_cases e : q = (t + d) % 30
            · rw [if_pos (by simp [e]), if_pos e]
            · rw [if_neg (by simp [e]), if_neg e]
          · have := hb0 j j0 j1
            simp only [zset]
            split <;> omega
          · simp only [zset]
            rw [if_neg (by omega)]
            exact ho t' s j q hh
  refine z_iload_n (i := 2) hG dX11_takeOut_0 rfl rfl ?_
  refine z_istore_n (i := 3) hG dX11_takeOut_1 rfl (by decide) (ls2 := [_, _, _, _, _, _]) rfl ?_
  refine z_aload_n (i := 0) hG dX11_takeOut_2 rfl rfl ?_
  refine z_get_11_0 hG dX11_takeOut_3 FL_X11_7 ?_
  refine z_iconst hG dX11_takeOut_6 rfl ?_
  refine z_iald hG dX11_takeOut_7 rfl rfl (by omega) (by omega) ?_
  rw [hm0]
  refine z_iconst hG dX11_takeOut_8 rfl ?_
  refine z_iadd hG dX11_takeOut_9 (by omega) (by omega) ?_
  refine z_istore hG dX11_takeOut_10 (by decide) (ls2 := [_, _, _, _, _, _]) rfl ?_
  exact loop 30 1 w A m none (by decide) rfl hw hA hri hlot rfl (fun _ _ _ _ _ => rfl)
set_option maxRecDepth 20000 in
theorem ct_X11_cook (l : Launch) (g : zG) {a m : zM} {B : Int} (hI : zInv B a) (hB : B ≤ 11900000) (hR : zRM a m) : zMet l g Y_X11_cook [zr 11 0 0] m (fun v m' => v = some (zi (zk_cook a).1) ∧ zRM (zk_cook a).2 m' ∧ zKt m' m ∧ zplb (zPl0 a)) := by
  refine zMet_introF (by decide +kernel) (Nat.le_of_ble_eq_true rfl) (ls0 := [some (zr 11 0 0), none]) rfl fun X hG hE => ?_
  have hG : zGood X l g RX11 cX11_cook 8 2 := hG
  have hE : zEnd X (some .int) _ := hE
  have hI0 := zInv0 hI
  obtain ⟨hday, hhan, hing, hrcp, hrec, hboo, hrow, hrow2, hstp⟩ := id hI0
  obtain ⟨⟨e0, e1, e2, e3, e4, e5, eI, eZ, eR⟩, eN, eP, eS, e6, eT⟩ := id hR
  have hb : ∀ (t : Nat) (i k : Int), t ≠ 1 → zrecd a t 0 i k = a t 0 i k := fun t i k ht => zrecd_0 hI.1.1.1 ht
  have hK := zRM_keep hI.1.1 hI.1.2 (fun s s0 s1 => (hI.2.2.1 s s0 s1).1.1) hR

  have hmp := zIS_mp hI0 (by omega)
  refine z_aload_n (i := 0) hG dX11_cook_0 rfl rfl ?_
  refine z_callV hG dX11_cook_1 LV_X11_161 (ct_X11_canCook l g hmp hR.1) (by decide) rfl rfl rfl (Nat.le_of_ble_eq_true rfl) ?_
  intro v9 m1 h9
  obtain ⟨h9a, hW, hbw, hO⟩ := h9
  rw [h9a]
  clear h9a v9
  refine z_if_ne hG dX11_cook_4 (tgt := 10) rfl (fun zcq4 => ?_) (fun zcq4 => ?_)
  · try simp only [zite_eq0, ne_eq, Classical.not_not] at zcq4
    refine z_aload_n (i := 0) hG dX11_cook_10 rfl rfl ?_
    refine z_callV hG dX11_cook_11 LV_X11_80 (ct_X11_keep l g (by rw [hO 11 0 0 2 (by omega) (by omega), eN]; exact hI.1.2)) (by decide) rfl rfl rfl (Nat.le_of_ble_eq_true rfl) ?_
    intro v9 m9 h9
    rw [h9.1, h9.2]
    clear h9 m9 v9
    have hRM1 : zRM a m1 := zRM_now hR (fun _ _ _ _ _ => rfl) (fun t k hh => hO t 0 0 k (by omega) (by omega)) (by rw [zMo_45 hO]; exact hR.1)
    have hK1 := zRM_keep hI.1.1 hI.1.2 (fun s s0 s1 => (hI.2.2.1 s s0 s1).1.1) hRM1
    have hkt : zKt (zkp m1) m := fun t s i k h1 h2 => by rw [zkp_o (by omega) (by omega)]; exact hO t s i k (by omega) (by omega)
    have hWn : zMod (zkp m1) (zPl0 a) := zMod_congr hW (fun t q h1 h2 => zkp_o (by omega) (by omega))
    clear hK
    generalize zkp m1 = n at *
    refine z_iconst hG dX11_cook_14 rfl ?_
    refine z_istore_n (i := 1) hG dX11_cook_15 rfl (by decide) (ls2 := [_, _]) rfl ?_
    have hcc : zmss (zPl0 a 6) 8 = 0 ∧ zhp a := by assumption
    obtain ⟨W, hWe⟩ : ∃ W, W = zPl0 a := ⟨_, rfl⟩
    rw [← hWe] at hWn hbw
    obtain ⟨b, hbe⟩ : ∃ b, b = zrecd a := ⟨_, rfl⟩
    rw [← hbe] at hK1 hb
    have hb20 : ∀ k, b 2 0 0 k = a 2 0 0 k := fun k => hb 2 0 k (by decide)
    have fin : ∀ (N k : Nat) (Mp M : zM), (k : Int) + N = a 2 0 0 5 → zRel (zcarry W 8 b) 0 (Mp 45 0 0) → (∀ (t : Nat) (s j q : Int), t ≠ 45 → M t s j q = n t s j q) → (∀ q : Int, (∀ r : Int, 0 ≤ r → r < k → q ≠ 374 + 43 * r + 2) → M 45 0 0 q = Mp 45 0 0 q) → (∀ r : Int, 0 ≤ r → r < k → M 45 0 0 (374 + 43 * r + 2) = 0) → zZ X 119 [some (zr 11 0 0), some (zi k)] [] M := by
      intro N
      induction N with
      | zero =>
        intro k Mp M hk hRl ho hq hr0
        have hc2 : ∀ q : Int, zcarry W 8 b 2 0 0 q = a 2 0 0 q := fun q => by rw [zcarry_out 8 b (by omega), hb20]
        have hWM : zMod M W := zMod_congr hWn (fun t q h1 h2 => ho t 0 0 q (by omega))
        have hq0 : ∀ q : Int, q < 374 → M 45 0 0 q = Mp 45 0 0 q := fun q h => hq q (fun r r0 r1 => by omega)
        have hM2 : M 45 0 0 2 = a 2 0 0 5 := by rw [hq0 2 (by decide), hRl.2.2.1, hc2]
        have hM4 : M 45 0 0 4 = a 2 0 0 2 := by rw [hq0 4 (by decide), hRl.2.2.2.2.1, hc2]
        have hM5 : M 45 0 0 5 = a 2 0 0 3 := by rw [hq0 5 (by decide), hRl.2.2.2.2.2.1, hc2]
        refine z_iload_n (i := 1) hG dX11_cook_119 rfl rfl ?_
        refine z_aload_n (i := 0) hG dX11_cook_120 rfl rfl ?_
        refine z_get_11_0 hG dX11_cook_121 FL_X11_7 ?_
        refine z_iconst hG dX11_cook_124 rfl ?_
        refine z_iald hG dX11_cook_125 rfl rfl (by omega) (by omega) ?_
        rw [hM2]
        refine z_icmp_ge hG dX11_cook_126 (tgt := 151) rfl (fun zcq126 => ?_) (fun zcq126 => ?_)
        · refine z_aload_n (i := 0) hG dX11_cook_151 rfl rfl ?_
          refine z_get_11_0 hG dX11_cook_152 FL_X11_7 ?_
          refine z_iconst hG dX11_cook_155 rfl ?_
          refine z_dup2 hG dX11_cook_156 ?_
          refine z_iald hG dX11_cook_157 rfl rfl (by omega) (by omega) ?_
          rw [hM4]
          refine z_aload_n (i := 0) hG dX11_cook_158 rfl rfl ?_
          refine z_aload_n (i := 0) hG dX11_cook_159 rfl rfl ?_
          refine z_get_11_14 hG dX11_cook_160 FL_X11_47 ?_
          refine z_callV hG dX11_cook_163 LV_X11_167 (ct_sum7 l g hWM hbw) (by decide) rfl rfl rfl (Nat.le_of_ble_eq_true rfl) ?_
          intro v9 m9 h9
          rw [h9.1, h9.2]
          clear h9 m9 v9
          refine z_iaddw hG dX11_cook_166 ?_
          refine z_iast hG dX11_cook_167 rfl rfl (by omega) (by omega) ?_
          refine z_aload_n (i := 0) hG dX11_cook_168 rfl rfl ?_
          refine z_get_11_0 hG dX11_cook_169 FL_X11_7 ?_
          refine z_iconst hG dX11_cook_172 rfl ?_
          refine z_dup2 hG dX11_cook_173 ?_
          refine z_iald hG dX11_cook_174 rfl rfl (by omega) (by omega) ?_
          rw [show ∀ v : Int, zset M 45 0 0 4 v 45 0 0 5 = a 2 0 0 3 from fun v => by rw [← hM5]; simp [zset]]
          refine z_iconst hG dX11_cook_175 rfl ?_
          refine z_iaddw hG dX11_cook_176 ?_
          refine z_iast hG dX11_cook_177 rfl rfl (by omega) (by omega) ?_
          obtain ⟨M2, hM2e⟩ : ∃ M2, M2 = zset (zset M 45 0 0 4 (zwr (a 2 0 0 2 + zsum 8 (W 7)))) 45 0 0 5 (zwr (a 2 0 0 3 + 1)) := ⟨_, rfl⟩
          refine z_mem hM2e.symm ?_
          have hM2o : ∀ (t : Nat) (s j q : Int), t ≠ 45 → M2 t s j q = n t s j q := fun t s j q h => by
            rw [hM2e]
            simp only [zset]
            rw [if_neg (by omega), if_neg (by omega)]
            exact ho t s j q h
          have hWM2 : zMod M2 W := zMod_congr hWn (fun t q h1 h2 => hM2o t 0 0 q (by omega))
          refine z_aload_n (i := 0) hG dX11_cook_178 rfl rfl ?_
          refine z_aload_n (i := 0) hG dX11_cook_179 rfl rfl ?_
          refine z_get_11_14 hG dX11_cook_180 FL_X11_47 ?_
          refine z_callV hG dX11_cook_183 LV_X11_167 (ct_sum7 l g hWM2 hbw) (by decide) rfl rfl rfl (Nat.le_of_ble_eq_true rfl) ?_
          intro v9 m9 h9
          rw [h9.1, h9.2]
          clear h9 m9 v9
          refine z_iret hG hE dX11_cook_186 trivial ?_
          obtain ⟨Af, hAf⟩ : ∃ Af, Af = (zk_cook a).2 := ⟨_, rfl⟩
          have hv : (zk_cook a).1 = zsum 8 (W 7) := by
            rw [zk_cook, if_neg (fun z => z hcc), hWe]
          rw [hv, ← hAf]
          rw [zk_cook, if_neg (fun z => z hcc), ← hWe, ← hbe] at hAf
          simp only at hAf
          have hAo : ∀ (t : Nat) (s j q : Int), (t ≠ 4 ∨ s ≠ 0 ∨ q ≠ 1) → (t ≠ 2 ∨ s ≠ 0 ∨ (q ≠ 2 ∧ q ≠ 3)) → Af t s j q = zcarry W 8 b t s j q := fun t s j q h1 h2 => by
            rw [hAf]
            simp only [zempty, zset]
            rw [if_neg (by omega), if_neg (by omega), if_neg (by omega)]
          have hA22 : Af 2 0 0 2 = zwr (a 2 0 0 2 + zsum 8 (W 7)) := by rw [hAf]; simp [zempty, zset]
          have hA23 : Af 2 0 0 3 = zwr (a 2 0 0 3 + 1) := by rw [hAf]; simp [zempty, zset]
          have hA41 : ∀ r : Int, 0 ≤ r → r < 4 → Af 4 0 r 1 = 0 := fun r r0 r1 => by
            rw [hAf]
            simp only [zempty]
            rw [if_pos (by simp; omega)]
          clear hAf
          have hM2q : ∀ q : Int, q ≠ 4 → q ≠ 5 → M2 45 0 0 q = M 45 0 0 q := fun q h1 h2 => by
            rw [hM2e]
            simp only [zset]
            rw [if_neg (by omega), if_neg (by omega)]
          have hM24 : M2 45 0 0 4 = zwr (a 2 0 0 2 + zsum 8 (W 7)) := by rw [hM2e]; simp [zset]
          have hM25 : M2 45 0 0 5 = zwr (a 2 0 0 3 + 1) := by rw [hM2e]; simp [zset]
          have hc20 : ∀ q : Int, q ≠ 2 → q ≠ 3 → Af 2 0 0 q = a 2 0 0 q := fun q h1 h2 => by rw [hAo 2 0 0 q (by omega) (by omega), hc2]
          obtain ⟨g0, g1, g2, g3, g4, g5, gi, gz, gr⟩ := hRl
          refine ⟨rfl, zRM_now hK1 (fun t s j q hh => by rw [hAo t s j q (by omega) (by omega), zcarry_out 8 b (by omega)]) (fun t q hh => hM2o t 0 0 q (by omega)) ⟨?_, ?_, ?_, ?_, ?_, ?_, fun j j0 j1 j2 => ?_, fun j q j0 j1 j2 q0 q1 => ?_, fun r r0 r1 r2 => ?_⟩, fun t s j q h1 h2 => by rw [hM2o t s j q (by omega)]; exact hkt t s j q h1 h2, by rw [← hWe]; exact hbw⟩
          · rw [hM2q 0 (by decide) (by decide), hq0 0 (by decide), g0, hAo 2 0 0 0 (by omega) (by omega)]
          · rw [hM2q 1 (by decide) (by decide), hq0 1 (by decide), g1, hAo 2 0 0 4 (by omega) (by omega)]
          · rw [hM2q 2 (by decide) (by decide), hq0 2 (by decide), g2, hAo 2 0 0 5 (by omega) (by omega)]
          · rw [hM2q 3 (by decide) (by decide), hq0 3 (by decide), g3, hAo 2 0 0 1 (by omega) (by omega)]
          · rw [hM24, hA22]
          · rw [hM25, hA23]
          · rw [hAo 2 0 0 4 (by omega) (by omega)] at j2
            exact zRi_mv (fun q q0 q1 => by rw [hM2q q (by omega) (by omega), hq0 q (by omega)]) (fun t q hh => hAo t 0 j q (by omega) (by omega)) (hAo 2 0 0 0 (by omega) (by omega)) (gi j j0 j1 j2)
          · rw [hAo 2 0 0 4 (by omega) (by omega)] at j2
            rw [hM2q _ (by omega) (by omega), hq0 _ (by omega)]
            exact gz j q j0 j1 j2 q0 q1
          · rw [hAo 2 0 0 5 (by omega) (by omega)] at r2
            have hrr : r < k := by rw [hc2] at r2; omega
            obtain ⟨a0, a1, a2, a3, a4⟩ := gr r r0 r1 r2
            have hqr : ∀ q : Int, 374 + 43 * r ≤ q → q < 417 + 43 * r → q ≠ 374 + 43 * r + 2 → M2 45 0 0 q = Mp 45 0 0 q := fun q q0 q1 q2 => by
              rw [hM2q q (by omega) (by omega)]
              exact hq q (fun r' r0' r1' => by omega)
            rw [zRr, hAo 4 0 r 0 (by omega) (by omega), hAo 4 0 r 2 (by omega) (by omega), hA41 r r0 r1]
            refine ⟨?_, ?_, ?_, fun q q0 q1 => ?_, fun q w q0 q1 q2 w0 w1 => ?_⟩
            · rw [hqr _ (by omega) (by omega) (by omega), a0]
            · rw [hqr _ (by omega) (by omega) (by omega), a1]
            · rw [hM2q _ (by omega) (by omega), hr0 r r0 hrr]
            · rw [hqr _ (by omega) (by omega) (by omega), hAo 17 0 r q (by omega) (by omega)]
              exact a3 q q0 q1
            · rw [hqr _ (by omega) (by omega) (by omega), hAo 5 0 _ w (by omega) (by omega)]
              exact a4 q w q0 q1 q2 w0 w1
        · exact absurd zcq126 (by omega)
      | succ N ih =>
        intro k Mp M hk hRl ho hq hr0
        have hc2 : ∀ q : Int, zcarry W 8 b 2 0 0 q = a 2 0 0 q := fun q => by rw [zcarry_out 8 b (by omega), hb20]
        have hM2 : M 45 0 0 2 = a 2 0 0 5 := by rw [hq 2 (fun r r0 r1 => by omega), hRl.2.2.1, hc2]
        refine z_iload_n (i := 1) hG dX11_cook_119 rfl rfl ?_
        refine z_aload_n (i := 0) hG dX11_cook_120 rfl rfl ?_
        refine z_get_11_0 hG dX11_cook_121 FL_X11_7 ?_
        refine z_iconst hG dX11_cook_124 rfl ?_
        refine z_iald hG dX11_cook_125 rfl rfl (by omega) (by omega) ?_
        rw [hM2]
        refine z_icmp_ge hG dX11_cook_126 (tgt := 151) rfl (fun zcq126 => ?_) (fun zcq126 => ?_)
        · exact absurd zcq126 (by omega)
        · refine z_aload_n (i := 0) hG dX11_cook_129 rfl rfl ?_
          refine z_get_11_0 hG dX11_cook_130 FL_X11_7 ?_
          refine z_sipush hG dX11_cook_133 rfl ?_
          refine z_bipush hG dX11_cook_136 rfl ?_
          refine z_iload_n (i := 1) hG dX11_cook_138 rfl rfl ?_
          refine z_imul hG dX11_cook_139 (by omega) (by omega) ?_
          refine z_iadd hG dX11_cook_140 (by omega) (by omega) ?_
          refine z_iconst hG dX11_cook_141 rfl ?_
          refine z_iadd hG dX11_cook_142 (by omega) (by omega) ?_
          refine z_iconst hG dX11_cook_143 rfl ?_
          refine z_iast hG dX11_cook_144 rfl rfl (by omega) (by omega) ?_
          refine z_iinc hG dX11_cook_145 (by decide) rfl (by omega) (by omega) (ls2 := [_, _]) rfl ?_
          refine z_goto hG dX11_cook_148 (tgt := 119) rfl ?_
          refine ih (k + 1) Mp _ (by omega) hRl (fun t s j q h => ?_) (fun q hh => ?_) (fun r r0 r1 => ?_)
          · simp only [zset]
            rw [if_neg (by omega)]
            exact ho t s j q h
          · have hne := hh k (by omega) (by omega)
            simp only [zset]
            rw [if_neg (by omega)]
            exact hq q (fun r r0 r1 => hh r r0 (by omega))
          · simp only [zset]
            by_cases e : r = (k : Int)
            · rw [if_pos (by simp [e])]
            · rw [if_neg (by omega)]
              exact hr0 r r0 (by omega)
    have loop : ∀ (N k : Nat) (M : zM), (k : Int) + N = a 2 0 0 4 → zRel (zcarry W k b) 0 (M 45 0 0) → (∀ (t : Nat) (s j q : Int), t ≠ 45 → M t s j q = n t s j q) → zZ X 16 [some (zr 11 0 0), some (zi k)] [] M := by
      intro N
      induction N with
      | zero =>
        intro k M hk hRl ho
        have hM1 : M 45 0 0 1 = a 2 0 0 4 := by rw [hRl.2.1, zcarry_out k b (by omega), hb20]
        refine z_iload_n (i := 1) hG dX11_cook_16 rfl rfl ?_
        refine z_aload_n (i := 0) hG dX11_cook_17 rfl rfl ?_
        refine z_get_11_0 hG dX11_cook_18 FL_X11_7 ?_
        refine z_iconst hG dX11_cook_21 rfl ?_
        refine z_iald hG dX11_cook_22 rfl rfl (by omega) (by omega) ?_
        rw [hM1]
        refine z_icmp_ge hG dX11_cook_23 (tgt := 117) rfl (fun zcq23 => ?_) (fun zcq23 => ?_)
        · refine z_iconst hG dX11_cook_117 rfl ?_
          refine z_istore_n (i := 1) hG dX11_cook_118 rfl (by decide) (ls2 := [_, _]) rfl ?_
          have h8 := zRel_car (k := k) (by rw [hb20]; omega) hRl (8 - k)
          rw [show k + (8 - k) = 8 by omega] at h8
          exact fin (a 2 0 0 5).toNat 0 M M (by omega) h8 ho (fun _ _ => rfl) (fun r r0 r1 => by omega)
        · exact absurd zcq23 (by omega)
      | succ N ih =>
        intro k M hk hRl ho
        have hk8 : (k : Int) < 8 := by omega
        have hM1 : M 45 0 0 1 = a 2 0 0 4 := by rw [hRl.2.1, zcarry_out k b (by omega), hb20]
        have hWM : zMod M W := zMod_congr hWn (fun t q h1 h2 => ho t 0 0 q (by omega))
        have hWk := hWM k (by omega) hk8
        have hbk := hbw k (by omega) hk8
        obtain ⟨A, hAe⟩ : ∃ A, A = zcarry W k b := ⟨_, rfl⟩
        rw [← hAe] at hRl
        have hA2 : ∀ q : Int, A 2 0 0 q = a 2 0 0 q := fun q => by rw [hAe, zcarry_out k b (by omega), hb20]
        have hA3 : ∀ q : Int, A 3 0 k q = a 3 0 k q := fun q => by rw [hAe, zcarry_out k b (by omega), hb 3 _ _ (by decide)]
        have hA14 : ∀ q : Int, A 14 0 k q = a 14 0 k q := fun q => by rw [hAe, zcarry_out k b (by omega), hb 14 _ _ (by decide)]
        have hrw := hrow k (by omega) hk8
        have hri := hRl.2.2.2.2.2.2.1 k (by omega) hk8 (by rw [hA2]; omega)
        have hM0 : M 45 0 0 0 = a 2 0 0 0 := by rw [hRl.1, hA2]
        have hlots : ∀ j : Int, 0 ≤ j → j < 30 → 0 ≤ A 14 0 k j ∧ A 14 0 k j ≤ 12000000 := fun j j0 j1 => by rw [hA14]; have := hrw.2.1 j j0 j1; omega
        refine z_iload_n (i := 1) hG dX11_cook_16 rfl rfl ?_
        refine z_aload_n (i := 0) hG dX11_cook_17 rfl rfl ?_
        refine z_get_11_0 hG dX11_cook_18 FL_X11_7 ?_
        refine z_iconst hG dX11_cook_21 rfl ?_
        refine z_iald hG dX11_cook_22 rfl rfl (by omega) (by omega) ?_
        rw [hM1]
        refine z_icmp_ge hG dX11_cook_23 (tgt := 117) rfl (fun zcq23 => ?_) (fun zcq23 => ?_)
        · exact absurd zcq23 (by omega)
        · refine z_aload_n (i := 0) hG dX11_cook_26 rfl rfl ?_
          refine z_iload_n (i := 1) hG dX11_cook_27 rfl rfl ?_
          refine z_aload_n (i := 0) hG dX11_cook_28 rfl rfl ?_
          refine z_get_11_9 hG dX11_cook_29 FL_X11_32 ?_
          refine z_iload_n (i := 1) hG dX11_cook_32 rfl rfl ?_
          refine z_iald hG dX11_cook_33 rfl rfl (by omega) (by omega) ?_
          rw [hWk.1.2.2.1]
          refine z_callV hG dX11_cook_34 LV_X11_164 (ct_X11_takeOut l g (t := a 2 0 0 0) ⟨by omega, hk8⟩ hday (hA2 0) hM0 hri hlots ⟨by omega, by omega⟩) (by decide) rfl rfl rfl (Nat.le_of_ble_eq_true rfl) ?_
          intro v9 Mt h9
          obtain ⟨h9a, hrt, hto⟩ := h9
          rw [h9a]
          clear h9a v9
          have hMt0 : Mt 45 0 0 0 = a 2 0 0 0 := by rw [hto 45 0 0 0 (by omega), hM0]
          have hMtk : Mt 45 0 0 (6 + 46 * (k : Int)) = a 3 0 k 0 := by rw [hto 45 0 0 _ (by omega), hri.1, hA3]
          obtain ⟨At, hAt⟩ : ∃ At, At = ztake 0 k (a 2 0 0 0) 30 1 (W 2 k) A := ⟨_, rfl⟩
          rw [← hAt] at hrt
          have hAto : ∀ (t : Nat) (s j q : Int), (t ≠ 14 ∨ s ≠ 0 ∨ j ≠ k ∨ ¬ (0 ≤ q ∧ q < 30)) → At t s j q = A t s j q := fun t s j q h => by rw [hAt]; exact ztake_out 30 1 (W 2 k) A t s j q h
          have hAtb := ztake_bd (s := 0) (i := (k : Int)) (t := a 2 0 0 0) 30 1 (W 2 k) A hbk.2.2.1.1 (fun j j0 j1 => (hlots j j0 j1).1)
          rw [← hAt] at hAtb
          have hkd : 1 ≤ a 3 0 k 0 ∧ a 3 0 k 0 ≤ 30 := ⟨hrw.2.2.2.2.2 (by omega), hrw.2.2.1.2⟩
          have hlt : 0 ≤ Mt 45 0 0 (6 + 46 * (k : Int) + (15 + (a 2 0 0 0 + a 3 0 k 0) % 31)) ∧ Mt 45 0 0 (6 + 46 * (k : Int) + (15 + (a 2 0 0 0 + a 3 0 k 0) % 31)) ≤ 12000000 := by
            have h1 := hrt.2.2.2.2.2.2.2.2.2.2.2.1 (a 3 0 k 0) hkd.1 hkd.2
            rw [hAto 2 0 0 0 (by omega), hA2] at h1
            rw [h1]
            have h2 := hAtb ((a 2 0 0 0 + a 3 0 k 0) % 30) (by omega) (by omega)
            have h3 := hlots ((a 2 0 0 0 + a 3 0 k 0) % 30) (by omega) (by omega)
            omega
          have e54 : Mt 54 0 0 k = W 4 k := by rw [hto 54 0 0 k (by omega)]; exact hWk.1.2.2.2.2.1
          have join : ∀ M2 : zM, (∀ (t : Nat) (s j q : Int), t ≠ 45 → M2 t s j q = n t s j q) → (∀ q : Int, M2 45 0 0 q = if q = 6 + 46 * (k : Int) + (15 + (a 2 0 0 0 + a 3 0 k 0) % 31) then Mt 45 0 0 q + W 4 k else Mt 45 0 0 q) → zZ X 57 [some (zr 11 0 0), some (zi k)] [] M2 := by
            intro M2 h2o h2q
            have hW2 := zMod_congr hWn (m2 := M2) (fun t q h1 h2 => h2o t 0 0 q (by omega))
            have hW2k := hW2 k (by omega) hk8
            have f5 : M2 45 0 0 (6 + 46 * (k : Int) + 5) = a 3 0 k 8 := by rw [h2q, if_neg (by omega), hto 45 0 0 _ (by omega), hri.2.2.2.2.2.2.1, hA3]
            have f6 : ∀ v : Int, zset M2 45 0 0 (6 + 46 * (k : Int) + 5) v 45 0 0 (6 + 46 * (k : Int) + 6) = a 3 0 k 9 := fun v => by
              simp only [zset]
              rw [if_neg (by omega), h2q, if_neg (by omega), hto 45 0 0 _ (by omega), hri.2.2.2.2.2.2.2.1, hA3]
            have fo : ∀ (t : Nat) (v q : Int), t ≠ 45 → zset M2 45 0 0 (6 + 46 * (k : Int) + 5) v t 0 0 q = M2 t 0 0 q := fun t v q h => by
              simp only [zset]
              rw [if_neg (by omega)]
            refine z_aload_n (i := 0) hG dX11_cook_57 rfl rfl ?_
            refine z_iload_n (i := 1) hG dX11_cook_58 rfl rfl ?_
            refine z_iconst hG dX11_cook_59 rfl ?_
            refine z_aload_n (i := 0) hG dX11_cook_60 rfl rfl ?_
            refine z_iload_n (i := 1) hG dX11_cook_61 rfl rfl ?_
            refine z_iconst hG dX11_cook_62 rfl ?_
            refine z_callV hG dX11_cook_63 LV_X11_87 (ct_X11_of l g ⟨by omega, by omega⟩ ⟨by omega, by omega⟩) (by decide) rfl rfl rfl (Nat.le_of_ble_eq_true rfl) ?_
            intro v9 m9 h9
            rw [h9.1, h9.2]
            clear h9 m9 v9
            rw [f5]
            refine z_aload_n (i := 0) hG dX11_cook_66 rfl rfl ?_
            refine z_get_11_10 hG dX11_cook_67 FL_X11_35 ?_
            refine z_iload_n (i := 1) hG dX11_cook_70 rfl rfl ?_
            refine z_iald hG dX11_cook_71 rfl rfl (by omega) (by omega) ?_
            rw [hW2k.1.2.2.2.1]
            refine z_iaddw hG dX11_cook_72 ?_
            refine z_callV hG dX11_cook_73 LV_X11_83 (ct_X11_lay l g ⟨by omega, by omega⟩ ⟨by omega, by omega⟩) (by decide) rfl rfl rfl (Nat.le_of_ble_eq_true rfl) ?_
            intro v9 m9 h9
            rw [h9.1, h9.2]
            clear h9 m9 v9
            refine z_aload_n (i := 0) hG dX11_cook_76 rfl rfl ?_
            refine z_iload_n (i := 1) hG dX11_cook_77 rfl rfl ?_
            refine z_bipush hG dX11_cook_78 rfl ?_
            refine z_aload_n (i := 0) hG dX11_cook_80 rfl rfl ?_
            refine z_iload_n (i := 1) hG dX11_cook_81 rfl rfl ?_
            refine z_bipush hG dX11_cook_82 rfl ?_
            refine z_callV hG dX11_cook_84 LV_X11_87 (ct_X11_of l g ⟨by omega, by omega⟩ ⟨by omega, by omega⟩) (by decide) rfl rfl rfl (Nat.le_of_ble_eq_true rfl) ?_
            intro v9 m9 h9
            rw [h9.1, h9.2]
            clear h9 m9 v9
            rw [f6]
            refine z_aload_n (i := 0) hG dX11_cook_87 rfl rfl ?_
            refine z_get_11_9 hG dX11_cook_88 FL_X11_32 ?_
            refine z_iload_n (i := 1) hG dX11_cook_91 rfl rfl ?_
            refine z_iald hG dX11_cook_92 rfl rfl (by omega) (by omega) ?_
            rw [fo 52 _ _ (by decide), hW2k.1.2.2.1]
            refine z_iaddw hG dX11_cook_93 ?_
            refine z_aload_n (i := 0) hG dX11_cook_94 rfl rfl ?_
            refine z_get_11_10 hG dX11_cook_95 FL_X11_35 ?_
            refine z_iload_n (i := 1) hG dX11_cook_98 rfl rfl ?_
            refine z_iald hG dX11_cook_99 rfl rfl (by omega) (by omega) ?_
            rw [fo 53 _ _ (by decide), hW2k.1.2.2.2.1]
            refine z_iaddw hG dX11_cook_100 ?_
            refine z_aload_n (i := 0) hG dX11_cook_101 rfl rfl ?_
            refine z_get_11_11 hG dX11_cook_102 FL_X11_38 ?_
            refine z_iload_n (i := 1) hG dX11_cook_105 rfl rfl ?_
            refine z_iald hG dX11_cook_106 rfl rfl (by omega) (by omega) ?_
            rw [fo 54 _ _ (by decide), hW2k.1.2.2.2.2.1]
            refine z_isubw hG dX11_cook_107 ?_
            rw [zwr_ad, zwr_sb, show a 3 0 (k : Int) 9 + W 2 k + W 3 k - W 4 k = a 3 0 (k : Int) 9 + (W 2 k + W 3 k - W 4 k) by omega]
            refine z_callV hG dX11_cook_108 LV_X11_83 (ct_X11_lay l g ⟨by omega, by omega⟩ ⟨by omega, by omega⟩) (by decide) rfl rfl rfl (Nat.le_of_ble_eq_true rfl) ?_
            intro v9 m9 h9
            rw [h9.1, h9.2]
            clear h9 m9 v9
            refine z_iinc hG dX11_cook_111 (by decide) rfl (by omega) (by omega) (ls2 := [_, _]) rfl ?_
            refine z_goto hG dX11_cook_114 (tgt := 16) rfl ?_
            refine ih (k + 1) _ (by omega) ?_ (fun t s j q h => ?_)
            · show zRel (zcar1 W k (zcarry W k b)) 0 _
              rw [← hAe]
              obtain ⟨C, hC⟩ : ∃ C, C = zcar1 W k A := ⟨_, rfl⟩
              rw [← hC]
              have hCo : ∀ (t : Nat) (s j q : Int), (t ≠ 14 ∧ t ≠ 3) ∨ s ≠ 0 ∨ j ≠ k ∨ (t = 3 ∧ q ≠ 8 ∧ q ≠ 9) → C t s j q = A t s j q := fun t s j q h => by rw [hC]; exact zcar1_out h
              have hCe : C = zset (zset (zset At 14 0 k ((a 2 0 0 0 + a 3 0 k 0) % 30) (At 14 0 k ((a 2 0 0 0 + a 3 0 k 0) % 30) + W 4 k)) 3 0 k 8 (zwr (a 3 0 k 8 + W 3 k))) 3 0 k 9 (zwr (a 3 0 k 9 + (W 2 k + W 3 k - W 4 k))) := by
                rw [hC]
                simp only [zcar1]
                rw [hA2, ← hAt, hAto 2 0 0 0 (by omega), hAto 3 0 k 0 (by omega), hA2, hA3]
                have e8 : ∀ u v : Int, zset At 14 0 k u v 3 0 k 8 = a 3 0 k 8 := fun u v => by
                  simp only [zset]
                  rw [if_neg (by omega), hAto 3 0 k 8 (by omega), hA3]
                have e9 : ∀ u v w : Int, zset (zset At 14 0 k u v) 3 0 k 8 w 3 0 k 9 = a 3 0 k 9 := fun u v w => by
                  simp only [zset]
                  rw [if_neg (by omega), if_neg (by omega), hAto 3 0 k 9 (by omega), hA3]
                rw [e8, e9]
              refine zRel_i (k : Int) ⟨by omega, hk8⟩ hRl (fun q q1 q2 => ?_) (fun t j q hh => hCo t 0 j q (by omega)) ?_ (fun q hq => by rw [hCo 2 0 0 4 (by omega)]) (by rw [hCo 2 0 0 4 (by omega), hA2]; omega) ?_
              · simp only [zset]
                rw [if_neg (by omega), if_neg (by omega), h2q, if_neg (by omega), hto 45 0 0 q (by omega)]
              · simp only [zset]
                rw [if_neg (by omega), if_neg (by omega), h2q, if_neg (by omega), hto 45 0 0 1 (by omega), hRl.2.1, hCo 2 0 0 4 (by omega)]
              · have hp := zRi_put (a := At) (a' := zset At 14 0 k ((a 2 0 0 0 + a 3 0 k 0) % 30) (At 14 0 k ((a 2 0 0 0 + a 3 0 k 0) % 30) + W 4 k)) (x := W 4 k) (f' := M2 45 0 0) (by rw [hAto 2 0 0 0 (by omega), hA2]; exact hday.1) hrt (by rw [hAto 3 0 k 0 (by omega), hA3]; exact hkd) (fun q q0 q1 => by rw [hAto 2 0 0 0 (by omega), hAto 3 0 k 0 (by omega), hA2, hA3, h2q]) (fun q => by simp [zset]) (fun q => by simp [zset]) (fun q => by simp [zset]) (by simp [zset]) (fun q => by
                  rw [hAto 2 0 0 0 (by omega), hAto 3 0 k 0 (by omega), hA2, hA3]
                  simp only [zset]
                  by_cases e : q = (a 2 0 0 0 + a 3 0 k 0) % 30
                  · rw [if_pos (by simp [e]), if_pos e, e]
                  · rw [if_neg (by simp [e]), if_neg e])
                have e10 : C 3 0 k 10 = a 3 0 k 10 := by rw [hCo 3 0 k 10 (by omega), hA3]
                have e11 : C 3 0 k 11 = a 3 0 k 11 := by rw [hCo 3 0 k 11 (by omega), hA3]
                refine zRi_8 hp (fun q q0 q1 q2 => ?_) (fun t q hh => ?_) ?_ ?_ ?_ ?_ ?_
                · simp only [zset]
                  rw [if_neg (by omega), if_neg (by omega)]
                · rw [hCe]
                  simp only [zset]
                  rw [if_neg (by omega), if_neg (by omega)]
                · rw [hCe]
                  simp [zset]
                · rw [hCe]
                  simp only [zset]
                  rw [if_neg (by omega), if_pos (by first | omega | (simp; done) | (simp; omega)), if_neg (by omega), if_pos (by first | omega | (simp; done) | (simp; omega))]
                · rw [hCe]
                  simp only [zset]
                  rw [if_pos (by first | omega | (simp; done) | (simp; omega)), if_pos (by first | omega | (simp; done) | (simp; omega))]
                · rw [e10]
                  simp only [zset]
                  rw [if_neg (by omega), if_neg (by omega), h2q, if_neg (by omega), hto 45 0 0 _ (by omega), hri.2.2.2.2.2.2.2.2.1, hA3]
                · rw [e11]
                  simp only [zset]
                  rw [if_neg (by omega), if_neg (by omega), h2q, if_neg (by omega), hto 45 0 0 _ (by omega), hri.2.2.2.2.2.2.2.2.2.1, hA3]
            · simp only [zset]
              rw [if_neg (by omega), if_neg (by omega)]
              exact h2o t s j q h
          refine z_aload_n (i := 0) hG dX11_cook_37 rfl rfl ?_
          refine z_get_11_11 hG dX11_cook_38 FL_X11_38 ?_
          refine z_iload_n (i := 1) hG dX11_cook_41 rfl rfl ?_
          refine z_iald hG dX11_cook_42 rfl rfl (by omega) (by omega) ?_
          rw [e54]
          refine z_if_le hG dX11_cook_43 (tgt := 57) rfl (fun zcq43 => ?_) (fun zcq43 => ?_)
          · first
            | (refine join _ (fun t s j q h => ?_) (fun q => ?_)
               · simp only [zset]
                 rw [if_neg (by omega), hto t s j q (by omega)]
                 exact ho t s j q h
               · simp only [zset]
                 by_cases e : q = 6 + 46 * (k : Int) + (15 + (a 2 0 0 0 + a 3 0 k 0) % 31)
                 · rw [if_pos (by simp [e]), if_pos e, e]
                 · rw [if_neg (by simp [e]), if_neg e])
            | (refine join _ (fun t s j q h => by rw [hto t s j q (by omega)]; exact ho t s j q h) (fun q => ?_)
               have e4 : W 4 k = 0 := by omega
               rw [e4, Int.add_zero]
               split <;> rfl)
          · refine z_aload_n (i := 0) hG dX11_cook_46 rfl rfl ?_
            refine z_iload_n (i := 1) hG dX11_cook_47 rfl rfl ?_
            refine z_aload_n (i := 0) hG dX11_cook_48 rfl rfl ?_
            refine z_get_11_11 hG dX11_cook_49 FL_X11_38 ?_
            refine z_iload_n (i := 1) hG dX11_cook_52 rfl rfl ?_
            refine z_iald hG dX11_cook_53 rfl rfl (by omega) (by omega) ?_
            rw [e54]
            refine z_callV hG dX11_cook_54 LV_X11_108 (ct_X11_putIn l g (D := a 2 0 0 0 + a 3 0 k 0) ⟨by omega, hk8⟩ (by have := hrw.2.2.1; omega) (by rw [hMt0, hMtk]) ⟨by omega, by omega⟩ hlt) (by decide) rfl rfl rfl (Nat.le_of_ble_eq_true rfl) ?_
            intro v9 m9 h9
            rw [h9.1, h9.2]
            clear h9 m9 v9
            first
            | (refine join _ (fun t s j q h => ?_) (fun q => ?_)
               · simp only [zset]
                 rw [if_neg (by omega), hto t s j q (by omega)]
                 exact ho t s j q h
               · simp only [zset]
                 by_cases e : q = 6 + 46 * (k : Int) + (15 + (a 2 0 0 0 + a 3 0 k 0) % 31)
                 · rw [if_pos (by simp [e]), if_pos e, e]
                 · rw [if_neg (by simp [e]), if_neg e])
            | (refine join _ (fun t s j q h => by rw [hto t s j q (by omega)]; exact ho t s j q h) (fun q => ?_)
               have e4 : W 4 k = 0 := by omega
               rw [e4, Int.add_zero]
               split <;> rfl)
    exact loop (a 2 0 0 4).toNat 0 n (by omega) hK1.1 (fun _ _ _ _ _ => rfl)
  · try simp only [zite_eq0, ne_eq, Classical.not_not] at zcq4
    refine z_bipush hG dX11_cook_7 rfl ?_
    refine z_iret hG hE dX11_cook_9 trivial ?_
    rw [zk_cook, if_pos (by assumption)]
    exact ⟨rfl, zRM_now hR (fun _ _ _ _ _ => rfl) (fun t k hh => hO t 0 0 k (by omega) (by omega)) (by rw [zMo_45 hO]; exact hR.1), fun t s i k h1 h2 => hO t s i k (by omega) (by omega), hbw⟩
