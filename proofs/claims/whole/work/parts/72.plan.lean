/-- what is done about what is left -/
noncomputable def zrst (D : zD) (i left : Int) (W : zPl) : zPl := if D 2 i 0 ≠ 0 ∧ 0 < D 3 i 0 then zbuyW D i left W else if 0 ≤ D 6 i 0 ∧ W 0 (D 6 i 0) + zmore D i left ≤ 100000 then zrepW D i left W else zps0 W 6 i left
theorem zps_rst (D : zD) (i : Int) (W : zPl) : zps D i W = if W 0 i - (if D 1 i 0 < W 0 i then D 1 i 0 else W 0 i) ≤ 0 then zps0 W 2 i (if D 1 i 0 < W 0 i then D 1 i 0 else W 0 i) else zrst D i (W 0 i - (if D 1 i 0 < W 0 i then D 1 i 0 else W 0 i)) (zps0 W 2 i (if D 1 i 0 < W 0 i then D 1 i 0 else W 0 i)) := rfl
theorem zMo_rf {m : zM} : zMo m m := fun _ _ _ _ _ _ => rfl
theorem zMo_tr {a b c : zM} (h : zMo a b) (h2 : zMo b c) : zMo a c := fun t s j q h1 h3 => by rw [h t s j q h1 h3, h2 t s j q h1 h3]
theorem zMo_set {a b : zM} (h : zMo a b) {t : Nat} {s j q v : Int} (ht : 50 ≤ t ∧ t ≤ 58) : zMo (zset a t s j q v) b := fun t' s' j' q' h1 h3 => by
  simp only [zset]
  rw [if_neg (by omega)]
  exact h t' s' j' q' h1 h3
theorem zMo_45 {a b : zM} (h : zMo a b) : a 45 0 0 = b 45 0 0 := funext fun q => h 45 0 0 q (by omega) (by omega)
theorem zMod_1 {m : zM} {W : zPl} (h : zMod m W) (t : Nat) (i v : Int) (ht : 50 ≤ t ∧ t ≤ 57) : zMod (zset m t 0 0 i v) (zps0 W (t - 50) i v) := by
  intro j j0 j1
  obtain ⟨⟨a0, a1, a2, a3, a4, a5, a6, a7⟩, b0, b1, b2⟩ := h j j0 j1
  rcases (show t = 50 ∨ t = 51 ∨ t = 52 ∨ t = 53 ∨ t = 54 ∨ t = 55 ∨ t = 56 ∨ t = 57 by omega) with rfl | rfl | rfl | rfl | rfl | rfl | rfl | rfl <;> simp [zMr, zset, zps0, *]
set_option maxRecDepth 20000 in
theorem ct_X11_buy (l : Launch) (g : zG) {a m : zM} {i w : Int} {W : zPl} (hp : zmp a) (hR : zRel a 0 (m 45 0 0)) (hi : 0 ≤ i ∧ i < a 2 0 0 4) (hk : 0 < a 3 0 i 2) (hw : 1 ≤ w ∧ w ≤ 100000) (hW : zMod m W) (hb : zplb W) : zMet l g Y_X11_buy [zr 11 0 0, zi i, zi w] m (fun v m' => v = none ∧ zMod m' (zbuyW (zDc a) i w W) ∧ zplb (zbuyW (zDc a) i w W) ∧ zMo m' m) := by
  refine zMet_introF (by decide +kernel) (Nat.le_of_ble_eq_true rfl) (ls0 := [some (zr 11 0 0), some (zi i), some (zi w)]) rfl fun X hG hE => ?_
  have hG : zGood X l g RX11 cX11_buy 4 3 := hG
  have hE : zEnd X (none) _ := hE
  have hi8 : 0 ≤ i ∧ i < 8 := ⟨hi.1, by have := hp.1.2.1; omega⟩
  have hri := hR.2.2.2.2.2.2.1 i hi.1 hi8.2 hi.2
  obtain ⟨hkin, hlot, hrep⟩ := hp.1.2.2 i hi.1 hi8.2

  have hok : zSPok (a 3 0 i 2) (fun k => m 45 0 0 (6 + 46 * i + (9 + 2 * k))) (fun k => m 45 0 0 (6 + 46 * i + (9 + 2 * k + 1))) := fun k k0 k1 => by
    have h1 := hri.2.2.2.2.2.2.2.2.2.2.1 k k0 (by have := hkin.1; omega) k1
    simp only [h1.1, h1.2]
    exact ⟨hkin.2.1 k k0 k1, hkin.2.2.1 k k0 k1⟩
  refine z_aload_n (i := 0) hG dX11_buy_0 rfl rfl ?_
  refine z_iload_n (i := 1) hG dX11_buy_1 rfl rfl ?_
  refine z_iload_n (i := 2) hG dX11_buy_2 rfl rfl ?_
  refine z_callV hG dX11_buy_3 LV_X11_135 (ct_X11_findTins l g (S := fun k => m 45 0 0 (6 + 46 * i + (9 + 2 * k))) (Pr := fun k => m 45 0 0 (6 + 46 * i + (9 + 2 * k + 1))) hi8 (fun k k0 k1 => ⟨rfl, rfl⟩) hri.2.2.1 (by have := hkin.1; omega) hok hw) (by decide) rfl rfl rfl (Nat.le_of_ble_eq_true rfl) ?_
  intro v9 m1 h9
  obtain ⟨h9a, x0, x1, x2, hbest, hx, hm, hcb, ho⟩ := h9
  rw [h9a]
  clear h9a v9
  have hover := zBest_over hbest hw.1 (fun k k0 k1 => ⟨Int.lt_of_lt_of_le (by decide) (hok k k0 k1).1.1, (hok k k0 k1).1.2⟩) (fun k k0 k1 => (hok k k0 k1).2.1)
  have hS : ∀ k : Int, 0 ≤ k → k < a 3 0 i 2 → m 45 0 0 (6 + 46 * i + (9 + 2 * k)) = a 12 0 i k := fun k k0 k1 => (hri.2.2.2.2.2.2.2.2.2.2.1 k k0 (by have := hkin.1; omega) k1).1
  have hP : ∀ k : Int, 0 ≤ k → k < a 3 0 i 2 → m 45 0 0 (6 + 46 * i + (9 + 2 * k + 1)) = a 13 0 i k := fun k k0 k1 => (hri.2.2.2.2.2.2.2.2.2.2.1 k k0 (by have := hkin.1; omega) k1).2
  have hbt : zbt (zDc a 3 i 0) (zDc a 4 i) (zDc a 5 i) w = (x0, x1, x2) := zbt_eq (zBest_congr hS hP hbest)
  have hky := zky_congr hS hP hbest.1
  have e16 : m1 11 0 0 16 = zct (zDc a) i (x0, x1, x2) := by rw [hm.1, hky]; rfl
  have e17 : m1 11 0 0 17 = zwt (zDc a) i (x0, x1, x2) := by rw [hm.2, hky]; rfl
  have hov : 0 ≤ zwt (zDc a) i (x0, x1, x2) - w ∧ zwt (zDc a) i (x0, x1, x2) - w ≤ 2000 := by rw [← e17, hm.2]; exact hover
  have hcb2 : 0 ≤ zct (zDc a) i (x0, x1, x2) ∧ zct (zDc a) i (x0, x1, x2) ≤ 15000000 := by rw [← e16, hm.1]; exact hcb
  have z16 : ∀ (t : Nat) (v : Int) (q : Int), t ≠ 11 → zset m1 t 0 0 i v 11 0 0 q = m1 11 0 0 q := fun t v q h => by simp [zset, Ne.symm h]
  have z17 : ∀ (t u : Nat) (v x : Int) (q : Int), t ≠ 11 → u ≠ 11 → zset (zset m1 t 0 0 i v) u 0 0 i x 11 0 0 q = m1 11 0 0 q := fun t u v x q h h2 => by simp [zset, Ne.symm h, Ne.symm h2]
  refine z_aload_n (i := 0) hG dX11_buy_6 rfl rfl ?_
  refine z_get_11_14 hG dX11_buy_7 FL_X11_47 ?_
  refine z_iload_n (i := 1) hG dX11_buy_10 rfl rfl ?_
  refine z_aload_n (i := 0) hG dX11_buy_11 rfl rfl ?_
  refine z_getI hG dX11_buy_12 FL_X11_118 rfl rfl (kk := 16) rfl ?_
  rw [e16]
  refine z_iast hG dX11_buy_15 rfl rfl (by omega) (by omega) ?_
  refine z_aload_n (i := 0) hG dX11_buy_16 rfl rfl ?_
  refine z_get_11_10 hG dX11_buy_17 FL_X11_35 ?_
  refine z_iload_n (i := 1) hG dX11_buy_20 rfl rfl ?_
  refine z_aload_n (i := 0) hG dX11_buy_21 rfl rfl ?_
  refine z_getI hG dX11_buy_22 FL_X11_121 rfl rfl (kk := 17) rfl ?_
  rw [z16 57 _ _ (by decide), e17]
  refine z_iast hG dX11_buy_25 rfl rfl (by omega) (by omega) ?_
  refine z_aload_n (i := 0) hG dX11_buy_26 rfl rfl ?_
  refine z_get_11_11 hG dX11_buy_27 FL_X11_38 ?_
  refine z_iload_n (i := 1) hG dX11_buy_30 rfl rfl ?_
  refine z_aload_n (i := 0) hG dX11_buy_31 rfl rfl ?_
  refine z_getI hG dX11_buy_32 FL_X11_121 rfl rfl (kk := 17) rfl ?_
  rw [z17 57 53 _ _ _ (by decide) (by decide), e17]
  refine z_iload_n (i := 2) hG dX11_buy_35 rfl rfl ?_
  refine z_isub hG dX11_buy_36 (by omega) (by omega) ?_
  refine z_iast hG dX11_buy_37 rfl rfl (by omega) (by omega) ?_
  refine z_vret hG hE dX11_buy_38 ?_
  have hWb : zbuyW (zDc a) i w W = zps0 (zps0 (zps0 (zps0 (zps0 (zps0 W 3 i (zwt (zDc a) i (x0, x1, x2))) 4 i (zwt (zDc a) i (x0, x1, x2) - w)) 7 i (zct (zDc a) i (x0, x1, x2))) 8 i x0) 9 i x1) 10 i x2 := by
    unfold zbuyW
    rw [hbt]
  rw [hWb]
  refine ⟨rfl, fun j j0 j1 => ?_, fun j j0 j1 => ?_, fun t s j q h1 h2 => ?_⟩
  · obtain ⟨⟨a0, a1, a2, a3, a4, a5, a6, a7⟩, b0, b1, b2⟩ := hW j j0 j1
    have ho5 : ∀ (t : Nat) (q : Int), 50 ≤ t → t ≤ 57 → m1 t 0 0 q = m t 0 0 q := fun t q h1 h2 => ho t 0 0 q (by omega) (by omega)
    by_cases c : j = i
    · subst c
      refine ⟨⟨?_, ?_, ?_, ?_, ?_, ?_, ?_, ?_⟩, ?_, ?_, ?_⟩ <;> simp [zset, zps0, ho5, hx, *]
    · have h58 : ∀ q : Int, (q < 3 * i ∨ 3 * i + 2 < q) → m1 58 0 0 q = m 58 0 0 q := fun q hq => ho 58 0 0 q (by omega) (by omega)
      refine ⟨⟨?_, ?_, ?_, ?_, ?_, ?_, ?_, ?_⟩, ?_, ?_, ?_⟩
      all_goals first | (rw [show ∀ v u x : Int, zset (zset (zset m1 57 0 0 i v) 53 0 0 i u) 54 0 0 i x 58 0 0 (3 * j) = m 58 0 0 (3 * j) from fun v u x => by simp [zset]; exact h58 _ (by omega)]; simp [zps0, c, b0]; done) | (rw [show ∀ v u x : Int, zset (zset (zset m1 57 0 0 i v) 53 0 0 i u) 54 0 0 i x 58 0 0 (3 * j + 1) = m 58 0 0 (3 * j + 1) from fun v u x => by simp [zset]; exact h58 _ (by omega)]; simp [zps0, c, b1]; done) | (rw [show ∀ v u x : Int, zset (zset (zset m1 57 0 0 i v) 53 0 0 i u) 54 0 0 i x 58 0 0 (3 * j + 2) = m 58 0 0 (3 * j + 2) from fun v u x => by simp [zset]; exact h58 _ (by omega)]; simp [zps0, c, b2]; done) | (simp [zset, zps0, ho5, c, *]; done)
  · have := hb j j0 j1
    by_cases c : j = i
    · subst c
      simp [zps0]
      omega
    · simp [zps0, c]
      omega
  · simp only [zset]
    rw [if_neg (by omega), if_neg (by omega), if_neg (by omega)]
    exact ho t s j q h2 (by omega)
set_option maxRecDepth 20000 in
theorem ct_X11_getRest (l : Launch) (g : zG) {a m : zM} {i w : Int} {W : zPl} (hp : zmp a) (hR : zRel a 0 (m 45 0 0)) (hi : 0 ≤ i ∧ i < a 2 0 0 4) (hw : 1 ≤ w ∧ w ≤ 100000) (hW : zMod m W) (hb : zplb W) : zMet l g Y_X11_getRest [zr 11 0 0, zi i, zi w] m (fun v m' => v = none ∧ zMod m' (zrst (zDc a) i w W) ∧ zplb (zrst (zDc a) i w W) ∧ zMo m' m) := by
  refine zMet_introF (by decide +kernel) (Nat.le_of_ble_eq_true rfl) (ls0 := [some (zr 11 0 0), some (zi i), some (zi w), none, none]) rfl fun X hG hE => ?_
  have hG : zGood X l g RX11 cX11_getRest 5 5 := hG
  have hE : zEnd X (none) _ := hE
  have hi8 : 0 ≤ i ∧ i < 8 := ⟨hi.1, by have := hp.1.2.1; omega⟩
  have hri := hR.2.2.2.2.2.2.1 i hi.1 hi8.2 hi.2
  obtain ⟨hkin, hlot, hrep⟩ := hp.1.2.2 i hi.1 hi8.2

  have hrep := hrep hi.2
  have d6 : zDc a 6 i 0 = a 3 0 i 5 := rfl
  have d2 : zDc a 2 i 0 = a 3 0 i 1 := rfl
  have d3 : zDc a 3 i 0 = a 3 0 i 2 := rfl
  have f3 : m 45 0 0 (6 + 46 * i + 3) = a 3 0 i 5 := hri.2.2.2.1
  have f1 : m 45 0 0 (6 + 46 * i + 1) = a 3 0 i 1 := hri.2.1
  have f2 : m 45 0 0 (6 + 46 * i + 2) = a 3 0 i 2 := hri.2.2.1
  have f4 : 0 ≤ a 3 0 i 5 → m 45 0 0 (6 + 46 * i + 4) = a 3 0 i 6 := hri.2.2.2.2.1
  have hbo := hp.2.2.2.1 i hi8.1 hi8.2
  have hm : 0 ≤ a 3 0 i 5 → 0 ≤ zmore (zDc a) i w ∧ zmore (zDc a) i w ≤ 200001 ∧ 0 ≤ w * a 3 0 i 6 ∧ w * a 3 0 i 6 ≤ 20000000 := fun q => zmore_le (D := zDc a) (i := i) (left := w) ⟨by omega, hw.2⟩ (show 10 ≤ a 3 0 i 6 ∧ a 3 0 i 6 ≤ 200 by omega)
  refine z_aload_n (i := 0) hG dX11_getRest_0 rfl rfl ?_
  refine z_iload_n (i := 1) hG dX11_getRest_1 rfl rfl ?_
  refine z_iconst hG dX11_getRest_2 rfl ?_
  refine z_callV hG dX11_getRest_3 LV_X11_87 (ct_X11_of l g hi8 ⟨by omega, by omega⟩) (by decide) rfl rfl rfl (Nat.le_of_ble_eq_true rfl) ?_
  intro v9 m9 h9
  rw [h9.1, h9.2, f3]
  clear h9 m9 v9
  refine z_istore_n (i := 3) hG dX11_getRest_6 rfl (by decide) (ls2 := [_, _, _, _, _]) rfl ?_
  refine z_iload_n (i := 3) hG dX11_getRest_7 rfl rfl ?_
  refine z_if_ge hG dX11_getRest_8 (tgt := 15) rfl (fun c8 => ?_) (fun c8 => ?_)
  · refine z_iload_n (i := 2) hG dX11_getRest_15 rfl rfl ?_
    refine z_aload_n (i := 0) hG dX11_getRest_16 rfl rfl ?_
    refine z_iload_n (i := 1) hG dX11_getRest_17 rfl rfl ?_
    refine z_iconst hG dX11_getRest_18 rfl ?_
    refine z_callV hG dX11_getRest_19 LV_X11_87 (ct_X11_of l g hi8 ⟨by omega, by omega⟩) (by decide) rfl rfl rfl (Nat.le_of_ble_eq_true rfl) ?_
    intro v9 m9 h9
    rw [h9.1, h9.2, f4 (by omega)]
    clear h9 m9 v9
    have hm1 := hm (by omega)
    refine z_imul hG dX11_getRest_22 (by omega) (by omega) ?_
    refine z_bipush hG dX11_getRest_23 rfl ?_
    refine z_callS hG dX11_getRest_25 LS_X11_112 (ct_X11_up l g (by have := hm (by omega); omega) (by decide) (by have := hm (by omega); omega)) (by decide) rfl rfl (Nat.le_of_ble_eq_true rfl) ?_
    intro v9 m9 h9
    rw [h9.1, h9.2, show (w * a 3 0 i 6 + 100 - 1) / 100 = zmore (zDc a) i w from rfl]
    clear h9 m9 v9
    refine z_istore hG dX11_getRest_28 (by decide) (ls2 := [_, _, _, _, _]) rfl ?_
    refine z_aload_n (i := 0) hG dX11_getRest_30 rfl rfl ?_
    refine z_iload_n (i := 1) hG dX11_getRest_31 rfl rfl ?_
    refine z_iconst hG dX11_getRest_32 rfl ?_
    refine z_callV hG dX11_getRest_33 LV_X11_87 (ct_X11_of l g hi8 ⟨by omega, by omega⟩) (by decide) rfl rfl rfl (Nat.le_of_ble_eq_true rfl) ?_
    intro v9 m9 h9
    rw [h9.1, h9.2, f1]
    clear h9 m9 v9
    refine z_iconst hG dX11_getRest_36 rfl ?_
    refine z_icmp_ne hG dX11_getRest_37 (tgt := 58) rfl (fun c37 => ?_) (fun c37 => ?_)
    · refine z_iload_n (i := 3) hG dX11_getRest_58 rfl rfl ?_
      refine z_if_lt hG dX11_getRest_59 (tgt := 108) rfl (fun c59 => ?_) (fun c59 => ?_)
      · refine z_aload_n (i := 0) hG dX11_getRest_108 rfl rfl ?_
        refine z_get_11_13 hG dX11_getRest_109 FL_X11_44 ?_
        refine z_iload_n (i := 1) hG dX11_getRest_112 rfl rfl ?_
        refine z_iload_n (i := 2) hG dX11_getRest_113 rfl rfl ?_
        refine z_iast hG dX11_getRest_114 rfl rfl (by omega) (by omega) ?_
        refine z_vret hG hE dX11_getRest_115 ?_
        first
        | (exfalso; omega; done)
        | (have hz : zrst (zDc a) i w W = zbuyW (zDc a) i w W := by
             unfold zrst
             rw [d2, d3, if_pos (by omega)]
           rw [hz]
           exact ⟨rfl, hW1, hb1, ho1⟩)
        | (have hz : zrst (zDc a) i w W = zrepW (zDc a) i w W := by
             unfold zrst
             rw [d2, d3, d6, if_neg (by omega), if_pos (by omega)]
           rw [hz]
           refine ⟨rfl, ?_, fun j h0 h1 => ?_, zMo_set (zMo_set (zMo_set zMo_rf (by decide)) (by decide)) (by decide)⟩
           · unfold zrepW
             rw [d6]
             exact zMod_1 (zMod_1 (zMod_1 hW 55 i w (by decide)) 51 (a 3 0 i 5) _ (by decide)) 50 (a 3 0 i 5) _ (by decide)
           · have h2 := hb j h0 h1
             unfold zrepW
             rw [d6]
             simp only [zps0]
             by_cases q : j = a 3 0 i 5
             · subst q
               simp
               omega
             · simp [q]
               omega)
        | (have hz : zrst (zDc a) i w W = zps0 W 6 i w := by
             unfold zrst
             rw [d2, d3, d6, if_neg (by omega), if_neg (by omega)]
           rw [hz]
           refine ⟨rfl, zMod_1 hW 56 i w (by decide), fun j h0 h1 => ?_, zMo_set zMo_rf (by decide)⟩
           have h2 := hb j h0 h1
           simp only [zps0]
           by_cases q : j = i
           · subst q
             simp
             omega
           · simp [q]
             omega)
      · refine z_aload_n (i := 0) hG dX11_getRest_62 rfl rfl ?_
        refine z_get_11_7 hG dX11_getRest_63 FL_X11_26 ?_
        have ho6 : 0 ≤ a 3 0 i 5 ∧ a 3 0 i 5 < 8 := by have := hp.1.2.1; omega
        have hwo := hW (a 3 0 i 5) ho6.1 ho6.2
        have hbo5 := hb (a 3 0 i 5) ho6.1 ho6.2
        refine z_iload_n (i := 3) hG dX11_getRest_66 rfl rfl ?_
        refine z_iald hG dX11_getRest_67 rfl rfl (by omega) (by omega) ?_
        rw [hwo.1.1]
        refine z_iload hG dX11_getRest_68 rfl ?_
        refine z_iadd hG dX11_getRest_70 (by omega) (by omega) ?_
        refine z_ldc hG dX11_getRest_71 KC_X11_107 rfl ?_
        refine z_icmp_gt hG dX11_getRest_73 (tgt := 108) rfl (fun c73 => ?_) (fun c73 => ?_)
        · refine z_aload_n (i := 0) hG dX11_getRest_108 rfl rfl ?_
          refine z_get_11_13 hG dX11_getRest_109 FL_X11_44 ?_
          refine z_iload_n (i := 1) hG dX11_getRest_112 rfl rfl ?_
          refine z_iload_n (i := 2) hG dX11_getRest_113 rfl rfl ?_
          refine z_iast hG dX11_getRest_114 rfl rfl (by omega) (by omega) ?_
          refine z_vret hG hE dX11_getRest_115 ?_
          first
          | (exfalso; omega; done)
          | (have hz : zrst (zDc a) i w W = zbuyW (zDc a) i w W := by
               unfold zrst
               rw [d2, d3, if_pos (by omega)]
             rw [hz]
             exact ⟨rfl, hW1, hb1, ho1⟩)
          | (have hz : zrst (zDc a) i w W = zrepW (zDc a) i w W := by
               unfold zrst
               rw [d2, d3, d6, if_neg (by omega), if_pos (by omega)]
             rw [hz]
             refine ⟨rfl, ?_, fun j h0 h1 => ?_, zMo_set (zMo_set (zMo_set zMo_rf (by decide)) (by decide)) (by decide)⟩
             · unfold zrepW
               rw [d6]
               exact zMod_1 (zMod_1 (zMod_1 hW 55 i w (by decide)) 51 (a 3 0 i 5) _ (by decide)) 50 (a 3 0 i 5) _ (by decide)
             · have h2 := hb j h0 h1
               unfold zrepW
               rw [d6]
               simp only [zps0]
               by_cases q : j = a 3 0 i 5
               · subst q
                 simp
                 omega
               · simp [q]
                 omega)
          | (have hz : zrst (zDc a) i w W = zps0 W 6 i w := by
               unfold zrst
               rw [d2, d3, d6, if_neg (by omega), if_neg (by omega)]
             rw [hz]
             refine ⟨rfl, zMod_1 hW 56 i w (by decide), fun j h0 h1 => ?_, zMo_set zMo_rf (by decide)⟩
             have h2 := hb j h0 h1
             simp only [zps0]
             by_cases q : j = i
             · subst q
               simp
               omega
             · simp [q]
               omega)
        · refine z_aload_n (i := 0) hG dX11_getRest_76 rfl rfl ?_
          refine z_get_11_12 hG dX11_getRest_77 FL_X11_41 ?_
          refine z_iload_n (i := 1) hG dX11_getRest_80 rfl rfl ?_
          refine z_iload_n (i := 2) hG dX11_getRest_81 rfl rfl ?_
          refine z_iast hG dX11_getRest_82 rfl rfl (by omega) (by omega) ?_
          refine z_aload_n (i := 0) hG dX11_getRest_83 rfl rfl ?_
          refine z_get_11_8 hG dX11_getRest_84 FL_X11_29 ?_
          refine z_iload_n (i := 3) hG dX11_getRest_87 rfl rfl ?_
          refine z_dup2 hG dX11_getRest_88 ?_
          refine z_iald hG dX11_getRest_89 rfl rfl (by omega) (by omega) ?_
          have e1 : zset m 55 0 0 i w 51 0 0 (a 3 0 i 5) = W 1 (a 3 0 i 5) := by rw [← hwo.1.2.1]; simp [zset]
          rw [e1]
          refine z_iload hG dX11_getRest_90 rfl ?_
          refine z_iadd hG dX11_getRest_92 (by omega) (by omega) ?_
          refine z_iast hG dX11_getRest_93 rfl rfl (by omega) (by omega) ?_
          refine z_aload_n (i := 0) hG dX11_getRest_94 rfl rfl ?_
          refine z_get_11_7 hG dX11_getRest_95 FL_X11_26 ?_
          refine z_iload_n (i := 3) hG dX11_getRest_98 rfl rfl ?_
          refine z_dup2 hG dX11_getRest_99 ?_
          refine z_iald hG dX11_getRest_100 rfl rfl (by omega) (by omega) ?_
          have e2 : ∀ v : Int, zset (zset m 55 0 0 i w) 51 0 0 (a 3 0 i 5) v 50 0 0 (a 3 0 i 5) = W 0 (a 3 0 i 5) := fun v => by rw [← hwo.1.1]; simp [zset]
          rw [e2]
          refine z_iload hG dX11_getRest_101 rfl ?_
          refine z_iadd hG dX11_getRest_103 (by omega) (by omega) ?_
          refine z_iast hG dX11_getRest_104 rfl rfl (by omega) (by omega) ?_
          refine z_goto hG dX11_getRest_105 (tgt := 115) rfl ?_
          refine z_vret hG hE dX11_getRest_115 ?_
          first
          | (exfalso; omega; done)
          | (have hz : zrst (zDc a) i w W = zbuyW (zDc a) i w W := by
               unfold zrst
               rw [d2, d3, if_pos (by omega)]
             rw [hz]
             exact ⟨rfl, hW1, hb1, ho1⟩)
          | (have hz : zrst (zDc a) i w W = zrepW (zDc a) i w W := by
               unfold zrst
               rw [d2, d3, d6, if_neg (by omega), if_pos (by omega)]
             rw [hz]
             refine ⟨rfl, ?_, fun j h0 h1 => ?_, zMo_set (zMo_set (zMo_set zMo_rf (by decide)) (by decide)) (by decide)⟩
             · unfold zrepW
               rw [d6]
               exact zMod_1 (zMod_1 (zMod_1 hW 55 i w (by decide)) 51 (a 3 0 i 5) _ (by decide)) 50 (a 3 0 i 5) _ (by decide)
             · have h2 := hb j h0 h1
               unfold zrepW
               rw [d6]
               simp only [zps0]
               by_cases q : j = a 3 0 i 5
               · subst q
                 simp
                 omega
               · simp [q]
                 omega)
          | (have hz : zrst (zDc a) i w W = zps0 W 6 i w := by
               unfold zrst
               rw [d2, d3, d6, if_neg (by omega), if_neg (by omega)]
             rw [hz]
             refine ⟨rfl, zMod_1 hW 56 i w (by decide), fun j h0 h1 => ?_, zMo_set zMo_rf (by decide)⟩
             have h2 := hb j h0 h1
             simp only [zps0]
             by_cases q : j = i
             · subst q
               simp
               omega
             · simp [q]
               omega)
    · refine z_aload_n (i := 0) hG dX11_getRest_40 rfl rfl ?_
      refine z_iload_n (i := 1) hG dX11_getRest_41 rfl rfl ?_
      refine z_iconst hG dX11_getRest_42 rfl ?_
      refine z_callV hG dX11_getRest_43 LV_X11_87 (ct_X11_of l g hi8 ⟨by omega, by omega⟩) (by decide) rfl rfl rfl (Nat.le_of_ble_eq_true rfl) ?_
      intro v9 m9 h9
      rw [h9.1, h9.2, f2]
      clear h9 m9 v9
      refine z_if_le hG dX11_getRest_46 (tgt := 58) rfl (fun c46 => ?_) (fun c46 => ?_)
      · refine z_iload_n (i := 3) hG dX11_getRest_58 rfl rfl ?_
        refine z_if_lt hG dX11_getRest_59 (tgt := 108) rfl (fun c59 => ?_) (fun c59 => ?_)
        · refine z_aload_n (i := 0) hG dX11_getRest_108 rfl rfl ?_
          refine z_get_11_13 hG dX11_getRest_109 FL_X11_44 ?_
          refine z_iload_n (i := 1) hG dX11_getRest_112 rfl rfl ?_
          refine z_iload_n (i := 2) hG dX11_getRest_113 rfl rfl ?_
          refine z_iast hG dX11_getRest_114 rfl rfl (by omega) (by omega) ?_
          refine z_vret hG hE dX11_getRest_115 ?_
          first
          | (exfalso; omega; done)
          | (have hz : zrst (zDc a) i w W = zbuyW (zDc a) i w W := by
               unfold zrst
               rw [d2, d3, if_pos (by omega)]
             rw [hz]
             exact ⟨rfl, hW1, hb1, ho1⟩)
          | (have hz : zrst (zDc a) i w W = zrepW (zDc a) i w W := by
               unfold zrst
               rw [d2, d3, d6, if_neg (by omega), if_pos (by omega)]
             rw [hz]
             refine ⟨rfl, ?_, fun j h0 h1 => ?_, zMo_set (zMo_set (zMo_set zMo_rf (by decide)) (by decide)) (by decide)⟩
             · unfold zrepW
               rw [d6]
               exact zMod_1 (zMod_1 (zMod_1 hW 55 i w (by decide)) 51 (a 3 0 i 5) _ (by decide)) 50 (a 3 0 i 5) _ (by decide)
             · have h2 := hb j h0 h1
               unfold zrepW
               rw [d6]
               simp only [zps0]
               by_cases q : j = a 3 0 i 5
               · subst q
                 simp
                 omega
               · simp [q]
                 omega)
          | (have hz : zrst (zDc a) i w W = zps0 W 6 i w := by
               unfold zrst
               rw [d2, d3, d6, if_neg (by omega), if_neg (by omega)]
             rw [hz]
             refine ⟨rfl, zMod_1 hW 56 i w (by decide), fun j h0 h1 => ?_, zMo_set zMo_rf (by decide)⟩
             have h2 := hb j h0 h1
             simp only [zps0]
             by_cases q : j = i
             · subst q
               simp
               omega
             · simp [q]
               omega)
        · refine z_aload_n (i := 0) hG dX11_getRest_62 rfl rfl ?_
          refine z_get_11_7 hG dX11_getRest_63 FL_X11_26 ?_
          have ho6 : 0 ≤ a 3 0 i 5 ∧ a 3 0 i 5 < 8 := by have := hp.1.2.1; omega
          have hwo := hW (a 3 0 i 5) ho6.1 ho6.2
          have hbo5 := hb (a 3 0 i 5) ho6.1 ho6.2
          refine z_iload_n (i := 3) hG dX11_getRest_66 rfl rfl ?_
          refine z_iald hG dX11_getRest_67 rfl rfl (by omega) (by omega) ?_
          rw [hwo.1.1]
          refine z_iload hG dX11_getRest_68 rfl ?_
          refine z_iadd hG dX11_getRest_70 (by omega) (by omega) ?_
          refine z_ldc hG dX11_getRest_71 KC_X11_107 rfl ?_
          refine z_icmp_gt hG dX11_getRest_73 (tgt := 108) rfl (fun c73 => ?_) (fun c73 => ?_)
          · refine z_aload_n (i := 0) hG dX11_getRest_108 rfl rfl ?_
            refine z_get_11_13 hG dX11_getRest_109 FL_X11_44 ?_
            refine z_iload_n (i := 1) hG dX11_getRest_112 rfl rfl ?_
            refine z_iload_n (i := 2) hG dX11_getRest_113 rfl rfl ?_
            refine z_iast hG dX11_getRest_114 rfl rfl (by omega) (by omega) ?_
            refine z_vret hG hE dX11_getRest_115 ?_
            first
            | (exfalso; omega; done)
            | (have hz : zrst (zDc a) i w W = zbuyW (zDc a) i w W := by
                 unfold zrst
                 rw [d2, d3, if_pos (by omega)]
               rw [hz]
               exact ⟨rfl, hW1, hb1, ho1⟩)
            | (have hz : zrst (zDc a) i w W = zrepW (zDc a) i w W := by
                 unfold zrst
                 rw [d2, d3, d6, if_neg (by omega), if_pos (by omega)]
               rw [hz]
               refine ⟨rfl, ?_, fun j h0 h1 => ?_, zMo_set (zMo_set (zMo_set zMo_rf (by decide)) (by decide)) (by decide)⟩
               · unfold zrepW
                 rw [d6]
                 exact zMod_1 (zMod_1 (zMod_1 hW 55 i w (by decide)) 51 (a 3 0 i 5) _ (by decide)) 50 (a 3 0 i 5) _ (by decide)
               · have h2 := hb j h0 h1
                 unfold zrepW
                 rw [d6]
                 simp only [zps0]
                 by_cases q : j = a 3 0 i 5
                 · subst q
                   simp
                   omega
                 · simp [q]
                   omega)
            | (have hz : zrst (zDc a) i w W = zps0 W 6 i w := by
                 unfold zrst
                 rw [d2, d3, d6, if_neg (by omega), if_neg (by omega)]
               rw [hz]
               refine ⟨rfl, zMod_1 hW 56 i w (by decide), fun j h0 h1 => ?_, zMo_set zMo_rf (by decide)⟩
               have h2 := hb j h0 h1
               simp only [zps0]
               by_cases q : j = i
               · subst q
                 simp
                 omega
               · simp [q]
                 omega)
          · refine z_aload_n (i := 0) hG dX11_getRest_76 rfl rfl ?_
            refine z_get_11_12 hG dX11_getRest_77 FL_X11_41 ?_
            refine z_iload_n (i := 1) hG dX11_getRest_80 rfl rfl ?_
            refine z_iload_n (i := 2) hG dX11_getRest_81 rfl rfl ?_
            refine z_iast hG dX11_getRest_82 rfl rfl (by omega) (by omega) ?_
            refine z_aload_n (i := 0) hG dX11_getRest_83 rfl rfl ?_
            refine z_get_11_8 hG dX11_getRest_84 FL_X11_29 ?_
            refine z_iload_n (i := 3) hG dX11_getRest_87 rfl rfl ?_
            refine z_dup2 hG dX11_getRest_88 ?_
            refine z_iald hG dX11_getRest_89 rfl rfl (by omega) (by omega) ?_
            have e1 : zset m 55 0 0 i w 51 0 0 (a 3 0 i 5) = W 1 (a 3 0 i 5) := by rw [← hwo.1.2.1]; simp [zset]
            rw [e1]
            refine z_iload hG dX11_getRest_90 rfl ?_
            refine z_iadd hG dX11_getRest_92 (by omega) (by omega) ?_
            refine z_iast hG dX11_getRest_93 rfl rfl (by omega) (by omega) ?_
            refine z_aload_n (i := 0) hG dX11_getRest_94 rfl rfl ?_
            refine z_get_11_7 hG dX11_getRest_95 FL_X11_26 ?_
            refine z_iload_n (i := 3) hG dX11_getRest_98 rfl rfl ?_
            refine z_dup2 hG dX11_getRest_99 ?_
            refine z_iald hG dX11_getRest_100 rfl rfl (by omega) (by omega) ?_
            have e2 : ∀ v : Int, zset (zset m 55 0 0 i w) 51 0 0 (a 3 0 i 5) v 50 0 0 (a 3 0 i 5) = W 0 (a 3 0 i 5) := fun v => by rw [← hwo.1.1]; simp [zset]
            rw [e2]
            refine z_iload hG dX11_getRest_101 rfl ?_
            refine z_iadd hG dX11_getRest_103 (by omega) (by omega) ?_
            refine z_iast hG dX11_getRest_104 rfl rfl (by omega) (by omega) ?_
            refine z_goto hG dX11_getRest_105 (tgt := 115) rfl ?_
            refine z_vret hG hE dX11_getRest_115 ?_
            first
            | (exfalso; omega; done)
            | (have hz : zrst (zDc a) i w W = zbuyW (zDc a) i w W := by
                 unfold zrst
                 rw [d2, d3, if_pos (by omega)]
               rw [hz]
               exact ⟨rfl, hW1, hb1, ho1⟩)
            | (have hz : zrst (zDc a) i w W = zrepW (zDc a) i w W := by
                 unfold zrst
                 rw [d2, d3, d6, if_neg (by omega), if_pos (by omega)]
               rw [hz]
               refine ⟨rfl, ?_, fun j h0 h1 => ?_, zMo_set (zMo_set (zMo_set zMo_rf (by decide)) (by decide)) (by decide)⟩
               · unfold zrepW
                 rw [d6]
                 exact zMod_1 (zMod_1 (zMod_1 hW 55 i w (by decide)) 51 (a 3 0 i 5) _ (by decide)) 50 (a 3 0 i 5) _ (by decide)
               · have h2 := hb j h0 h1
                 unfold zrepW
                 rw [d6]
                 simp only [zps0]
                 by_cases q : j = a 3 0 i 5
                 · subst q
                   simp
                   omega
                 · simp [q]
                   omega)
            | (have hz : zrst (zDc a) i w W = zps0 W 6 i w := by
                 unfold zrst
                 rw [d2, d3, d6, if_neg (by omega), if_neg (by omega)]
               rw [hz]
               refine ⟨rfl, zMod_1 hW 56 i w (by decide), fun j h0 h1 => ?_, zMo_set zMo_rf (by decide)⟩
               have h2 := hb j h0 h1
               simp only [zps0]
               by_cases q : j = i
               · subst q
                 simp
                 omega
               · simp [q]
                 omega)
      · refine z_aload_n (i := 0) hG dX11_getRest_49 rfl rfl ?_
        refine z_iload_n (i := 1) hG dX11_getRest_50 rfl rfl ?_
        refine z_iload_n (i := 2) hG dX11_getRest_51 rfl rfl ?_
        refine z_callV hG dX11_getRest_52 LV_X11_147 (ct_X11_buy l g hp hR hi (by omega) hw hW hb) (by decide) rfl rfl rfl (Nat.le_of_ble_eq_true rfl) ?_
        intro v9 m1 h9
        obtain ⟨h9a, hW1, hb1, ho1⟩ := h9
        rw [h9a]
        clear h9a v9
        refine z_goto hG dX11_getRest_55 (tgt := 115) rfl ?_
        refine z_vret hG hE dX11_getRest_115 ?_
        first
        | (exfalso; omega; done)
        | (have hz : zrst (zDc a) i w W = zbuyW (zDc a) i w W := by
             unfold zrst
             rw [d2, d3, if_pos (by omega)]
           rw [hz]
           exact ⟨rfl, hW1, hb1, ho1⟩)
        | (have hz : zrst (zDc a) i w W = zrepW (zDc a) i w W := by
             unfold zrst
             rw [d2, d3, d6, if_neg (by omega), if_pos (by omega)]
           rw [hz]
           refine ⟨rfl, ?_, fun j h0 h1 => ?_, zMo_set (zMo_set (zMo_set zMo_rf (by decide)) (by decide)) (by decide)⟩
           · unfold zrepW
             rw [d6]
             exact zMod_1 (zMod_1 (zMod_1 hW 55 i w (by decide)) 51 (a 3 0 i 5) _ (by decide)) 50 (a 3 0 i 5) _ (by decide)
           · have h2 := hb j h0 h1
             unfold zrepW
             rw [d6]
             simp only [zps0]
             by_cases q : j = a 3 0 i 5
             · subst q
               simp
               omega
             · simp [q]
               omega)
        | (have hz : zrst (zDc a) i w W = zps0 W 6 i w := by
             unfold zrst
             rw [d2, d3, d6, if_neg (by omega), if_neg (by omega)]
           rw [hz]
           refine ⟨rfl, zMod_1 hW 56 i w (by decide), fun j h0 h1 => ?_, zMo_set zMo_rf (by decide)⟩
           have h2 := hb j h0 h1
           simp only [zps0]
           by_cases q : j = i
           · subst q
             simp
             omega
           · simp [q]
             omega)
  · refine z_iconst hG dX11_getRest_11 rfl ?_
    refine z_goto hG dX11_getRest_12 (tgt := 28) rfl ?_
    refine z_istore hG dX11_getRest_28 (by decide) (ls2 := [_, _, _, _, _]) rfl ?_
    refine z_aload_n (i := 0) hG dX11_getRest_30 rfl rfl ?_
    refine z_iload_n (i := 1) hG dX11_getRest_31 rfl rfl ?_
    refine z_iconst hG dX11_getRest_32 rfl ?_
    refine z_callV hG dX11_getRest_33 LV_X11_87 (ct_X11_of l g hi8 ⟨by omega, by omega⟩) (by decide) rfl rfl rfl (Nat.le_of_ble_eq_true rfl) ?_
    intro v9 m9 h9
    rw [h9.1, h9.2, f1]
    clear h9 m9 v9
    refine z_iconst hG dX11_getRest_36 rfl ?_
    refine z_icmp_ne hG dX11_getRest_37 (tgt := 58) rfl (fun c37 => ?_) (fun c37 => ?_)
    · refine z_iload_n (i := 3) hG dX11_getRest_58 rfl rfl ?_
      refine z_if_lt hG dX11_getRest_59 (tgt := 108) rfl (fun c59 => ?_) (fun c59 => ?_)
      · refine z_aload_n (i := 0) hG dX11_getRest_108 rfl rfl ?_
        refine z_get_11_13 hG dX11_getRest_109 FL_X11_44 ?_
        refine z_iload_n (i := 1) hG dX11_getRest_112 rfl rfl ?_
        refine z_iload_n (i := 2) hG dX11_getRest_113 rfl rfl ?_
        refine z_iast hG dX11_getRest_114 rfl rfl (by omega) (by omega) ?_
        refine z_vret hG hE dX11_getRest_115 ?_
        first
        | (exfalso; omega; done)
        | (have hz : zrst (zDc a) i w W = zbuyW (zDc a) i w W := by
             unfold zrst
             rw [d2, d3, if_pos (by omega)]
           rw [hz]
           exact ⟨rfl, hW1, hb1, ho1⟩)
        | (have hz : zrst (zDc a) i w W = zrepW (zDc a) i w W := by
             unfold zrst
             rw [d2, d3, d6, if_neg (by omega), if_pos (by omega)]
           rw [hz]
           refine ⟨rfl, ?_, fun j h0 h1 => ?_, zMo_set (zMo_set (zMo_set zMo_rf (by decide)) (by decide)) (by decide)⟩
           · unfold zrepW
             rw [d6]
             exact zMod_1 (zMod_1 (zMod_1 hW 55 i w (by decide)) 51 (a 3 0 i 5) _ (by decide)) 50 (a 3 0 i 5) _ (by decide)
           · have h2 := hb j h0 h1
             unfold zrepW
             rw [d6]
             simp only [zps0]
             by_cases q : j = a 3 0 i 5
             · subst q
               simp
               omega
             · simp [q]
               omega)
        | (have hz : zrst (zDc a) i w W = zps0 W 6 i w := by
             unfold zrst
             rw [d2, d3, d6, if_neg (by omega), if_neg (by omega)]
           rw [hz]
           refine ⟨rfl, zMod_1 hW 56 i w (by decide), fun j h0 h1 => ?_, zMo_set zMo_rf (by decide)⟩
           have h2 := hb j h0 h1
           simp only [zps0]
           by_cases q : j = i
           · subst q
             simp
             omega
           · simp [q]
             omega)
      · refine z_aload_n (i := 0) hG dX11_getRest_62 rfl rfl ?_
        refine z_get_11_7 hG dX11_getRest_63 FL_X11_26 ?_
        have ho6 : 0 ≤ a 3 0 i 5 ∧ a 3 0 i 5 < 8 := by have := hp.1.2.1; omega
        have hwo := hW (a 3 0 i 5) ho6.1 ho6.2
        have hbo5 := hb (a 3 0 i 5) ho6.1 ho6.2
        refine z_iload_n (i := 3) hG dX11_getRest_66 rfl rfl ?_
        refine z_iald hG dX11_getRest_67 rfl rfl (by omega) (by omega) ?_
        rw [hwo.1.1]
        refine z_iload hG dX11_getRest_68 rfl ?_
        refine z_iadd hG dX11_getRest_70 (by omega) (by omega) ?_
        refine z_ldc hG dX11_getRest_71 KC_X11_107 rfl ?_
        refine z_icmp_gt hG dX11_getRest_73 (tgt := 108) rfl (fun c73 => ?_) (fun c73 => ?_)
        · refine z_aload_n (i := 0) hG dX11_getRest_108 rfl rfl ?_
          refine z_get_11_13 hG dX11_getRest_109 FL_X11_44 ?_
          refine z_iload_n (i := 1) hG dX11_getRest_112 rfl rfl ?_
          refine z_iload_n (i := 2) hG dX11_getRest_113 rfl rfl ?_
          refine z_iast hG dX11_getRest_114 rfl rfl (by omega) (by omega) ?_
          refine z_vret hG hE dX11_getRest_115 ?_
          first
          | (exfalso; omega; done)
          | (have hz : zrst (zDc a) i w W = zbuyW (zDc a) i w W := by
               unfold zrst
               rw [d2, d3, if_pos (by omega)]
             rw [hz]
             exact ⟨rfl, hW1, hb1, ho1⟩)
          | (have hz : zrst (zDc a) i w W = zrepW (zDc a) i w W := by
               unfold zrst
               rw [d2, d3, d6, if_neg (by omega), if_pos (by omega)]
             rw [hz]
             refine ⟨rfl, ?_, fun j h0 h1 => ?_, zMo_set (zMo_set (zMo_set zMo_rf (by decide)) (by decide)) (by decide)⟩
             · unfold zrepW
               rw [d6]
               exact zMod_1 (zMod_1 (zMod_1 hW 55 i w (by decide)) 51 (a 3 0 i 5) _ (by decide)) 50 (a 3 0 i 5) _ (by decide)
             · have h2 := hb j h0 h1
               unfold zrepW
               rw [d6]
               simp only [zps0]
               by_cases q : j = a 3 0 i 5
               · subst q
                 simp
                 omega
               · simp [q]
                 omega)
          | (have hz : zrst (zDc a) i w W = zps0 W 6 i w := by
               unfold zrst
               rw [d2, d3, d6, if_neg (by omega), if_neg (by omega)]
             rw [hz]
             refine ⟨rfl, zMod_1 hW 56 i w (by decide), fun j h0 h1 => ?_, zMo_set zMo_rf (by decide)⟩
             have h2 := hb j h0 h1
             simp only [zps0]
             by_cases q : j = i
             · subst q
               simp
               omega
             · simp [q]
               omega)
        · refine z_aload_n (i := 0) hG dX11_getRest_76 rfl rfl ?_
          refine z_get_11_12 hG dX11_getRest_77 FL_X11_41 ?_
          refine z_iload_n (i := 1) hG dX11_getRest_80 rfl rfl ?_
          refine z_iload_n (i := 2) hG dX11_getRest_81 rfl rfl ?_
          refine z_iast hG dX11_getRest_82 rfl rfl (by omega) (by omega) ?_
          refine z_aload_n (i := 0) hG dX11_getRest_83 rfl rfl ?_
          refine z_get_11_8 hG dX11_getRest_84 FL_X11_29 ?_
          refine z_iload_n (i := 3) hG dX11_getRest_87 rfl rfl ?_
          refine z_dup2 hG dX11_getRest_88 ?_
          refine z_iald hG dX11_getRest_89 rfl rfl (by omega) (by omega) ?_
          have e1 : zset m 55 0 0 i w 51 0 0 (a 3 0 i 5) = W 1 (a 3 0 i 5) := by rw [← hwo.1.2.1]; simp [zset]
          rw [e1]
          refine z_iload hG dX11_getRest_90 rfl ?_
          refine z_iadd hG dX11_getRest_92 (by omega) (by omega) ?_
          refine z_iast hG dX11_getRest_93 rfl rfl (by omega) (by omega) ?_
          refine z_aload_n (i := 0) hG dX11_getRest_94 rfl rfl ?_
          refine z_get_11_7 hG dX11_getRest_95 FL_X11_26 ?_
          refine z_iload_n (i := 3) hG dX11_getRest_98 rfl rfl ?_
          refine z_dup2 hG dX11_getRest_99 ?_
          refine z_iald hG dX11_getRest_100 rfl rfl (by omega) (by omega) ?_
          have e2 : ∀ v : Int, zset (zset m 55 0 0 i w) 51 0 0 (a 3 0 i 5) v 50 0 0 (a 3 0 i 5) = W 0 (a 3 0 i 5) := fun v => by rw [← hwo.1.1]; simp [zset]
          rw [e2]
          refine z_iload hG dX11_getRest_101 rfl ?_
          refine z_iadd hG dX11_getRest_103 (by omega) (by omega) ?_
          refine z_iast hG dX11_getRest_104 rfl rfl (by omega) (by omega) ?_
          refine z_goto hG dX11_getRest_105 (tgt := 115) rfl ?_
          refine z_vret hG hE dX11_getRest_115 ?_
          first
          | (exfalso; omega; done)
          | (have hz : zrst (zDc a) i w W = zbuyW (zDc a) i w W := by
               unfold zrst
               rw [d2, d3, if_pos (by omega)]
             rw [hz]
             exact ⟨rfl, hW1, hb1, ho1⟩)
          | (have hz : zrst (zDc a) i w W = zrepW (zDc a) i w W := by
               unfold zrst
               rw [d2, d3, d6, if_neg (by omega), if_pos (by omega)]
             rw [hz]
             refine ⟨rfl, ?_, fun j h0 h1 => ?_, zMo_set (zMo_set (zMo_set zMo_rf (by decide)) (by decide)) (by decide)⟩
             · unfold zrepW
               rw [d6]
               exact zMod_1 (zMod_1 (zMod_1 hW 55 i w (by decide)) 51 (a 3 0 i 5) _ (by decide)) 50 (a 3 0 i 5) _ (by decide)
             · have h2 := hb j h0 h1
               unfold zrepW
               rw [d6]
               simp only [zps0]
               by_cases q : j = a 3 0 i 5
               · subst q
                 simp
                 omega
               · simp [q]
                 omega)
          | (have hz : zrst (zDc a) i w W = zps0 W 6 i w := by
               unfold zrst
               rw [d2, d3, d6, if_neg (by omega), if_neg (by omega)]
             rw [hz]
             refine ⟨rfl, zMod_1 hW 56 i w (by decide), fun j h0 h1 => ?_, zMo_set zMo_rf (by decide)⟩
             have h2 := hb j h0 h1
             simp only [zps0]
             by_cases q : j = i
             · subst q
               simp
               omega
             · simp [q]
               omega)
    · refine z_aload_n (i := 0) hG dX11_getRest_40 rfl rfl ?_
      refine z_iload_n (i := 1) hG dX11_getRest_41 rfl rfl ?_
      refine z_iconst hG dX11_getRest_42 rfl ?_
      refine z_callV hG dX11_getRest_43 LV_X11_87 (ct_X11_of l g hi8 ⟨by omega, by omega⟩) (by decide) rfl rfl rfl (Nat.le_of_ble_eq_true rfl) ?_
      intro v9 m9 h9
      rw [h9.1, h9.2, f2]
      clear h9 m9 v9
      refine z_if_le hG dX11_getRest_46 (tgt := 58) rfl (fun c46 => ?_) (fun c46 => ?_)
      · refine z_iload_n (i := 3) hG dX11_getRest_58 rfl rfl ?_
        refine z_if_lt hG dX11_getRest_59 (tgt := 108) rfl (fun c59 => ?_) (fun c59 => ?_)
        · refine z_aload_n (i := 0) hG dX11_getRest_108 rfl rfl ?_
          refine z_get_11_13 hG dX11_getRest_109 FL_X11_44 ?_
          refine z_iload_n (i := 1) hG dX11_getRest_112 rfl rfl ?_
          refine z_iload_n (i := 2) hG dX11_getRest_113 rfl rfl ?_
          refine z_iast hG dX11_getRest_114 rfl rfl (by omega) (by omega) ?_
          refine z_vret hG hE dX11_getRest_115 ?_
          first
          | (exfalso; omega; done)
          | (have hz : zrst (zDc a) i w W = zbuyW (zDc a) i w W := by
               unfold zrst
               rw [d2, d3, if_pos (by omega)]
             rw [hz]
             exact ⟨rfl, hW1, hb1, ho1⟩)
          | (have hz : zrst (zDc a) i w W = zrepW (zDc a) i w W := by
               unfold zrst
               rw [d2, d3, d6, if_neg (by omega), if_pos (by omega)]
             rw [hz]
             refine ⟨rfl, ?_, fun j h0 h1 => ?_, zMo_set (zMo_set (zMo_set zMo_rf (by decide)) (by decide)) (by decide)⟩
             · unfold zrepW
               rw [d6]
               exact zMod_1 (zMod_1 (zMod_1 hW 55 i w (by decide)) 51 (a 3 0 i 5) _ (by decide)) 50 (a 3 0 i 5) _ (by decide)
             · have h2 := hb j h0 h1
               unfold zrepW
               rw [d6]
               simp only [zps0]
               by_cases q : j = a 3 0 i 5
               · subst q
                 simp
                 omega
               · simp [q]
                 omega)
          | (have hz : zrst (zDc a) i w W = zps0 W 6 i w := by
               unfold zrst
               rw [d2, d3, d6, if_neg (by omega), if_neg (by omega)]
             rw [hz]
             refine ⟨rfl, zMod_1 hW 56 i w (by decide), fun j h0 h1 => ?_, zMo_set zMo_rf (by decide)⟩
             have h2 := hb j h0 h1
             simp only [zps0]
             by_cases q : j = i
             · subst q
               simp
               omega
             · simp [q]
               omega)
        · refine z_aload_n (i := 0) hG dX11_getRest_62 rfl rfl ?_
          refine z_get_11_7 hG dX11_getRest_63 FL_X11_26 ?_
          have ho6 : 0 ≤ a 3 0 i 5 ∧ a 3 0 i 5 < 8 := by have := hp.1.2.1; omega
          have hwo := hW (a 3 0 i 5) ho6.1 ho6.2
          have hbo5 := hb (a 3 0 i 5) ho6.1 ho6.2
          refine z_iload_n (i := 3) hG dX11_getRest_66 rfl rfl ?_
          refine z_iald hG dX11_getRest_67 rfl rfl (by omega) (by omega) ?_
          rw [hwo.1.1]
          refine z_iload hG dX11_getRest_68 rfl ?_
          refine z_iadd hG dX11_getRest_70 (by omega) (by omega) ?_
          refine z_ldc hG dX11_getRest_71 KC_X11_107 rfl ?_
          refine z_icmp_gt hG dX11_getRest_73 (tgt := 108) rfl (fun c73 => ?_) (fun c73 => ?_)
          · refine z_aload_n (i := 0) hG dX11_getRest_108 rfl rfl ?_
            refine z_get_11_13 hG dX11_getRest_109 FL_X11_44 ?_
            refine z_iload_n (i := 1) hG dX11_getRest_112 rfl rfl ?_
            refine z_iload_n (i := 2) hG dX11_getRest_113 rfl rfl ?_
            refine z_iast hG dX11_getRest_114 rfl rfl (by omega) (by omega) ?_
            refine z_vret hG hE dX11_getRest_115 ?_
            first
            | (exfalso; omega; done)
            | (have hz : zrst (zDc a) i w W = zbuyW (zDc a) i w W := by
                 unfold zrst
                 rw [d2, d3, if_pos (by omega)]
               rw [hz]
               exact ⟨rfl, hW1, hb1, ho1⟩)
            | (have hz : zrst (zDc a) i w W = zrepW (zDc a) i w W := by
                 unfold zrst
                 rw [d2, d3, d6, if_neg (by omega), if_pos (by omega)]
               rw [hz]
               refine ⟨rfl, ?_, fun j h0 h1 => ?_, zMo_set (zMo_set (zMo_set zMo_rf (by decide)) (by decide)) (by decide)⟩
               · unfold zrepW
                 rw [d6]
                 exact zMod_1 (zMod_1 (zMod_1 hW 55 i w (by decide)) 51 (a 3 0 i 5) _ (by decide)) 50 (a 3 0 i 5) _ (by decide)
               · have h2 := hb j h0 h1
                 unfold zrepW
                 rw [d6]
                 simp only [zps0]
                 by_cases q : j = a 3 0 i 5
                 · subst q
                   simp
                   omega
                 · simp [q]
                   omega)
            | (have hz : zrst (zDc a) i w W = zps0 W 6 i w := by
                 unfold zrst
                 rw [d2, d3, d6, if_neg (by omega), if_neg (by omega)]
               rw [hz]
               refine ⟨rfl, zMod_1 hW 56 i w (by decide), fun j h0 h1 => ?_, zMo_set zMo_rf (by decide)⟩
               have h2 := hb j h0 h1
               simp only [zps0]
               by_cases q : j = i
               · subst q
                 simp
                 omega
               · simp [q]
                 omega)
          · refine z_aload_n (i := 0) hG dX11_getRest_76 rfl rfl ?_
            refine z_get_11_12 hG dX11_getRest_77 FL_X11_41 ?_
            refine z_iload_n (i := 1) hG dX11_getRest_80 rfl rfl ?_
            refine z_iload_n (i := 2) hG dX11_getRest_81 rfl rfl ?_
            refine z_iast hG dX11_getRest_82 rfl rfl (by omega) (by omega) ?_
            refine z_aload_n (i := 0) hG dX11_getRest_83 rfl rfl ?_
            refine z_get_11_8 hG dX11_getRest_84 FL_X11_29 ?_
            refine z_iload_n (i := 3) hG dX11_getRest_87 rfl rfl ?_
            refine z_dup2 hG dX11_getRest_88 ?_
            refine z_iald hG dX11_getRest_89 rfl rfl (by omega) (by omega) ?_
            have e1 : zset m 55 0 0 i w 51 0 0 (a 3 0 i 5) = W 1 (a 3 0 i 5) := by rw [← hwo.1.2.1]; simp [zset]
            rw [e1]
            refine z_iload hG dX11_getRest_90 rfl ?_
            refine z_iadd hG dX11_getRest_92 (by omega) (by omega) ?_
            refine z_iast hG dX11_getRest_93 rfl rfl (by omega) (by omega) ?_
            refine z_aload_n (i := 0) hG dX11_getRest_94 rfl rfl ?_
            refine z_get_11_7 hG dX11_getRest_95 FL_X11_26 ?_
            refine z_iload_n (i := 3) hG dX11_getRest_98 rfl rfl ?_
            refine z_dup2 hG dX11_getRest_99 ?_
            refine z_iald hG dX11_getRest_100 rfl rfl (by omega) (by omega) ?_
            have e2 : ∀ v : Int, zset (zset m 55 0 0 i w) 51 0 0 (a 3 0 i 5) v 50 0 0 (a 3 0 i 5) = W 0 (a 3 0 i 5) := fun v => by rw [← hwo.1.1]; simp [zset]
            rw [e2]
            refine z_iload hG dX11_getRest_101 rfl ?_
            refine z_iadd hG dX11_getRest_103 (by omega) (by omega) ?_
            refine z_iast hG dX11_getRest_104 rfl rfl (by omega) (by omega) ?_
            refine z_goto hG dX11_getRest_105 (tgt := 115) rfl ?_
            refine z_vret hG hE dX11_getRest_115 ?_
            first
            | (exfalso; omega; done)
            | (have hz : zrst (zDc a) i w W = zbuyW (zDc a) i w W := by
                 unfold zrst
                 rw [d2, d3, if_pos (by omega)]
               rw [hz]
               exact ⟨rfl, hW1, hb1, ho1⟩)
            | (have hz : zrst (zDc a) i w W = zrepW (zDc a) i w W := by
                 unfold zrst
                 rw [d2, d3, d6, if_neg (by omega), if_pos (by omega)]
               rw [hz]
               refine ⟨rfl, ?_, fun j h0 h1 => ?_, zMo_set (zMo_set (zMo_set zMo_rf (by decide)) (by decide)) (by decide)⟩
               · unfold zrepW
                 rw [d6]
                 exact zMod_1 (zMod_1 (zMod_1 hW 55 i w (by decide)) 51 (a 3 0 i 5) _ (by decide)) 50 (a 3 0 i 5) _ (by decide)
               · have h2 := hb j h0 h1
                 unfold zrepW
                 rw [d6]
                 simp only [zps0]
                 by_cases q : j = a 3 0 i 5
                 · subst q
                   simp
                   omega
                 · simp [q]
                   omega)
            | (have hz : zrst (zDc a) i w W = zps0 W 6 i w := by
                 unfold zrst
                 rw [d2, d3, d6, if_neg (by omega), if_neg (by omega)]
               rw [hz]
               refine ⟨rfl, zMod_1 hW 56 i w (by decide), fun j h0 h1 => ?_, zMo_set zMo_rf (by decide)⟩
               have h2 := hb j h0 h1
               simp only [zps0]
               by_cases q : j = i
               · subst q
                 simp
                 omega
               · simp [q]
                 omega)
      · refine z_aload_n (i := 0) hG dX11_getRest_49 rfl rfl ?_
        refine z_iload_n (i := 1) hG dX11_getRest_50 rfl rfl ?_
        refine z_iload_n (i := 2) hG dX11_getRest_51 rfl rfl ?_
        refine z_callV hG dX11_getRest_52 LV_X11_147 (ct_X11_buy l g hp hR hi (by omega) hw hW hb) (by decide) rfl rfl rfl (Nat.le_of_ble_eq_true rfl) ?_
        intro v9 m1 h9
        obtain ⟨h9a, hW1, hb1, ho1⟩ := h9
        rw [h9a]
        clear h9a v9
        refine z_goto hG dX11_getRest_55 (tgt := 115) rfl ?_
        refine z_vret hG hE dX11_getRest_115 ?_
        first
        | (exfalso; omega; done)
        | (have hz : zrst (zDc a) i w W = zbuyW (zDc a) i w W := by
             unfold zrst
             rw [d2, d3, if_pos (by omega)]
           rw [hz]
           exact ⟨rfl, hW1, hb1, ho1⟩)
        | (have hz : zrst (zDc a) i w W = zrepW (zDc a) i w W := by
             unfold zrst
             rw [d2, d3, d6, if_neg (by omega), if_pos (by omega)]
           rw [hz]
           refine ⟨rfl, ?_, fun j h0 h1 => ?_, zMo_set (zMo_set (zMo_set zMo_rf (by decide)) (by decide)) (by decide)⟩
           · unfold zrepW
             rw [d6]
             exact zMod_1 (zMod_1 (zMod_1 hW 55 i w (by decide)) 51 (a 3 0 i 5) _ (by decide)) 50 (a 3 0 i 5) _ (by decide)
           · have h2 := hb j h0 h1
             unfold zrepW
             rw [d6]
             simp only [zps0]
             by_cases q : j = a 3 0 i 5
             · subst q
               simp
               omega
             · simp [q]
               omega)
        | (have hz : zrst (zDc a) i w W = zps0 W 6 i w := by
             unfold zrst
             rw [d2, d3, d6, if_neg (by omega), if_neg (by omega)]
           rw [hz]
           refine ⟨rfl, zMod_1 hW 56 i w (by decide), fun j h0 h1 => ?_, zMo_set zMo_rf (by decide)⟩
           have h2 := hb j h0 h1
           simp only [zps0]
           by_cases q : j = i
           · subst q
             simp
             omega
           · simp [q]
             omega)
theorem zpN_2 {D : zD} : ∀ (n : Nat) (j : Int), (n : Int) ≤ j → zpN D n 2 j = 0
  | 0, _, _ => rfl
  | n + 1, j, hj => by
    have ih := zpN_2 (D := D) n j (by omega)
    show zps D n (zpN D n) 2 j = 0
    have hjn : j ≠ (n : Int) := by omega
    rw [zps_eq]
    generalize (if D 1 (n : Int) 0 < zpN D n 0 (n : Int) then D 1 (n : Int) 0 else zpN D n 0 (n : Int)) = fr
    split
    · simp [zps0, hjn, ih]
    · split
      · simp [zbuyW, zps0, hjn, ih]
      · split
        · simp [zps0, hjn, ih]
        · simp [zps0, hjn, ih]
/-- what is no ingredient needs no plan -/
theorem zpN_stop {a : zM} (hp : zpc a) {n : Nat} (hn : a 2 0 0 4 ≤ n) : ∀ k : Nat, n + k ≤ 8 → zpN (zDc a) (n + k) = zpN (zDc a) n
  | 0, _ => rfl
  | k + 1, h => by
    rw [← zpN_stop hp hn k (by omega)]
    have hI := hp.2.2 ((n + k : Nat) : Int) (by omega) (by omega)
    have hpan := zsum_le (f := a 14 0 ((n + k : Nat) : Int)) (B := 12000000) 30 (fun j h0 h1 => hI.2.1 j h0 (by omega))
    have e1 : zDc a 1 ((n + k : Nat) : Int) 0 = zsum 30 (a 14 0 ((n + k : Nat) : Int)) := rfl
    have h0 := zpN_z hp (n + k) (by omega) ((n + k : Nat) : Int) (by omega)
    have h2 := zpN_2 (D := zDc a) (n + k) ((n + k : Nat) : Int) (Int.le_refl _)
    show zps (zDc a) ((n + k : Nat) : Int) (zpN (zDc a) (n + k)) = _
    have hfr : (if zsum 30 (a 14 0 ((n + k : Nat) : Int)) < 0 then zsum 30 (a 14 0 ((n + k : Nat) : Int)) else 0) = 0 := if_neg (by omega)
    rw [zps_eq, h0, e1, hfr, if_pos (by omega)]
    funext b j
    simp only [zps0]
    split
    · next q => rw [q.1, q.2, h2]
    · rfl
theorem zplb_0 {a : zM} (hp : zpc a) : zplb (zpN (zDc a) 0) := fun j h0 h1 => by
  have e : zpN (zDc a) 0 = fun b i => if b = 0 then zDc a 0 i 0 else 0 := rfl
  rw [e]
  have hq : 0 ≤ zDc a 0 j 0 ∧ zDc a 0 j 0 ≤ 100000 := by
    simp only [zDc]
    split
    · next h =>
      have := zsum_le (f := fun r => zscal a 0 r (a 17 0 r j)) (B := 10020) 4 (fun r r0 r1 => zscal_le ((hp.1 r r0 (by omega)).2.2.2 j h.1 h.2.2) (hp.1 r r0 (by omega)).1 (hp.1 r r0 (by omega)).2.1.2)
      omega
    · omega
  simp
  omega
set_option maxRecDepth 20000 in
theorem ct_X11_findNeeds (l : Launch) (g : zG) {a m : zM} (hp : zmp a) (hR : zRel a 0 (m 45 0 0)) : zMet l g Y_X11_findNeeds [zr 11 0 0] m (fun v m' => v = none ∧ zMod m' (zPl0 a) ∧ zplb (zPl0 a) ∧ zMo m' m) := by
  refine zMet_introF (by decide +kernel) (Nat.le_of_ble_eq_true rfl) (ls0 := [some (zr 11 0 0), none, none, none]) rfl fun X hG hE => ?_
  have hG : zGood X l g RX11 cX11_findNeeds 6 4 := hG
  have hE : zEnd X (none) _ := hE
  have h48 := hp.1.2.1
  have loop : ∀ (N k : Nat) (m0 : zM) (h lf : Option zV), (k : Int) + N = a 2 0 0 4 → zMod m0 (zpN (zDc a) k) → zplb (zpN (zDc a) k) → zMo m0 m → zZ X 6 [some (zr 11 0 0), some (zi k), h, lf] [] m0 := by
    intro N
    induction N with
    | zero =>
      intro k m0 h lf hk hW hb ho
      have hR0 : zRel a 0 (m0 45 0 0) := by rw [zMo_45 ho]; exact hR
      refine z_iload_n (i := 1) hG dX11_findNeeds_6 rfl rfl ?_
      refine z_aload_n (i := 0) hG dX11_findNeeds_7 rfl rfl ?_
      refine z_get_11_0 hG dX11_findNeeds_8 FL_X11_7 ?_
      refine z_iconst hG dX11_findNeeds_11 rfl ?_
      refine z_iald hG dX11_findNeeds_12 rfl rfl (by omega) (by omega) ?_
      rw [hR0.2.1]
      refine z_icmp_ge hG dX11_findNeeds_13 (tgt := 78) rfl (fun c13 => ?_) (fun c13 => ?_)
      · refine z_vret hG hE dX11_findNeeds_78 ?_
        have e : zPl0 a = zpN (zDc a) k := by
          have := zpN_stop hp.1 (n := k) (by omega) (8 - k) (by omega)
          rw [show k + (8 - k) = 8 by omega] at this
          exact this
        rw [e]
        exact ⟨rfl, hW, hb, ho⟩
      · exact absurd c13 (by omega)
    | succ N ih =>
      intro k m0 h lf hk hW hb ho
      have hR0 : zRel a 0 (m0 45 0 0) := by rw [zMo_45 ho]; exact hR
      have hri := hR0.2.2.2.2.2.2.1 k (by omega) (by omega) (by omega)
      obtain ⟨hkin, hlot, hrep⟩ := hp.1.2.2 k (by omega) (by omega)
      have hWk := hW k (by omega) (by omega)
      have hbk := hb k (by omega) (by omega)
      have hpan := zsum_le (f := a 14 0 k) (B := 12000000) 30 (fun j h0 h1 => hlot j h0 (by omega))
      obtain ⟨fr, hfr⟩ : ∃ fr : Int, fr = (if zsum 30 (a 14 0 k) < zpN (zDc a) k 0 k then zsum 30 (a 14 0 k) else zpN (zDc a) k 0 k) := ⟨_, rfl⟩
      have hfb : 0 ≤ fr ∧ fr ≤ zpN (zDc a) k 0 k := by rw [hfr]; split <;> omega
      have eo : ∀ (t : Nat) (s j q : Int), t ≠ 52 → zset m0 52 0 0 k fr t s j q = m0 t s j q := fun t s j q h => by simp [zset, h]
      have e52 : zset m0 52 0 0 k fr 52 0 0 k = fr := by simp [zset]
      have hW2 : zMod (zset m0 52 0 0 k fr) (zps0 (zpN (zDc a) k) 2 k fr) := zMod_1 hW 52 k fr (by decide)
      have hb2 : zplb (zps0 (zpN (zDc a) k) 2 k fr) := fun j h0 h1 => by
        have := hb j h0 h1
        simp only [zps0]
        by_cases q : j = (k : Int)
        · subst q
          simp
          omega
        · simp [q]
          omega
      have ho2 : zMo (zset m0 52 0 0 k fr) m := zMo_set ho (by decide)
      have hR2 : zRel a 0 (zset m0 52 0 0 k fr 45 0 0) := by rw [zMo_45 ho2]; exact hR
      have hps : zpN (zDc a) (k + 1) = if zpN (zDc a) k 0 k - fr ≤ 0 then zps0 (zpN (zDc a) k) 2 k fr else zrst (zDc a) k (zpN (zDc a) k 0 k - fr) (zps0 (zpN (zDc a) k) 2 k fr) := by
        rw [hfr]
        exact zps_rst (zDc a) k (zpN (zDc a) k)
      refine z_iload_n (i := 1) hG dX11_findNeeds_6 rfl rfl ?_
      refine z_aload_n (i := 0) hG dX11_findNeeds_7 rfl rfl ?_
      refine z_get_11_0 hG dX11_findNeeds_8 FL_X11_7 ?_
      refine z_iconst hG dX11_findNeeds_11 rfl ?_
      refine z_iald hG dX11_findNeeds_12 rfl rfl (by omega) (by omega) ?_
      rw [hR0.2.1]
      refine z_icmp_ge hG dX11_findNeeds_13 (tgt := 78) rfl (fun c13 => ?_) (fun c13 => ?_)
      · exact absurd c13 (by omega)
      · refine z_aload_n (i := 0) hG dX11_findNeeds_16 rfl rfl ?_
        refine z_iload_n (i := 1) hG dX11_findNeeds_17 rfl rfl ?_
        refine z_callV hG dX11_findNeeds_18 LV_X11_103 (ct_X11_pantry l g ⟨by omega, by omega⟩ (zRi_B hp.2.2.2.2 hri hlot)) (by decide) rfl rfl rfl (Nat.le_of_ble_eq_true rfl) ?_
        intro v9 m9 h9
        rw [h9.1, h9.2, zRi_sum hp.2.2.2.2 hri]
        clear h9 m9 v9
        refine z_istore_n (i := 2) hG dX11_findNeeds_21 rfl (by decide) (ls2 := [_, _, _, _]) rfl ?_
        refine z_aload_n (i := 0) hG dX11_findNeeds_22 rfl rfl ?_
        refine z_get_11_9 hG dX11_findNeeds_23 FL_X11_32 ?_
        refine z_iload_n (i := 1) hG dX11_findNeeds_26 rfl rfl ?_
        refine z_iload_n (i := 2) hG dX11_findNeeds_27 rfl rfl ?_
        refine z_aload_n (i := 0) hG dX11_findNeeds_28 rfl rfl ?_
        refine z_get_11_7 hG dX11_findNeeds_29 FL_X11_26 ?_
        refine z_iload_n (i := 1) hG dX11_findNeeds_32 rfl rfl ?_
        refine z_iald hG dX11_findNeeds_33 rfl rfl (by omega) (by omega) ?_
        rw [hWk.1.1]
        refine z_icmp_ge hG dX11_findNeeds_34 (tgt := 41) rfl (fun c34 => ?_) (fun c34 => ?_)
        · refine z_aload_n (i := 0) hG dX11_findNeeds_41 rfl rfl ?_
          refine z_get_11_7 hG dX11_findNeeds_42 FL_X11_26 ?_
          refine z_iload_n (i := 1) hG dX11_findNeeds_45 rfl rfl ?_
          refine z_iald hG dX11_findNeeds_46 rfl rfl (by omega) (by omega) ?_
          refine z_top (y := fr) (by
            rw [hfr]
            first
            | (rw [if_pos (by omega)]; done)
            | (rw [if_neg (by omega)]; exact hWk.1.1)) ?_
          refine z_iast hG dX11_findNeeds_47 rfl rfl (by omega) (by omega) ?_
          refine z_aload_n (i := 0) hG dX11_findNeeds_48 rfl rfl ?_
          refine z_get_11_7 hG dX11_findNeeds_49 FL_X11_26 ?_
          refine z_iload_n (i := 1) hG dX11_findNeeds_52 rfl rfl ?_
          refine z_iald hG dX11_findNeeds_53 rfl rfl (by omega) (by omega) ?_
          rw [eo 50 0 0 k (by decide), hWk.1.1]
          refine z_aload_n (i := 0) hG dX11_findNeeds_54 rfl rfl ?_
          refine z_get_11_9 hG dX11_findNeeds_55 FL_X11_32 ?_
          refine z_iload_n (i := 1) hG dX11_findNeeds_58 rfl rfl ?_
          refine z_iald hG dX11_findNeeds_59 rfl rfl (by omega) (by omega) ?_
          rw [e52]
          refine z_isub hG dX11_findNeeds_60 (by omega) (by omega) ?_
          refine z_istore_n (i := 3) hG dX11_findNeeds_61 rfl (by decide) (ls2 := [_, _, _, _]) rfl ?_
          refine z_iload_n (i := 3) hG dX11_findNeeds_62 rfl rfl ?_
          refine z_if_le hG dX11_findNeeds_63 (tgt := 72) rfl (fun c63 => ?_) (fun c63 => ?_)
          · refine z_iinc hG dX11_findNeeds_72 (by decide) rfl (by omega) (by omega) (ls2 := [_, _, _, _]) rfl ?_
            refine z_goto hG dX11_findNeeds_75 (tgt := 6) rfl ?_
            first
            | (exfalso; omega; done)
            | (refine ih (k + 1) m1 _ _ (by omega) ?_ ?_ (zMo_tr ho1 ho2)
               · rw [hps, if_neg (by omega)]; exact hW1
               · rw [hps, if_neg (by omega)]; exact hb1)
            | (refine ih (k + 1) _ _ _ (by omega) ?_ ?_ ho2
               · rw [hps, if_pos (by omega)]; exact hW2
               · rw [hps, if_pos (by omega)]; exact hb2)
          · refine z_aload_n (i := 0) hG dX11_findNeeds_66 rfl rfl ?_
            refine z_iload_n (i := 1) hG dX11_findNeeds_67 rfl rfl ?_
            refine z_iload_n (i := 3) hG dX11_findNeeds_68 rfl rfl ?_
            refine z_callV hG dX11_findNeeds_69 LV_X11_144 (ct_X11_getRest l g hp hR2 ⟨by omega, by omega⟩ ⟨by omega, by omega⟩ hW2 hb2) (by decide) rfl rfl rfl (Nat.le_of_ble_eq_true rfl) ?_
            intro v9 m1 h9
            obtain ⟨h9a, hW1, hb1, ho1⟩ := h9
            rw [h9a]
            clear h9a v9
            refine z_iinc hG dX11_findNeeds_72 (by decide) rfl (by omega) (by omega) (ls2 := [_, _, _, _]) rfl ?_
            refine z_goto hG dX11_findNeeds_75 (tgt := 6) rfl ?_
            first
            | (exfalso; omega; done)
            | (refine ih (k + 1) m1 _ _ (by omega) ?_ ?_ (zMo_tr ho1 ho2)
               · rw [hps, if_neg (by omega)]; exact hW1
               · rw [hps, if_neg (by omega)]; exact hb1)
            | (refine ih (k + 1) _ _ _ (by omega) ?_ ?_ ho2
               · rw [hps, if_pos (by omega)]; exact hW2
               · rw [hps, if_pos (by omega)]; exact hb2)
        · refine z_iload_n (i := 2) hG dX11_findNeeds_37 rfl rfl ?_
          refine z_goto hG dX11_findNeeds_38 (tgt := 47) rfl ?_
          refine z_top (y := fr) (by
            rw [hfr]
            first
            | (rw [if_pos (by omega)]; done)
            | (rw [if_neg (by omega)]; exact hWk.1.1)) ?_
          refine z_iast hG dX11_findNeeds_47 rfl rfl (by omega) (by omega) ?_
          refine z_aload_n (i := 0) hG dX11_findNeeds_48 rfl rfl ?_
          refine z_get_11_7 hG dX11_findNeeds_49 FL_X11_26 ?_
          refine z_iload_n (i := 1) hG dX11_findNeeds_52 rfl rfl ?_
          refine z_iald hG dX11_findNeeds_53 rfl rfl (by omega) (by omega) ?_
          rw [eo 50 0 0 k (by decide), hWk.1.1]
          refine z_aload_n (i := 0) hG dX11_findNeeds_54 rfl rfl ?_
          refine z_get_11_9 hG dX11_findNeeds_55 FL_X11_32 ?_
          refine z_iload_n (i := 1) hG dX11_findNeeds_58 rfl rfl ?_
          refine z_iald hG dX11_findNeeds_59 rfl rfl (by omega) (by omega) ?_
          rw [e52]
          refine z_isub hG dX11_findNeeds_60 (by omega) (by omega) ?_
          refine z_istore_n (i := 3) hG dX11_findNeeds_61 rfl (by decide) (ls2 := [_, _, _, _]) rfl ?_
          refine z_iload_n (i := 3) hG dX11_findNeeds_62 rfl rfl ?_
          refine z_if_le hG dX11_findNeeds_63 (tgt := 72) rfl (fun c63 => ?_) (fun c63 => ?_)
          · refine z_iinc hG dX11_findNeeds_72 (by decide) rfl (by omega) (by omega) (ls2 := [_, _, _, _]) rfl ?_
            refine z_goto hG dX11_findNeeds_75 (tgt := 6) rfl ?_
            first
            | (exfalso; omega; done)
            | (refine ih (k + 1) m1 _ _ (by omega) ?_ ?_ (zMo_tr ho1 ho2)
               · rw [hps, if_neg (by omega)]; exact hW1
               · rw [hps, if_neg (by omega)]; exact hb1)
            | (refine ih (k + 1) _ _ _ (by omega) ?_ ?_ ho2
               · rw [hps, if_pos (by omega)]; exact hW2
               · rw [hps, if_pos (by omega)]; exact hb2)
          · refine z_aload_n (i := 0) hG dX11_findNeeds_66 rfl rfl ?_
            refine z_iload_n (i := 1) hG dX11_findNeeds_67 rfl rfl ?_
            refine z_iload_n (i := 3) hG dX11_findNeeds_68 rfl rfl ?_
            refine z_callV hG dX11_findNeeds_69 LV_X11_144 (ct_X11_getRest l g hp hR2 ⟨by omega, by omega⟩ ⟨by omega, by omega⟩ hW2 hb2) (by decide) rfl rfl rfl (Nat.le_of_ble_eq_true rfl) ?_
            intro v9 m1 h9
            obtain ⟨h9a, hW1, hb1, ho1⟩ := h9
            rw [h9a]
            clear h9a v9
            refine z_iinc hG dX11_findNeeds_72 (by decide) rfl (by omega) (by omega) (ls2 := [_, _, _, _]) rfl ?_
            refine z_goto hG dX11_findNeeds_75 (tgt := 6) rfl ?_
            first
            | (exfalso; omega; done)
            | (refine ih (k + 1) m1 _ _ (by omega) ?_ ?_ (zMo_tr ho1 ho2)
               · rw [hps, if_neg (by omega)]; exact hW1
               · rw [hps, if_neg (by omega)]; exact hb1)
            | (refine ih (k + 1) _ _ _ (by omega) ?_ ?_ ho2
               · rw [hps, if_pos (by omega)]; exact hW2
               · rw [hps, if_pos (by omega)]; exact hb2)
  refine z_aload_n (i := 0) hG dX11_findNeeds_0 rfl rfl ?_
  refine z_callV hG dX11_findNeeds_1 LV_X11_141 (ct_X11_clearNeeds l g hp hR) (by decide) rfl rfl rfl (Nat.le_of_ble_eq_true rfl) ?_
  intro v9 m1 h9
  obtain ⟨h9a, hW1, ho1⟩ := h9
  rw [h9a]
  clear h9a v9
  refine z_iconst hG dX11_findNeeds_4 rfl ?_
  refine z_istore_n (i := 1) hG dX11_findNeeds_5 rfl (by decide) (ls2 := [_, _, _, _]) rfl ?_
  exact loop (a 2 0 0 4).toNat 0 m1 none none (by omega) hW1 (zplb_0 hp.1) ho1
