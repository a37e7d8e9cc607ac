def zmore (D : zD) (i left : Int) : Int := (left * D 7 i 0 + 100 - 1) / 100
def zrepW (D : zD) (i left : Int) (W : zPl) : zPl := zps0 (zps0 (zps0 W 5 i left) 1 (D 6 i 0) (W 1 (D 6 i 0) + zmore D i left)) 0 (D 6 i 0) (W 0 (D 6 i 0) + zmore D i left)
theorem zmore_le {D : zD} {i left : Int} (hl : 0 ≤ left ∧ left ≤ 100000) (hr : 10 ≤ D 7 i 0 ∧ D 7 i 0 ≤ 200) : 0 ≤ zmore D i left ∧ zmore D i left ≤ 200001 ∧ 0 ≤ left * D 7 i 0 ∧ left * D 7 i 0 ≤ 20000000 := by
  have hm := zmulb hl.1 hl.2 (by omega) hr.2
  unfold zmore
  omega
theorem zps_eq (D : zD) (i : Int) (W : zPl) : zps D i W =
  (if W 0 i - (if D 1 i 0 < W 0 i then D 1 i 0 else W 0 i) ≤ 0 then zps0 W 2 i (if D 1 i 0 < W 0 i then D 1 i 0 else W 0 i)
   else if D 2 i 0 ≠ 0 ∧ 0 < D 3 i 0 then zbuyW D i (W 0 i - (if D 1 i 0 < W 0 i then D 1 i 0 else W 0 i)) (zps0 W 2 i (if D 1 i 0 < W 0 i then D 1 i 0 else W 0 i))
   else if 0 ≤ D 6 i 0 ∧ W 0 (D 6 i 0) + zmore D i (W 0 i - (if D 1 i 0 < W 0 i then D 1 i 0 else W 0 i)) ≤ 100000 then zps0 (zps0 (zps0 (zps0 W 2 i (if D 1 i 0 < W 0 i then D 1 i 0 else W 0 i)) 5 i (W 0 i - (if D 1 i 0 < W 0 i then D 1 i 0 else W 0 i))) 1 (D 6 i 0) (W 1 (D 6 i 0) + zmore D i (W 0 i - (if D 1 i 0 < W 0 i then D 1 i 0 else W 0 i)))) 0 (D 6 i 0) (W 0 (D 6 i 0) + zmore D i (W 0 i - (if D 1 i 0 < W 0 i then D 1 i 0 else W 0 i)))
   else zps0 (zps0 W 2 i (if D 1 i 0 < W 0 i then D 1 i 0 else W 0 i)) 6 i (W 0 i - (if D 1 i 0 < W 0 i then D 1 i 0 else W 0 i))) := rfl
set_option maxRecDepth 20000 in
theorem ct_X6_replace (l : Launch) (g : zG) {mem : zM} {i w : Int} {W : zPl} (hi : 0 ≤ i ∧ i < 8) (hn : 0 ≤ mem 2 0 0 4 ∧ mem 2 0 0 4 ≤ 8) (hr : mem 3 0 i 5 = -6 ∨ (i < mem 3 0 i 5 ∧ mem 3 0 i 5 < mem 2 0 0 4 ∧ 10 ≤ mem 3 0 i 6 ∧ mem 3 0 i 6 ≤ 200)) (hw : 1 ≤ w ∧ w ≤ 100000) (hW : zShop mem W) (hb : zplb W) : zMet l g Y_X6_replace [zr 8 0 0, zr 2 0 0, zi i, zi w] mem (fun v m' => (∀ (t : Nat) (s i' k : Int), t ≠ 23 → t ≠ 24 → t ≠ 28 → m' t s i' k = mem t s i' k) ∧ ((0 ≤ mem 3 0 i 5 ∧ W 0 (mem 3 0 i 5) + zmore (zDc mem) i w ≤ 100000 ∧ v = some (zi 1) ∧ zShop m' (zrepW (zDc mem) i w W)) ∨ (¬ (0 ≤ mem 3 0 i 5 ∧ W 0 (mem 3 0 i 5) + zmore (zDc mem) i w ≤ 100000) ∧ v = some (zi 0) ∧ m' = mem))) := by
  refine zMet_introF (by decide +kernel) (Nat.le_of_ble_eq_true rfl) (ls0 := [some (zr 8 0 0), some (zr 2 0 0), some (zi i), some (zi w), none, none]) rfl fun X hG hE => ?_
  have hG : zGood X l g RX6 cX6_replace 1 6 := hG
  have hE : zEnd X (some .boolean) _ := hE
  refine z_aload_n (i := 1) hG dX6_replace_0 rfl rfl ?_
  refine z_get_7_6 hG dX6_replace_1 FL_X6_62 ?_
  refine z_iload_n (i := 2) hG dX6_replace_4 rfl rfl ?_
  refine z_aa_15 hG dX6_replace_5 (by omega) (by omega) ?_
  refine z_getI hG dX6_replace_6 FL_X6_110 rfl rfl (kk := 5) rfl ?_
  refine z_istore hG dX6_replace_9 (by decide) (ls2 := [_, _, _, _, _, _]) rfl ?_
  refine z_aload_n (i := 1) hG dX6_replace_11 rfl rfl ?_
  refine z_iload hG dX6_replace_12 rfl ?_
  refine z_callV hG dX6_replace_14 LV_X6_113 (ct_X7_hasIngredient l g) (by decide) rfl rfl rfl (Nat.le_of_ble_eq_true rfl) ?_
  intro v9 m9 h9
  rw [h9.1, h9.2]
  clear h9 m9 v9
  refine z_if_ne hG dX6_replace_17 (tgt := 22) rfl (fun c17 => ?_) (fun c17 => ?_)
  · try simp only [zite_eq0, ne_eq, Classical.not_not] at c17
    have hr2 : i < mem 3 0 i 5 ∧ mem 3 0 i 5 < mem 2 0 0 4 ∧ 10 ≤ mem 3 0 i 6 ∧ mem 3 0 i 6 ≤ 200 := by omega
    have hm := zmore_le (D := zDc mem) (i := i) (left := w) ⟨by omega, hw.2⟩ hr2.2.2
    have hm2 : 0 ≤ w * mem 3 0 i 6 ∧ w * mem 3 0 i 6 ≤ 20000000 := hm.2.2
    have hwo := hW (mem 3 0 i 5) (by omega) (by omega)
    have hbo := hb (mem 3 0 i 5) (by omega) (by omega)
    refine z_iload_n (i := 3) hG dX6_replace_22 rfl rfl ?_
    refine z_aload_n (i := 1) hG dX6_replace_23 rfl rfl ?_
    refine z_get_7_6 hG dX6_replace_24 FL_X6_62 ?_
    refine z_iload_n (i := 2) hG dX6_replace_27 rfl rfl ?_
    refine z_aa_15 hG dX6_replace_28 (by omega) (by omega) ?_
    refine z_getI hG dX6_replace_29 FL_X6_117 rfl rfl (kk := 6) rfl ?_
    refine z_imul hG dX6_replace_32 (by omega) (by omega) ?_
    refine z_bipush hG dX6_replace_33 rfl ?_
    refine z_callN hG dX6_replace_35 LN_X6_120 (ct_X10_roundedUp l g (by omega) (by decide) (by omega)) (by decide) rfl rfl (Nat.le_of_ble_eq_true rfl) ?_
    intro v9 m9 h9
    rw [h9.1, h9.2]
    clear h9 m9 v9
    have em : (w * mem 3 0 i 6 + 100 - 1) / 100 = zmore (zDc mem) i w := rfl
    rw [em]
    refine z_istore hG dX6_replace_38 (by decide) (ls2 := [_, _, _, _, _, _]) rfl ?_
    refine z_aload_n (i := 0) hG dX6_replace_40 rfl rfl ?_
    refine z_get_6_0 hG dX6_replace_41 FL_X6_9 ?_
    refine z_iload hG dX6_replace_44 rfl ?_
    refine z_iald hG dX6_replace_46 rfl rfl (by omega) (by omega) ?_
    refine z_iload hG dX6_replace_47 rfl ?_
    rw [hwo.1.1]
    refine z_iadd hG dX6_replace_49 (by omega) (by omega) ?_
    refine z_ldc hG dX6_replace_50 KC_X6_123 rfl ?_
    refine z_icmp_le hG dX6_replace_52 (tgt := 57) rfl (fun c52 => ?_) (fun c52 => ?_)
    · refine z_aload_n (i := 0) hG dX6_replace_57 rfl rfl ?_
      refine z_get_6_5 hG dX6_replace_58 FL_X6_27 ?_
      refine z_iload_n (i := 2) hG dX6_replace_61 rfl rfl ?_
      refine z_iload_n (i := 3) hG dX6_replace_62 rfl rfl ?_
      refine z_iast hG dX6_replace_63 rfl rfl (by omega) (by omega) ?_
      refine z_aload_n (i := 0) hG dX6_replace_64 rfl rfl ?_
      refine z_get_6_1 hG dX6_replace_65 FL_X6_15 ?_
      refine z_iload hG dX6_replace_68 rfl ?_
      refine z_dup2 hG dX6_replace_70 ?_
      refine z_iald hG dX6_replace_71 rfl rfl (by omega) (by omega) ?_
      refine z_iload hG dX6_replace_72 rfl ?_
      have e1 : zset mem 28 0 0 i w 24 0 0 (mem 3 0 i 5) = W 1 (mem 3 0 i 5) := by rw [← hwo.1.2.1]; simp [zset]
      rw [e1]
      refine z_iadd hG dX6_replace_74 (by omega) (by omega) ?_
      refine z_iast hG dX6_replace_75 rfl rfl (by omega) (by omega) ?_
      refine z_aload_n (i := 0) hG dX6_replace_76 rfl rfl ?_
      refine z_get_6_0 hG dX6_replace_77 FL_X6_9 ?_
      refine z_iload hG dX6_replace_80 rfl ?_
      refine z_dup2 hG dX6_replace_82 ?_
      refine z_iald hG dX6_replace_83 rfl rfl (by omega) (by omega) ?_
      refine z_iload hG dX6_replace_84 rfl ?_
      have e2 : zset (zset mem 28 0 0 i w) 24 0 0 (mem 3 0 i 5) (W 1 (mem 3 0 i 5) + zmore (zDc mem) i w) 23 0 0 (mem 3 0 i 5) = W 0 (mem 3 0 i 5) := by rw [← hwo.1.1]; simp [zset]
      rw [e2]
      refine z_iadd hG dX6_replace_86 (by omega) (by omega) ?_
      refine z_iast hG dX6_replace_87 rfl rfl (by omega) (by omega) ?_
      refine z_iconst hG dX6_replace_88 rfl ?_
      refine z_iret hG hE dX6_replace_89 (by first | exact Or.inl rfl | exact Or.inr rfl | (show _ ∨ _; omega)) ?_
      refine ⟨fun t s i' k h1 h2 h3 => by simp [zset, h1, h2, h3], Or.inl ⟨by omega, by omega, rfl, fun j h0 h1 => ?_⟩⟩
      have hWj := hW j h0 h1
      have e6 : zDc mem 6 i 0 = mem 3 0 i 5 := rfl
      unfold zrepW
      rw [e6]
      refine ⟨⟨?_, ?_, ?_, ?_, ?_, ?_, ?_, ?_⟩, ?_, ?_, ?_⟩ <;> simp only [zps0, zset] <;> grind
    · refine z_iconst hG dX6_replace_55 rfl ?_
      refine z_iret hG hE dX6_replace_56 (by first | exact Or.inl rfl | exact Or.inr rfl | (show _ ∨ _; omega)) ?_
      exact ⟨fun _ _ _ _ _ _ _ => rfl, Or.inr ⟨fun z => by omega, rfl, rfl⟩⟩
  · try simp only [zite_eq0, ne_eq, Classical.not_not] at c17
    refine z_iconst hG dX6_replace_20 rfl ?_
    refine z_iret hG hE dX6_replace_21 (by first | exact Or.inl rfl | exact Or.inr rfl | (show _ ∨ _; omega)) ?_
    exact ⟨fun _ _ _ _ _ _ _ => rfl, Or.inr ⟨fun z => c17 (by omega), rfl, rfl⟩⟩
set_option maxRecDepth 20000 in
theorem ct_X6_planOne (l : Launch) (g : zG) {mem : zM} {i : Int} {W : zPl} (hi : 0 ≤ i ∧ i < 8) (hp : zpc mem) (hsea : zsea mem) (hW : zShop mem W) (hb : zplb W) (hz : mem 2 0 0 4 ≤ i → W 0 i = 0) : zMet l g Y_X6_planOne [zr 8 0 0, zr 2 0 0, zi i] mem (fun v m' => v = none ∧ (∀ (t : Nat) (s i' k : Int), ¬ zscr t → m' t s i' k = mem t s i' k) ∧ zsea m' ∧ zShop m' (zps (zDc mem) i W) ∧ zplb (zps (zDc mem) i W)) := by
  refine zMet_introF (by decide +kernel) (Nat.le_of_ble_eq_true rfl) (ls0 := [some (zr 8 0 0), some (zr 2 0 0), some (zi i), none, none]) rfl fun X hG hE => ?_
  have hG : zGood X l g RX6 cX6_planOne 4 5 := hG
  have hE : zEnd X (none) _ := hE
  obtain ⟨hrec, hn, hI⟩ := id hp
  obtain ⟨hk, hlot, hrep⟩ := hI i hi.1 hi.2
  have hWi := hW i hi.1 hi.2
  have hbi := hb i hi.1 hi.2
  have hpan := zsum_le (f := mem 14 0 i) (B := 12000000) 30 (fun j h0 h1 => hlot j h0 (by omega))
  refine z_aload_n (i := 1) hG dX6_planOne_0 rfl rfl ?_
  refine z_get_7_6 hG dX6_planOne_1 FL_X6_62 ?_
  refine z_iload_n (i := 2) hG dX6_planOne_4 rfl rfl ?_
  refine z_aa_15 hG dX6_planOne_5 (by omega) (by omega) ?_
  refine z_astore_n (i := 3) hG dX6_planOne_6 rfl (by decide) (ls2 := [_, _, _, _, _]) rfl ?_
  refine z_aload_n (i := 0) hG dX6_planOne_7 rfl rfl ?_
  refine z_get_6_2 hG dX6_planOne_8 FL_X6_18 ?_
  refine z_iload_n (i := 2) hG dX6_planOne_11 rfl rfl ?_
  refine z_aload_n (i := 0) hG dX6_planOne_12 rfl rfl ?_
  refine z_get_6_0 hG dX6_planOne_13 FL_X6_9 ?_
  refine z_iload_n (i := 2) hG dX6_planOne_16 rfl rfl ?_
  refine z_iald hG dX6_planOne_17 rfl rfl (by omega) (by omega) ?_
  refine z_aload_n (i := 3) hG dX6_planOne_18 rfl rfl ?_
  refine z_callV hG dX6_planOne_19 LV_X6_66 (ct_X1_inPantry l g hlot) (by decide) rfl rfl rfl (Nat.le_of_ble_eq_true rfl) ?_
  intro v9 m9 h9
  rw [h9.1, h9.2]
  clear h9 m9 v9
  refine z_min hG dX6_planOne_22 LM_X6_72 (by decide) (Nat.le_of_ble_eq_true rfl) ?_
  rw [hWi.1.1]
  have hfr : ∃ fr : Int, fr = (if zsum 30 (mem 14 0 i) < W 0 i then zsum 30 (mem 14 0 i) else W 0 i) := ⟨_, rfl⟩
  obtain ⟨fr, hfr⟩ := hfr
  rw [← hfr]
  have hfb : 0 ≤ fr ∧ fr ≤ W 0 i := by rw [hfr]; split <;> omega
  have eo : ∀ (t : Nat) (s i' k : Int), t ≠ 25 → zset mem 25 0 0 i fr t s i' k = mem t s i' k := fun t s i' k h => by simp [zset, h]
  have e25 : zset mem 25 0 0 i fr 25 0 0 i = fr := by simp [zset]
  have hW2 : zShop (zset mem 25 0 0 i fr) (zps0 W 2 i fr) := fun j h0 h1 => by
    have hWj := hW j h0 h1
    refine ⟨⟨?_, ?_, ?_, ?_, ?_, ?_, ?_, ?_⟩, ?_, ?_, ?_⟩ <;> simp only [zps0, zset] <;> grind
  have hb2 : zplb (zps0 W 2 i fr) := fun j h0 h1 => by
    have := hb j h0 h1
    simp only [zps0]
    by_cases q : j = i
    · subst q
      simp
      omega
    · simp [q]
      omega
  have hsea2 : zsea (zset mem 25 0 0 i fr) := fun j h0 h1 => by
    rw [eo 36 0 0 j (by decide), eo 37 0 0 j (by decide)]
    exact hsea j h0 h1
  have hk2 : zkin (zset mem 25 0 0 i fr) 0 i := by
    have e3 : ∀ k, zset mem 25 0 0 i fr 3 0 i k = mem 3 0 i k := fun k => eo 3 0 i k (by decide)
    have e12 : ∀ k, zset mem 25 0 0 i fr 12 0 i k = mem 12 0 i k := fun k => eo 12 0 i k (by decide)
    have e13 : ∀ k, zset mem 25 0 0 i fr 13 0 i k = mem 13 0 i k := fun k => eo 13 0 i k (by decide)
    unfold zkin
    simp only [e3, e12, e13]
    exact hk
  have hDD : zDc (zset mem 25 0 0 i fr) = zDc mem := zDc_congr (fun t s i' k h => eo t s i' k (fun z => h (by rw [z]; simp [zscr])))
  have hfr2 : fr = (if zDc mem 1 i 0 < W 0 i then zDc mem 1 i 0 else W 0 i) := hfr
  refine z_iast hG dX6_planOne_25 rfl rfl (by omega) (by omega) ?_
  refine z_aload_n (i := 0) hG dX6_planOne_26 rfl rfl ?_
  refine z_get_6_0 hG dX6_planOne_27 FL_X6_9 ?_
  refine z_iload_n (i := 2) hG dX6_planOne_30 rfl rfl ?_
  refine z_iald hG dX6_planOne_31 rfl rfl (by omega) (by omega) ?_
  rw [eo 23 0 0 i (by decide), hWi.1.1]
  refine z_aload_n (i := 0) hG dX6_planOne_32 rfl rfl ?_
  refine z_get_6_2 hG dX6_planOne_33 FL_X6_18 ?_
  refine z_iload_n (i := 2) hG dX6_planOne_36 rfl rfl ?_
  refine z_iald hG dX6_planOne_37 rfl rfl (by omega) (by omega) ?_
  rw [e25]
  refine z_isub hG dX6_planOne_38 (by omega) (by omega) ?_
  refine z_istore hG dX6_planOne_39 (by decide) (ls2 := [_, _, _, _, _]) rfl ?_
  refine z_iload hG dX6_planOne_41 rfl ?_
  refine z_if_gt hG dX6_planOne_43 (tgt := 47) rfl (fun c43 => ?_) (fun c43 => ?_)
  · refine z_aload_n (i := 3) hG dX6_planOne_47 rfl rfl ?_
    refine z_getI hG dX6_planOne_48 FL_X6_78 rfl rfl (kk := 1) rfl ?_
    rw [eo 3 0 i 1 (by decide)]
    refine z_if_eq hG dX6_planOne_51 (tgt := 72) rfl (fun c51 => ?_) (fun c51 => ?_)
    · try simp only [zite_eq0, ne_eq, Classical.not_not] at c51
      refine z_aload_n (i := 0) hG dX6_planOne_72 rfl rfl ?_
      refine z_aload_n (i := 1) hG dX6_planOne_73 rfl rfl ?_
      refine z_iload_n (i := 2) hG dX6_planOne_74 rfl rfl ?_
      refine z_iload hG dX6_planOne_75 rfl ?_
      refine z_callV hG dX6_planOne_77 LV_X6_90 (ct_X6_replace l g (W := zps0 W 2 i fr) hi (by rw [eo 2 0 0 4 (by decide)]; exact hn) (by rw [eo 3 0 i 5 (by decide), eo 3 0 i 6 (by decide), eo 2 0 0 4 (by decide)]; exact hrep (Int.not_le.mp fun z => by have := hz z; omega)) ⟨by omega, by omega⟩ hW2 hb2) (by decide) rfl rfl rfl (Nat.le_of_ble_eq_true rfl) ?_
      intro v9 m3 h9
      obtain ⟨hO3, h9⟩ := h9
      rw [hDD] at h9
      rw [eo 3 0 i 5 (by decide)] at h9
      have hW0 : ∀ q : Int, zps0 W 2 i fr 0 q = W 0 q := fun q => by simp [zps0]
      have hW1 : ∀ q : Int, zps0 W 2 i fr 1 q = W 1 q := fun q => by simp [zps0]
      rw [hW0] at h9
      have hcase : ¬ (zDc mem 2 i 0 ≠ 0 ∧ 0 < zDc mem 3 i 0) := by
        have e2 : zDc mem 2 i 0 = mem 3 0 i 1 := rfl
        have e3 : zDc mem 3 i 0 = mem 3 0 i 2 := rfl
        rw [e2, e3]
        omega
      have hO4 : ∀ (t : Nat) (s i' k : Int), ¬ zscr t → m3 t s i' k = mem t s i' k := fun t s i' k h => by
        unfold zscr at h
        rw [hO3 t s i' k (by omega) (by omega) (by omega), eo t s i' k (by omega)]
      have hsea4 : zsea m3 := fun j h0 h1 => by
        rw [hO3 36 0 0 j (by decide) (by decide) (by decide), hO3 37 0 0 j (by decide) (by decide) (by decide)]
        exact hsea2 j h0 h1
      rcases h9 with ⟨p1, p2, p3, p4⟩ | ⟨p1, p3, p4⟩
      · rw [p3]
        clear p3 v9
        refine z_if_ne hG dX6_planOne_80 (tgt := 91) rfl (fun c80 => ?_) (fun c80 => ?_)
        · try simp only [zite_eq0, ne_eq, Classical.not_not] at c80
          refine z_vret hG hE dX6_planOne_91 ?_
          have e6 : zDc mem 6 i 0 = mem 3 0 i 5 := rfl
          have hz : zps (zDc mem) i W = zrepW (zDc mem) i (W 0 i - fr) (zps0 W 2 i fr) := by
            rw [zps_eq, ← hfr2, if_neg (by omega), if_neg hcase, if_pos ⟨by rw [e6]; exact p1, by rw [e6]; exact p2⟩]
            unfold zrepW
            rw [hW1, hW0]
          refine ⟨rfl, hO4, hsea4, ?_, ?_⟩
          · rw [hz]; exact p4
          · rw [hz]
            have hm := zmore_le (D := zDc mem) (i := i) (left := W 0 i - fr) ⟨by omega, by omega⟩ (by show 10 ≤ mem 3 0 i 6 ∧ mem 3 0 i 6 ≤ 200; omega)
            intro j h0 h1
            have h2 := hb2 j h0 h1
            have h3 := hb (mem 3 0 i 5) (by omega) (by omega)
            unfold zrepW
            rw [e6, hW1, hW0]
            simp only [zps0] at h2 ⊢
            by_cases q : j = mem 3 0 i 5
            · subst q
              simp at h2 ⊢
              omega
            · simp [q] at h2 ⊢
              omega
        · try simp only [zite_eq0, ne_eq, Classical.not_not] at c80
          exact absurd c80 (by decide)
      · rw [p3]
        clear p3 v9
        subst p4
        refine z_if_ne hG dX6_planOne_80 (tgt := 91) rfl (fun c80 => ?_) (fun c80 => ?_)
        · try simp only [zite_eq0, ne_eq, Classical.not_not] at c80
          exact absurd trivial c80
        · try simp only [zite_eq0, ne_eq, Classical.not_not] at c80
          refine z_aload_n (i := 0) hG dX6_planOne_83 rfl rfl ?_
          refine z_get_6_6 hG dX6_planOne_84 FL_X6_30 ?_
          refine z_iload_n (i := 2) hG dX6_planOne_87 rfl rfl ?_
          refine z_iload hG dX6_planOne_88 rfl ?_
          refine z_iast hG dX6_planOne_90 rfl rfl (by omega) (by omega) ?_
          refine z_vret hG hE dX6_planOne_91 ?_
          have e6 : zDc mem 6 i 0 = mem 3 0 i 5 := rfl
          have hz : zps (zDc mem) i W = zps0 (zps0 W 2 i fr) 6 i (W 0 i - fr) := by
            rw [zps_eq, ← hfr2, if_neg (by omega), if_neg hcase, if_neg (by rw [e6]; exact p1)]
          refine ⟨rfl, fun t s i' k h => ?_, fun j h0 h1 => ?_, ?_, ?_⟩
          · have h4 : t ≠ 29 := fun z => h (by rw [z]; simp [zscr])
            rw [← hO4 t s i' k h]
            simp [zset, h4]
          · have := hsea4 j h0 h1
            simpa [zset] using this
          · rw [hz]
            intro j h0 h1
            have hWj := hW2 j h0 h1
            refine ⟨⟨?_, ?_, ?_, ?_, ?_, ?_, ?_, ?_⟩, ?_, ?_, ?_⟩ <;> simp only [zps0, zset] at hWj ⊢ <;> grind
          · rw [hz]
            intro j h0 h1
            have h2 := hb2 j h0 h1
            simp only [zps0] at h2 ⊢
            by_cases q : j = i
            · subst q
              simp at h2 ⊢
              omega
            · simp [q] at h2 ⊢
              omega
    · try simp only [zite_eq0, ne_eq, Classical.not_not] at c51
      refine z_aload_n (i := 3) hG dX6_planOne_54 rfl rfl ?_
      refine z_getI hG dX6_planOne_55 FL_X6_82 rfl rfl (kk := 2) rfl ?_
      rw [eo 3 0 i 2 (by decide)]
      refine z_if_le hG dX6_planOne_58 (tgt := 72) rfl (fun c58 => ?_) (fun c58 => ?_)
      · refine z_aload_n (i := 0) hG dX6_planOne_72 rfl rfl ?_
        refine z_aload_n (i := 1) hG dX6_planOne_73 rfl rfl ?_
        refine z_iload_n (i := 2) hG dX6_planOne_74 rfl rfl ?_
        refine z_iload hG dX6_planOne_75 rfl ?_
        refine z_callV hG dX6_planOne_77 LV_X6_90 (ct_X6_replace l g (W := zps0 W 2 i fr) hi (by rw [eo 2 0 0 4 (by decide)]; exact hn) (by rw [eo 3 0 i 5 (by decide), eo 3 0 i 6 (by decide), eo 2 0 0 4 (by decide)]; exact hrep (Int.not_le.mp fun z => by have := hz z; omega)) ⟨by omega, by omega⟩ hW2 hb2) (by decide) rfl rfl rfl (Nat.le_of_ble_eq_true rfl) ?_
        intro v9 m3 h9
        obtain ⟨hO3, h9⟩ := h9
        rw [hDD] at h9
        rw [eo 3 0 i 5 (by decide)] at h9
        have hW0 : ∀ q : Int, zps0 W 2 i fr 0 q = W 0 q := fun q => by simp [zps0]
        have hW1 : ∀ q : Int, zps0 W 2 i fr 1 q = W 1 q := fun q => by simp [zps0]
        rw [hW0] at h9
        have hcase : ¬ (zDc mem 2 i 0 ≠ 0 ∧ 0 < zDc mem 3 i 0) := by
          have e2 : zDc mem 2 i 0 = mem 3 0 i 1 := rfl
          have e3 : zDc mem 3 i 0 = mem 3 0 i 2 := rfl
          rw [e2, e3]
          omega
        have hO4 : ∀ (t : Nat) (s i' k : Int), ¬ zscr t → m3 t s i' k = mem t s i' k := fun t s i' k h => by
          unfold zscr at h
          rw [hO3 t s i' k (by omega) (by omega) (by omega), eo t s i' k (by omega)]
        have hsea4 : zsea m3 := fun j h0 h1 => by
          rw [hO3 36 0 0 j (by decide) (by decide) (by decide), hO3 37 0 0 j (by decide) (by decide) (by decide)]
          exact hsea2 j h0 h1
        rcases h9 with ⟨p1, p2, p3, p4⟩ | ⟨p1, p3, p4⟩
        · rw [p3]
          clear p3 v9
          refine z_if_ne hG dX6_planOne_80 (tgt := 91) rfl (fun c80 => ?_) (fun c80 => ?_)
          · try simp only [zite_eq0, ne_eq, Classical.not_not] at c80
            refine z_vret hG hE dX6_planOne_91 ?_
            have e6 : zDc mem 6 i 0 = mem 3 0 i 5 := rfl
            have hz : zps (zDc mem) i W = zrepW (zDc mem) i (W 0 i - fr) (zps0 W 2 i fr) := by
              rw [zps_eq, ← hfr2, if_neg (by omega), if_neg hcase, if_pos ⟨by rw [e6]; exact p1, by rw [e6]; exact p2⟩]
              unfold zrepW
              rw [hW1, hW0]
            refine ⟨rfl, hO4, hsea4, ?_, ?_⟩
            · rw [hz]; exact p4
            · rw [hz]
              have hm := zmore_le (D := zDc mem) (i := i) (left := W 0 i - fr) ⟨by omega, by omega⟩ (by show 10 ≤ mem 3 0 i 6 ∧ mem 3 0 i 6 ≤ 200; omega)
              intro j h0 h1
              have h2 := hb2 j h0 h1
              have h3 := hb (mem 3 0 i 5) (by omega) (by omega)
              unfold zrepW
              rw [e6, hW1, hW0]
              simp only [zps0] at h2 ⊢
              by_cases q : j = mem 3 0 i 5
              · subst q
                simp at h2 ⊢
                omega
              · simp [q] at h2 ⊢
                omega
          · try simp only [zite_eq0, ne_eq, Classical.not_not] at c80
            exact absurd c80 (by decide)
        · rw [p3]
          clear p3 v9
          subst p4
          refine z_if_ne hG dX6_planOne_80 (tgt := 91) rfl (fun c80 => ?_) (fun c80 => ?_)
          · try simp only [zite_eq0, ne_eq, Classical.not_not] at c80
            exact absurd trivial c80
          · try simp only [zite_eq0, ne_eq, Classical.not_not] at c80
            refine z_aload_n (i := 0) hG dX6_planOne_83 rfl rfl ?_
            refine z_get_6_6 hG dX6_planOne_84 FL_X6_30 ?_
            refine z_iload_n (i := 2) hG dX6_planOne_87 rfl rfl ?_
            refine z_iload hG dX6_planOne_88 rfl ?_
            refine z_iast hG dX6_planOne_90 rfl rfl (by omega) (by omega) ?_
            refine z_vret hG hE dX6_planOne_91 ?_
            have e6 : zDc mem 6 i 0 = mem 3 0 i 5 := rfl
            have hz : zps (zDc mem) i W = zps0 (zps0 W 2 i fr) 6 i (W 0 i - fr) := by
              rw [zps_eq, ← hfr2, if_neg (by omega), if_neg hcase, if_neg (by rw [e6]; exact p1)]
            refine ⟨rfl, fun t s i' k h => ?_, fun j h0 h1 => ?_, ?_, ?_⟩
            · have h4 : t ≠ 29 := fun z => h (by rw [z]; simp [zscr])
              rw [← hO4 t s i' k h]
              simp [zset, h4]
            · have := hsea4 j h0 h1
              simpa [zset] using this
            · rw [hz]
              intro j h0 h1
              have hWj := hW2 j h0 h1
              refine ⟨⟨?_, ?_, ?_, ?_, ?_, ?_, ?_, ?_⟩, ?_, ?_, ?_⟩ <;> simp only [zps0, zset] at hWj ⊢ <;> grind
            · rw [hz]
              intro j h0 h1
              have h2 := hb2 j h0 h1
              simp only [zps0] at h2 ⊢
              by_cases q : j = i
              · subst q
                simp at h2 ⊢
                omega
              · simp [q] at h2 ⊢
                omega
      · refine z_aload_n (i := 0) hG dX6_planOne_61 rfl rfl ?_
        refine z_aload_n (i := 3) hG dX6_planOne_62 rfl rfl ?_
        refine z_iload_n (i := 2) hG dX6_planOne_63 rfl rfl ?_
        refine z_iload hG dX6_planOne_64 rfl ?_
        refine z_callV hG dX6_planOne_66 LV_X6_86 (ct_X6_buy l g hi hk2 (by rw [eo 3 0 i 2 (by decide)]; omega) hsea2 ⟨by omega, by omega⟩) (by decide) rfl rfl rfl (Nat.le_of_ble_eq_true rfl) ?_
        intro v9 m3 h9
        obtain ⟨h9a, hO3, hsea3, hW3, hb3a, hb3b⟩ := h9
        rw [h9a]
        clear h9a v9
        rw [hDD] at hW3 hb3a hb3b
        refine z_goto hG dX6_planOne_69 (tgt := 91) rfl ?_
        refine z_vret hG hE dX6_planOne_91 ?_
        refine ⟨rfl, fun t s i' k h => by rw [hO3 t s i' k h, eo t s i' k (fun z => h (by rw [z]; simp [zscr]))], hsea3, ?_, ?_⟩
        · rw [zps_eq, ← hfr2, if_neg (by omega), if_pos ⟨c51, by exact c58⟩]
          exact hW3 _ hW2
        · rw [zps_eq, ← hfr2, if_neg (by omega), if_pos ⟨c51, by exact c58⟩]
          intro j h0 h1
          have := hb j h0 h1
          have hz3 : ∀ x, zct (zDc mem) i x = zct (zDc mem) i x := fun _ => rfl
          have hb3a' : 0 ≤ zwt (zDc mem) i (zbt (zDc mem 3 i 0) (zDc mem 4 i) (zDc mem 5 i) (W 0 i - fr)) - (W 0 i - fr) ∧ zwt (zDc mem) i (zbt (zDc mem 3 i 0) (zDc mem 4 i) (zDc mem 5 i) (W 0 i - fr)) - (W 0 i - fr) ≤ 2000 := by
            have := hb3a
            rw [eo 3 0 i 2 (by decide), show zset mem 25 0 0 i fr 12 0 i = mem 12 0 i from funext fun k => eo 12 0 i k (by decide), show zset mem 25 0 0 i fr 13 0 i = mem 13 0 i from funext fun k => eo 13 0 i k (by decide)] at this
            exact this
          have hb3b' : 0 ≤ zct (zDc mem) i (zbt (zDc mem 3 i 0) (zDc mem 4 i) (zDc mem 5 i) (W 0 i - fr)) ∧ zct (zDc mem) i (zbt (zDc mem 3 i 0) (zDc mem 4 i) (zDc mem 5 i) (W 0 i - fr)) ≤ 200000000 := by
            have := hb3b
            rw [eo 3 0 i 2 (by decide), show zset mem 25 0 0 i fr 12 0 i = mem 12 0 i from funext fun k => eo 12 0 i k (by decide), show zset mem 25 0 0 i fr 13 0 i = mem 13 0 i from funext fun k => eo 13 0 i k (by decide)] at this
            exact this
          by_cases q : j = i
          · subst q
            simp [zbuyW, zps0]
            omega
          · simp [zbuyW, zps0, q]
            omega
  · refine z_vret hG hE dX6_planOne_46 ?_
    refine ⟨rfl, fun t s i' k h => eo t s i' k (fun z => h (by rw [z]; simp [zscr])), hsea2, ?_, ?_⟩
    · rw [zps_eq, ← hfr2, if_pos (by omega)]
      exact hW2
    · rw [zps_eq, ← hfr2, if_pos (by omega)]
      exact hb2
