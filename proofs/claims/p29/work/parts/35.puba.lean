/-- one state holds what it can bear; B bounds its lots -/
def zIS (B : Int) (m : zM) (s : Int) : Prop := (0 ≤ m 2 s 0 0 ∧ m 2 s 0 0 ≤ 3000) ∧ (1 ≤ m 2 s 0 1 ∧ m 2 s 0 1 ≤ 6) ∧ (0 ≤ m 2 s 0 4 ∧ m 2 s 0 4 ≤ 8) ∧ (0 ≤ m 2 s 0 5 ∧ m 2 s 0 5 ≤ 4) ∧ zrec m s ∧ zbool m s ∧
  (∀ i : Int, 0 ≤ i → i < 8 → zkin m s i ∧ (∀ j : Int, 0 ≤ j → j < 30 → 0 ≤ m 14 s i j ∧ m 14 s i j ≤ B) ∧ (0 ≤ m 3 s i 0 ∧ m 3 s i 0 ≤ 30) ∧ (i < m 2 s 0 4 → m 3 s i 5 = -6 ∨ (i < m 3 s i 5 ∧ m 3 s i 5 < m 2 s 0 4 ∧ 10 ≤ m 3 s i 6 ∧ m 3 s i 6 ≤ 200)) ∧ (m 2 s 0 4 ≤ i → m 3 s i 2 = 0 ∧ ∀ j : Int, 0 ≤ j → j < 30 → m 14 s i j = 0) ∧ (i < m 2 s 0 4 → 1 ≤ m 3 s i 0)) ∧
  (∀ r : Int, 0 ≤ r → r < 4 → (∀ k : Int, m 2 s 0 4 ≤ k → k < 8 → m 17 s r k = 0) ∧ (m 2 s 0 5 ≤ r → m 4 s r 1 = 0) ∧ (r < m 2 s 0 5 → 1 ≤ m 4 s r 0)) ∧
  (∀ j : Int, 0 ≤ j → j < 32 → j % 8 < m 4 s (j / 8) 2 → (1 ≤ m 5 s j 0 ∧ m 5 s j 0 ≤ 240) ∧ (0 ≤ m 5 s j 1 ∧ m 5 s j 1 ≤ 3) ∧ ∀ k : Int, 0 ≤ k → k < 8 → zand (zshr (m 5 s j 2) k) 1 = 1 → k < j % 8)
def zInv (B : Int) (m : zM) : Prop := ((0 ≤ m 1 0 0 1 ∧ m 1 0 0 1 < 6) ∧ (0 ≤ m 1 0 0 0 ∧ m 1 0 0 0 ≤ 6)) ∧ zsea m ∧ (∀ s : Int, 0 ≤ s → s < 9 → zIS B m s) ∧ (0 ≤ m 6 0 0 0 ∧ m 6 0 0 0 ≤ 80) ∧ (∀ j : Int, 0 ≤ j → j < 80 → 0 ≤ m 22 0 0 j ∧ m 22 0 0 j < 127) ∧ (∀ s : Int, 0 ≤ s → s < 2 → m 21 0 0 s = 0 ∨ m 21 0 0 s = 1) ∧ (∀ j : Int, 0 ≤ j → j < 8 → m 5 9 j 3 = 0 ∨ m 5 9 j 3 = 1)
theorem zIS_pc {B : Int} {m : zM} (h : zIS B m 0) (hB : B ≤ 12000000) : zpc m := ⟨h.2.2.2.2.1, h.2.2.1, fun i h0 h1 => by
  have := h.2.2.2.2.2.2.1 i h0 h1
  exact ⟨this.1, fun j j0 j1 => by have := this.2.1 j j0 j1; omega, this.2.2.2.1⟩⟩
theorem zInv0 {B : Int} {m : zM} (h : zInv B m) : zIS B m 0 := h.2.2.1 0 (by decide) (by decide)
/-- a record leaves the state of now -/
theorem zrecd_0 {m : zM} (h0 : 0 ≤ m 1 0 0 1) {t : Nat} {i k : Int} (ht : t ≠ 1) : zrecd m t 0 i k = m t 0 i k := by
  simp only [zrecd, zset, zcS]
  rw [if_neg (by omega), if_neg (by omega), if_neg (by omega)]
theorem zrecd_o {m : zM} {t : Nat} (ht : t = 0 ∨ 6 ≤ t) {s i k : Int} (h14 : t ≠ 12 ∧ t ≠ 13 ∧ t ≠ 14 ∧ t ≠ 17) : zrecd m t s i k = m t s i k := by
  simp only [zrecd, zset, zcS, zSt, decide_eq_true_eq]
  rw [if_neg (by omega), if_neg (by omega), if_neg (by omega)]
def zk_ingredient (d : Int) (m : zM) : Int × zM :=
  if ¬ (1 ≤ d ∧ d ≤ 30) then (-2, m) else if ¬ m 2 0 0 4 < 8 then (-4, m) else
    (m 2 0 0 4, zset (zset (zset (zset (zset (zfill (zset (zset (zset (zset (zset (zrecd m) 3 0 (m 2 0 0 4) 0 d) 3 0 (m 2 0 0 4) 1 1) 3 0 (m 2 0 0 4) 2 0) 3 0 (m 2 0 0 4) 5 (-6)) 3 0 (m 2 0 0 4) 6 (-6)) 14 0 (m 2 0 0 4) 30 0) 3 0 (m 2 0 0 4) 8 0) 3 0 (m 2 0 0 4) 9 0) 3 0 (m 2 0 0 4) 10 0) 3 0 (m 2 0 0 4) 11 0) 2 0 0 4 (m 2 0 0 4 + 1))
set_option maxRecDepth 20000 in
theorem ct_X10_ingredient (l : Launch) (g : zG) {mem : zM} {B : Int} {d : Int} (hI : zInv B mem) (hB : B ≤ 11900000) : zMet l g Y_X10_ingredient [zr 0 0 0, zi d] mem (fun v m' => v = some (zi (zk_ingredient d mem).1) ∧ m' = (zk_ingredient d mem).2) := by
  refine zMet_introF (by decide +kernel) (Nat.le_of_ble_eq_true rfl) (ls0 := [some (zr 0 0 0), some (zi d), none]) rfl fun X hG hE => ?_
  have hG : zGood X l g RX10 cX10_ingredient 4 3 := hG
  have hE : zEnd X (some .int) _ := hE
  have hI0 := zInv0 hI
  obtain ⟨hday, hhan, hing, hrcp, hrec, hboo, hrow, hrow2, hstp⟩ := id hI0
  have hr0 : ∀ (t : Nat) (i k : Int), t ≠ 1 → zrecd mem t 0 i k = mem t 0 i k := fun t i k ht => zrecd_0 hI.1.1.1 ht
  refine z_iload_n (i := 1) hG dX10_ingredient_0 rfl rfl ?_
  refine z_iconst hG dX10_ingredient_1 rfl ?_
  refine z_bipush hG dX10_ingredient_2 rfl ?_
  refine z_callS hG dX10_ingredient_4 LS_X10_57 (ct_X10_isWithin l g) (by decide) rfl rfl (Nat.le_of_ble_eq_true rfl) ?_
  intro v9 m9 h9
  rw [h9.1, h9.2]
  clear h9 m9 v9
  refine z_if_ne hG dX10_ingredient_7 (tgt := 13) rfl (fun c7 => ?_) (fun c7 => ?_)
  · try simp only [zite_eq0, ne_eq, Classical.not_not] at c7
    refine z_aload_n (i := 0) hG dX10_ingredient_13 rfl rfl ?_
    refine z_get_10_0 hG dX10_ingredient_14 FL_X10_12 ?_
    refine z_getI hG dX10_ingredient_17 FL_X10_61 rfl rfl (kk := 4) rfl ?_
    refine z_istore_n (i := 2) hG dX10_ingredient_20 rfl (by decide) (ls2 := [_, _, _]) rfl ?_
    refine z_iload_n (i := 2) hG dX10_ingredient_21 rfl rfl ?_
    refine z_bipush hG dX10_ingredient_22 rfl ?_
    refine z_icmp_lt hG dX10_ingredient_24 (tgt := 30) rfl (fun c24 => ?_) (fun c24 => ?_)
    · refine z_aload_n (i := 0) hG dX10_ingredient_30 rfl rfl ?_
      refine z_get_10_1 hG dX10_ingredient_31 FL_X10_19 ?_
      refine z_aload_n (i := 0) hG dX10_ingredient_34 rfl rfl ?_
      refine z_get_10_0 hG dX10_ingredient_35 FL_X10_12 ?_
      refine z_callV hG dX10_ingredient_38 LV_X10_65 (ct_X0_record l g hI.1.1 hI.1.2 hI0.2.2.2.2.2.1) (by decide) rfl rfl rfl (Nat.le_of_ble_eq_true rfl) ?_
      intro v9 m9 h9
      rw [h9.1, h9.2]
      clear h9 m9 v9
      refine z_aload_n (i := 0) hG dX10_ingredient_41 rfl rfl ?_
      refine z_get_10_0 hG dX10_ingredient_42 FL_X10_12 ?_
      refine z_get_7_6 hG dX10_ingredient_45 FL_X10_69 ?_
      refine z_iload_n (i := 2) hG dX10_ingredient_48 rfl rfl ?_
      refine z_aa_15 hG dX10_ingredient_49 (by omega) (by omega) ?_
      refine z_iload_n (i := 1) hG dX10_ingredient_50 rfl rfl ?_
      refine z_callV hG dX10_ingredient_51 LV_X10_73 (ct_X1_begin l g) (by decide) rfl rfl rfl (Nat.le_of_ble_eq_true rfl) ?_
      intro v9 m9 h9
      rw [h9.1, h9.2]
      clear h9 m9 v9
      refine z_aload_n (i := 0) hG dX10_ingredient_54 rfl rfl ?_
      refine z_get_10_0 hG dX10_ingredient_55 FL_X10_12 ?_
      refine z_iload_n (i := 2) hG dX10_ingredient_58 rfl rfl ?_
      refine z_iconst hG dX10_ingredient_59 rfl ?_
      refine z_iadd hG dX10_ingredient_60 (by omega) (by omega) ?_
      refine z_put hG dX10_ingredient_61 FP_X10_61 rfl rfl (kk := 4) rfl ?_
      refine z_iload_n (i := 2) hG dX10_ingredient_64 rfl rfl ?_
      refine z_iret hG hE dX10_ingredient_65 trivial ?_
      first | (constructor <;> simp [zk_ingredient, *]; done) | (exfalso; simp_all; done) | (exfalso; omega) | (clear hI hI0 hday hhan hing hrcp hrec hboo hrow hrow2 hstp hr0; constructor <;> simp_all [zk_ingredient]; done) | (constructor <;> simp_all [zk_ingredient] <;> omega)
    · refine z_bipush hG dX10_ingredient_27 rfl ?_
      refine z_iret hG hE dX10_ingredient_29 trivial ?_
      first | (constructor <;> simp [zk_ingredient, *]; done) | (exfalso; simp_all; done) | (exfalso; omega) | (clear hI hI0 hday hhan hing hrcp hrec hboo hrow hrow2 hstp hr0; constructor <;> simp_all [zk_ingredient]; done) | (constructor <;> simp_all [zk_ingredient] <;> omega)
  · try simp only [zite_eq0, ne_eq, Classical.not_not] at c7
    refine z_bipush hG dX10_ingredient_10 rfl ?_
    refine z_iret hG hE dX10_ingredient_12 trivial ?_
    first | (constructor <;> simp [zk_ingredient, *]; done) | (exfalso; simp_all; done) | (exfalso; omega) | (clear hI hI0 hday hhan hing hrcp hrec hboo hrow hrow2 hstp hr0; constructor <;> simp_all [zk_ingredient]; done) | (constructor <;> simp_all [zk_ingredient] <;> omega)
def zk_menu (r p : Int) (m : zM) : Int × zM :=
  if ¬ (0 ≤ r ∧ r < m 2 0 0 5 ∧ r < 4) then (-1, m) else if ¬ (0 ≤ p ∧ p ≤ 20) then (-2, m) else (m 4 0 r 1, zset (zrecd m) 4 0 r 1 p)
set_option maxRecDepth 20000 in
theorem ct_X10_menu (l : Launch) (g : zG) {mem : zM} {B : Int} {r p : Int} (hI : zInv B mem) (hB : B ≤ 11900000) : zMet l g Y_X10_menu [zr 0 0 0, zi r, zi p] mem (fun v m' => v = some (zi (zk_menu r p mem).1) ∧ m' = (zk_menu r p mem).2) := by
  refine zMet_introF (by decide +kernel) (Nat.le_of_ble_eq_true rfl) (ls0 := [some (zr 0 0 0), some (zi r), some (zi p), none]) rfl fun X hG hE => ?_
  have hG : zGood X l g RX10 cX10_menu 4 4 := hG
  have hE : zEnd X (some .int) _ := hE
  have hI0 := zInv0 hI
  obtain ⟨hday, hhan, hing, hrcp, hrec, hboo, hrow, hrow2, hstp⟩ := id hI0
  have hr0 : ∀ (t : Nat) (i k : Int), t ≠ 1 → zrecd mem t 0 i k = mem t 0 i k := fun t i k ht => zrecd_0 hI.1.1.1 ht
  refine z_aload_n (i := 0) hG dX10_menu_0 rfl rfl ?_
  refine z_get_10_0 hG dX10_menu_1 FL_X10_12 ?_
  refine z_iload_n (i := 1) hG dX10_menu_4 rfl rfl ?_
  refine z_callV hG dX10_menu_5 LV_X10_149 (ct_X7_hasRecipe l g) (by decide) rfl rfl rfl (Nat.le_of_ble_eq_true rfl) ?_
  intro v9 m9 h9
  rw [h9.1, h9.2]
  clear h9 m9 v9
  refine z_if_ne hG dX10_menu_8 (tgt := 13) rfl (fun c8 => ?_) (fun c8 => ?_)
  · try simp only [zite_eq0, ne_eq, Classical.not_not] at c8
    refine z_iload_n (i := 2) hG dX10_menu_13 rfl rfl ?_
    refine z_iconst hG dX10_menu_14 rfl ?_
    refine z_bipush hG dX10_menu_15 rfl ?_
    refine z_callS hG dX10_menu_17 LS_X10_57 (ct_X10_isWithin l g) (by decide) rfl rfl (Nat.le_of_ble_eq_true rfl) ?_
    intro v9 m9 h9
    rw [h9.1, h9.2]
    clear h9 m9 v9
    refine z_if_ne hG dX10_menu_20 (tgt := 26) rfl (fun c20 => ?_) (fun c20 => ?_)
    · try simp only [zite_eq0, ne_eq, Classical.not_not] at c20
      refine z_aload_n (i := 0) hG dX10_menu_26 rfl rfl ?_
      refine z_get_10_1 hG dX10_menu_27 FL_X10_19 ?_
      refine z_aload_n (i := 0) hG dX10_menu_30 rfl rfl ?_
      refine z_get_10_0 hG dX10_menu_31 FL_X10_12 ?_
      refine z_callV hG dX10_menu_34 LV_X10_65 (ct_X0_record l g hI.1.1 hI.1.2 hI0.2.2.2.2.2.1) (by decide) rfl rfl rfl (Nat.le_of_ble_eq_true rfl) ?_
      intro v9 m9 h9
      rw [h9.1, h9.2]
      clear h9 m9 v9
      refine z_aload_n (i := 0) hG dX10_menu_37 rfl rfl ?_
      refine z_get_10_0 hG dX10_menu_38 FL_X10_12 ?_
      refine z_get_7_7 hG dX10_menu_41 FL_X10_136 ?_
      refine z_iload_n (i := 1) hG dX10_menu_44 rfl rfl ?_
      refine z_aa_16 hG dX10_menu_45 (by omega) (by omega) ?_
      refine z_getI hG dX10_menu_46 FL_X10_156 rfl rfl (kk := 1) rfl ?_
      refine z_istore_n (i := 3) hG dX10_menu_49 rfl (by decide) (ls2 := [_, _, _, _]) rfl ?_
      refine z_aload_n (i := 0) hG dX10_menu_50 rfl rfl ?_
      refine z_get_10_0 hG dX10_menu_51 FL_X10_12 ?_
      refine z_get_7_7 hG dX10_menu_54 FL_X10_136 ?_
      refine z_iload_n (i := 1) hG dX10_menu_57 rfl rfl ?_
      refine z_aa_16 hG dX10_menu_58 (by omega) (by omega) ?_
      refine z_iload_n (i := 2) hG dX10_menu_59 rfl rfl ?_
      refine z_put hG dX10_menu_60 FP_X10_156 rfl rfl (kk := 1) rfl ?_
      refine z_iload_n (i := 3) hG dX10_menu_63 rfl rfl ?_
      refine z_iret hG hE dX10_menu_64 trivial ?_
      first | (constructor <;> simp [zk_menu, *]; done) | (exfalso; simp_all; done) | (exfalso; omega) | (clear hI hI0 hday hhan hing hrcp hrec hboo hrow hrow2 hstp hr0; constructor <;> simp_all [zk_menu]; done) | (constructor <;> simp_all [zk_menu] <;> omega)
    · try simp only [zite_eq0, ne_eq, Classical.not_not] at c20
      refine z_bipush hG dX10_menu_23 rfl ?_
      refine z_iret hG hE dX10_menu_25 trivial ?_
      first | (constructor <;> simp [zk_menu, *]; done) | (exfalso; simp_all; done) | (exfalso; omega) | (clear hI hI0 hday hhan hing hrcp hrec hboo hrow hrow2 hstp hr0; constructor <;> simp_all [zk_menu]; done) | (constructor <;> simp_all [zk_menu] <;> omega)
  · try simp only [zite_eq0, ne_eq, Classical.not_not] at c8
    refine z_iconst hG dX10_menu_11 rfl ?_
    refine z_iret hG hE dX10_menu_12 trivial ?_
    first | (constructor <;> simp [zk_menu, *]; done) | (exfalso; simp_all; done) | (exfalso; omega) | (clear hI hI0 hday hhan hing hrcp hrec hboo hrow hrow2 hstp hr0; constructor <;> simp_all [zk_menu]; done) | (constructor <;> simp_all [zk_menu] <;> omega)
def zk_hands (h : Int) (m : zM) : Int × zM :=
  if ¬ (1 ≤ h ∧ h ≤ 6) then (-2, m) else (m 2 0 0 1, zset (zrecd m) 2 0 0 1 h)
set_option maxRecDepth 20000 in
theorem ct_X10_hands (l : Launch) (g : zG) {mem : zM} {B : Int} {h : Int} (hI : zInv B mem) (hB : B ≤ 11900000) : zMet l g Y_X10_hands [zr 0 0 0, zi h] mem (fun v m' => v = some (zi (zk_hands h mem).1) ∧ m' = (zk_hands h mem).2) := by
  refine zMet_introF (by decide +kernel) (Nat.le_of_ble_eq_true rfl) (ls0 := [some (zr 0 0 0), some (zi h), none]) rfl fun X hG hE => ?_
  have hG : zGood X l g RX10 cX10_hands 4 3 := hG
  have hE : zEnd X (some .int) _ := hE
  have hI0 := zInv0 hI
  obtain ⟨hday, hhan, hing, hrcp, hrec, hboo, hrow, hrow2, hstp⟩ := id hI0
  have hr0 : ∀ (t : Nat) (i k : Int), t ≠ 1 → zrecd mem t 0 i k = mem t 0 i k := fun t i k ht => zrecd_0 hI.1.1.1 ht
  refine z_iload_n (i := 1) hG dX10_hands_0 rfl rfl ?_
  refine z_iconst hG dX10_hands_1 rfl ?_
  refine z_bipush hG dX10_hands_2 rfl ?_
  refine z_callS hG dX10_hands_4 LS_X10_57 (ct_X10_isWithin l g) (by decide) rfl rfl (Nat.le_of_ble_eq_true rfl) ?_
  intro v9 m9 h9
  rw [h9.1, h9.2]
  clear h9 m9 v9
  refine z_if_ne hG dX10_hands_7 (tgt := 13) rfl (fun c7 => ?_) (fun c7 => ?_)
  · try simp only [zite_eq0, ne_eq, Classical.not_not] at c7
    refine z_aload_n (i := 0) hG dX10_hands_13 rfl rfl ?_
    refine z_get_10_1 hG dX10_hands_14 FL_X10_19 ?_
    refine z_aload_n (i := 0) hG dX10_hands_17 rfl rfl ?_
    refine z_get_10_0 hG dX10_hands_18 FL_X10_12 ?_
    refine z_callV hG dX10_hands_21 LV_X10_65 (ct_X0_record l g hI.1.1 hI.1.2 hI0.2.2.2.2.2.1) (by decide) rfl rfl rfl (Nat.le_of_ble_eq_true rfl) ?_
    intro v9 m9 h9
    rw [h9.1, h9.2]
    clear h9 m9 v9
    refine z_aload_n (i := 0) hG dX10_hands_24 rfl rfl ?_
    refine z_get_10_0 hG dX10_hands_25 FL_X10_12 ?_
    refine z_getI hG dX10_hands_28 FL_X10_159 rfl rfl (kk := 1) rfl ?_
    refine z_istore_n (i := 2) hG dX10_hands_31 rfl (by decide) (ls2 := [_, _, _]) rfl ?_
    refine z_aload_n (i := 0) hG dX10_hands_32 rfl rfl ?_
    refine z_get_10_0 hG dX10_hands_33 FL_X10_12 ?_
    refine z_iload_n (i := 1) hG dX10_hands_36 rfl rfl ?_
    refine z_put hG dX10_hands_37 FP_X10_159 rfl rfl (kk := 1) rfl ?_
    refine z_iload_n (i := 2) hG dX10_hands_40 rfl rfl ?_
    refine z_iret hG hE dX10_hands_41 trivial ?_
    first | (constructor <;> simp [zk_hands, *]; done) | (exfalso; simp_all; done) | (exfalso; omega) | (clear hI hI0 hday hhan hing hrcp hrec hboo hrow hrow2 hstp hr0; constructor <;> simp_all [zk_hands]; done) | (constructor <;> simp_all [zk_hands] <;> omega)
  · try simp only [zite_eq0, ne_eq, Classical.not_not] at c7
    refine z_bipush hG dX10_hands_10 rfl ?_
    refine z_iret hG hE dX10_hands_12 trivial ?_
    first | (constructor <;> simp [zk_hands, *]; done) | (exfalso; simp_all; done) | (exfalso; omega) | (clear hI hI0 hday hhan hing hrcp hrec hboo hrow hrow2 hstp hr0; constructor <;> simp_all [zk_hands]; done) | (constructor <;> simp_all [zk_hands] <;> omega)
def zk_amount (r i x : Int) (m : zM) : Int × zM :=
  if ¬ ((0 ≤ r ∧ r < m 2 0 0 5 ∧ r < 4) ∧ (0 ≤ i ∧ i < m 2 0 0 4 ∧ i < 8)) then (-1, m) else if ¬ (0 ≤ x ∧ x ≤ 500) then (-2, m) else (m 17 0 r i, zset (zrecd m) 17 0 r i x)
set_option maxRecDepth 20000 in
theorem ct_X10_amount (l : Launch) (g : zG) {mem : zM} {B : Int} {r i x : Int} (hI : zInv B mem) (hB : B ≤ 11900000) : zMet l g Y_X10_amount [zr 0 0 0, zi r, zi i, zi x] mem (fun v m' => v = some (zi (zk_amount r i x mem).1) ∧ m' = (zk_amount r i x mem).2) := by
  refine zMet_introF (by decide +kernel) (Nat.le_of_ble_eq_true rfl) (ls0 := [some (zr 0 0 0), some (zi r), some (zi i), some (zi x), none, none]) rfl fun X hG hE => ?_
  have hG : zGood X l g RX10 cX10_amount 4 6 := hG
  have hE : zEnd X (some .int) _ := hE
  have hI0 := zInv0 hI
  obtain ⟨hday, hhan, hing, hrcp, hrec, hboo, hrow, hrow2, hstp⟩ := id hI0
  have hr0 : ∀ (t : Nat) (i k : Int), t ≠ 1 → zrecd mem t 0 i k = mem t 0 i k := fun t i k ht => zrecd_0 hI.1.1.1 ht
  refine z_aload_n (i := 0) hG dX10_amount_0 rfl rfl ?_
  refine z_get_10_0 hG dX10_amount_1 FL_X10_12 ?_
  refine z_iload_n (i := 1) hG dX10_amount_4 rfl rfl ?_
  refine z_callV hG dX10_amount_5 LV_X10_149 (ct_X7_hasRecipe l g) (by decide) rfl rfl rfl (Nat.le_of_ble_eq_true rfl) ?_
  intro v9 m9 h9
  rw [h9.1, h9.2]
  clear h9 m9 v9
  refine z_if_eq hG dX10_amount_8 (tgt := 22) rfl (fun c8 => ?_) (fun c8 => ?_)
  · try simp only [zite_eq0, ne_eq, Classical.not_not] at c8
    refine z_iconst hG dX10_amount_22 rfl ?_
    refine z_iret hG hE dX10_amount_23 trivial ?_
    first | (constructor <;> simp [zk_amount, *]; done) | (exfalso; simp_all; done) | (exfalso; omega) | (clear hI hI0 hday hhan hing hrcp hrec hboo hrow hrow2 hstp hr0; constructor <;> simp_all [zk_amount]; done) | (constructor <;> simp_all [zk_amount] <;> omega)
  · try simp only [zite_eq0, ne_eq, Classical.not_not] at c8
    refine z_aload_n (i := 0) hG dX10_amount_11 rfl rfl ?_
    refine z_get_10_0 hG dX10_amount_12 FL_X10_12 ?_
    refine z_iload_n (i := 2) hG dX10_amount_15 rfl rfl ?_
    refine z_callV hG dX10_amount_16 LV_X10_79 (ct_X7_hasIngredient l g) (by decide) rfl rfl rfl (Nat.le_of_ble_eq_true rfl) ?_
    intro v9 m9 h9
    rw [h9.1, h9.2]
    clear h9 m9 v9
    refine z_if_ne hG dX10_amount_19 (tgt := 24) rfl (fun c19 => ?_) (fun c19 => ?_)
    · try simp only [zite_eq0, ne_eq, Classical.not_not] at c19
      refine z_iload_n (i := 3) hG dX10_amount_24 rfl rfl ?_
      refine z_iconst hG dX10_amount_25 rfl ?_
      refine z_sipush hG dX10_amount_26 rfl ?_
      refine z_callS hG dX10_amount_29 LS_X10_57 (ct_X10_isWithin l g) (by decide) rfl rfl (Nat.le_of_ble_eq_true rfl) ?_
      intro v9 m9 h9
      rw [h9.1, h9.2]
      clear h9 m9 v9
      refine z_if_ne hG dX10_amount_32 (tgt := 38) rfl (fun c32 => ?_) (fun c32 => ?_)
      · try simp only [zite_eq0, ne_eq, Classical.not_not] at c32
        refine z_aload_n (i := 0) hG dX10_amount_38 rfl rfl ?_
        refine z_get_10_1 hG dX10_amount_39 FL_X10_19 ?_
        refine z_aload_n (i := 0) hG dX10_amount_42 rfl rfl ?_
        refine z_get_10_0 hG dX10_amount_43 FL_X10_12 ?_
        refine z_callV hG dX10_amount_46 LV_X10_65 (ct_X0_record l g hI.1.1 hI.1.2 hI0.2.2.2.2.2.1) (by decide) rfl rfl rfl (Nat.le_of_ble_eq_true rfl) ?_
        intro v9 m9 h9
        rw [h9.1, h9.2]
        clear h9 m9 v9
        refine z_aload_n (i := 0) hG dX10_amount_49 rfl rfl ?_
        refine z_get_10_0 hG dX10_amount_50 FL_X10_12 ?_
        refine z_get_7_7 hG dX10_amount_53 FL_X10_136 ?_
        refine z_iload_n (i := 1) hG dX10_amount_56 rfl rfl ?_
        refine z_aa_16 hG dX10_amount_57 (by omega) (by omega) ?_
        refine z_get_4_3 hG dX10_amount_58 FL_X10_152 ?_
        refine z_astore hG dX10_amount_61 (by decide) (ls2 := [_, _, _, _, _, _]) rfl ?_
        refine z_aload hG dX10_amount_63 rfl ?_
        refine z_iload_n (i := 2) hG dX10_amount_65 rfl rfl ?_
        refine z_iald hG dX10_amount_66 rfl rfl (by omega) (by omega) ?_
        refine z_istore hG dX10_amount_67 (by decide) (ls2 := [_, _, _, _, _, _]) rfl ?_
        refine z_aload hG dX10_amount_69 rfl ?_
        refine z_iload_n (i := 2) hG dX10_amount_71 rfl rfl ?_
        refine z_iload_n (i := 3) hG dX10_amount_72 rfl rfl ?_
        refine z_iast hG dX10_amount_73 rfl rfl (by omega) (by omega) ?_
        refine z_iload hG dX10_amount_74 rfl ?_
        refine z_iret hG hE dX10_amount_76 trivial ?_
        first | (constructor <;> simp [zk_amount, *]; done) | (exfalso; simp_all; done) | (exfalso; omega) | (clear hI hI0 hday hhan hing hrcp hrec hboo hrow hrow2 hstp hr0; constructor <;> simp_all [zk_amount]; done) | (constructor <;> simp_all [zk_amount] <;> omega)
      · try simp only [zite_eq0, ne_eq, Classical.not_not] at c32
        refine z_bipush hG dX10_amount_35 rfl ?_
        refine z_iret hG hE dX10_amount_37 trivial ?_
        first | (constructor <;> simp [zk_amount, *]; done) | (exfalso; simp_all; done) | (exfalso; omega) | (clear hI hI0 hday hhan hing hrcp hrec hboo hrow hrow2 hstp hr0; constructor <;> simp_all [zk_amount]; done) | (constructor <;> simp_all [zk_amount] <;> omega)
    · try simp only [zite_eq0, ne_eq, Classical.not_not] at c19
      refine z_iconst hG dX10_amount_22 rfl ?_
      refine z_iret hG hE dX10_amount_23 trivial ?_
      first | (constructor <;> simp [zk_amount, *]; done) | (exfalso; simp_all; done) | (exfalso; omega) | (clear hI hI0 hday hhan hing hrcp hrec hboo hrow hrow2 hstp hr0; constructor <;> simp_all [zk_amount]; done) | (constructor <;> simp_all [zk_amount] <;> omega)
def zk_tin (i z p : Int) (m : zM) : Int × zM :=
  if ¬ (0 ≤ i ∧ i < m 2 0 0 4 ∧ i < 8) then (-1, m) else if ¬ ((50 ≤ z ∧ z ≤ 2000) ∧ (1 ≤ p ∧ p ≤ 999)) then (-2, m) else if ¬ m 3 0 i 2 < 3 then (-4, m) else if (0 < m 3 0 i 2 ∧ m 12 0 i 0 = z) ∨ (1 < m 3 0 i 2 ∧ m 12 0 i 1 = z) ∨ (2 < m 3 0 i 2 ∧ m 12 0 i 2 = z) then (-5, m) else
    (m 3 0 i 2 + 1, zset (zset (zset (zrecd m) 12 0 i (m 3 0 i 2) z) 13 0 i (m 3 0 i 2) p) 3 0 i 2 (m 3 0 i 2 + 1))
set_option maxRecDepth 20000 in
theorem ct_X10_tin (l : Launch) (g : zG) {mem : zM} {B : Int} {i z p : Int} (hI : zInv B mem) (hB : B ≤ 11900000) : zMet l g Y_X10_tin [zr 0 0 0, zi i, zi z, zi p] mem (fun v m' => v = some (zi (zk_tin i z p mem).1) ∧ m' = (zk_tin i z p mem).2) := by
  refine zMet_introF (by decide +kernel) (Nat.le_of_ble_eq_true rfl) (ls0 := [some (zr 0 0 0), some (zi i), some (zi z), some (zi p), none]) rfl fun X hG hE => ?_
  have hG : zGood X l g RX10 cX10_tin 4 5 := hG
  have hE : zEnd X (some .int) _ := hE
  have hI0 := zInv0 hI
  obtain ⟨hday, hhan, hing, hrcp, hrec, hboo, hrow, hrow2, hstp⟩ := id hI0
  have hr0 : ∀ (t : Nat) (i k : Int), t ≠ 1 → zrecd mem t 0 i k = mem t 0 i k := fun t i k ht => zrecd_0 hI.1.1.1 ht
  refine z_aload_n (i := 0) hG dX10_tin_0 rfl rfl ?_
  refine z_get_10_0 hG dX10_tin_1 FL_X10_12 ?_
  refine z_iload_n (i := 1) hG dX10_tin_4 rfl rfl ?_
  refine z_callV hG dX10_tin_5 LV_X10_79 (ct_X7_hasIngredient l g) (by decide) rfl rfl rfl (Nat.le_of_ble_eq_true rfl) ?_
  intro v9 m9 h9
  rw [h9.1, h9.2]
  clear h9 m9 v9
  refine z_if_ne hG dX10_tin_8 (tgt := 13) rfl (fun c8 => ?_) (fun c8 => ?_)
  · try simp only [zite_eq0, ne_eq, Classical.not_not] at c8
    refine z_iload_n (i := 2) hG dX10_tin_13 rfl rfl ?_
    refine z_bipush hG dX10_tin_14 rfl ?_
    refine z_sipush hG dX10_tin_16 rfl ?_
    refine z_callS hG dX10_tin_19 LS_X10_57 (ct_X10_isWithin l g) (by decide) rfl rfl (Nat.le_of_ble_eq_true rfl) ?_
    intro v9 m9 h9
    rw [h9.1, h9.2]
    clear h9 m9 v9
    refine z_if_eq hG dX10_tin_22 (tgt := 36) rfl (fun c22 => ?_) (fun c22 => ?_)
    · try simp only [zite_eq0, ne_eq, Classical.not_not] at c22
      refine z_bipush hG dX10_tin_36 rfl ?_
      refine z_iret hG hE dX10_tin_38 trivial ?_
      first | (constructor <;> simp [zk_tin, *]; done) | (exfalso; simp_all; done) | (exfalso; omega) | (clear hI hI0 hday hhan hing hrcp hrec hboo hrow hrow2 hstp hr0; constructor <;> simp_all [zk_tin]; done) | (constructor <;> simp_all [zk_tin] <;> omega)
    · try simp only [zite_eq0, ne_eq, Classical.not_not] at c22
      refine z_iload_n (i := 3) hG dX10_tin_25 rfl rfl ?_
      refine z_iconst hG dX10_tin_26 rfl ?_
      refine z_sipush hG dX10_tin_27 rfl ?_
      refine z_callS hG dX10_tin_30 LS_X10_57 (ct_X10_isWithin l g) (by decide) rfl rfl (Nat.le_of_ble_eq_true rfl) ?_
      intro v9 m9 h9
      rw [h9.1, h9.2]
      clear h9 m9 v9
      refine z_if_ne hG dX10_tin_33 (tgt := 39) rfl (fun c33 => ?_) (fun c33 => ?_)
      · try simp only [zite_eq0, ne_eq, Classical.not_not] at c33
        refine z_aload_n (i := 0) hG dX10_tin_39 rfl rfl ?_
        refine z_get_10_0 hG dX10_tin_40 FL_X10_12 ?_
        refine z_get_7_6 hG dX10_tin_43 FL_X10_69 ?_
        refine z_iload_n (i := 1) hG dX10_tin_46 rfl rfl ?_
        refine z_aa_15 hG dX10_tin_47 (by omega) (by omega) ?_
        refine z_astore hG dX10_tin_48 (by decide) (ls2 := [_, _, _, _, _]) rfl ?_
        refine z_aload hG dX10_tin_50 rfl ?_
        refine z_getI hG dX10_tin_52 FL_X10_83 rfl rfl (kk := 2) rfl ?_
        refine z_iconst hG dX10_tin_55 rfl ?_
        refine z_icmp_lt hG dX10_tin_56 (tgt := 62) rfl (fun c56 => ?_) (fun c56 => ?_)
        · refine z_aload hG dX10_tin_62 rfl ?_
          refine z_iload_n (i := 2) hG dX10_tin_64 rfl rfl ?_
          refine z_callV hG dX10_tin_65 LV_X10_86 (ct_X1_hasSize l g (hrow i (by omega) (by omega)).1.1) (by decide) rfl rfl rfl (Nat.le_of_ble_eq_true rfl) ?_
          intro v9 m9 h9
          obtain ⟨q9, h9a, h9b, h9c, h9d⟩ := h9
          rw [h9a, h9b]
          clear h9a h9b m9 v9
          have h9e : (∃ k : Int, 0 ≤ k ∧ k < mem 3 0 i 2 ∧ mem 12 0 i k = z) ↔ ((0 < mem 3 0 i 2 ∧ mem 12 0 i 0 = z) ∨ (1 < mem 3 0 i 2 ∧ mem 12 0 i 1 = z) ∨ (2 < mem 3 0 i 2 ∧ mem 12 0 i 2 = z)) := by
            constructor
            · rintro ⟨k, k0, k1, k2⟩
              rcases (show k = 0 ∨ k = 1 ∨ k = 2 by omega) with rfl | rfl | rfl
              · exact Or.inl ⟨k1, k2⟩
              · exact Or.inr (Or.inl ⟨k1, k2⟩)
              · exact Or.inr (Or.inr ⟨k1, k2⟩)
            · rintro (q | q | q)
              · exact ⟨0, by decide, q⟩
              · exact ⟨1, by decide, q⟩
              · exact ⟨2, by decide, q⟩
          refine z_if_eq hG dX10_tin_68 (tgt := 74) rfl (fun c68 => ?_) (fun c68 => ?_)
          · try simp only [zite_eq0, ne_eq, Classical.not_not] at c68
            refine z_aload_n (i := 0) hG dX10_tin_74 rfl rfl ?_
            refine z_get_10_1 hG dX10_tin_75 FL_X10_19 ?_
            refine z_aload_n (i := 0) hG dX10_tin_78 rfl rfl ?_
            refine z_get_10_0 hG dX10_tin_79 FL_X10_12 ?_
            refine z_callV hG dX10_tin_82 LV_X10_65 (ct_X0_record l g hI.1.1 hI.1.2 hI0.2.2.2.2.2.1) (by decide) rfl rfl rfl (Nat.le_of_ble_eq_true rfl) ?_
            intro v9 m9 h9
            rw [h9.1, h9.2]
            clear h9 m9 v9
            refine z_aload hG dX10_tin_85 rfl ?_
            refine z_iload_n (i := 2) hG dX10_tin_87 rfl rfl ?_
            refine z_iload_n (i := 3) hG dX10_tin_88 rfl rfl ?_
            refine z_callV hG dX10_tin_89 LV_X10_89 (ct_X1_addKind l g (by rw [hr0 3 _ _ (by decide)]; exact (hrow i (by omega) (by omega)).1.1.1) (by rw [hr0 3 _ _ (by decide)]; exact c56)) (by decide) rfl rfl rfl (Nat.le_of_ble_eq_true rfl) ?_
            intro v9 m9 h9
            rw [h9.1, h9.2]
            clear h9 m9 v9
            rw [hr0 3 _ _ (by decide)]
            refine z_aload hG dX10_tin_92 rfl ?_
            refine z_getI hG dX10_tin_94 FL_X10_83 rfl rfl (kk := 2) rfl ?_
            refine z_iret hG hE dX10_tin_97 trivial ?_
            have c68b : ¬ _ := fun h => absurd (h9d.mpr (h9e.mpr h)) (by omega)
            have c33b : (50 ≤ z ∧ z ≤ 2000) ∧ (1 ≤ p ∧ p ≤ 999) := ⟨c22, c33⟩
            have e : zk_tin i z p mem = (mem 3 0 i 2 + 1, zset (zset (zset (zrecd mem) 12 0 i (mem 3 0 i 2) z) 13 0 i (mem 3 0 i 2) p) 3 0 i 2 (mem 3 0 i 2 + 1)) := by
              rw [zk_tin, if_neg (by simp [c8]), if_neg (by simp [c33b]), if_neg (by simp [c56]), if_neg c68b]
            rw [e]
            constructor <;> simp [zset]
          · try simp only [zite_eq0, ne_eq, Classical.not_not] at c68
            refine z_bipush hG dX10_tin_71 rfl ?_
            refine z_iret hG hE dX10_tin_73 trivial ?_
            first | (constructor <;> simp [zk_tin, *]; done) | (exfalso; simp_all; done) | (exfalso; omega) | (clear hI hI0 hday hhan hing hrcp hrec hboo hrow hrow2 hstp hr0; constructor <;> simp_all [zk_tin]; done) | (constructor <;> simp_all [zk_tin] <;> omega)
        · refine z_bipush hG dX10_tin_59 rfl ?_
          refine z_iret hG hE dX10_tin_61 trivial ?_
          first | (constructor <;> simp [zk_tin, *]; done) | (exfalso; simp_all; done) | (exfalso; omega) | (clear hI hI0 hday hhan hing hrcp hrec hboo hrow hrow2 hstp hr0; constructor <;> simp_all [zk_tin]; done) | (constructor <;> simp_all [zk_tin] <;> omega)
      · try simp only [zite_eq0, ne_eq, Classical.not_not] at c33
        refine z_bipush hG dX10_tin_36 rfl ?_
        refine z_iret hG hE dX10_tin_38 trivial ?_
        first | (constructor <;> simp [zk_tin, *]; done) | (exfalso; simp_all; done) | (exfalso; omega) | (clear hI hI0 hday hhan hing hrcp hrec hboo hrow hrow2 hstp hr0; constructor <;> simp_all [zk_tin]; done) | (constructor <;> simp_all [zk_tin] <;> omega)
  · try simp only [zite_eq0, ne_eq, Classical.not_not] at c8
    refine z_iconst hG dX10_tin_11 rfl ?_
    refine z_iret hG hE dX10_tin_12 trivial ?_
    first | (constructor <;> simp [zk_tin, *]; done) | (exfalso; simp_all; done) | (exfalso; omega) | (clear hI hI0 hday hhan hing hrcp hrec hboo hrow hrow2 hstp hr0; constructor <;> simp_all [zk_tin]; done) | (constructor <;> simp_all [zk_tin] <;> omega)
def zk_buyable (i b : Int) (m : zM) : Int × zM :=
  if ¬ (0 ≤ i ∧ i < m 2 0 0 4 ∧ i < 8) then (-1, m) else if ¬ (0 ≤ b ∧ b ≤ 1) then (-2, m) else (m 3 0 i 1, zset (zrecd m) 3 0 i 1 b)
set_option maxRecDepth 20000 in
theorem ct_X10_buyable (l : Launch) (g : zG) {mem : zM} {B : Int} {i b : Int} (hI : zInv B mem) (hB : B ≤ 11900000) : zMet l g Y_X10_buyable [zr 0 0 0, zi i, zi b] mem (fun v m' => v = some (zi (zk_buyable i b mem).1) ∧ m' = (zk_buyable i b mem).2) := by
  refine zMet_introF (by decide +kernel) (Nat.le_of_ble_eq_true rfl) (ls0 := [some (zr 0 0 0), some (zi i), some (zi b), none, none]) rfl fun X hG hE => ?_
  have hG : zGood X l g RX10 cX10_buyable 4 5 := hG
  have hE : zEnd X (some .int) _ := hE
  have hI0 := zInv0 hI
  obtain ⟨hday, hhan, hing, hrcp, hrec, hboo, hrow, hrow2, hstp⟩ := id hI0
  have hr0 : ∀ (t : Nat) (i k : Int), t ≠ 1 → zrecd mem t 0 i k = mem t 0 i k := fun t i k ht => zrecd_0 hI.1.1.1 ht
  refine z_aload_n (i := 0) hG dX10_buyable_0 rfl rfl ?_
  refine z_get_10_0 hG dX10_buyable_1 FL_X10_12 ?_
  refine z_iload_n (i := 1) hG dX10_buyable_4 rfl rfl ?_
  refine z_callV hG dX10_buyable_5 LV_X10_79 (ct_X7_hasIngredient l g) (by decide) rfl rfl rfl (Nat.le_of_ble_eq_true rfl) ?_
  intro v9 m9 h9
  rw [h9.1, h9.2]
  clear h9 m9 v9
  refine z_if_ne hG dX10_buyable_8 (tgt := 13) rfl (fun c8 => ?_) (fun c8 => ?_)
  · try simp only [zite_eq0, ne_eq, Classical.not_not] at c8
    refine z_iload_n (i := 2) hG dX10_buyable_13 rfl rfl ?_
    refine z_iconst hG dX10_buyable_14 rfl ?_
    refine z_iconst hG dX10_buyable_15 rfl ?_
    refine z_callS hG dX10_buyable_16 LS_X10_57 (ct_X10_isWithin l g) (by decide) rfl rfl (Nat.le_of_ble_eq_true rfl) ?_
    intro v9 m9 h9
    rw [h9.1, h9.2]
    clear h9 m9 v9
    refine z_if_ne hG dX10_buyable_19 (tgt := 25) rfl (fun c19 => ?_) (fun c19 => ?_)
    · try simp only [zite_eq0, ne_eq, Classical.not_not] at c19
      refine z_aload_n (i := 0) hG dX10_buyable_25 rfl rfl ?_
      refine z_get_10_1 hG dX10_buyable_26 FL_X10_19 ?_
      refine z_aload_n (i := 0) hG dX10_buyable_29 rfl rfl ?_
      refine z_get_10_0 hG dX10_buyable_30 FL_X10_12 ?_
      refine z_callV hG dX10_buyable_33 LV_X10_65 (ct_X0_record l g hI.1.1 hI.1.2 hI0.2.2.2.2.2.1) (by decide) rfl rfl rfl (Nat.le_of_ble_eq_true rfl) ?_
      intro v9 m9 h9
      rw [h9.1, h9.2]
      clear h9 m9 v9
      refine z_aload_n (i := 0) hG dX10_buyable_36 rfl rfl ?_
      refine z_get_10_0 hG dX10_buyable_37 FL_X10_12 ?_
      refine z_get_7_6 hG dX10_buyable_40 FL_X10_69 ?_
      refine z_iload_n (i := 1) hG dX10_buyable_43 rfl rfl ?_
      refine z_aa_15 hG dX10_buyable_44 (by omega) (by omega) ?_
      refine z_astore_n (i := 3) hG dX10_buyable_45 rfl (by decide) (ls2 := [_, _, _, _, _]) rfl ?_
      refine z_aload_n (i := 3) hG dX10_buyable_46 rfl rfl ?_
      refine z_getI hG dX10_buyable_47 FL_X10_93 rfl rfl (kk := 1) rfl ?_
      refine z_istore hG dX10_buyable_50 (by decide) (ls2 := [_, _, _, _, _]) rfl ?_
      refine z_aload_n (i := 3) hG dX10_buyable_52 rfl rfl ?_
      refine z_iload_n (i := 2) hG dX10_buyable_53 rfl rfl ?_
      refine z_iconst hG dX10_buyable_54 rfl ?_
      refine z_icmp_ne hG dX10_buyable_55 (tgt := 62) rfl (fun c55 => ?_) (fun c55 => ?_)
      · obtain rfl : b = 0 := by omega
        refine z_iconst hG dX10_buyable_62 rfl ?_
        refine z_putB hG dX10_buyable_63 FP_X10_93 rfl rfl (kk := 1) rfl (by first | exact Or.inl rfl | exact Or.inr rfl) ?_
        refine z_iload hG dX10_buyable_66 rfl ?_
        refine z_callS hG dX10_buyable_68 LS_X10_97 (ct_X10_asNumber l g (by rw [hr0 3 _ _ (by decide)]; exact hboo.1 i (by omega) (by omega))) (by decide) rfl rfl (Nat.le_of_ble_eq_true rfl) ?_
        intro v9 m9 h9
        rw [h9.1, h9.2]
        clear h9 m9 v9
        refine z_iret hG hE dX10_buyable_71 trivial ?_
        first | (constructor <;> simp [zk_buyable, *]; done) | (exfalso; simp_all; done) | (exfalso; omega) | (clear hI hI0 hday hhan hing hrcp hrec hboo hrow hrow2 hstp hr0; constructor <;> simp_all [zk_buyable]; done) | (constructor <;> simp_all [zk_buyable] <;> omega)
      · obtain rfl : b = 1 := by omega
        refine z_iconst hG dX10_buyable_58 rfl ?_
        refine z_goto hG dX10_buyable_59 (tgt := 63) rfl ?_
        refine z_putB hG dX10_buyable_63 FP_X10_93 rfl rfl (kk := 1) rfl (by first | exact Or.inl rfl | exact Or.inr rfl) ?_
        refine z_iload hG dX10_buyable_66 rfl ?_
        refine z_callS hG dX10_buyable_68 LS_X10_97 (ct_X10_asNumber l g (by rw [hr0 3 _ _ (by decide)]; exact hboo.1 i (by omega) (by omega))) (by decide) rfl rfl (Nat.le_of_ble_eq_true rfl) ?_
        intro v9 m9 h9
        rw [h9.1, h9.2]
        clear h9 m9 v9
        refine z_iret hG hE dX10_buyable_71 trivial ?_
        first | (constructor <;> simp [zk_buyable, *]; done) | (exfalso; simp_all; done) | (exfalso; omega) | (clear hI hI0 hday hhan hing hrcp hrec hboo hrow hrow2 hstp hr0; constructor <;> simp_all [zk_buyable]; done) | (constructor <;> simp_all [zk_buyable] <;> omega)
    · try simp only [zite_eq0, ne_eq, Classical.not_not] at c19
      refine z_bipush hG dX10_buyable_22 rfl ?_
      refine z_iret hG hE dX10_buyable_24 trivial ?_
      first | (constructor <;> simp [zk_buyable, *]; done) | (exfalso; simp_all; done) | (exfalso; omega) | (clear hI hI0 hday hhan hing hrcp hrec hboo hrow hrow2 hstp hr0; constructor <;> simp_all [zk_buyable]; done) | (constructor <;> simp_all [zk_buyable] <;> omega)
  · try simp only [zite_eq0, ne_eq, Classical.not_not] at c8
    refine z_iconst hG dX10_buyable_11 rfl ?_
    refine z_iret hG hE dX10_buyable_12 trivial ?_
    first | (constructor <;> simp [zk_buyable, *]; done) | (exfalso; simp_all; done) | (exfalso; omega) | (clear hI hI0 hday hhan hing hrcp hrec hboo hrow hrow2 hstp hr0; constructor <;> simp_all [zk_buyable]; done) | (constructor <;> simp_all [zk_buyable] <;> omega)
def zk_substitute (i o q : Int) (m : zM) : Int × zM :=
  if ¬ ((0 ≤ i ∧ i < m 2 0 0 4 ∧ i < 8) ∧ (o ≠ -6 → (0 ≤ o ∧ o < m 2 0 0 4 ∧ o < 8))) then (-1, m) else if o ≠ -6 ∧ ¬ (i < o ∧ (10 ≤ q ∧ q ≤ 200)) then (-2, m) else (m 3 0 i 5, zset (zset (zrecd m) 3 0 i 5 o) 3 0 i 6 (if o ≠ -6 then q else -6))
set_option maxRecDepth 20000 in
theorem ct_X10_substitute (l : Launch) (g : zG) {mem : zM} {B : Int} {i o q : Int} (hI : zInv B mem) (hB : B ≤ 11900000) : zMet l g Y_X10_substitute [zr 0 0 0, zi i, zi o, zi q] mem (fun v m' => v = some (zi (zk_substitute i o q mem).1) ∧ m' = (zk_substitute i o q mem).2) := by
  refine zMet_introF (by decide +kernel) (Nat.le_of_ble_eq_true rfl) (ls0 := [some (zr 0 0 0), some (zi i), some (zi o), some (zi q), none, none, none]) rfl fun X hG hE => ?_
  have hG : zGood X l g RX10 cX10_substitute 4 7 := hG
  have hE : zEnd X (some .int) _ := hE
  have hI0 := zInv0 hI
  obtain ⟨hday, hhan, hing, hrcp, hrec, hboo, hrow, hrow2, hstp⟩ := id hI0
  have hr0 : ∀ (t : Nat) (i k : Int), t ≠ 1 → zrecd mem t 0 i k = mem t 0 i k := fun t i k ht => zrecd_0 hI.1.1.1 ht
  refine z_iload_n (i := 2) hG dX10_substitute_0 rfl rfl ?_
  refine z_bipush hG dX10_substitute_1 rfl ?_
  refine z_icmp_eq hG dX10_substitute_3 (tgt := 10) rfl (fun c3 => ?_) (fun c3 => ?_)
  · refine z_iconst hG dX10_substitute_10 rfl ?_
    refine z_istore hG dX10_substitute_11 (by decide) (ls2 := [_, _, _, _, _, _, _]) rfl ?_
    refine z_aload_n (i := 0) hG dX10_substitute_13 rfl rfl ?_
    refine z_get_10_0 hG dX10_substitute_14 FL_X10_12 ?_
    refine z_iload_n (i := 1) hG dX10_substitute_17 rfl rfl ?_
    refine z_callV hG dX10_substitute_18 LV_X10_79 (ct_X7_hasIngredient l g) (by decide) rfl rfl rfl (Nat.le_of_ble_eq_true rfl) ?_
    intro v9 m9 h9
    rw [h9.1, h9.2]
    clear h9 m9 v9
    refine z_if_eq hG dX10_substitute_21 (tgt := 40) rfl (fun c21 => ?_) (fun c21 => ?_)
    · try simp only [zite_eq0, ne_eq, Classical.not_not] at c21
      refine z_iconst hG dX10_substitute_40 rfl ?_
      refine z_iret hG hE dX10_substitute_41 trivial ?_
      first | (constructor <;> simp [zk_substitute, *]; done) | (exfalso; simp_all; done) | (exfalso; omega) | (clear hI hI0 hday hhan hing hrcp hrec hboo hrow hrow2 hstp hr0; constructor <;> simp_all [zk_substitute]; done) | (constructor <;> simp_all [zk_substitute] <;> omega)
    · try simp only [zite_eq0, ne_eq, Classical.not_not] at c21
      refine z_iload hG dX10_substitute_24 rfl ?_
      refine z_if_eq hG dX10_substitute_26 (tgt := 42) rfl (fun c26 => ?_) (fun c26 => ?_)
      · try simp only [zite_eq0, ne_eq, Classical.not_not] at c26
        refine z_iload hG dX10_substitute_42 rfl ?_
        refine z_if_eq hG dX10_substitute_44 (tgt := 67) rfl (fun c44 => ?_) (fun c44 => ?_)
        · try simp only [zite_eq0, ne_eq, Classical.not_not] at c44
          refine z_aload_n (i := 0) hG dX10_substitute_67 rfl rfl ?_
          refine z_get_10_1 hG dX10_substitute_68 FL_X10_19 ?_
          refine z_aload_n (i := 0) hG dX10_substitute_71 rfl rfl ?_
          refine z_get_10_0 hG dX10_substitute_72 FL_X10_12 ?_
          refine z_callV hG dX10_substitute_75 LV_X10_65 (ct_X0_record l g hI.1.1 hI.1.2 hI0.2.2.2.2.2.1) (by decide) rfl rfl rfl (Nat.le_of_ble_eq_true rfl) ?_
          intro v9 m9 h9
          rw [h9.1, h9.2]
          clear h9 m9 v9
          refine z_aload_n (i := 0) hG dX10_substitute_78 rfl rfl ?_
          refine z_get_10_0 hG dX10_substitute_79 FL_X10_12 ?_
          refine z_get_7_6 hG dX10_substitute_82 FL_X10_69 ?_
          refine z_iload_n (i := 1) hG dX10_substitute_85 rfl rfl ?_
          refine z_aa_15 hG dX10_substitute_86 (by omega) (by omega) ?_
          refine z_astore hG dX10_substitute_87 (by decide) (ls2 := [_, _, _, _, _, _, _]) rfl ?_
          refine z_aload hG dX10_substitute_89 rfl ?_
          refine z_getI hG dX10_substitute_91 FL_X10_101 rfl rfl (kk := 5) rfl ?_
          refine z_istore hG dX10_substitute_94 (by decide) (ls2 := [_, _, _, _, _, _, _]) rfl ?_
          refine z_aload hG dX10_substitute_96 rfl ?_
          refine z_iload_n (i := 2) hG dX10_substitute_98 rfl rfl ?_
          refine z_put hG dX10_substitute_99 FP_X10_101 rfl rfl (kk := 5) rfl ?_
          refine z_aload hG dX10_substitute_102 rfl ?_
          refine z_iload hG dX10_substitute_104 rfl ?_
          refine z_if_eq hG dX10_substitute_106 (tgt := 113) rfl (fun c106 => ?_) (fun c106 => ?_)
          · try simp only [zite_eq0, ne_eq, Classical.not_not] at c106
            refine z_bipush hG dX10_substitute_113 rfl ?_
            refine z_put hG dX10_substitute_115 FP_X10_104 rfl rfl (kk := 6) rfl ?_
            refine z_iload hG dX10_substitute_118 rfl ?_
            refine z_iret hG hE dX10_substitute_120 trivial ?_
            first | (constructor <;> simp [zk_substitute, *]; done) | (exfalso; simp_all; done) | skip
          · try simp only [zite_eq0, ne_eq, Classical.not_not] at c106
            refine z_iload_n (i := 3) hG dX10_substitute_109 rfl rfl ?_
            refine z_goto hG dX10_substitute_110 (tgt := 115) rfl ?_
            refine z_put hG dX10_substitute_115 FP_X10_104 rfl rfl (kk := 6) rfl ?_
            refine z_iload hG dX10_substitute_118 rfl ?_
            refine z_iret hG hE dX10_substitute_120 trivial ?_
            first | (constructor <;> simp [zk_substitute, *]; done) | (exfalso; simp_all; done) | skip
        · try simp only [zite_eq0, ne_eq, Classical.not_not] at c44
          refine z_iload_n (i := 2) hG dX10_substitute_47 rfl rfl ?_
          refine z_iload_n (i := 1) hG dX10_substitute_48 rfl rfl ?_
          refine z_icmp_le hG dX10_substitute_49 (tgt := 64) rfl (fun c49 => ?_) (fun c49 => ?_)
          · refine z_bipush hG dX10_substitute_64 rfl ?_
            refine z_iret hG hE dX10_substitute_66 trivial ?_
            first | (constructor <;> simp [zk_substitute, *]; done) | (exfalso; simp_all; done) | (refine (fun (e1 : ¬ i < o) => ?_) (by omega) <;> constructor <;> simp [zk_substitute, e1, *])
          · refine z_iload_n (i := 3) hG dX10_substitute_52 rfl rfl ?_
            refine z_bipush hG dX10_substitute_53 rfl ?_
            refine z_sipush hG dX10_substitute_55 rfl ?_
            refine z_callS hG dX10_substitute_58 LS_X10_57 (ct_X10_isWithin l g) (by decide) rfl rfl (Nat.le_of_ble_eq_true rfl) ?_
            intro v9 m9 h9
            rw [h9.1, h9.2]
            clear h9 m9 v9
            refine z_if_ne hG dX10_substitute_61 (tgt := 67) rfl (fun c61 => ?_) (fun c61 => ?_)
            · try simp only [zite_eq0, ne_eq, Classical.not_not] at c61
              refine z_aload_n (i := 0) hG dX10_substitute_67 rfl rfl ?_
              refine z_get_10_1 hG dX10_substitute_68 FL_X10_19 ?_
              refine z_aload_n (i := 0) hG dX10_substitute_71 rfl rfl ?_
              refine z_get_10_0 hG dX10_substitute_72 FL_X10_12 ?_
              refine z_callV hG dX10_substitute_75 LV_X10_65 (ct_X0_record l g hI.1.1 hI.1.2 hI0.2.2.2.2.2.1) (by decide) rfl rfl rfl (Nat.le_of_ble_eq_true rfl) ?_
              intro v9 m9 h9
              rw [h9.1, h9.2]
              clear h9 m9 v9
              refine z_aload_n (i := 0) hG dX10_substitute_78 rfl rfl ?_
              refine z_get_10_0 hG dX10_substitute_79 FL_X10_12 ?_
              refine z_get_7_6 hG dX10_substitute_82 FL_X10_69 ?_
              refine z_iload_n (i := 1) hG dX10_substitute_85 rfl rfl ?_
              refine z_aa_15 hG dX10_substitute_86 (by omega) (by omega) ?_
              refine z_astore hG dX10_substitute_87 (by decide) (ls2 := [_, _, _, _, _, _, _]) rfl ?_
              refine z_aload hG dX10_substitute_89 rfl ?_
              refine z_getI hG dX10_substitute_91 FL_X10_101 rfl rfl (kk := 5) rfl ?_
              refine z_istore hG dX10_substitute_94 (by decide) (ls2 := [_, _, _, _, _, _, _]) rfl ?_
              refine z_aload hG dX10_substitute_96 rfl ?_
              refine z_iload_n (i := 2) hG dX10_substitute_98 rfl rfl ?_
              refine z_put hG dX10_substitute_99 FP_X10_101 rfl rfl (kk := 5) rfl ?_
              refine z_aload hG dX10_substitute_102 rfl ?_
              refine z_iload hG dX10_substitute_104 rfl ?_
              refine z_if_eq hG dX10_substitute_106 (tgt := 113) rfl (fun c106 => ?_) (fun c106 => ?_)
              · try simp only [zite_eq0, ne_eq, Classical.not_not] at c106
                refine z_bipush hG dX10_substitute_113 rfl ?_
                refine z_put hG dX10_substitute_115 FP_X10_104 rfl rfl (kk := 6) rfl ?_
                refine z_iload hG dX10_substitute_118 rfl ?_
                refine z_iret hG hE dX10_substitute_120 trivial ?_
                first | (constructor <;> simp [zk_substitute, *]; done) | (exfalso; simp_all; done) | skip
              · try simp only [zite_eq0, ne_eq, Classical.not_not] at c106
                refine z_iload_n (i := 3) hG dX10_substitute_109 rfl rfl ?_
                refine z_goto hG dX10_substitute_110 (tgt := 115) rfl ?_
                refine z_put hG dX10_substitute_115 FP_X10_104 rfl rfl (kk := 6) rfl ?_
                refine z_iload hG dX10_substitute_118 rfl ?_
                refine z_iret hG hE dX10_substitute_120 trivial ?_
                first | (constructor <;> simp [zk_substitute, *]; done) | (exfalso; simp_all; done) | skip
            · try simp only [zite_eq0, ne_eq, Classical.not_not] at c61
              refine z_bipush hG dX10_substitute_64 rfl ?_
              refine z_iret hG hE dX10_substitute_66 trivial ?_
              first | (constructor <;> simp [zk_substitute, *]; done) | (exfalso; simp_all; done) | (refine (fun (e1 : ¬ i < o) => ?_) (by omega) <;> constructor <;> simp [zk_substitute, e1, *])
      · try simp only [zite_eq0, ne_eq, Classical.not_not] at c26
        refine z_aload_n (i := 0) hG dX10_substitute_29 rfl rfl ?_
        refine z_get_10_0 hG dX10_substitute_30 FL_X10_12 ?_
        refine z_iload_n (i := 2) hG dX10_substitute_33 rfl rfl ?_
        refine z_callV hG dX10_substitute_34 LV_X10_79 (ct_X7_hasIngredient l g) (by decide) rfl rfl rfl (Nat.le_of_ble_eq_true rfl) ?_
        intro v9 m9 h9
        rw [h9.1, h9.2]
        clear h9 m9 v9
        refine z_if_ne hG dX10_substitute_37 (tgt := 42) rfl (fun c37 => ?_) (fun c37 => ?_)
        · try simp only [zite_eq0, ne_eq, Classical.not_not] at c37
          refine z_iload hG dX10_substitute_42 rfl ?_
          refine z_if_eq hG dX10_substitute_44 (tgt := 67) rfl (fun c44 => ?_) (fun c44 => ?_)
          · try simp only [zite_eq0, ne_eq, Classical.not_not] at c44
            refine z_aload_n (i := 0) hG dX10_substitute_67 rfl rfl ?_
            refine z_get_10_1 hG dX10_substitute_68 FL_X10_19 ?_
            refine z_aload_n (i := 0) hG dX10_substitute_71 rfl rfl ?_
            refine z_get_10_0 hG dX10_substitute_72 FL_X10_12 ?_
            refine z_callV hG dX10_substitute_75 LV_X10_65 (ct_X0_record l g hI.1.1 hI.1.2 hI0.2.2.2.2.2.1) (by decide) rfl rfl rfl (Nat.le_of_ble_eq_true rfl) ?_
            intro v9 m9 h9
            rw [h9.1, h9.2]
            clear h9 m9 v9
            refine z_aload_n (i := 0) hG dX10_substitute_78 rfl rfl ?_
            refine z_get_10_0 hG dX10_substitute_79 FL_X10_12 ?_
            refine z_get_7_6 hG dX10_substitute_82 FL_X10_69 ?_
            refine z_iload_n (i := 1) hG dX10_substitute_85 rfl rfl ?_
            refine z_aa_15 hG dX10_substitute_86 (by omega) (by omega) ?_
            refine z_astore hG dX10_substitute_87 (by decide) (ls2 := [_, _, _, _, _, _, _]) rfl ?_
            refine z_aload hG dX10_substitute_89 rfl ?_
            refine z_getI hG dX10_substitute_91 FL_X10_101 rfl rfl (kk := 5) rfl ?_
            refine z_istore hG dX10_substitute_94 (by decide) (ls2 := [_, _, _, _, _, _, _]) rfl ?_
            refine z_aload hG dX10_substitute_96 rfl ?_
            refine z_iload_n (i := 2) hG dX10_substitute_98 rfl rfl ?_
            refine z_put hG dX10_substitute_99 FP_X10_101 rfl rfl (kk := 5) rfl ?_
            refine z_aload hG dX10_substitute_102 rfl ?_
            refine z_iload hG dX10_substitute_104 rfl ?_
            refine z_if_eq hG dX10_substitute_106 (tgt := 113) rfl (fun c106 => ?_) (fun c106 => ?_)
            · try simp only [zite_eq0, ne_eq, Classical.not_not] at c106
              refine z_bipush hG dX10_substitute_113 rfl ?_
              refine z_put hG dX10_substitute_115 FP_X10_104 rfl rfl (kk := 6) rfl ?_
              refine z_iload hG dX10_substitute_118 rfl ?_
              refine z_iret hG hE dX10_substitute_120 trivial ?_
              first | (constructor <;> simp [zk_substitute, *]; done) | (exfalso; simp_all; done) | skip
            · try simp only [zite_eq0, ne_eq, Classical.not_not] at c106
              refine z_iload_n (i := 3) hG dX10_substitute_109 rfl rfl ?_
              refine z_goto hG dX10_substitute_110 (tgt := 115) rfl ?_
              refine z_put hG dX10_substitute_115 FP_X10_104 rfl rfl (kk := 6) rfl ?_
              refine z_iload hG dX10_substitute_118 rfl ?_
              refine z_iret hG hE dX10_substitute_120 trivial ?_
              first | (constructor <;> simp [zk_substitute, *]; done) | (exfalso; simp_all; done) | skip
          · try simp only [zite_eq0, ne_eq, Classical.not_not] at c44
            refine z_iload_n (i := 2) hG dX10_substitute_47 rfl rfl ?_
            refine z_iload_n (i := 1) hG dX10_substitute_48 rfl rfl ?_
            refine z_icmp_le hG dX10_substitute_49 (tgt := 64) rfl (fun c49 => ?_) (fun c49 => ?_)
            · refine z_bipush hG dX10_substitute_64 rfl ?_
              refine z_iret hG hE dX10_substitute_66 trivial ?_
              first | (constructor <;> simp [zk_substitute, *]; done) | (exfalso; simp_all; done) | (refine (fun (e1 : ¬ i < o) => ?_) (by omega) <;> constructor <;> simp [zk_substitute, e1, *])
            · refine z_iload_n (i := 3) hG dX10_substitute_52 rfl rfl ?_
              refine z_bipush hG dX10_substitute_53 rfl ?_
              refine z_sipush hG dX10_substitute_55 rfl ?_
              refine z_callS hG dX10_substitute_58 LS_X10_57 (ct_X10_isWithin l g) (by decide) rfl rfl (Nat.le_of_ble_eq_true rfl) ?_
              intro v9 m9 h9
              rw [h9.1, h9.2]
              clear h9 m9 v9
              refine z_if_ne hG dX10_substitute_61 (tgt := 67) rfl (fun c61 => ?_) (fun c61 => ?_)
              · try simp only [zite_eq0, ne_eq, Classical.not_not] at c61
                refine z_aload_n (i := 0) hG dX10_substitute_67 rfl rfl ?_
                refine z_get_10_1 hG dX10_substitute_68 FL_X10_19 ?_
                refine z_aload_n (i := 0) hG dX10_substitute_71 rfl rfl ?_
                refine z_get_10_0 hG dX10_substitute_72 FL_X10_12 ?_
                refine z_callV hG dX10_substitute_75 LV_X10_65 (ct_X0_record l g hI.1.1 hI.1.2 hI0.2.2.2.2.2.1) (by decide) rfl rfl rfl (Nat.le_of_ble_eq_true rfl) ?_
                intro v9 m9 h9
                rw [h9.1, h9.2]
                clear h9 m9 v9
                refine z_aload_n (i := 0) hG dX10_substitute_78 rfl rfl ?_
                refine z_get_10_0 hG dX10_substitute_79 FL_X10_12 ?_
                refine z_get_7_6 hG dX10_substitute_82 FL_X10_69 ?_
                refine z_iload_n (i := 1) hG dX10_substitute_85 rfl rfl ?_
                refine z_aa_15 hG dX10_substitute_86 (by omega) (by omega) ?_
                refine z_astore hG dX10_substitute_87 (by decide) (ls2 := [_, _, _, _, _, _, _]) rfl ?_
                refine z_aload hG dX10_substitute_89 rfl ?_
                refine z_getI hG dX10_substitute_91 FL_X10_101 rfl rfl (kk := 5) rfl ?_
                refine z_istore hG dX10_substitute_94 (by decide) (ls2 := [_, _, _, _, _, _, _]) rfl ?_
                refine z_aload hG dX10_substitute_96 rfl ?_
                refine z_iload_n (i := 2) hG dX10_substitute_98 rfl rfl ?_
                refine z_put hG dX10_substitute_99 FP_X10_101 rfl rfl (kk := 5) rfl ?_
                refine z_aload hG dX10_substitute_102 rfl ?_
                refine z_iload hG dX10_substitute_104 rfl ?_
                refine z_if_eq hG dX10_substitute_106 (tgt := 113) rfl (fun c106 => ?_) (fun c106 => ?_)
                · try simp only [zite_eq0, ne_eq, Classical.not_not] at c106
                  refine z_bipush hG dX10_substitute_113 rfl ?_
                  refine z_put hG dX10_substitute_115 FP_X10_104 rfl rfl (kk := 6) rfl ?_
                  refine z_iload hG dX10_substitute_118 rfl ?_
                  refine z_iret hG hE dX10_substitute_120 trivial ?_
                  first | (constructor <;> simp [zk_substitute, *]; done) | (exfalso; simp_all; done) | skip
                · try simp only [zite_eq0, ne_eq, Classical.not_not] at c106
                  refine z_iload_n (i := 3) hG dX10_substitute_109 rfl rfl ?_
                  refine z_goto hG dX10_substitute_110 (tgt := 115) rfl ?_
                  refine z_put hG dX10_substitute_115 FP_X10_104 rfl rfl (kk := 6) rfl ?_
                  refine z_iload hG dX10_substitute_118 rfl ?_
                  refine z_iret hG hE dX10_substitute_120 trivial ?_
                  first | (constructor <;> simp [zk_substitute, *]; done) | (exfalso; simp_all; done) | skip
              · try simp only [zite_eq0, ne_eq, Classical.not_not] at c61
                refine z_bipush hG dX10_substitute_64 rfl ?_
                refine z_iret hG hE dX10_substitute_66 trivial ?_
                first | (constructor <;> simp [zk_substitute, *]; done) | (exfalso; simp_all; done) | (refine (fun (e1 : ¬ i < o) => ?_) (by omega) <;> constructor <;> simp [zk_substitute, e1, *])
        · try simp only [zite_eq0, ne_eq, Classical.not_not] at c37
          refine z_iconst hG dX10_substitute_40 rfl ?_
          refine z_iret hG hE dX10_substitute_41 trivial ?_
          first | (constructor <;> simp [zk_substitute, *]; done) | (exfalso; simp_all; done) | (exfalso; omega) | (clear hI hI0 hday hhan hing hrcp hrec hboo hrow hrow2 hstp hr0; constructor <;> simp_all [zk_substitute]; done) | (constructor <;> simp_all [zk_substitute] <;> omega)
  · refine z_iconst hG dX10_substitute_6 rfl ?_
    refine z_goto hG dX10_substitute_7 (tgt := 11) rfl ?_
    refine z_istore hG dX10_substitute_11 (by decide) (ls2 := [_, _, _, _, _, _, _]) rfl ?_
    refine z_aload_n (i := 0) hG dX10_substitute_13 rfl rfl ?_
    refine z_get_10_0 hG dX10_substitute_14 FL_X10_12 ?_
    refine z_iload_n (i := 1) hG dX10_substitute_17 rfl rfl ?_
    refine z_callV hG dX10_substitute_18 LV_X10_79 (ct_X7_hasIngredient l g) (by decide) rfl rfl rfl (Nat.le_of_ble_eq_true rfl) ?_
    intro v9 m9 h9
    rw [h9.1, h9.2]
    clear h9 m9 v9
    refine z_if_eq hG dX10_substitute_21 (tgt := 40) rfl (fun c21 => ?_) (fun c21 => ?_)
    · try simp only [zite_eq0, ne_eq, Classical.not_not] at c21
      refine z_iconst hG dX10_substitute_40 rfl ?_
      refine z_iret hG hE dX10_substitute_41 trivial ?_
      first | (constructor <;> simp [zk_substitute, *]; done) | (exfalso; simp_all; done) | (exfalso; omega) | (clear hI hI0 hday hhan hing hrcp hrec hboo hrow hrow2 hstp hr0; constructor <;> simp_all [zk_substitute]; done) | (constructor <;> simp_all [zk_substitute] <;> omega)
    · try simp only [zite_eq0, ne_eq, Classical.not_not] at c21
      refine z_iload hG dX10_substitute_24 rfl ?_
      refine z_if_eq hG dX10_substitute_26 (tgt := 42) rfl (fun c26 => ?_) (fun c26 => ?_)
      · try simp only [zite_eq0, ne_eq, Classical.not_not] at c26
        refine z_iload hG dX10_substitute_42 rfl ?_
        refine z_if_eq hG dX10_substitute_44 (tgt := 67) rfl (fun c44 => ?_) (fun c44 => ?_)
        · try simp only [zite_eq0, ne_eq, Classical.not_not] at c44
          refine z_aload_n (i := 0) hG dX10_substitute_67 rfl rfl ?_
          refine z_get_10_1 hG dX10_substitute_68 FL_X10_19 ?_
          refine z_aload_n (i := 0) hG dX10_substitute_71 rfl rfl ?_
          refine z_get_10_0 hG dX10_substitute_72 FL_X10_12 ?_
          refine z_callV hG dX10_substitute_75 LV_X10_65 (ct_X0_record l g hI.1.1 hI.1.2 hI0.2.2.2.2.2.1) (by decide) rfl rfl rfl (Nat.le_of_ble_eq_true rfl) ?_
          intro v9 m9 h9
          rw [h9.1, h9.2]
          clear h9 m9 v9
          refine z_aload_n (i := 0) hG dX10_substitute_78 rfl rfl ?_
          refine z_get_10_0 hG dX10_substitute_79 FL_X10_12 ?_
          refine z_get_7_6 hG dX10_substitute_82 FL_X10_69 ?_
          refine z_iload_n (i := 1) hG dX10_substitute_85 rfl rfl ?_
          refine z_aa_15 hG dX10_substitute_86 (by omega) (by omega) ?_
          refine z_astore hG dX10_substitute_87 (by decide) (ls2 := [_, _, _, _, _, _, _]) rfl ?_
          refine z_aload hG dX10_substitute_89 rfl ?_
          refine z_getI hG dX10_substitute_91 FL_X10_101 rfl rfl (kk := 5) rfl ?_
          refine z_istore hG dX10_substitute_94 (by decide) (ls2 := [_, _, _, _, _, _, _]) rfl ?_
          refine z_aload hG dX10_substitute_96 rfl ?_
          refine z_iload_n (i := 2) hG dX10_substitute_98 rfl rfl ?_
          refine z_put hG dX10_substitute_99 FP_X10_101 rfl rfl (kk := 5) rfl ?_
          refine z_aload hG dX10_substitute_102 rfl ?_
          refine z_iload hG dX10_substitute_104 rfl ?_
          refine z_if_eq hG dX10_substitute_106 (tgt := 113) rfl (fun c106 => ?_) (fun c106 => ?_)
          · try simp only [zite_eq0, ne_eq, Classical.not_not] at c106
            refine z_bipush hG dX10_substitute_113 rfl ?_
            refine z_put hG dX10_substitute_115 FP_X10_104 rfl rfl (kk := 6) rfl ?_
            refine z_iload hG dX10_substitute_118 rfl ?_
            refine z_iret hG hE dX10_substitute_120 trivial ?_
            first | (constructor <;> simp [zk_substitute, *]; done) | (exfalso; simp_all; done) | skip
          · try simp only [zite_eq0, ne_eq, Classical.not_not] at c106
            refine z_iload_n (i := 3) hG dX10_substitute_109 rfl rfl ?_
            refine z_goto hG dX10_substitute_110 (tgt := 115) rfl ?_
            refine z_put hG dX10_substitute_115 FP_X10_104 rfl rfl (kk := 6) rfl ?_
            refine z_iload hG dX10_substitute_118 rfl ?_
            refine z_iret hG hE dX10_substitute_120 trivial ?_
            first | (constructor <;> simp [zk_substitute, *]; done) | (exfalso; simp_all; done) | skip
        · try simp only [zite_eq0, ne_eq, Classical.not_not] at c44
          refine z_iload_n (i := 2) hG dX10_substitute_47 rfl rfl ?_
          refine z_iload_n (i := 1) hG dX10_substitute_48 rfl rfl ?_
          refine z_icmp_le hG dX10_substitute_49 (tgt := 64) rfl (fun c49 => ?_) (fun c49 => ?_)
          · refine z_bipush hG dX10_substitute_64 rfl ?_
            refine z_iret hG hE dX10_substitute_66 trivial ?_
            first | (constructor <;> simp [zk_substitute, *]; done) | (exfalso; simp_all; done) | (refine (fun (e1 : ¬ i < o) => ?_) (by omega) <;> constructor <;> simp [zk_substitute, e1, *])
          · refine z_iload_n (i := 3) hG dX10_substitute_52 rfl rfl ?_
            refine z_bipush hG dX10_substitute_53 rfl ?_
            refine z_sipush hG dX10_substitute_55 rfl ?_
            refine z_callS hG dX10_substitute_58 LS_X10_57 (ct_X10_isWithin l g) (by decide) rfl rfl (Nat.le_of_ble_eq_true rfl) ?_
            intro v9 m9 h9
            rw [h9.1, h9.2]
            clear h9 m9 v9
            refine z_if_ne hG dX10_substitute_61 (tgt := 67) rfl (fun c61 => ?_) (fun c61 => ?_)
            · try simp only [zite_eq0, ne_eq, Classical.not_not] at c61
              refine z_aload_n (i := 0) hG dX10_substitute_67 rfl rfl ?_
              refine z_get_10_1 hG dX10_substitute_68 FL_X10_19 ?_
              refine z_aload_n (i := 0) hG dX10_substitute_71 rfl rfl ?_
              refine z_get_10_0 hG dX10_substitute_72 FL_X10_12 ?_
              refine z_callV hG dX10_substitute_75 LV_X10_65 (ct_X0_record l g hI.1.1 hI.1.2 hI0.2.2.2.2.2.1) (by decide) rfl rfl rfl (Nat.le_of_ble_eq_true rfl) ?_
              intro v9 m9 h9
              rw [h9.1, h9.2]
              clear h9 m9 v9
              refine z_aload_n (i := 0) hG dX10_substitute_78 rfl rfl ?_
              refine z_get_10_0 hG dX10_substitute_79 FL_X10_12 ?_
              refine z_get_7_6 hG dX10_substitute_82 FL_X10_69 ?_
              refine z_iload_n (i := 1) hG dX10_substitute_85 rfl rfl ?_
              refine z_aa_15 hG dX10_substitute_86 (by omega) (by omega) ?_
              refine z_astore hG dX10_substitute_87 (by decide) (ls2 := [_, _, _, _, _, _, _]) rfl ?_
              refine z_aload hG dX10_substitute_89 rfl ?_
              refine z_getI hG dX10_substitute_91 FL_X10_101 rfl rfl (kk := 5) rfl ?_
              refine z_istore hG dX10_substitute_94 (by decide) (ls2 := [_, _, _, _, _, _, _]) rfl ?_
              refine z_aload hG dX10_substitute_96 rfl ?_
              refine z_iload_n (i := 2) hG dX10_substitute_98 rfl rfl ?_
              refine z_put hG dX10_substitute_99 FP_X10_101 rfl rfl (kk := 5) rfl ?_
              refine z_aload hG dX10_substitute_102 rfl ?_
              refine z_iload hG dX10_substitute_104 rfl ?_
              refine z_if_eq hG dX10_substitute_106 (tgt := 113) rfl (fun c106 => ?_) (fun c106 => ?_)
              · try simp only [zite_eq0, ne_eq, Classical.not_not] at c106
                refine z_bipush hG dX10_substitute_113 rfl ?_
                refine z_put hG dX10_substitute_115 FP_X10_104 rfl rfl (kk := 6) rfl ?_
                refine z_iload hG dX10_substitute_118 rfl ?_
                refine z_iret hG hE dX10_substitute_120 trivial ?_
                first | (constructor <;> simp [zk_substitute, *]; done) | (exfalso; simp_all; done) | skip
              · try simp only [zite_eq0, ne_eq, Classical.not_not] at c106
                refine z_iload_n (i := 3) hG dX10_substitute_109 rfl rfl ?_
                refine z_goto hG dX10_substitute_110 (tgt := 115) rfl ?_
                refine z_put hG dX10_substitute_115 FP_X10_104 rfl rfl (kk := 6) rfl ?_
                refine z_iload hG dX10_substitute_118 rfl ?_
                refine z_iret hG hE dX10_substitute_120 trivial ?_
                first | (constructor <;> simp [zk_substitute, *]; done) | (exfalso; simp_all; done) | skip
            · try simp only [zite_eq0, ne_eq, Classical.not_not] at c61
              refine z_bipush hG dX10_substitute_64 rfl ?_
              refine z_iret hG hE dX10_substitute_66 trivial ?_
              first | (constructor <;> simp [zk_substitute, *]; done) | (exfalso; simp_all; done) | (refine (fun (e1 : ¬ i < o) => ?_) (by omega) <;> constructor <;> simp [zk_substitute, e1, *])
      · try simp only [zite_eq0, ne_eq, Classical.not_not] at c26
        refine z_aload_n (i := 0) hG dX10_substitute_29 rfl rfl ?_
        refine z_get_10_0 hG dX10_substitute_30 FL_X10_12 ?_
        refine z_iload_n (i := 2) hG dX10_substitute_33 rfl rfl ?_
        refine z_callV hG dX10_substitute_34 LV_X10_79 (ct_X7_hasIngredient l g) (by decide) rfl rfl rfl (Nat.le_of_ble_eq_true rfl) ?_
        intro v9 m9 h9
        rw [h9.1, h9.2]
        clear h9 m9 v9
        refine z_if_ne hG dX10_substitute_37 (tgt := 42) rfl (fun c37 => ?_) (fun c37 => ?_)
        · try simp only [zite_eq0, ne_eq, Classical.not_not] at c37
          refine z_iload hG dX10_substitute_42 rfl ?_
          refine z_if_eq hG dX10_substitute_44 (tgt := 67) rfl (fun c44 => ?_) (fun c44 => ?_)
          · try simp only [zite_eq0, ne_eq, Classical.not_not] at c44
            refine z_aload_n (i := 0) hG dX10_substitute_67 rfl rfl ?_
            refine z_get_10_1 hG dX10_substitute_68 FL_X10_19 ?_
            refine z_aload_n (i := 0) hG dX10_substitute_71 rfl rfl ?_
            refine z_get_10_0 hG dX10_substitute_72 FL_X10_12 ?_
            refine z_callV hG dX10_substitute_75 LV_X10_65 (ct_X0_record l g hI.1.1 hI.1.2 hI0.2.2.2.2.2.1) (by decide) rfl rfl rfl (Nat.le_of_ble_eq_true rfl) ?_
            intro v9 m9 h9
            rw [h9.1, h9.2]
            clear h9 m9 v9
            refine z_aload_n (i := 0) hG dX10_substitute_78 rfl rfl ?_
            refine z_get_10_0 hG dX10_substitute_79 FL_X10_12 ?_
            refine z_get_7_6 hG dX10_substitute_82 FL_X10_69 ?_
            refine z_iload_n (i := 1) hG dX10_substitute_85 rfl rfl ?_
            refine z_aa_15 hG dX10_substitute_86 (by omega) (by omega) ?_
            refine z_astore hG dX10_substitute_87 (by decide) (ls2 := [_, _, _, _, _, _, _]) rfl ?_
            refine z_aload hG dX10_substitute_89 rfl ?_
            refine z_getI hG dX10_substitute_91 FL_X10_101 rfl rfl (kk := 5) rfl ?_
            refine z_istore hG dX10_substitute_94 (by decide) (ls2 := [_, _, _, _, _, _, _]) rfl ?_
            refine z_aload hG dX10_substitute_96 rfl ?_
            refine z_iload_n (i := 2) hG dX10_substitute_98 rfl rfl ?_
            refine z_put hG dX10_substitute_99 FP_X10_101 rfl rfl (kk := 5) rfl ?_
            refine z_aload hG dX10_substitute_102 rfl ?_
            refine z_iload hG dX10_substitute_104 rfl ?_
            refine z_if_eq hG dX10_substitute_106 (tgt := 113) rfl (fun c106 => ?_) (fun c106 => ?_)
            · try simp only [zite_eq0, ne_eq, Classical.not_not] at c106
              refine z_bipush hG dX10_substitute_113 rfl ?_
              refine z_put hG dX10_substitute_115 FP_X10_104 rfl rfl (kk := 6) rfl ?_
              refine z_iload hG dX10_substitute_118 rfl ?_
              refine z_iret hG hE dX10_substitute_120 trivial ?_
              first | (constructor <;> simp [zk_substitute, *]; done) | (exfalso; simp_all; done) | skip
            · try simp only [zite_eq0, ne_eq, Classical.not_not] at c106
              refine z_iload_n (i := 3) hG dX10_substitute_109 rfl rfl ?_
              refine z_goto hG dX10_substitute_110 (tgt := 115) rfl ?_
              refine z_put hG dX10_substitute_115 FP_X10_104 rfl rfl (kk := 6) rfl ?_
              refine z_iload hG dX10_substitute_118 rfl ?_
              refine z_iret hG hE dX10_substitute_120 trivial ?_
              first | (constructor <;> simp [zk_substitute, *]; done) | (exfalso; simp_all; done) | skip
          · try simp only [zite_eq0, ne_eq, Classical.not_not] at c44
            refine z_iload_n (i := 2) hG dX10_substitute_47 rfl rfl ?_
            refine z_iload_n (i := 1) hG dX10_substitute_48 rfl rfl ?_
            refine z_icmp_le hG dX10_substitute_49 (tgt := 64) rfl (fun c49 => ?_) (fun c49 => ?_)
            · refine z_bipush hG dX10_substitute_64 rfl ?_
              refine z_iret hG hE dX10_substitute_66 trivial ?_
              first | (constructor <;> simp [zk_substitute, *]; done) | (exfalso; simp_all; done) | (refine (fun (e1 : ¬ i < o) => ?_) (by omega) <;> constructor <;> simp [zk_substitute, e1, *])
            · refine z_iload_n (i := 3) hG dX10_substitute_52 rfl rfl ?_
              refine z_bipush hG dX10_substitute_53 rfl ?_
              refine z_sipush hG dX10_substitute_55 rfl ?_
              refine z_callS hG dX10_substitute_58 LS_X10_57 (ct_X10_isWithin l g) (by decide) rfl rfl (Nat.le_of_ble_eq_true rfl) ?_
              intro v9 m9 h9
              rw [h9.1, h9.2]
              clear h9 m9 v9
              refine z_if_ne hG dX10_substitute_61 (tgt := 67) rfl (fun c61 => ?_) (fun c61 => ?_)
              · try simp only [zite_eq0, ne_eq, Classical.not_not] at c61
                refine z_aload_n (i := 0) hG dX10_substitute_67 rfl rfl ?_
                refine z_get_10_1 hG dX10_substitute_68 FL_X10_19 ?_
                refine z_aload_n (i := 0) hG dX10_substitute_71 rfl rfl ?_
                refine z_get_10_0 hG dX10_substitute_72 FL_X10_12 ?_
                refine z_callV hG dX10_substitute_75 LV_X10_65 (ct_X0_record l g hI.1.1 hI.1.2 hI0.2.2.2.2.2.1) (by decide) rfl rfl rfl (Nat.le_of_ble_eq_true rfl) ?_
                intro v9 m9 h9
                rw [h9.1, h9.2]
                clear h9 m9 v9
                refine z_aload_n (i := 0) hG dX10_substitute_78 rfl rfl ?_
                refine z_get_10_0 hG dX10_substitute_79 FL_X10_12 ?_
                refine z_get_7_6 hG dX10_substitute_82 FL_X10_69 ?_
                refine z_iload_n (i := 1) hG dX10_substitute_85 rfl rfl ?_
                refine z_aa_15 hG dX10_substitute_86 (by omega) (by omega) ?_
                refine z_astore hG dX10_substitute_87 (by decide) (ls2 := [_, _, _, _, _, _, _]) rfl ?_
                refine z_aload hG dX10_substitute_89 rfl ?_
                refine z_getI hG dX10_substitute_91 FL_X10_101 rfl rfl (kk := 5) rfl ?_
                refine z_istore hG dX10_substitute_94 (by decide) (ls2 := [_, _, _, _, _, _, _]) rfl ?_
                refine z_aload hG dX10_substitute_96 rfl ?_
                refine z_iload_n (i := 2) hG dX10_substitute_98 rfl rfl ?_
                refine z_put hG dX10_substitute_99 FP_X10_101 rfl rfl (kk := 5) rfl ?_
                refine z_aload hG dX10_substitute_102 rfl ?_
                refine z_iload hG dX10_substitute_104 rfl ?_
                refine z_if_eq hG dX10_substitute_106 (tgt := 113) rfl (fun c106 => ?_) (fun c106 => ?_)
                · try simp only [zite_eq0, ne_eq, Classical.not_not] at c106
                  refine z_bipush hG dX10_substitute_113 rfl ?_
                  refine z_put hG dX10_substitute_115 FP_X10_104 rfl rfl (kk := 6) rfl ?_
                  refine z_iload hG dX10_substitute_118 rfl ?_
                  refine z_iret hG hE dX10_substitute_120 trivial ?_
                  first | (constructor <;> simp [zk_substitute, *]; done) | (exfalso; simp_all; done) | skip
                · try simp only [zite_eq0, ne_eq, Classical.not_not] at c106
                  refine z_iload_n (i := 3) hG dX10_substitute_109 rfl rfl ?_
                  refine z_goto hG dX10_substitute_110 (tgt := 115) rfl ?_
                  refine z_put hG dX10_substitute_115 FP_X10_104 rfl rfl (kk := 6) rfl ?_
                  refine z_iload hG dX10_substitute_118 rfl ?_
                  refine z_iret hG hE dX10_substitute_120 trivial ?_
                  first | (constructor <;> simp [zk_substitute, *]; done) | (exfalso; simp_all; done) | skip
              · try simp only [zite_eq0, ne_eq, Classical.not_not] at c61
                refine z_bipush hG dX10_substitute_64 rfl ?_
                refine z_iret hG hE dX10_substitute_66 trivial ?_
                first | (constructor <;> simp [zk_substitute, *]; done) | (exfalso; simp_all; done) | (refine (fun (e1 : ¬ i < o) => ?_) (by omega) <;> constructor <;> simp [zk_substitute, e1, *])
        · try simp only [zite_eq0, ne_eq, Classical.not_not] at c37
          refine z_iconst hG dX10_substitute_40 rfl ?_
          refine z_iret hG hE dX10_substitute_41 trivial ?_
          first | (constructor <;> simp [zk_substitute, *]; done) | (exfalso; simp_all; done) | (exfalso; omega) | (clear hI hI0 hday hhan hing hrcp hrec hboo hrow hrow2 hstp hr0; constructor <;> simp_all [zk_substitute]; done) | (constructor <;> simp_all [zk_substitute] <;> omega)
def zk_stock (i x : Int) (m : zM) : Int × zM :=
  if ¬ (0 ≤ i ∧ i < m 2 0 0 4 ∧ i < 8) then (-1, m) else if ¬ (1 ≤ x ∧ x ≤ 20000) then (-2, m) else if 100000 < zsum 30 (m 14 0 i) + x then (-5, m) else
    (zsum 30 (m 14 0 i) + x, zset (zset (zrecd m) 14 0 i ((m 2 0 0 0 + m 3 0 i 0) % 30) (m 14 0 i ((m 2 0 0 0 + m 3 0 i 0) % 30) + x)) 3 0 i 11 (zwr (m 3 0 i 11 + x)))
set_option maxRecDepth 20000 in
theorem ct_X10_stock (l : Launch) (g : zG) {mem : zM} {B : Int} {i x : Int} (hI : zInv B mem) (hB : B ≤ 11900000) : zMet l g Y_X10_stock [zr 0 0 0, zi i, zi x] mem (fun v m' => v = some (zi (zk_stock i x mem).1) ∧ m' = (zk_stock i x mem).2) := by
  refine zMet_introF (by decide +kernel) (Nat.le_of_ble_eq_true rfl) (ls0 := [some (zr 0 0 0), some (zi i), some (zi x), none, none]) rfl fun X hG hE => ?_
  have hG : zGood X l g RX10 cX10_stock 4 5 := hG
  have hE : zEnd X (some .int) _ := hE
  have hI0 := zInv0 hI
  obtain ⟨hday, hhan, hing, hrcp, hrec, hboo, hrow, hrow2, hstp⟩ := id hI0
  have hr0 : ∀ (t : Nat) (i k : Int), t ≠ 1 → zrecd mem t 0 i k = mem t 0 i k := fun t i k ht => zrecd_0 hI.1.1.1 ht
  refine z_aload_n (i := 0) hG dX10_stock_0 rfl rfl ?_
  refine z_get_10_0 hG dX10_stock_1 FL_X10_12 ?_
  refine z_iload_n (i := 1) hG dX10_stock_4 rfl rfl ?_
  refine z_callV hG dX10_stock_5 LV_X10_79 (ct_X7_hasIngredient l g) (by decide) rfl rfl rfl (Nat.le_of_ble_eq_true rfl) ?_
  intro v9 m9 h9
  rw [h9.1, h9.2]
  clear h9 m9 v9
  refine z_if_ne hG dX10_stock_8 (tgt := 13) rfl (fun c8 => ?_) (fun c8 => ?_)
  · try simp only [zite_eq0, ne_eq, Classical.not_not] at c8
    refine z_iload_n (i := 2) hG dX10_stock_13 rfl rfl ?_
    refine z_iconst hG dX10_stock_14 rfl ?_
    refine z_sipush hG dX10_stock_15 rfl ?_
    refine z_callS hG dX10_stock_18 LS_X10_57 (ct_X10_isWithin l g) (by decide) rfl rfl (Nat.le_of_ble_eq_true rfl) ?_
    intro v9 m9 h9
    rw [h9.1, h9.2]
    clear h9 m9 v9
    refine z_if_ne hG dX10_stock_21 (tgt := 27) rfl (fun c21 => ?_) (fun c21 => ?_)
    · try simp only [zite_eq0, ne_eq, Classical.not_not] at c21
      refine z_aload_n (i := 0) hG dX10_stock_27 rfl rfl ?_
      refine z_get_10_0 hG dX10_stock_28 FL_X10_12 ?_
      refine z_get_7_6 hG dX10_stock_31 FL_X10_69 ?_
      refine z_iload_n (i := 1) hG dX10_stock_34 rfl rfl ?_
      refine z_aa_15 hG dX10_stock_35 (by omega) (by omega) ?_
      refine z_astore_n (i := 3) hG dX10_stock_36 rfl (by decide) (ls2 := [_, _, _, _, _]) rfl ?_
      refine z_aload_n (i := 3) hG dX10_stock_37 rfl rfl ?_
      refine z_callV hG dX10_stock_38 LV_X10_107 (ct_X1_inPantry l g (fun j h0 h1 => by have := (hrow i (by omega) (by omega)).2.1 j h0 h1; omega)) (by decide) rfl rfl rfl (Nat.le_of_ble_eq_true rfl) ?_
      intro v9 m9 h9
      rw [h9.1, h9.2]
      clear h9 m9 v9
      refine z_iload_n (i := 2) hG dX10_stock_41 rfl rfl ?_
      have hsm := zsum_le (f := mem 14 0 i) (B := 12000000) 30 (fun j h0 h1 => by have := (hrow i (by omega) (by omega)).2.1 j h0 h1; omega)
      refine z_iadd hG dX10_stock_42 (by omega) (by omega) ?_
      refine z_istore hG dX10_stock_43 (by decide) (ls2 := [_, _, _, _, _]) rfl ?_
      refine z_iload hG dX10_stock_45 rfl ?_
      refine z_ldc hG dX10_stock_47 KC_X10_111 rfl ?_
      refine z_icmp_le hG dX10_stock_49 (tgt := 55) rfl (fun c49 => ?_) (fun c49 => ?_)
      · refine z_aload_n (i := 0) hG dX10_stock_55 rfl rfl ?_
        refine z_get_10_1 hG dX10_stock_56 FL_X10_19 ?_
        refine z_aload_n (i := 0) hG dX10_stock_59 rfl rfl ?_
        refine z_get_10_0 hG dX10_stock_60 FL_X10_12 ?_
        refine z_callV hG dX10_stock_63 LV_X10_65 (ct_X0_record l g hI.1.1 hI.1.2 hI0.2.2.2.2.2.1) (by decide) rfl rfl rfl (Nat.le_of_ble_eq_true rfl) ?_
        intro v9 m9 h9
        rw [h9.1, h9.2]
        clear h9 m9 v9
        refine z_aload_n (i := 3) hG dX10_stock_66 rfl rfl ?_
        refine z_aload_n (i := 0) hG dX10_stock_67 rfl rfl ?_
        refine z_get_10_0 hG dX10_stock_68 FL_X10_12 ?_
        refine z_getI hG dX10_stock_71 FL_X10_112 rfl rfl (kk := 0) rfl ?_
        refine z_iload_n (i := 2) hG dX10_stock_74 rfl rfl ?_
        refine z_callV hG dX10_stock_75 LV_X10_115 (ct_X1_addLot l g (by rw [hr0 2 _ _ (by decide)]; omega) (by rw [hr0 2 _ _ (by decide)]; omega) (by rw [hr0 3 _ _ (by decide)]; have := (hrow i (by omega) (by omega)).2.2.1; omega) (by rw [hr0 3 _ _ (by decide)]; have := (hrow i (by omega) (by omega)).2.2.1; omega) (by rw [hr0 2 _ _ (by decide), hr0 3 _ _ (by decide), hr0 14 _ _ (by decide)]; have h1 := (hrow i (by omega) (by omega)).2.1 ((mem 2 0 0 0 + mem 3 0 i 0) % 30) (by omega) (by omega); omega) ⟨by omega, by omega⟩) (by decide) rfl rfl rfl (Nat.le_of_ble_eq_true rfl) ?_
        intro v9 m9 h9
        rw [h9.1, h9.2]
        clear h9 m9 v9
        refine z_aload_n (i := 3) hG dX10_stock_78 rfl rfl ?_
        first | refine z_dup_r hG dX10_stock_79 ?_ | refine z_dup_i hG dX10_stock_79 ?_
        refine z_getI hG dX10_stock_80 FL_X10_118 rfl rfl (kk := 11) rfl ?_
        refine z_iload_n (i := 2) hG dX10_stock_83 rfl rfl ?_
        refine z_iaddw hG dX10_stock_84 ?_
        refine z_put hG dX10_stock_85 FP_X10_118 rfl rfl (kk := 11) rfl ?_
        refine z_iload hG dX10_stock_88 rfl ?_
        refine z_iret hG hE dX10_stock_90 trivial ?_
        rw [zk_stock, if_neg (by simp [c8]), if_neg (by simp [c21]), if_neg (by omega)]
        simp [hr0, zset]
      · refine z_bipush hG dX10_stock_52 rfl ?_
        refine z_iret hG hE dX10_stock_54 trivial ?_
        first | (constructor <;> simp [zk_stock, *]; done) | (exfalso; simp_all; done) | (exfalso; omega) | (clear hI hI0 hday hhan hing hrcp hrec hboo hrow hrow2 hstp hr0; constructor <;> simp_all [zk_stock]; done) | (constructor <;> simp_all [zk_stock] <;> omega)
    · try simp only [zite_eq0, ne_eq, Classical.not_not] at c21
      refine z_bipush hG dX10_stock_24 rfl ?_
      refine z_iret hG hE dX10_stock_26 trivial ?_
      first | (constructor <;> simp [zk_stock, *]; done) | (exfalso; simp_all; done) | (exfalso; omega) | (clear hI hI0 hday hhan hing hrcp hrec hboo hrow hrow2 hstp hr0; constructor <;> simp_all [zk_stock]; done) | (constructor <;> simp_all [zk_stock] <;> omega)
  · try simp only [zite_eq0, ne_eq, Classical.not_not] at c8
    refine z_iconst hG dX10_stock_11 rfl ?_
    refine z_iret hG hE dX10_stock_12 trivial ?_
    first | (constructor <;> simp [zk_stock, *]; done) | (exfalso; simp_all; done) | (exfalso; omega) | (clear hI hI0 hday hhan hing hrcp hrec hboo hrow hrow2 hstp hr0; constructor <;> simp_all [zk_stock]; done) | (constructor <;> simp_all [zk_stock] <;> omega)
def zk_pass (d : Int) (m : zM) : Int × zM :=
  if ¬ (1 ≤ d ∧ d ≤ 60) then (-2, m) else if 3000 < m 2 0 0 0 + d then (-5, m) else zpass 0 d.toNat 0 (zrecd m)
set_option maxRecDepth 20000 in
theorem ct_X10_pass (l : Launch) (g : zG) {mem : zM} {B : Int} {d : Int} (hI : zInv B mem) (hB : B ≤ 11900000) : zMet l g Y_X10_pass [zr 0 0 0, zi d] mem (fun v m' => v = some (zi (zk_pass d mem).1) ∧ m' = (zk_pass d mem).2) := by
  refine zMet_introF (by decide +kernel) (Nat.le_of_ble_eq_true rfl) (ls0 := [some (zr 0 0 0), some (zi d)]) rfl fun X hG hE => ?_
  have hG : zGood X l g RX10 cX10_pass 4 2 := hG
  have hE : zEnd X (some .int) _ := hE
  have hI0 := zInv0 hI
  obtain ⟨hday, hhan, hing, hrcp, hrec, hboo, hrow, hrow2, hstp⟩ := id hI0
  have hr0 : ∀ (t : Nat) (i k : Int), t ≠ 1 → zrecd mem t 0 i k = mem t 0 i k := fun t i k ht => zrecd_0 hI.1.1.1 ht
  refine z_iload_n (i := 1) hG dX10_pass_0 rfl rfl ?_
  refine z_iconst hG dX10_pass_1 rfl ?_
  refine z_bipush hG dX10_pass_2 rfl ?_
  refine z_callS hG dX10_pass_4 LS_X10_57 (ct_X10_isWithin l g) (by decide) rfl rfl (Nat.le_of_ble_eq_true rfl) ?_
  intro v9 m9 h9
  rw [h9.1, h9.2]
  clear h9 m9 v9
  refine z_if_ne hG dX10_pass_7 (tgt := 13) rfl (fun c7 => ?_) (fun c7 => ?_)
  · try simp only [zite_eq0, ne_eq, Classical.not_not] at c7
    refine z_aload_n (i := 0) hG dX10_pass_13 rfl rfl ?_
    refine z_get_10_0 hG dX10_pass_14 FL_X10_12 ?_
    refine z_getI hG dX10_pass_17 FL_X10_112 rfl rfl (kk := 0) rfl ?_
    refine z_iload_n (i := 1) hG dX10_pass_20 rfl rfl ?_
    refine z_iadd hG dX10_pass_21 (by omega) (by omega) ?_
    refine z_sipush hG dX10_pass_22 rfl ?_
    refine z_icmp_le hG dX10_pass_25 (tgt := 31) rfl (fun c25 => ?_) (fun c25 => ?_)
    · refine z_aload_n (i := 0) hG dX10_pass_31 rfl rfl ?_
      refine z_get_10_1 hG dX10_pass_32 FL_X10_19 ?_
      refine z_aload_n (i := 0) hG dX10_pass_35 rfl rfl ?_
      refine z_get_10_0 hG dX10_pass_36 FL_X10_12 ?_
      refine z_callV hG dX10_pass_39 LV_X10_65 (ct_X0_record l g hI.1.1 hI.1.2 hI0.2.2.2.2.2.1) (by decide) rfl rfl rfl (Nat.le_of_ble_eq_true rfl) ?_
      intro v9 m9 h9
      rw [h9.1, h9.2]
      clear h9 m9 v9
      refine z_aload_n (i := 0) hG dX10_pass_42 rfl rfl ?_
      refine z_get_10_0 hG dX10_pass_43 FL_X10_12 ?_
      refine z_iload_n (i := 1) hG dX10_pass_46 rfl rfl ?_
      refine z_callV hG dX10_pass_47 LV_X10_184 (ct_X7_letPass l g ⟨by omega, by omega⟩ (by rw [hr0 2 _ _ (by decide)]; omega)) (by decide) rfl rfl rfl (Nat.le_of_ble_eq_true rfl) ?_
      intro v9 m9 h9
      rw [h9.1, h9.2]
      clear h9 m9 v9
      refine z_iret hG hE dX10_pass_50 trivial ?_
      rw [zk_pass, if_neg (by simp [c7]), if_neg (by omega)]
      exact ⟨rfl, rfl⟩
    · refine z_bipush hG dX10_pass_28 rfl ?_
      refine z_iret hG hE dX10_pass_30 trivial ?_
      first | (constructor <;> simp [zk_pass, *]; done) | (exfalso; simp_all; done) | (exfalso; omega) | (clear hI hI0 hday hhan hing hrcp hrec hboo hrow hrow2 hstp hr0; constructor <;> simp_all [zk_pass]; done) | (constructor <;> simp_all [zk_pass] <;> omega)
  · try simp only [zite_eq0, ne_eq, Classical.not_not] at c7
    refine z_bipush hG dX10_pass_10 rfl ?_
    refine z_iret hG hE dX10_pass_12 trivial ?_
    first | (constructor <;> simp [zk_pass, *]; done) | (exfalso; simp_all; done) | (exfalso; omega) | (clear hI hI0 hday hhan hing hrcp hrec hboo hrow hrow2 hstp hr0; constructor <;> simp_all [zk_pass]; done) | (constructor <;> simp_all [zk_pass] <;> omega)
def zk_about (i w : Int) (m : zM) : Int × zM :=
  (if ¬ (0 ≤ i ∧ i < m 2 0 0 4 ∧ i < 8) then -1 else if w = 0 then m 3 0 i 0 else if w = 1 then m 3 0 i 1 else if w = 2 then m 3 0 i 2 else if w = 3 then m 3 0 i 5 else if w = 4 then m 3 0 i 6 else if w = 5 then zsum 30 (m 14 0 i)
    else if w = 6 then zsum 30 (fun j => if 0 < m 14 0 i j then 1 else 0) else if w = 7 then zfst (m 14 0 i) 30 (m 2 0 0 0) 30 1 else if w = 8 then m 3 0 i 8 else if w = 9 then m 3 0 i 9 else if w = 10 then m 3 0 i 10 else if w = 11 then m 3 0 i 11 else -2, m)
set_option maxRecDepth 20000 in
theorem ct_X10_about (l : Launch) (g : zG) {mem : zM} {B : Int} {i w : Int} (hI : zInv B mem) (hB : B ≤ 11900000) : zMet l g Y_X10_about [zr 0 0 0, zi i, zi w] mem (fun v m' => v = some (zi (zk_about i w mem).1) ∧ m' = (zk_about i w mem).2) := by
  refine zMet_introF (by decide +kernel) (Nat.le_of_ble_eq_true rfl) (ls0 := [some (zr 0 0 0), some (zi i), some (zi w), none]) rfl fun X hG hE => ?_
  have hG : zGood X l g RX10 cX10_about 3 4 := hG
  have hE : zEnd X (some .int) _ := hE
  have hI0 := zInv0 hI
  obtain ⟨hday, hhan, hing, hrcp, hrec, hboo, hrow, hrow2, hstp⟩ := id hI0
  have hr0 : ∀ (t : Nat) (i k : Int), t ≠ 1 → zrecd mem t 0 i k = mem t 0 i k := fun t i k ht => zrecd_0 hI.1.1.1 ht
  refine z_aload_n (i := 0) hG dX10_about_0 rfl rfl ?_
  refine z_get_10_0 hG dX10_about_1 FL_X10_12 ?_
  refine z_iload_n (i := 1) hG dX10_about_4 rfl rfl ?_
  refine z_callV hG dX10_about_5 LV_X10_79 (ct_X7_hasIngredient l g) (by decide) rfl rfl rfl (Nat.le_of_ble_eq_true rfl) ?_
  intro v9 m9 h9
  rw [h9.1, h9.2]
  clear h9 m9 v9
  refine z_if_ne hG dX10_about_8 (tgt := 13) rfl (fun c8 => ?_) (fun c8 => ?_)
  · try simp only [zite_eq0, ne_eq, Classical.not_not] at c8
    refine z_aload_n (i := 0) hG dX10_about_13 rfl rfl ?_
    refine z_get_10_0 hG dX10_about_14 FL_X10_12 ?_
    refine z_get_7_6 hG dX10_about_17 FL_X10_69 ?_
    refine z_iload_n (i := 1) hG dX10_about_20 rfl rfl ?_
    refine z_aa_15 hG dX10_about_21 (by omega) (by omega) ?_
    refine z_astore_n (i := 3) hG dX10_about_22 rfl (by decide) (ls2 := [_, _, _, _]) rfl ?_
    refine z_iload_n (i := 2) hG dX10_about_23 rfl rfl ?_
    rcases (show (w < 0 ∨ 11 < w) ∨ w = 0 ∨ w = 1 ∨ w = 2 ∨ w = 3 ∨ w = 4 ∨ w = 5 ∨ w = 6 ∨ w = 7 ∨ w = 8 ∨ w = 9 ∨ w = 10 ∨ w = 11 from by omega) with c24 | rfl | rfl | rfl | rfl | rfl | rfl | rfl | rfl | rfl | rfl | rfl | rfl
    · refine z_tabOut hG dX10_about_24 (by omega) (tgt := 158) rfl ?_
      refine z_bipush hG dX10_about_158 rfl ?_
      refine z_iret hG hE dX10_about_160 trivial ?_
      have d0 : w ≠ 0 := by omega
      have d1 : w ≠ 1 := by omega
      have d2 : w ≠ 2 := by omega
      have d3 : w ≠ 3 := by omega
      have d4 : w ≠ 4 := by omega
      have d5 : w ≠ 5 := by omega
      have d6 : w ≠ 6 := by omega
      have d7 : w ≠ 7 := by omega
      have d8 : w ≠ 8 := by omega
      have d9 : w ≠ 9 := by omega
      have d10 : w ≠ 10 := by omega
      have d11 : w ≠ 11 := by omega
      simp [zk_about, c8, d0, d1, d2, d3, d4, d5, d6, d7, d8, d9, d10, d11]
    · refine z_tabIn hG dX10_about_24 (by decide) (by decide) (off := 64) rfl (tgt := 88) rfl ?_
      refine z_aload_n (i := 3) hG dX10_about_88 rfl rfl ?_
      refine z_getI hG dX10_about_89 FL_X10_188 rfl rfl (kk := 0) rfl ?_
      refine z_iret hG hE dX10_about_92 trivial ?_
      simp [zk_about, c8]
    · refine z_tabIn hG dX10_about_24 (by decide) (by decide) (off := 69) rfl (tgt := 93) rfl ?_
      refine z_aload_n (i := 3) hG dX10_about_93 rfl rfl ?_
      refine z_getI hG dX10_about_94 FL_X10_93 rfl rfl (kk := 1) rfl ?_
      refine z_callS hG dX10_about_97 LS_X10_97 (ct_X10_asNumber l g (hboo.1 i (by omega) (by omega))) (by decide) rfl rfl (Nat.le_of_ble_eq_true rfl) ?_
      intro v9 m9 h9
      rw [h9.1, h9.2]
      clear h9 m9 v9
      refine z_iret hG hE dX10_about_100 trivial ?_
      simp [zk_about, c8]
    · refine z_tabIn hG dX10_about_24 (by decide) (by decide) (off := 77) rfl (tgt := 101) rfl ?_
      refine z_aload_n (i := 3) hG dX10_about_101 rfl rfl ?_
      refine z_getI hG dX10_about_102 FL_X10_83 rfl rfl (kk := 2) rfl ?_
      refine z_iret hG hE dX10_about_105 trivial ?_
      simp [zk_about, c8]
    · refine z_tabIn hG dX10_about_24 (by decide) (by decide) (off := 82) rfl (tgt := 106) rfl ?_
      refine z_aload_n (i := 3) hG dX10_about_106 rfl rfl ?_
      refine z_getI hG dX10_about_107 FL_X10_101 rfl rfl (kk := 5) rfl ?_
      refine z_iret hG hE dX10_about_110 trivial ?_
      simp [zk_about, c8]
    · refine z_tabIn hG dX10_about_24 (by decide) (by decide) (off := 87) rfl (tgt := 111) rfl ?_
      refine z_aload_n (i := 3) hG dX10_about_111 rfl rfl ?_
      refine z_getI hG dX10_about_112 FL_X10_104 rfl rfl (kk := 6) rfl ?_
      refine z_iret hG hE dX10_about_115 trivial ?_
      simp [zk_about, c8]
    · refine z_tabIn hG dX10_about_24 (by decide) (by decide) (off := 92) rfl (tgt := 116) rfl ?_
      refine z_aload_n (i := 3) hG dX10_about_116 rfl rfl ?_
      refine z_callV hG dX10_about_117 LV_X10_107 (ct_X1_inPantry l g (fun j h0 h1 => by have := (hrow i (by omega) (by omega)).2.1 j h0 h1; omega)) (by decide) rfl rfl rfl (Nat.le_of_ble_eq_true rfl) ?_
      intro v9 m9 h9
      rw [h9.1, h9.2]
      clear h9 m9 v9
      refine z_iret hG hE dX10_about_120 trivial ?_
      simp [zk_about, c8]
    · refine z_tabIn hG dX10_about_24 (by decide) (by decide) (off := 97) rfl (tgt := 121) rfl ?_
      refine z_aload_n (i := 3) hG dX10_about_121 rfl rfl ?_
      refine z_callV hG dX10_about_122 LV_X10_191 (ct_X1_lotsThere l g) (by decide) rfl rfl rfl (Nat.le_of_ble_eq_true rfl) ?_
      intro v9 m9 h9
      rw [h9.1, h9.2]
      clear h9 m9 v9
      refine z_iret hG hE dX10_about_125 trivial ?_
      simp [zk_about, c8]
    · refine z_tabIn hG dX10_about_24 (by decide) (by decide) (off := 102) rfl (tgt := 126) rfl ?_
      refine z_aload_n (i := 3) hG dX10_about_126 rfl rfl ?_
      refine z_aload_n (i := 0) hG dX10_about_127 rfl rfl ?_
      refine z_get_10_0 hG dX10_about_128 FL_X10_12 ?_
      refine z_getI hG dX10_about_131 FL_X10_112 rfl rfl (kk := 0) rfl ?_
      refine z_callV hG dX10_about_134 LV_X10_194 (ct_X1_firstSpoilDay l g (by omega) (by omega)) (by decide) rfl rfl rfl (Nat.le_of_ble_eq_true rfl) ?_
      intro v9 m9 h9
      rw [h9.1, h9.2]
      clear h9 m9 v9
      refine z_iret hG hE dX10_about_137 trivial ?_
      simp [zk_about, c8]
    · refine z_tabIn hG dX10_about_24 (by decide) (by decide) (off := 114) rfl (tgt := 138) rfl ?_
      refine z_aload_n (i := 3) hG dX10_about_138 rfl rfl ?_
      refine z_getI hG dX10_about_139 FL_X10_197 rfl rfl (kk := 8) rfl ?_
      refine z_iret hG hE dX10_about_142 trivial ?_
      simp [zk_about, c8]
    · refine z_tabIn hG dX10_about_24 (by decide) (by decide) (off := 119) rfl (tgt := 143) rfl ?_
      refine z_aload_n (i := 3) hG dX10_about_143 rfl rfl ?_
      refine z_getI hG dX10_about_144 FL_X10_200 rfl rfl (kk := 9) rfl ?_
      refine z_iret hG hE dX10_about_147 trivial ?_
      simp [zk_about, c8]
    · refine z_tabIn hG dX10_about_24 (by decide) (by decide) (off := 124) rfl (tgt := 148) rfl ?_
      refine z_aload_n (i := 3) hG dX10_about_148 rfl rfl ?_
      refine z_getI hG dX10_about_149 FL_X10_203 rfl rfl (kk := 10) rfl ?_
      refine z_iret hG hE dX10_about_152 trivial ?_
      simp [zk_about, c8]
    · refine z_tabIn hG dX10_about_24 (by decide) (by decide) (off := 129) rfl (tgt := 153) rfl ?_
      refine z_aload_n (i := 3) hG dX10_about_153 rfl rfl ?_
      refine z_getI hG dX10_about_154 FL_X10_118 rfl rfl (kk := 11) rfl ?_
      refine z_iret hG hE dX10_about_157 trivial ?_
      simp [zk_about, c8]
  · try simp only [zite_eq0, ne_eq, Classical.not_not] at c8
    refine z_iconst hG dX10_about_11 rfl ?_
    refine z_iret hG hE dX10_about_12 trivial ?_
    constructor <;> simp [zk_about, *]
