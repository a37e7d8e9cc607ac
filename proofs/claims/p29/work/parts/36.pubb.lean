theorem zrecd_7 {m : zM} (h0 : 0 ≤ m 1 0 0 1) {t : Nat} {s i k : Int} (hs : 7 ≤ s) : zrecd m t s i k = m t s i k := by
  simp only [zrecd, zset, zcS]
  rw [if_neg (by omega), if_neg (by omega), if_neg (by omega)]
theorem zbool_recd {m : zM} (h0 : 0 ≤ m 1 0 0 1) {s : Int} (hs : 7 ≤ s) (h : zbool m s) : zbool (zrecd m) s := ⟨fun i h1 h2 => by rw [zrecd_7 h0 hs]; exact h.1 i h1 h2, fun i h1 h2 => by rw [zrecd_7 h0 hs]; exact h.2 i h1 h2⟩
def zk_wipe (m : zM) : Int × zM :=
  (m 6 0 0 0, zset m 6 0 0 0 0)
def zk_undo (m : zM) : Int × zM :=
  if m 1 0 0 0 = 0 then (-5, m) else (m 1 0 0 0 - 1, zback m)
set_option maxRecDepth 20000 in
theorem ct_X10_undo (l : Launch) (g : zG) {mem : zM} {B : Int} (hI : zInv B mem) (hB : B ≤ 11900000) : zMet l g Y_X10_undo [zr 0 0 0] mem (fun v m' => v = some (zi (zk_undo mem).1) ∧ m' = (zk_undo mem).2) := by
  refine zMet_introF (by decide +kernel) (Nat.le_of_ble_eq_true rfl) (ls0 := [some (zr 0 0 0)]) rfl fun X hG hE => ?_
  have hG : zGood X l g RX10 cX10_undo 4 1 := hG
  have hE : zEnd X (some .int) _ := hE
  have hI0 := zInv0 hI
  obtain ⟨hday, hhan, hing, hrcp, hrec, hboo, hrow, hrow2, hstp⟩ := id hI0
  have hr0 : ∀ (t : Nat) (i k : Int), t ≠ 1 → zrecd mem t 0 i k = mem t 0 i k := fun t i k ht => zrecd_0 hI.1.1.1 ht
  refine z_aload_n (i := 0) hG dX10_undo_0 rfl rfl ?_
  refine z_get_10_1 hG dX10_undo_1 FL_X10_19 ?_
  refine z_getI hG dX10_undo_4 FL_X10_288 rfl rfl (kk := 0) rfl ?_
  refine z_if_ne hG dX10_undo_7 (tgt := 13) rfl (fun c7 => ?_) (fun c7 => ?_)
  · try simp only [zite_eq0, ne_eq, Classical.not_not] at c7
    refine z_aload_n (i := 0) hG dX10_undo_13 rfl rfl ?_
    refine z_get_10_1 hG dX10_undo_14 FL_X10_19 ?_
    refine z_aload_n (i := 0) hG dX10_undo_17 rfl rfl ?_
    refine z_get_10_0 hG dX10_undo_18 FL_X10_12 ?_
    refine z_callV hG dX10_undo_21 LV_X10_311 (ct_X0_giveBack l g hI.1.1 ⟨by have := hI.1.2; omega, hI.1.2.2⟩ (hI.2.2.1 (1 + mem 1 0 0 1 % 6) (by omega) (by omega)).2.2.2.2.2.1) (by decide) rfl rfl rfl (Nat.le_of_ble_eq_true rfl) ?_
    intro v9 m9 h9
    rw [h9.1, h9.2]
    clear h9 m9 v9
    refine z_aload_n (i := 0) hG dX10_undo_24 rfl rfl ?_
    refine z_get_10_1 hG dX10_undo_25 FL_X10_19 ?_
    refine z_getI hG dX10_undo_28 FL_X10_288 rfl rfl (kk := 0) rfl ?_
    refine z_iret hG hE dX10_undo_31 trivial ?_
    rw [zk_undo, if_neg c7]
    exact ⟨by simp [zback, zset], rfl⟩
  · try simp only [zite_eq0, ne_eq, Classical.not_not] at c7
    refine z_bipush hG dX10_undo_10 rfl ?_
    refine z_iret hG hE dX10_undo_12 trivial ?_
    first | (constructor <;> simp [zk_undo, *]; done) | (exfalso; simp_all; done) | (exfalso; omega) | (clear hI hI0 hday hhan hing hrcp hrec hboo hrow hrow2 hstp hr0; constructor <;> simp_all [zk_undo]; done) | (constructor <;> simp_all [zk_undo] <;> omega)
def zk_save (p : Int) (m : zM) : Int × zM :=
  if ¬ (0 ≤ p ∧ p ≤ 1) then (-2, m) else (m 2 0 0 0, zset (zcS m (7 + p) 0 8 4) 21 0 0 p 1)
set_option maxRecDepth 20000 in
theorem ct_X10_save (l : Launch) (g : zG) {mem : zM} {B : Int} {p : Int} (hI : zInv B mem) (hB : B ≤ 11900000) : zMet l g Y_X10_save [zr 0 0 0, zi p] mem (fun v m' => v = some (zi (zk_save p mem).1) ∧ m' = (zk_save p mem).2) := by
  refine zMet_introF (by decide +kernel) (Nat.le_of_ble_eq_true rfl) (ls0 := [some (zr 0 0 0), some (zi p)]) rfl fun X hG hE => ?_
  have hG : zGood X l g RX10 cX10_save 3 2 := hG
  have hE : zEnd X (some .int) _ := hE
  have hI0 := zInv0 hI
  obtain ⟨hday, hhan, hing, hrcp, hrec, hboo, hrow, hrow2, hstp⟩ := id hI0
  have hr0 : ∀ (t : Nat) (i k : Int), t ≠ 1 → zrecd mem t 0 i k = mem t 0 i k := fun t i k ht => zrecd_0 hI.1.1.1 ht
  refine z_iload_n (i := 1) hG dX10_save_0 rfl rfl ?_
  refine z_iconst hG dX10_save_1 rfl ?_
  refine z_iconst hG dX10_save_2 rfl ?_
  refine z_callS hG dX10_save_3 LS_X10_57 (ct_X10_isWithin l g) (by decide) rfl rfl (Nat.le_of_ble_eq_true rfl) ?_
  intro v9 m9 h9
  rw [h9.1, h9.2]
  clear h9 m9 v9
  refine z_if_ne hG dX10_save_6 (tgt := 12) rfl (fun c6 => ?_) (fun c6 => ?_)
  · try simp only [zite_eq0, ne_eq, Classical.not_not] at c6
    refine z_aload_n (i := 0) hG dX10_save_12 rfl rfl ?_
    refine z_get_10_2 hG dX10_save_13 FL_X10_23 ?_
    refine z_iload_n (i := 1) hG dX10_save_16 rfl rfl ?_
    refine z_aa_20 hG dX10_save_17 (by omega) (by omega) ?_
    refine z_aload_n (i := 0) hG dX10_save_18 rfl rfl ?_
    refine z_get_10_0 hG dX10_save_19 FL_X10_12 ?_
    refine z_callV hG dX10_save_22 LV_X10_314 (ct_X7_copyFrom l g (by omega) hboo) (by decide) rfl rfl rfl (Nat.le_of_ble_eq_true rfl) ?_
    intro v9 m9 h9
    rw [h9.1, h9.2]
    clear h9 m9 v9
    refine z_aload_n (i := 0) hG dX10_save_25 rfl rfl ?_
    refine z_get_10_3 hG dX10_save_26 FL_X10_27 ?_
    refine z_iload_n (i := 1) hG dX10_save_29 rfl rfl ?_
    refine z_iconst hG dX10_save_30 rfl ?_
    refine z_zast hG dX10_save_31 rfl rfl (by omega) (by omega) (by exact Or.inr rfl) ?_
    refine z_aload_n (i := 0) hG dX10_save_32 rfl rfl ?_
    refine z_get_10_0 hG dX10_save_33 FL_X10_12 ?_
    refine z_getI hG dX10_save_36 FL_X10_112 rfl rfl (kk := 0) rfl ?_
    refine z_iret hG hE dX10_save_39 trivial ?_
    rw [zk_save, if_neg (by simp [c6])]
    exact ⟨by simp [zset, zcS], rfl⟩
  · try simp only [zite_eq0, ne_eq, Classical.not_not] at c6
    refine z_bipush hG dX10_save_9 rfl ?_
    refine z_iret hG hE dX10_save_11 trivial ?_
    first | (constructor <;> simp [zk_save, *]; done) | (exfalso; simp_all; done) | (exfalso; omega) | (clear hI hI0 hday hhan hing hrcp hrec hboo hrow hrow2 hstp hr0; constructor <;> simp_all [zk_save]; done) | (constructor <;> simp_all [zk_save] <;> omega)
def zk_restore (p : Int) (m : zM) : Int × zM :=
  if ¬ (0 ≤ p ∧ p ≤ 1) then (-2, m) else if m 21 0 0 p = 0 then (-5, m) else (m 2 (7 + p) 0 0, zcS (zrecd m) 0 (7 + p) 8 4)
set_option maxRecDepth 20000 in
theorem ct_X10_restore (l : Launch) (g : zG) {mem : zM} {B : Int} {p : Int} (hI : zInv B mem) (hB : B ≤ 11900000) : zMet l g Y_X10_restore [zr 0 0 0, zi p] mem (fun v m' => v = some (zi (zk_restore p mem).1) ∧ m' = (zk_restore p mem).2) := by
  refine zMet_introF (by decide +kernel) (Nat.le_of_ble_eq_true rfl) (ls0 := [some (zr 0 0 0), some (zi p)]) rfl fun X hG hE => ?_
  have hG : zGood X l g RX10 cX10_restore 4 2 := hG
  have hE : zEnd X (some .int) _ := hE
  have hI0 := zInv0 hI
  obtain ⟨hday, hhan, hing, hrcp, hrec, hboo, hrow, hrow2, hstp⟩ := id hI0
  have hr0 : ∀ (t : Nat) (i k : Int), t ≠ 1 → zrecd mem t 0 i k = mem t 0 i k := fun t i k ht => zrecd_0 hI.1.1.1 ht
  refine z_iload_n (i := 1) hG dX10_restore_0 rfl rfl ?_
  refine z_iconst hG dX10_restore_1 rfl ?_
  refine z_iconst hG dX10_restore_2 rfl ?_
  refine z_callS hG dX10_restore_3 LS_X10_57 (ct_X10_isWithin l g) (by decide) rfl rfl (Nat.le_of_ble_eq_true rfl) ?_
  intro v9 m9 h9
  rw [h9.1, h9.2]
  clear h9 m9 v9
  refine z_if_ne hG dX10_restore_6 (tgt := 12) rfl (fun c6 => ?_) (fun c6 => ?_)
  · try simp only [zite_eq0, ne_eq, Classical.not_not] at c6
    refine z_aload_n (i := 0) hG dX10_restore_12 rfl rfl ?_
    refine z_get_10_3 hG dX10_restore_13 FL_X10_27 ?_
    refine z_iload_n (i := 1) hG dX10_restore_16 rfl rfl ?_
    refine z_zald hG dX10_restore_17 rfl rfl (by omega) (by omega) ?_
    refine z_if_ne hG dX10_restore_18 (tgt := 24) rfl (fun c18 => ?_) (fun c18 => ?_)
    · try simp only [zite_eq0, ne_eq, Classical.not_not] at c18
      refine z_aload_n (i := 0) hG dX10_restore_24 rfl rfl ?_
      refine z_get_10_1 hG dX10_restore_25 FL_X10_19 ?_
      refine z_aload_n (i := 0) hG dX10_restore_28 rfl rfl ?_
      refine z_get_10_0 hG dX10_restore_29 FL_X10_12 ?_
      refine z_callV hG dX10_restore_32 LV_X10_65 (ct_X0_record l g hI.1.1 hI.1.2 hI0.2.2.2.2.2.1) (by decide) rfl rfl rfl (Nat.le_of_ble_eq_true rfl) ?_
      intro v9 m9 h9
      rw [h9.1, h9.2]
      clear h9 m9 v9
      refine z_aload_n (i := 0) hG dX10_restore_35 rfl rfl ?_
      refine z_get_10_0 hG dX10_restore_36 FL_X10_12 ?_
      refine z_aload_n (i := 0) hG dX10_restore_39 rfl rfl ?_
      refine z_get_10_2 hG dX10_restore_40 FL_X10_23 ?_
      refine z_iload_n (i := 1) hG dX10_restore_43 rfl rfl ?_
      refine z_aa_20 hG dX10_restore_44 (by omega) (by omega) ?_
      refine z_callV hG dX10_restore_45 LV_X10_314 (ct_X7_copyFrom l g (by omega) (zbool_recd hI.1.1.1 (by omega) (hI.2.2.1 (7 + p) (by omega) (by omega)).2.2.2.2.2.1)) (by decide) rfl rfl rfl (Nat.le_of_ble_eq_true rfl) ?_
      intro v9 m9 h9
      rw [h9.1, h9.2]
      clear h9 m9 v9
      refine z_aload_n (i := 0) hG dX10_restore_48 rfl rfl ?_
      refine z_get_10_0 hG dX10_restore_49 FL_X10_12 ?_
      refine z_getI hG dX10_restore_52 FL_X10_112 rfl rfl (kk := 0) rfl ?_
      refine z_iret hG hE dX10_restore_55 trivial ?_
      rw [zk_restore, if_neg (by simp [c6]), if_neg c18]
      exact ⟨by simp [zcS, zSt, zrecd_7 hI.1.1.1 (show 7 ≤ 7 + p by omega)], rfl⟩
    · try simp only [zite_eq0, ne_eq, Classical.not_not] at c18
      refine z_bipush hG dX10_restore_21 rfl ?_
      refine z_iret hG hE dX10_restore_23 trivial ?_
      first | (constructor <;> simp [zk_restore, *]; done) | (exfalso; simp_all; done) | (exfalso; omega) | (clear hI hI0 hday hhan hing hrcp hrec hboo hrow hrow2 hstp hr0; constructor <;> simp_all [zk_restore]; done) | (constructor <;> simp_all [zk_restore] <;> omega)
  · try simp only [zite_eq0, ne_eq, Classical.not_not] at c6
    refine z_bipush hG dX10_restore_9 rfl ?_
    refine z_iret hG hE dX10_restore_11 trivial ?_
    first | (constructor <;> simp [zk_restore, *]; done) | (exfalso; simp_all; done) | (exfalso; omega) | (clear hI hI0 hday hhan hing hrcp hrec hboo hrow hrow2 hstp hr0; constructor <;> simp_all [zk_restore]; done) | (constructor <;> simp_all [zk_restore] <;> omega)
def zk_ofRecipe (r w : Int) (m : zM) : Int × zM :=
  (if ¬ (0 ≤ r ∧ r < m 2 0 0 5 ∧ r < 4) then -1 else if w = 0 then m 4 0 r 0 else if w = 1 then m 4 0 r 2 else if w = 2 then m 4 0 r 1 else if 3 ≤ w ∧ w ≤ 10 then m 17 0 r (w - 3) else -2, m)
theorem z_locin {X : zX} {pc : Nat} {ls : zL} {st : List zV} {mem : zM} {w : Int} {k : Nat} (hk : ls[k]? = some (some (zi w))) (K : zin w → zZ X pc ls st mem) : zZ X pc ls st mem := by
  obtain ⟨p, l, e, R, s2, m, args, below, meth, c, Q, g⟩ := X
  intro hM hL
  exact K (hL _ (List.mem_of_getElem? hk)) hM hL
theorem zwr_def (x : Int) : zwr x = if x % 4294967296 < 2147483648 then x % 4294967296 else x % 4294967296 - 4294967296 := by
  simp only [zwr, Int32.toInt_ofInt, Int.bmod]
  rfl
theorem zwr3 {w : Int} (h : zin w) : (zwr (w - 3) = w - 3) ∨ 7 < zwr (w - 3) ∧ w < 3 := by
  have := zwr_def (w - 3)
  have h1 := h.1
  have h2 := h.2
  split at this <;> omega
set_option maxRecDepth 20000 in
theorem ct_X10_ofRecipe (l : Launch) (g : zG) {mem : zM} {B : Int} {r w : Int} (hI : zInv B mem) (hB : B ≤ 11900000) : zMet l g Y_X10_ofRecipe [zr 0 0 0, zi r, zi w] mem (fun v m' => v = some (zi (zk_ofRecipe r w mem).1) ∧ m' = (zk_ofRecipe r w mem).2) := by
  refine zMet_introF (by decide +kernel) (Nat.le_of_ble_eq_true rfl) (ls0 := [some (zr 0 0 0), some (zi r), some (zi w), none]) rfl fun X hG hE => ?_
  have hG : zGood X l g RX10 cX10_ofRecipe 1 4 := hG
  have hE : zEnd X (some .int) _ := hE
  have hI0 := zInv0 hI
  obtain ⟨hday, hhan, hing, hrcp, hrec, hboo, hrow, hrow2, hstp⟩ := id hI0
  have hr0 : ∀ (t : Nat) (i k : Int), t ≠ 1 → zrecd mem t 0 i k = mem t 0 i k := fun t i k ht => zrecd_0 hI.1.1.1 ht
  refine z_aload_n (i := 0) hG dX10_ofRecipe_0 rfl rfl ?_
  refine z_get_10_0 hG dX10_ofRecipe_1 FL_X10_12 ?_
  refine z_iload_n (i := 1) hG dX10_ofRecipe_4 rfl rfl ?_
  refine z_callV hG dX10_ofRecipe_5 LV_X10_149 (ct_X7_hasRecipe l g) (by decide) rfl rfl rfl (Nat.le_of_ble_eq_true rfl) ?_
  intro v9 m9 h9
  rw [h9.1, h9.2]
  clear h9 m9 v9
  refine z_if_ne hG dX10_ofRecipe_8 (tgt := 13) rfl (fun c8 => ?_) (fun c8 => ?_)
  · try simp only [zite_eq0, ne_eq, Classical.not_not] at c8
    refine z_aload_n (i := 0) hG dX10_ofRecipe_13 rfl rfl ?_
    refine z_get_10_0 hG dX10_ofRecipe_14 FL_X10_12 ?_
    refine z_get_7_7 hG dX10_ofRecipe_17 FL_X10_136 ?_
    refine z_iload_n (i := 1) hG dX10_ofRecipe_20 rfl rfl ?_
    refine z_aa_16 hG dX10_ofRecipe_21 (by omega) (by omega) ?_
    refine z_astore_n (i := 3) hG dX10_ofRecipe_22 rfl (by decide) (ls2 := [_, _, _, _]) rfl ?_
    refine z_iload_n (i := 2) hG dX10_ofRecipe_23 rfl rfl ?_
    rcases (show (w < 0 ∨ 2 < w) ∨ w = 0 ∨ w = 1 ∨ w = 2 from by omega) with c24 | rfl | rfl | rfl
    · refine z_tabOut hG dX10_ofRecipe_24 (by omega) (tgt := 67) rfl ?_
      refine z_locin (k := 2) rfl fun hw => ?_
      have h3 := zwr3 hw
      refine z_iload_n (i := 2) hG dX10_ofRecipe_67 rfl rfl ?_
      refine z_iconst hG dX10_ofRecipe_68 rfl ?_
      refine z_isubw hG dX10_ofRecipe_69 ?_
      refine z_iconst hG dX10_ofRecipe_70 rfl ?_
      refine z_bipush hG dX10_ofRecipe_71 rfl ?_
      refine z_callS hG dX10_ofRecipe_73 LS_X10_57 (ct_X10_isWithin l g) (by decide) rfl rfl (Nat.le_of_ble_eq_true rfl) ?_
      intro v9 m9 h9
      rw [h9.1, h9.2]
      clear h9 m9 v9
      refine z_if_eq hG dX10_ofRecipe_76 (tgt := 90) rfl (fun c76 => ?_) (fun c76 => ?_)
      · try simp only [zite_eq0, ne_eq, Classical.not_not] at c76
        refine z_bipush hG dX10_ofRecipe_90 rfl ?_
        refine z_iret hG hE dX10_ofRecipe_92 trivial ?_
        constructor
        · rw [zk_ofRecipe, if_neg (by simp [c8])]
          repeat (first | rfl | rw [if_pos (by omega)] | rw [if_neg (by omega)])
        · rfl
      · try simp only [zite_eq0, ne_eq, Classical.not_not] at c76
        have h4 : zwr (w - 3) = w - 3 := by omega
        refine z_aload_n (i := 3) hG dX10_ofRecipe_79 rfl rfl ?_
        refine z_get_4_3 hG dX10_ofRecipe_80 FL_X10_152 ?_
        refine z_iload_n (i := 2) hG dX10_ofRecipe_83 rfl rfl ?_
        refine z_iconst hG dX10_ofRecipe_84 rfl ?_
        refine z_isubw hG dX10_ofRecipe_85 ?_
        rw [h4]
        refine z_iald hG dX10_ofRecipe_86 rfl rfl (by omega) (by omega) ?_
        refine z_goto hG dX10_ofRecipe_87 (tgt := 92) rfl ?_
        refine z_iret hG hE dX10_ofRecipe_92 trivial ?_
        constructor
        · rw [zk_ofRecipe, if_neg (by simp [c8])]
          repeat (first | rfl | rw [if_pos (by omega)] | rw [if_neg (by omega)])
        · rfl
    · refine z_tabIn hG dX10_ofRecipe_24 (by decide) (by decide) (off := 28) rfl (tgt := 52) rfl ?_
      refine z_aload_n (i := 3) hG dX10_ofRecipe_52 rfl rfl ?_
      refine z_getI hG dX10_ofRecipe_53 FL_X10_273 rfl rfl (kk := 0) rfl ?_
      refine z_iret hG hE dX10_ofRecipe_56 trivial ?_
      constructor
      · rw [zk_ofRecipe, if_neg (by simp [c8])]
        repeat (first | rfl | rw [if_pos (by omega)] | rw [if_neg (by omega)])
      · rfl
    · refine z_tabIn hG dX10_ofRecipe_24 (by decide) (by decide) (off := 33) rfl (tgt := 57) rfl ?_
      refine z_aload_n (i := 3) hG dX10_ofRecipe_57 rfl rfl ?_
      refine z_getI hG dX10_ofRecipe_58 FL_X10_276 rfl rfl (kk := 2) rfl ?_
      refine z_iret hG hE dX10_ofRecipe_61 trivial ?_
      constructor
      · rw [zk_ofRecipe, if_neg (by simp [c8])]
        repeat (first | rfl | rw [if_pos (by omega)] | rw [if_neg (by omega)])
      · rfl
    · refine z_tabIn hG dX10_ofRecipe_24 (by decide) (by decide) (off := 38) rfl (tgt := 62) rfl ?_
      refine z_aload_n (i := 3) hG dX10_ofRecipe_62 rfl rfl ?_
      refine z_getI hG dX10_ofRecipe_63 FL_X10_156 rfl rfl (kk := 1) rfl ?_
      refine z_iret hG hE dX10_ofRecipe_66 trivial ?_
      constructor
      · rw [zk_ofRecipe, if_neg (by simp [c8])]
        repeat (first | rfl | rw [if_pos (by omega)] | rw [if_neg (by omega)])
      · rfl
  · try simp only [zite_eq0, ne_eq, Classical.not_not] at c8
    refine z_iconst hG dX10_ofRecipe_11 rfl ?_
    refine z_iret hG hE dX10_ofRecipe_12 trivial ?_
    constructor <;> simp [zk_ofRecipe, *]
