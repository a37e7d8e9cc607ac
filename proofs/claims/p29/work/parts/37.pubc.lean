/-- two memories are the same but for what planning writes -/
def zEq (m2 m : zM) : Prop := ∀ (t : Nat) (s i k : Int), ¬ zscr t → m2 t s i k = m t s i k
noncomputable def zPl0 (m : zM) : zPl := zpN (zDc m) 8
abbrev zhp (m : zM) : Prop := 0 < m 4 0 0 1 ∨ 0 < m 4 0 1 1 ∨ 0 < m 4 0 2 1 ∨ 0 < m 4 0 3 1
theorem zEq_set {m2 m : zM} (h : zEq m2 m) {t : Nat} {s i k v : Int} : zEq (zset m2 t s i k v) (zset m t s i k v) := by
  intro t' s' i' k' ht
  simp only [zset, h t' s' i' k' ht]
theorem zEq_rf {m : zM} : zEq m m := fun _ _ _ _ _ => rfl
theorem zEq_tr {a b c : zM} (h : zEq a b) (h2 : zEq b c) : zEq a c := fun t s i k ht => by rw [h t s i k ht, h2 t s i k ht]
theorem zEq_recd {m2 m : zM} (h : zEq m2 m) : zEq (zrecd m2) (zrecd m) := by
  intro t s i k ht
  have e : ∀ t : Nat, ¬ zscr t → m2 t = m t := fun t ht => by funext s i k; exact h t s i k ht
  simp only [zrecd, zset, zcS, e 1 (by simp [zscr]), e t ht]
theorem zEq_take {s i t : Int} : ∀ (n : Nat) (a left : Int) (m2 m : zM), zEq m2 m → zEq (ztake s i t n a left m2) (ztake s i t n a left m)
  | 0, _, _, _, _, h => h
  | n + 1, a, left, m2, m, h => by
    rw [ztake, ztake, h 14 s i ((t + a) % 30) (by simp [zscr])]
    exact zEq_take n _ _ _ _ (zEq_set h)
theorem zEq_car1 {W : zPl} {i : Int} {m2 m : zM} (h : zEq m2 m) : zEq (zcar1 W i m2) (zcar1 W i m) := by
  simp only [zcar1]
  rw [h 2 0 0 0 (by simp [zscr])]
  have h1 := zEq_take (s := 0) (i := i) (t := m 2 0 0 0) 30 1 (W 2 i) m2 m h
  generalize ztake 0 i (m 2 0 0 0) 30 1 (W 2 i) m2 = a at *
  generalize ztake 0 i (m 2 0 0 0) 30 1 (W 2 i) m = b at *
  rw [h1 2 0 0 0 (by simp [zscr]), h1 3 0 i 0 (by simp [zscr]), h1 14 0 i _ (by simp [zscr])]
  have h2 := zEq_set (t := 14) (s := 0) (i := i) (k := (b 2 0 0 0 + b 3 0 i 0) % 30) (v := b 14 0 i ((b 2 0 0 0 + b 3 0 i 0) % 30) + W 4 i) h1
  generalize zset a 14 0 i ((b 2 0 0 0 + b 3 0 i 0) % 30) (b 14 0 i ((b 2 0 0 0 + b 3 0 i 0) % 30) + W 4 i) = a2 at *
  generalize zset b 14 0 i ((b 2 0 0 0 + b 3 0 i 0) % 30) (b 14 0 i ((b 2 0 0 0 + b 3 0 i 0) % 30) + W 4 i) = b2 at *
  rw [h2 3 0 i 8 (by simp [zscr])]
  have h3 := zEq_set (t := 3) (s := 0) (i := i) (k := 8) (v := zwr (b2 3 0 i 8 + W 3 i)) h2
  rw [h3 3 0 i 9 (by simp [zscr])]
  exact zEq_set h3
theorem zEq_carry {W : zPl} {m2 m : zM} (h : zEq m2 m) : ∀ n : Nat, zEq (zcarry W n m2) (zcarry W n m)
  | 0 => h
  | n + 1 => zEq_car1 (zEq_carry h n)
theorem zEq_empty {m2 m : zM} (h : zEq m2 m) {s n : Int} : zEq (zempty m2 s n) (zempty m s n) := by
  intro t' s' i' k' ht
  simp only [zempty, h t' s' i' k' ht]
theorem zmss_congr {f f' : Int → Int} : ∀ n : Nat, (∀ j : Int, 0 ≤ j → j < n → f j = f' j) → zmss f n = zmss f' n
  | 0, _ => rfl
  | n + 1, h => by
    rw [zmss, zmss, zmss_congr n (fun j h0 h1 => h j h0 (by omega)), h n (by omega) (by omega)]
theorem zShop_congr {m2 m : zM} {W : zPl} (h : ∀ (t : Nat) (i k : Int), 23 ≤ t → t ≤ 32 → m2 t 0 i k = m t 0 i k) (hW : zShop m W) : zShop m2 W := fun i h0 h1 => by
  have := hW i h0 h1
  rw [h 23 0 i (by decide) (by decide), h 24 0 i (by decide) (by decide), h 25 0 i (by decide) (by decide), h 26 0 i (by decide) (by decide), h 27 0 i (by decide) (by decide), h 28 0 i (by decide) (by decide), h 29 0 i (by decide) (by decide), h 30 0 i (by decide) (by decide), h 32 i 0 (by decide) (by decide), h 32 i 1 (by decide) (by decide), h 32 i 2 (by decide) (by decide)]
  exact this
theorem zsea_congr {m2 m : zM} (h : ∀ (t : Nat) (k : Int), 36 ≤ t → t ≤ 37 → m2 t 0 0 k = m t 0 0 k) (hs : zsea m) : zsea m2 := fun j h0 h1 => by
  rw [h 36 j (by decide) (by decide), h 37 j (by decide) (by decide)]
  exact hs j h0 h1
theorem zhp_iff {m : zM} : (∃ k : Int, 0 ≤ k ∧ k < 4 ∧ 0 < m 4 0 k 1) ↔ zhp m := by
  constructor
  · rintro ⟨k, k0, k1, k2⟩
    rcases (show k = 0 ∨ k = 1 ∨ k = 2 ∨ k = 3 by omega) with rfl | rfl | rfl | rfl
    · exact Or.inl k2
    · exact Or.inr (Or.inl k2)
    · exact Or.inr (Or.inr (Or.inl k2))
    · exact Or.inr (Or.inr (Or.inr k2))
  · rintro (q | q | q | q)
    · exact ⟨0, by decide, by decide, q⟩
    · exact ⟨1, by decide, by decide, q⟩
    · exact ⟨2, by decide, by decide, q⟩
    · exact ⟨3, by decide, by decide, q⟩
theorem zShop_mss {m : zM} {W : zPl} (hW : zShop m W) : zmss (m 29 0 0) 8 = zmss (W 6) 8 := zmss_congr 8 (fun j h0 h1 => (hW j h0 h1).1.2.2.2.2.2.2.1)
set_option maxRecDepth 20000 in
theorem ct_X10_canBeCooked (l : Launch) (g : zG) {mem : zM} {W : zPl} (hW : zShop mem W) : zMet l g Y_X10_canBeCooked [zr 0 0 0] mem (fun v m' => v = some (zi (if zmss (W 6) 8 = 0 ∧ zhp mem then 1 else 0)) ∧ m' = mem) := by
  refine zMet_introF (by decide +kernel) (Nat.le_of_ble_eq_true rfl) (ls0 := [some (zr 0 0 0)]) rfl fun X hG hE => ?_
  have hG : zGood X l g RX10 cX10_canBeCooked 1 1 := hG
  have hE : zEnd X (some .boolean) _ := hE
  refine z_aload_n (i := 0) hG dX10_canBeCooked_0 rfl rfl ?_
  refine z_get_10_6 hG dX10_canBeCooked_1 FL_X10_46 ?_
  refine z_callV hG dX10_canBeCooked_4 LV_X10_294 (ct_X6_missingSet l g) (by decide) rfl rfl rfl (Nat.le_of_ble_eq_true rfl) ?_
  intro v9 m9 h9
  rw [h9.1, h9.2]
  clear h9 m9 v9
  rw [zShop_mss hW]
  refine z_if_ne hG dX10_canBeCooked_7 (tgt := 24) rfl (fun c7 => ?_) (fun c7 => ?_)
  · try simp only [zite_eq0, ne_eq, Classical.not_not] at c7
    have cc : ¬ (zmss (W 6) 8 = 0 ∧ zhp mem) := fun q => c7 q.1
    refine z_iconst hG dX10_canBeCooked_24 rfl ?_
    refine z_iret hG hE dX10_canBeCooked_25 (by first | exact Or.inl rfl | exact Or.inr rfl | (show _ ∨ _; omega)) ?_
    first | exact ⟨by rw [if_pos cc], rfl⟩ | exact ⟨by rw [if_neg cc], rfl⟩
  · try simp only [zite_eq0, ne_eq, Classical.not_not] at c7
    refine z_aload_n (i := 0) hG dX10_canBeCooked_10 rfl rfl ?_
    refine z_get_10_0 hG dX10_canBeCooked_11 FL_X10_12 ?_
    refine z_callV hG dX10_canBeCooked_14 LV_X10_316 (ct_X7_hasPortions l g) (by decide) rfl rfl rfl (Nat.le_of_ble_eq_true rfl) ?_
    intro v9 m9 h9
    obtain ⟨q9, h9a, h9b, h9c, h9d⟩ := h9
    rw [h9a, h9b]
    clear h9a h9b m9 v9
    rw [zhp_iff] at h9d
    refine z_if_eq hG dX10_canBeCooked_17 (tgt := 24) rfl (fun c17 => ?_) (fun c17 => ?_)
    · try simp only [zite_eq0, ne_eq, Classical.not_not] at c17
      have cc : ¬ (zmss (W 6) 8 = 0 ∧ zhp mem) := fun q => absurd (h9d.mpr q.2) (by omega)
      refine z_iconst hG dX10_canBeCooked_24 rfl ?_
      refine z_iret hG hE dX10_canBeCooked_25 (by first | exact Or.inl rfl | exact Or.inr rfl | (show _ ∨ _; omega)) ?_
      first | exact ⟨by rw [if_pos cc], rfl⟩ | exact ⟨by rw [if_neg cc], rfl⟩
    · try simp only [zite_eq0, ne_eq, Classical.not_not] at c17
      have cc : zmss (W 6) 8 = 0 ∧ zhp mem := ⟨c7, h9d.mp (by omega)⟩
      refine z_iconst hG dX10_canBeCooked_20 rfl ?_
      refine z_goto hG dX10_canBeCooked_21 (tgt := 25) rfl ?_
      refine z_iret hG hE dX10_canBeCooked_25 (by first | exact Or.inl rfl | exact Or.inr rfl | (show _ ∨ _; omega)) ?_
      first | exact ⟨by rw [if_pos cc], rfl⟩ | exact ⟨by rw [if_neg cc], rfl⟩
noncomputable def zk_cook (m : zM) : Int × zM :=
  if ¬ (zmss (zPl0 m 6) 8 = 0 ∧ zhp m) then (-5, m) else (zsum 8 (zPl0 m 7), zempty (zset (zset (zcarry (zPl0 m) 8 (zrecd m)) 2 0 0 2 (zwr (m 2 0 0 2 + zsum 8 (zPl0 m 7)))) 2 0 0 3 (zwr (m 2 0 0 3 + 1))) 0 4)
set_option maxRecDepth 20000 in
theorem ct_X10_cook (l : Launch) (g : zG) {mem : zM} {B : Int} (hI : zInv B mem) (hB : B ≤ 11900000) : zMet l g Y_X10_cook [zr 0 0 0] mem (fun v m' => v = some (zi (zk_cook mem).1) ∧ zEq m' (zk_cook mem).2 ∧ zsea m') := by
  refine zMet_introF (by decide +kernel) (Nat.le_of_ble_eq_true rfl) (ls0 := [some (zr 0 0 0), none]) rfl fun X hG hE => ?_
  have hG : zGood X l g RX10 cX10_cook 6 2 := hG
  have hE : zEnd X (some .int) _ := hE
  have hI0 := zInv0 hI
  obtain ⟨hday, hhan, hing, hrcp, hrec, hboo, hrow, hrow2, hstp⟩ := id hI0
  have hr0 : ∀ (t : Nat) (i k : Int), t ≠ 1 → zrecd mem t 0 i k = mem t 0 i k := fun t i k ht => zrecd_0 hI.1.1.1 ht
  refine z_aload_n (i := 0) hG dX10_cook_0 rfl rfl ?_
  refine z_get_10_6 hG dX10_cook_1 FL_X10_46 ?_
  refine z_aload_n (i := 0) hG dX10_cook_4 rfl rfl ?_
  refine z_get_10_0 hG dX10_cook_5 FL_X10_12 ?_
  refine z_callV hG dX10_cook_8 LV_X10_162 (ct_X6_plan l g (zIS_pc hI0 (by omega)) hI.2.1) (by decide) rfl rfl rfl (Nat.le_of_ble_eq_true rfl) ?_
  intro v9 m1 h9
  obtain ⟨h9a, hO, hsea, hW, hb⟩ := h9
  rw [h9a]
  clear h9a v9
  change zShop m1 (zPl0 mem) at hW
  change zplb (zPl0 mem) at hb
  have hO : zEq m1 mem := hO
  refine z_aload_n (i := 0) hG dX10_cook_11 rfl rfl ?_
  refine z_callV hG dX10_cook_12 LV_X10_165 (ct_X10_canBeCooked l g hW) (by decide) rfl rfl rfl (Nat.le_of_ble_eq_true rfl) ?_
  intro v9 m9 h9
  rw [h9.1, h9.2]
  clear h9 m9 v9
  refine z_if_ne hG dX10_cook_15 (tgt := 21) rfl (fun c15 => ?_) (fun c15 => ?_)
  · try simp only [zite_eq0, ne_eq, Classical.not_not] at c15
    refine z_aload_n (i := 0) hG dX10_cook_21 rfl rfl ?_
    refine z_get_10_1 hG dX10_cook_22 FL_X10_19 ?_
    refine z_aload_n (i := 0) hG dX10_cook_25 rfl rfl ?_
    refine z_get_10_0 hG dX10_cook_26 FL_X10_12 ?_
    refine z_callV hG dX10_cook_29 LV_X10_65 (ct_X0_record l g (by rw [hO 1 0 0 1 (by simp [zscr])]; exact hI.1.1) (by rw [hO 1 0 0 0 (by simp [zscr])]; exact hI.1.2) ⟨fun i h0 h1 => by rw [hO 3 0 i 1 (by simp [zscr])]; exact hboo.1 i h0 h1, fun i h0 h1 => by rw [hO 5 0 i 3 (by simp [zscr])]; exact hboo.2 i h0 h1⟩) (by decide) rfl rfl rfl (Nat.le_of_ble_eq_true rfl) ?_
    intro v9 m9 h9
    rw [h9.1, h9.2]
    clear h9 m9 v9
    have hE1 := zEq_recd hO
    have hr1 : ∀ (t : Nat) (i k : Int), t ≠ 1 → ¬ zscr t → zrecd m1 t 0 i k = mem t 0 i k := fun t i k h1 h2 => by rw [zrecd_0 (by rw [hO 1 0 0 1 (by simp [zscr])]; exact hI.1.1.1) h1, hO t 0 i k h2]
    have hrs : ∀ (t : Nat) (i k : Int), t ≠ 1 → zrecd m1 t 0 i k = m1 t 0 i k := fun t i k h1 => zrecd_0 (by rw [hO 1 0 0 1 (by simp [zscr])]; exact hI.1.1.1) h1
    have hWr : zShop (zrecd m1) (zPl0 mem) := zShop_congr (fun t i k h1 h2 => hrs t i k (by omega)) hW
    have hsr : zsea (zrecd m1) := zsea_congr (fun t k h1 h2 => hrs t 0 k (by omega)) hsea
    generalize zrecd m1 = m2 at *
    refine z_aload_n (i := 0) hG dX10_cook_32 rfl rfl ?_
    refine z_get_10_6 hG dX10_cook_33 FL_X10_46 ?_
    refine z_aload_n (i := 0) hG dX10_cook_36 rfl rfl ?_
    refine z_get_10_0 hG dX10_cook_37 FL_X10_12 ?_
    refine z_callV hG dX10_cook_40 LV_X10_169 (ct_X6_carryOut l g hWr hb (by rw [hr1 2 _ _ (by decide) (by simp [zscr])]; exact hday) (fun i h0 h1 => ⟨by rw [hr1 3 _ _ (by decide) (by simp [zscr])]; exact (hrow i h0 h1).2.2.1, fun j j0 j1 => by rw [hr1 14 _ _ (by decide) (by simp [zscr])]; have := (hrow i h0 h1).2.1 j j0 j1; omega⟩)) (by decide) rfl rfl rfl (Nat.le_of_ble_eq_true rfl) ?_
    intro v9 m9 h9
    rw [h9.1, h9.2]
    clear h9 m9 v9
    have hE2 := zEq_carry (W := zPl0 mem) hE1 8
    have hWc : zShop (zcarry (zPl0 mem) 8 m2) (zPl0 mem) := zShop_congr (fun t i k h1 h2 => zcarry_out 8 m2 (by omega)) hWr
    have hsc : zsea (zcarry (zPl0 mem) 8 m2) := zsea_congr (fun t k h1 h2 => zcarry_out 8 m2 (by omega)) hsr
    have hc2 : ∀ k : Int, zcarry (zPl0 mem) 8 m2 2 0 0 k = mem 2 0 0 k := fun k => by rw [zcarry_out 8 m2 (by omega), hr1 2 0 k (by decide) (by simp [zscr])]
    generalize zcarry (zPl0 mem) 8 m2 = m3 at *
    refine z_aload_n (i := 0) hG dX10_cook_43 rfl rfl ?_
    refine z_get_10_6 hG dX10_cook_44 FL_X10_46 ?_
    refine z_callV hG dX10_cook_47 LV_X10_172 (ct_X6_allPrices l g hWc hb) (by decide) rfl rfl rfl (Nat.le_of_ble_eq_true rfl) ?_
    intro v9 m9 h9
    rw [h9.1, h9.2]
    clear h9 m9 v9
    refine z_istore_n (i := 1) hG dX10_cook_50 rfl (by decide) (ls2 := [_, _]) rfl ?_
    refine z_aload_n (i := 0) hG dX10_cook_51 rfl rfl ?_
    refine z_get_10_0 hG dX10_cook_52 FL_X10_12 ?_
    first | refine z_dup_r hG dX10_cook_55 ?_ | refine z_dup_i hG dX10_cook_55 ?_
    refine z_getI hG dX10_cook_56 FL_X10_175 rfl rfl (kk := 2) rfl ?_
    refine z_iload_n (i := 1) hG dX10_cook_59 rfl rfl ?_
    refine z_iaddw hG dX10_cook_60 ?_
    refine z_put hG dX10_cook_61 FP_X10_175 rfl rfl (kk := 2) rfl ?_
    refine z_aload_n (i := 0) hG dX10_cook_64 rfl rfl ?_
    refine z_get_10_0 hG dX10_cook_65 FL_X10_12 ?_
    first | refine z_dup_r hG dX10_cook_68 ?_ | refine z_dup_i hG dX10_cook_68 ?_
    refine z_getI hG dX10_cook_69 FL_X10_178 rfl rfl (kk := 3) rfl ?_
    refine z_iconst hG dX10_cook_72 rfl ?_
    refine z_iaddw hG dX10_cook_73 ?_
    refine z_put hG dX10_cook_74 FP_X10_178 rfl rfl (kk := 3) rfl ?_
    refine z_aload_n (i := 0) hG dX10_cook_77 rfl rfl ?_
    refine z_get_10_0 hG dX10_cook_78 FL_X10_12 ?_
    refine z_callV hG dX10_cook_81 LV_X10_181 (ct_X7_emptyMenu l g) (by decide) rfl rfl rfl (Nat.le_of_ble_eq_true rfl) ?_
    intro v9 m9 h9
    rw [h9.1, h9.2]
    clear h9 m9 v9
    refine z_iload_n (i := 1) hG dX10_cook_84 rfl rfl ?_
    refine z_iret hG hE dX10_cook_85 trivial ?_
    have e : zhp m1 ↔ zhp mem := by simp only [zhp, hO 4 _ _ _ (by simp [zscr] : ¬ zscr 4)]
    rw [e] at c15
    rw [zk_cook, if_neg (fun z => z c15)]
    refine ⟨rfl, ?_, ?_⟩
    · rw [hc2]
      have h3 : ∀ v : Int, zset m3 2 0 0 2 v 2 0 0 3 = mem 2 0 0 3 := fun v => by rw [← hc2 3]; simp [zset]
      rw [h3]
      exact zEq_empty (zEq_set (zEq_set hE2))
    · refine zsea_congr (fun t k h1 h2 => ?_) hsc
      simp [zempty, zset, show t ≠ 2 by omega, show t ≠ 4 by omega]
  · try simp only [zite_eq0, ne_eq, Classical.not_not] at c15
    refine z_bipush hG dX10_cook_18 rfl ?_
    refine z_iret hG hE dX10_cook_20 trivial ?_
    have e : zhp m1 ↔ zhp mem := by simp only [zhp, hO 4 _ _ _ (by simp [zscr] : ¬ zscr 4)]
    rw [e] at c15
    rw [zk_cook, if_pos c15]
    exact ⟨rfl, hO, hsea⟩
def zpick (W : zPl) (m : zM) (w i : Int) : Int := if w = 0 then W 0 i else if w = 1 then W 1 i else if w = 2 then W 2 i else if w = 3 then W 3 i else if w = 4 then W 4 i else if w = 5 then W 5 i else if w = 6 then W 6 i else if w = 7 then W 7 i else -2
noncomputable def zk_needs (i w : Int) (m : zM) : Int := if ¬ (0 ≤ i ∧ i < m 2 0 0 4 ∧ i < 8) then -1 else zpick (zPl0 m) m w i
noncomputable def zk_ofTin (i k w : Int) (m : zM) : Int := if ¬ ((0 ≤ i ∧ i < m 2 0 0 4 ∧ i < 8) ∧ (0 ≤ k ∧ k < m 3 0 i 2 ∧ k < 3)) then -1 else if w = 0 then m 12 0 i k else if w = 1 then m 13 0 i k else if w = 2 then (if k = 0 then zPl0 m 8 i else if k = 1 then zPl0 m 9 i else zPl0 m 10 i) else -2
set_option maxRecDepth 20000 in
theorem ct_X10_needs (l : Launch) (g : zG) {mem : zM} {B : Int} {i w : Int} (hI : zInv B mem) (hB : B ≤ 11900000) : zMet l g Y_X10_needs [zr 0 0 0, zi i, zi w] mem (fun v m' => v = some (zi (zk_needs i w mem)) ∧ zEq m' mem ∧ zsea m') := by
  refine zMet_introF (by decide +kernel) (Nat.le_of_ble_eq_true rfl) (ls0 := [some (zr 0 0 0), some (zi i), some (zi w)]) rfl fun X hG hE => ?_
  have hG : zGood X l g RX10 cX10_needs 6 3 := hG
  have hE : zEnd X (some .int) _ := hE
  have hI0 := zInv0 hI
  obtain ⟨hday, hhan, hing, hrcp, hrec, hboo, hrow, hrow2, hstp⟩ := id hI0
  have hr0 : ∀ (t : Nat) (i k : Int), t ≠ 1 → zrecd mem t 0 i k = mem t 0 i k := fun t i k ht => zrecd_0 hI.1.1.1 ht
  refine z_aload_n (i := 0) hG dX10_needs_0 rfl rfl ?_
  refine z_get_10_0 hG dX10_needs_1 FL_X10_12 ?_
  refine z_iload_n (i := 1) hG dX10_needs_4 rfl rfl ?_
  refine z_callV hG dX10_needs_5 LV_X10_79 (ct_X7_hasIngredient l g) (by decide) rfl rfl rfl (Nat.le_of_ble_eq_true rfl) ?_
  intro v9 m9 h9
  rw [h9.1, h9.2]
  clear h9 m9 v9
  refine z_if_ne hG dX10_needs_8 (tgt := 13) rfl (fun c8 => ?_) (fun c8 => ?_)
  · try simp only [zite_eq0, ne_eq, Classical.not_not] at c8
    refine z_iload_n (i := 2) hG dX10_needs_13 rfl rfl ?_
    refine z_iconst hG dX10_needs_14 rfl ?_
    refine z_bipush hG dX10_needs_15 rfl ?_
    refine z_callS hG dX10_needs_17 LS_X10_57 (ct_X10_isWithin l g) (by decide) rfl rfl (Nat.le_of_ble_eq_true rfl) ?_
    intro v9 m9 h9
    rw [h9.1, h9.2]
    clear h9 m9 v9
    refine z_if_ne hG dX10_needs_20 (tgt := 26) rfl (fun c20 => ?_) (fun c20 => ?_)
    · try simp only [zite_eq0, ne_eq, Classical.not_not] at c20
      refine z_aload_n (i := 0) hG dX10_needs_26 rfl rfl ?_
      refine z_get_10_6 hG dX10_needs_27 FL_X10_46 ?_
      refine z_aload_n (i := 0) hG dX10_needs_30 rfl rfl ?_
      refine z_get_10_0 hG dX10_needs_31 FL_X10_12 ?_
      refine z_callV hG dX10_needs_34 LV_X10_162 (ct_X6_plan l g (zIS_pc hI0 (by omega)) hI.2.1) (by decide) rfl rfl rfl (Nat.le_of_ble_eq_true rfl) ?_
      intro v9 m1 h9
      obtain ⟨h9a, hO, hsea, hW, hb⟩ := h9
      rw [h9a]
      clear h9a v9
      change zShop m1 (zPl0 mem) at hW
      change zplb (zPl0 mem) at hb
      have hO : zEq m1 mem := hO
      refine z_iload_n (i := 2) hG dX10_needs_37 rfl rfl ?_
      rcases (show (w < 0 ∨ 6 < w) ∨ w = 0 ∨ w = 1 ∨ w = 2 ∨ w = 3 ∨ w = 4 ∨ w = 5 ∨ w = 6 from by omega) with c38 | rfl | rfl | rfl | rfl | rfl | rfl | rfl
      · refine z_tabOut hG dX10_needs_38 (by omega) (tgt := 150) rfl ?_
        refine z_aload_n (i := 0) hG dX10_needs_150 rfl rfl ?_
        refine z_get_10_6 hG dX10_needs_151 FL_X10_46 ?_
        refine z_get_6_7 hG dX10_needs_154 FL_X10_239 ?_
        refine z_iload_n (i := 1) hG dX10_needs_157 rfl rfl ?_
        refine z_iald hG dX10_needs_158 rfl rfl (by omega) (by omega) ?_
        refine z_iret hG hE dX10_needs_159 trivial ?_
        have hWi := (hW i (by omega) (by omega)).1
        refine ⟨?_, hO, hsea⟩
        rw [zk_needs, if_neg (fun z => z c8), zpick]
        repeat (first | rfl | rw [if_pos (by omega)] | rw [if_neg (by omega)])
        simp only [hWi]
      · refine z_tabIn hG dX10_needs_38 (by decide) (by decide) (off := 42) rfl (tgt := 80) rfl ?_
        refine z_aload_n (i := 0) hG dX10_needs_80 rfl rfl ?_
        refine z_get_10_6 hG dX10_needs_81 FL_X10_46 ?_
        refine z_get_6_0 hG dX10_needs_84 FL_X10_219 ?_
        refine z_iload_n (i := 1) hG dX10_needs_87 rfl rfl ?_
        refine z_iald hG dX10_needs_88 rfl rfl (by omega) (by omega) ?_
        refine z_iret hG hE dX10_needs_89 trivial ?_
        have hWi := (hW i (by omega) (by omega)).1
        refine ⟨?_, hO, hsea⟩
        rw [zk_needs, if_neg (fun z => z c8), zpick]
        repeat (first | rfl | rw [if_pos (by omega)] | rw [if_neg (by omega)])
        simp only [hWi]
      · refine z_tabIn hG dX10_needs_38 (by decide) (by decide) (off := 52) rfl (tgt := 90) rfl ?_
        refine z_aload_n (i := 0) hG dX10_needs_90 rfl rfl ?_
        refine z_get_10_6 hG dX10_needs_91 FL_X10_46 ?_
        refine z_get_6_1 hG dX10_needs_94 FL_X10_222 ?_
        refine z_iload_n (i := 1) hG dX10_needs_97 rfl rfl ?_
        refine z_iald hG dX10_needs_98 rfl rfl (by omega) (by omega) ?_
        refine z_iret hG hE dX10_needs_99 trivial ?_
        have hWi := (hW i (by omega) (by omega)).1
        refine ⟨?_, hO, hsea⟩
        rw [zk_needs, if_neg (fun z => z c8), zpick]
        repeat (first | rfl | rw [if_pos (by omega)] | rw [if_neg (by omega)])
        simp only [hWi]
      · refine z_tabIn hG dX10_needs_38 (by decide) (by decide) (off := 62) rfl (tgt := 100) rfl ?_
        refine z_aload_n (i := 0) hG dX10_needs_100 rfl rfl ?_
        refine z_get_10_6 hG dX10_needs_101 FL_X10_46 ?_
        refine z_get_6_2 hG dX10_needs_104 FL_X10_225 ?_
        refine z_iload_n (i := 1) hG dX10_needs_107 rfl rfl ?_
        refine z_iald hG dX10_needs_108 rfl rfl (by omega) (by omega) ?_
        refine z_iret hG hE dX10_needs_109 trivial ?_
        have hWi := (hW i (by omega) (by omega)).1
        refine ⟨?_, hO, hsea⟩
        rw [zk_needs, if_neg (fun z => z c8), zpick]
        repeat (first | rfl | rw [if_pos (by omega)] | rw [if_neg (by omega)])
        simp only [hWi]
      · refine z_tabIn hG dX10_needs_38 (by decide) (by decide) (off := 72) rfl (tgt := 110) rfl ?_
        refine z_aload_n (i := 0) hG dX10_needs_110 rfl rfl ?_
        refine z_get_10_6 hG dX10_needs_111 FL_X10_46 ?_
        refine z_get_6_3 hG dX10_needs_114 FL_X10_228 ?_
        refine z_iload_n (i := 1) hG dX10_needs_117 rfl rfl ?_
        refine z_iald hG dX10_needs_118 rfl rfl (by omega) (by omega) ?_
        refine z_iret hG hE dX10_needs_119 trivial ?_
        have hWi := (hW i (by omega) (by omega)).1
        refine ⟨?_, hO, hsea⟩
        rw [zk_needs, if_neg (fun z => z c8), zpick]
        repeat (first | rfl | rw [if_pos (by omega)] | rw [if_neg (by omega)])
        simp only [hWi]
      · refine z_tabIn hG dX10_needs_38 (by decide) (by decide) (off := 82) rfl (tgt := 120) rfl ?_
        refine z_aload_n (i := 0) hG dX10_needs_120 rfl rfl ?_
        refine z_get_10_6 hG dX10_needs_121 FL_X10_46 ?_
        refine z_get_6_4 hG dX10_needs_124 FL_X10_230 ?_
        refine z_iload_n (i := 1) hG dX10_needs_127 rfl rfl ?_
        refine z_iald hG dX10_needs_128 rfl rfl (by omega) (by omega) ?_
        refine z_iret hG hE dX10_needs_129 trivial ?_
        have hWi := (hW i (by omega) (by omega)).1
        refine ⟨?_, hO, hsea⟩
        rw [zk_needs, if_neg (fun z => z c8), zpick]
        repeat (first | rfl | rw [if_pos (by omega)] | rw [if_neg (by omega)])
        simp only [hWi]
      · refine z_tabIn hG dX10_needs_38 (by decide) (by decide) (off := 92) rfl (tgt := 130) rfl ?_
        refine z_aload_n (i := 0) hG dX10_needs_130 rfl rfl ?_
        refine z_get_10_6 hG dX10_needs_131 FL_X10_46 ?_
        refine z_get_6_5 hG dX10_needs_134 FL_X10_233 ?_
        refine z_iload_n (i := 1) hG dX10_needs_137 rfl rfl ?_
        refine z_iald hG dX10_needs_138 rfl rfl (by omega) (by omega) ?_
        refine z_iret hG hE dX10_needs_139 trivial ?_
        have hWi := (hW i (by omega) (by omega)).1
        refine ⟨?_, hO, hsea⟩
        rw [zk_needs, if_neg (fun z => z c8), zpick]
        repeat (first | rfl | rw [if_pos (by omega)] | rw [if_neg (by omega)])
        simp only [hWi]
      · refine z_tabIn hG dX10_needs_38 (by decide) (by decide) (off := 102) rfl (tgt := 140) rfl ?_
        refine z_aload_n (i := 0) hG dX10_needs_140 rfl rfl ?_
        refine z_get_10_6 hG dX10_needs_141 FL_X10_46 ?_
        refine z_get_6_6 hG dX10_needs_144 FL_X10_236 ?_
        refine z_iload_n (i := 1) hG dX10_needs_147 rfl rfl ?_
        refine z_iald hG dX10_needs_148 rfl rfl (by omega) (by omega) ?_
        refine z_iret hG hE dX10_needs_149 trivial ?_
        have hWi := (hW i (by omega) (by omega)).1
        refine ⟨?_, hO, hsea⟩
        rw [zk_needs, if_neg (fun z => z c8), zpick]
        repeat (first | rfl | rw [if_pos (by omega)] | rw [if_neg (by omega)])
        simp only [hWi]
    · try simp only [zite_eq0, ne_eq, Classical.not_not] at c20
      refine z_bipush hG dX10_needs_23 rfl ?_
      refine z_iret hG hE dX10_needs_25 trivial ?_
      refine ⟨?_, zEq_rf, hI.2.1⟩
      rw [zk_needs, if_neg (fun z => z c8), zpick]
      repeat (first | rfl | rw [if_pos (by omega)] | rw [if_neg (by omega)])
  · try simp only [zite_eq0, ne_eq, Classical.not_not] at c8
    refine z_iconst hG dX10_needs_11 rfl ?_
    refine z_iret hG hE dX10_needs_12 trivial ?_
    exact ⟨by rw [zk_needs, if_pos c8], zEq_rf, hI.2.1⟩
set_option maxRecDepth 20000 in
theorem ct_X10_ofTin (l : Launch) (g : zG) {mem : zM} {B : Int} {i k w : Int} (hI : zInv B mem) (hB : B ≤ 11900000) : zMet l g Y_X10_ofTin [zr 0 0 0, zi i, zi k, zi w] mem (fun v m' => v = some (zi (zk_ofTin i k w mem)) ∧ zEq m' mem ∧ zsea m') := by
  refine zMet_introF (by decide +kernel) (Nat.le_of_ble_eq_true rfl) (ls0 := [some (zr 0 0 0), some (zi i), some (zi k), some (zi w)]) rfl fun X hG hE => ?_
  have hG : zGood X l g RX10 cX10_ofTin 6 4 := hG
  have hE : zEnd X (some .int) _ := hE
  have hI0 := zInv0 hI
  obtain ⟨hday, hhan, hing, hrcp, hrec, hboo, hrow, hrow2, hstp⟩ := id hI0
  have hr0 : ∀ (t : Nat) (i k : Int), t ≠ 1 → zrecd mem t 0 i k = mem t 0 i k := fun t i k ht => zrecd_0 hI.1.1.1 ht
  refine z_aload_n (i := 0) hG dX10_ofTin_0 rfl rfl ?_
  refine z_get_10_0 hG dX10_ofTin_1 FL_X10_12 ?_
  refine z_iload_n (i := 1) hG dX10_ofTin_4 rfl rfl ?_
  refine z_callV hG dX10_ofTin_5 LV_X10_79 (ct_X7_hasIngredient l g) (by decide) rfl rfl rfl (Nat.le_of_ble_eq_true rfl) ?_
  intro v9 m9 h9
  rw [h9.1, h9.2]
  clear h9 m9 v9
  refine z_if_eq hG dX10_ofTin_8 (tgt := 27) rfl (fun c8 => ?_) (fun c8 => ?_)
  · try simp only [zite_eq0, ne_eq, Classical.not_not] at c8
    refine z_iconst hG dX10_ofTin_27 rfl ?_
    refine z_iret hG hE dX10_ofTin_28 trivial ?_
    exact ⟨by rw [zk_ofTin, if_pos (by omega)], zEq_rf, hI.2.1⟩
  · try simp only [zite_eq0, ne_eq, Classical.not_not] at c8
    refine z_aload_n (i := 0) hG dX10_ofTin_11 rfl rfl ?_
    refine z_get_10_0 hG dX10_ofTin_12 FL_X10_12 ?_
    refine z_get_7_6 hG dX10_ofTin_15 FL_X10_69 ?_
    refine z_iload_n (i := 1) hG dX10_ofTin_18 rfl rfl ?_
    refine z_aa_15 hG dX10_ofTin_19 (by omega) (by omega) ?_
    refine z_iload_n (i := 2) hG dX10_ofTin_20 rfl rfl ?_
    refine z_callV hG dX10_ofTin_21 LV_X10_206 (ct_X1_hasKind l g) (by decide) rfl rfl rfl (Nat.le_of_ble_eq_true rfl) ?_
    intro v9 m9 h9
    rw [h9.1, h9.2]
    clear h9 m9 v9
    refine z_if_ne hG dX10_ofTin_24 (tgt := 29) rfl (fun c24 => ?_) (fun c24 => ?_)
    · try simp only [zite_eq0, ne_eq, Classical.not_not] at c24
      refine z_iload_n (i := 3) hG dX10_ofTin_29 rfl rfl ?_
      rcases (show (w < 0 ∨ 2 < w) ∨ w = 0 ∨ w = 1 ∨ w = 2 from by omega) with c30 | rfl | rfl | rfl
      · refine z_tabOut hG dX10_ofTin_30 (by omega) (tgt := 109) rfl ?_
        refine z_bipush hG dX10_ofTin_109 rfl ?_
        refine z_iret hG hE dX10_ofTin_111 trivial ?_
        refine ⟨?_, zEq_rf, hI.2.1⟩
        rw [zk_ofTin, if_neg (by omega)]
        repeat (first | rfl | rw [if_pos (by omega)] | rw [if_neg (by omega)])
      · refine z_tabIn hG dX10_ofTin_30 (by decide) (by decide) (off := 26) rfl (tgt := 56) rfl ?_
        refine z_aload_n (i := 0) hG dX10_ofTin_56 rfl rfl ?_
        refine z_get_10_0 hG dX10_ofTin_57 FL_X10_12 ?_
        refine z_get_7_6 hG dX10_ofTin_60 FL_X10_69 ?_
        refine z_iload_n (i := 1) hG dX10_ofTin_63 rfl rfl ?_
        first | refine z_aa_15 hG dX10_ofTin_64 (by omega) (by omega) ?_ | refine z_aa_16 hG dX10_ofTin_64 (by omega) (by omega) ?_ | refine z_aa_18 hG dX10_ofTin_64 (by omega) (by omega) ?_ | refine z_aa_19 hG dX10_ofTin_64 (by omega) (by omega) ?_ | refine z_aa_20 hG dX10_ofTin_64 (by omega) (by omega) ?_ | refine z_aa_31 hG dX10_ofTin_64 (by omega) (by omega) ?_
        refine z_get_1_3 hG dX10_ofTin_65 FL_X10_209 ?_
        refine z_iload_n (i := 2) hG dX10_ofTin_68 rfl rfl ?_
        refine z_iald hG dX10_ofTin_69 rfl rfl (by omega) (by omega) ?_
        refine z_iret hG hE dX10_ofTin_70 trivial ?_
        refine ⟨?_, zEq_rf, hI.2.1⟩
        rw [zk_ofTin, if_neg (by omega)]
        repeat (first | rfl | rw [if_pos (by omega)] | rw [if_neg (by omega)])
      · refine z_tabIn hG dX10_ofTin_30 (by decide) (by decide) (off := 41) rfl (tgt := 71) rfl ?_
        refine z_aload_n (i := 0) hG dX10_ofTin_71 rfl rfl ?_
        refine z_get_10_0 hG dX10_ofTin_72 FL_X10_12 ?_
        refine z_get_7_6 hG dX10_ofTin_75 FL_X10_69 ?_
        refine z_iload_n (i := 1) hG dX10_ofTin_78 rfl rfl ?_
        first | refine z_aa_15 hG dX10_ofTin_79 (by omega) (by omega) ?_ | refine z_aa_16 hG dX10_ofTin_79 (by omega) (by omega) ?_ | refine z_aa_18 hG dX10_ofTin_79 (by omega) (by omega) ?_ | refine z_aa_19 hG dX10_ofTin_79 (by omega) (by omega) ?_ | refine z_aa_20 hG dX10_ofTin_79 (by omega) (by omega) ?_ | refine z_aa_31 hG dX10_ofTin_79 (by omega) (by omega) ?_
        refine z_get_1_4 hG dX10_ofTin_80 FL_X10_212 ?_
        refine z_iload_n (i := 2) hG dX10_ofTin_83 rfl rfl ?_
        refine z_iald hG dX10_ofTin_84 rfl rfl (by omega) (by omega) ?_
        refine z_iret hG hE dX10_ofTin_85 trivial ?_
        refine ⟨?_, zEq_rf, hI.2.1⟩
        rw [zk_ofTin, if_neg (by omega)]
        repeat (first | rfl | rw [if_pos (by omega)] | rw [if_neg (by omega)])
      · refine z_tabIn hG dX10_ofTin_30 (by decide) (by decide) (off := 56) rfl (tgt := 86) rfl ?_
        refine z_aload_n (i := 0) hG dX10_ofTin_86 rfl rfl ?_
        refine z_get_10_6 hG dX10_ofTin_87 FL_X10_46 ?_
        refine z_aload_n (i := 0) hG dX10_ofTin_90 rfl rfl ?_
        refine z_get_10_0 hG dX10_ofTin_91 FL_X10_12 ?_
        refine z_callV hG dX10_ofTin_94 LV_X10_162 (ct_X6_plan l g (zIS_pc hI0 (by omega)) hI.2.1) (by decide) rfl rfl rfl (Nat.le_of_ble_eq_true rfl) ?_
        intro v9 m1 h9
        obtain ⟨h9a, hO, hsea, hW, hb⟩ := h9
        rw [h9a]
        clear h9a v9
        change zShop m1 (zPl0 mem) at hW
        change zplb (zPl0 mem) at hb
        have hO : zEq m1 mem := hO
        refine z_aload_n (i := 0) hG dX10_ofTin_97 rfl rfl ?_
        refine z_get_10_6 hG dX10_ofTin_98 FL_X10_46 ?_
        refine z_get_6_8 hG dX10_ofTin_101 FL_X10_215 ?_
        refine z_iload_n (i := 1) hG dX10_ofTin_104 rfl rfl ?_
        refine z_aa_31 hG dX10_ofTin_105 (by omega) (by omega) ?_
        refine z_iload_n (i := 2) hG dX10_ofTin_106 rfl rfl ?_
        refine z_iald hG dX10_ofTin_107 rfl rfl (by omega) (by omega) ?_
        refine z_iret hG hE dX10_ofTin_108 trivial ?_
        have hWi := (hW i (by omega) (by omega)).2
        refine ⟨?_, hO, hsea⟩
        rw [zk_ofTin, if_neg (by omega)]
        rcases (show k = 0 ∨ k = 1 ∨ k = 2 by omega) with rfl | rfl | rfl
        · simp [hWi]
        · simp [hWi]
        · simp [hWi]
    · try simp only [zite_eq0, ne_eq, Classical.not_not] at c24
      refine z_iconst hG dX10_ofTin_27 rfl ?_
      refine z_iret hG hE dX10_ofTin_28 trivial ?_
      exact ⟨by rw [zk_ofTin, if_pos (by omega)], zEq_rf, hI.2.1⟩
