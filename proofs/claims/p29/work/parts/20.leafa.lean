/-! bits of numbers that aren't negative (nx_ rows begun from the kit's laws) -/
theorem zbx (a b : Nat) : nI a ^^^ nI b = nI (a ^^^ b) := by
  apply Int32.toBitVec_inj.1
  show BitVec.ofNat 32 a ^^^ BitVec.ofNat 32 b = BitVec.ofNat 32 (a ^^^ b)
  apply BitVec.eq_of_getLsbD_eq
  intro i hi
  simp [hi]
theorem zba (a b : Nat) : nI a &&& nI b = nI (a &&& b) := by
  apply Int32.toBitVec_inj.1
  show BitVec.ofNat 32 a &&& BitVec.ofNat 32 b = BitVec.ofNat 32 (a &&& b)
  apply BitVec.eq_of_getLsbD_eq
  intro i hi
  simp [hi]
theorem zbo (a b : Nat) : nI a ||| nI b = nI (a ||| b) := by
  apply Int32.toBitVec_inj.1
  show BitVec.ofNat 32 a ||| BitVec.ofNat 32 b = BitVec.ofNat 32 (a ||| b)
  apply BitVec.eq_of_getLsbD_eq
  intro i hi
  simp [hi]
theorem znI (a : Nat) : Int32.ofInt (a : Int) = nI a := Int32.ofInt_eq_ofNat
theorem zxor_nat {a b : Nat} (ha : a < 2 ^ 31) (hb : b < 2 ^ 31) : zxor a b = ((a ^^^ b : Nat) : Int) := by
  unfold zxor
  rw [znI, znI, zbx, nI_toInt (Nat.xor_lt_two_pow ha hb)]
theorem zand_nat {a b : Nat} (ha : a < 2 ^ 31) : zand a b = ((a &&& b : Nat) : Int) := by
  unfold zand
  rw [znI, znI, zba, nI_toInt (Nat.lt_of_le_of_lt Nat.and_le_left ha)]
theorem zor_nat {a b : Nat} (ha : a < 2 ^ 31) (hb : b < 2 ^ 31) : zor a b = ((a ||| b : Nat) : Int) := by
  unfold zor
  rw [znI, znI, zbo, nI_toInt (Nat.or_lt_two_pow ha hb)]
theorem zxor_pos {x y : Int} (hx : zin x) (hy : zin y) (h0 : 0 ≤ x) (h1 : 0 ≤ y) : 0 ≤ zxor x y := by
  obtain ⟨a, rfl⟩ := Int.eq_ofNat_of_zero_le h0
  obtain ⟨b, rfl⟩ := Int.eq_ofNat_of_zero_le h1
  rw [zxor_nat (by have := hx.2; omega) (by have := hy.2; omega)]
  omega
def zsum : Nat → (Int → Int) → Int
  | 0, _ => 0
  | n + 1, f => zsum n f + f n
theorem zsum_le {f : Int → Int} {B : Int} : ∀ n : Nat, (∀ j : Int, 0 ≤ j → j < n → 0 ≤ f j ∧ f j ≤ B) → 0 ≤ zsum n f ∧ zsum n f ≤ B * n
  | 0, _ => by simp [zsum]
  | n + 1, h => by
    have h1 := zsum_le (f := f) (B := B) n (fun j h0 h1 => h j h0 (by omega))
    have h2 := h n (by omega) (by omega)
    simp only [zsum]
    have e : B * ((n + 1 : Nat) : Int) = B * n + B := by rw [Int.natCast_add]; simp [Int.mul_add]
    omega
/-- places 0 to n of one row are v -/
def zfill (mem : zM) (t : Nat) (s i n v : Int) : zM := fun t' s' i' k' => if t' = t ∧ s' = s ∧ i' = i ∧ 0 ≤ k' ∧ k' < n then v else mem t' s' i' k'
theorem zfill_0 {mem : zM} {t : Nat} {s i v : Int} : zfill mem t s i 0 v = mem := by
  funext t' s' i' k'
  unfold zfill
  rw [if_neg (by omega)]
theorem zfill_s {mem : zM} {t : Nat} {s i v j j2 : Int} (hj : 0 ≤ j) (h2 : j2 = j + 1) : zset (zfill mem t s i j v) t s i j v = zfill mem t s i j2 v := by
  subst h2
  funext t' s' i' k'
  unfold zfill zset
  by_cases h1 : t' = t ∧ s' = s ∧ i' = i
  · obtain ⟨rfl, rfl, rfl⟩ := h1
    simp only [true_and]
    by_cases hk : k' = j
    · rw [if_pos hk, if_pos (by omega)]
    · rw [if_neg hk]
      by_cases h3 : 0 ≤ k' ∧ k' < j
      · rw [if_pos h3, if_pos (by omega)]
      · rw [if_neg h3, if_neg (by omega)]
  · have e1 : ¬ (t' = t ∧ s' = s ∧ i' = i ∧ k' = j) := fun z => h1 ⟨z.1, z.2.1, z.2.2.1⟩
    have e2 : ¬ (t' = t ∧ s' = s ∧ i' = i ∧ 0 ≤ k' ∧ k' < j) := fun z => h1 ⟨z.1, z.2.1, z.2.2.1⟩
    have e3 : ¬ (t' = t ∧ s' = s ∧ i' = i ∧ 0 ≤ k' ∧ k' < j + 1) := fun z => h1 ⟨z.1, z.2.1, z.2.2.1⟩
    simp only [e1, e2, e3, if_false]
set_option maxRecDepth 20000 in
theorem ct_J9_floorMod_7cf53 (l : Launch) (g : zG) {mem : zM} {x y : Int} (h0 : 0 ≤ x) (h1 : 0 < y) : zMet l g Y_J9_floorMod_7cf53 [zi x, zi y] mem (fun v m' => v = some (zi (x % y)) ∧ m' = mem) := by
  refine zMet_introF (by decide +kernel) (Nat.le_of_ble_eq_true rfl) (ls0 := [some (zi x), some (zi y), none]) rfl fun X hG hE => ?_
  have hG : zGood X l g RJ9 cJ9_floorMod_7cf53 0 3 := hG
  have hE : zEnd X (some .int) _ := hE
  refine z_okL hG fun hL => ?_
  have hx : zin x := hL (zi x) (by simp)
  have hy : zin y := hL (zi y) (by simp)
  have hp := zxor_pos hx hy h0 (Int.le_of_lt h1)
  refine z_iload_n (i := 0) hG dJ9_floorMod_7cf53_0 rfl rfl ?_
  refine z_iload_n (i := 1) hG dJ9_floorMod_7cf53_1 rfl rfl ?_
  refine z_irem hG dJ9_floorMod_7cf53_2 (by omega) (by omega) ?_
  refine z_istore_n (i := 2) hG dJ9_floorMod_7cf53_3 rfl (by decide) (ls2 := [_, _, _]) rfl ?_
  refine z_iload_n (i := 0) hG dJ9_floorMod_7cf53_4 rfl rfl ?_
  refine z_iload_n (i := 1) hG dJ9_floorMod_7cf53_5 rfl rfl ?_
  refine z_ixor hG dJ9_floorMod_7cf53_6 ?_
  refine z_if_ge hG dJ9_floorMod_7cf53_7 (tgt := 18) rfl (fun c7 => ?_) (fun c7 => ?_)
  · refine z_iload_n (i := 2) hG dJ9_floorMod_7cf53_18 rfl rfl ?_
    refine z_iret hG hE dJ9_floorMod_7cf53_19 trivial ?_
    exact ⟨rfl, rfl⟩
  · exact absurd c7 (by omega)
set_option maxRecDepth 20000 in
theorem ct_X10_isWithin (l : Launch) (g : zG) {mem : zM} {x a b : Int} : zMet l g Y_X10_isWithin [zi x, zi a, zi b] mem (fun v m' => v = some (zi (if a ≤ x ∧ x ≤ b then 1 else 0)) ∧ m' = mem) := by
  refine zMet_introF (by decide +kernel) (Nat.le_of_ble_eq_true rfl) (ls0 := [some (zi x), some (zi a), some (zi b)]) rfl fun X hG hE => ?_
  have hG : zGood X l g RX10 cX10_isWithin 0 3 := hG
  have hE : zEnd X (some .boolean) _ := hE
  refine z_iload_n (i := 0) hG dX10_isWithin_0 rfl rfl ?_
  refine z_iload_n (i := 1) hG dX10_isWithin_1 rfl rfl ?_
  refine z_icmp_lt hG dX10_isWithin_2 (tgt := 14) rfl (fun c2 => ?_) (fun c2 => ?_)
  · refine z_iconst hG dX10_isWithin_14 rfl ?_
    refine z_iret hG hE dX10_isWithin_15 (by first | exact Or.inl rfl | exact Or.inr rfl | (show _ ∨ _; omega)) ?_
    first | exact ⟨by rw [if_pos (by omega)], rfl⟩ | exact ⟨by rw [if_neg (by omega)], rfl⟩
  · refine z_iload_n (i := 0) hG dX10_isWithin_5 rfl rfl ?_
    refine z_iload_n (i := 2) hG dX10_isWithin_6 rfl rfl ?_
    refine z_icmp_gt hG dX10_isWithin_7 (tgt := 14) rfl (fun c7 => ?_) (fun c7 => ?_)
    · refine z_iconst hG dX10_isWithin_14 rfl ?_
      refine z_iret hG hE dX10_isWithin_15 (by first | exact Or.inl rfl | exact Or.inr rfl | (show _ ∨ _; omega)) ?_
      first | exact ⟨by rw [if_pos (by omega)], rfl⟩ | exact ⟨by rw [if_neg (by omega)], rfl⟩
    · refine z_iconst hG dX10_isWithin_10 rfl ?_
      refine z_goto hG dX10_isWithin_11 (tgt := 15) rfl ?_
      refine z_iret hG hE dX10_isWithin_15 (by first | exact Or.inl rfl | exact Or.inr rfl | (show _ ∨ _; omega)) ?_
      first | exact ⟨by rw [if_pos (by omega)], rfl⟩ | exact ⟨by rw [if_neg (by omega)], rfl⟩
set_option maxRecDepth 20000 in
theorem ct_X10_asNumber (l : Launch) (g : zG) {mem : zM} {x : Int} (h : x = 0 ∨ x = 1) : zMet l g Y_X10_asNumber [zi x] mem (fun v m' => v = some (zi x) ∧ m' = mem) := by
  refine zMet_introF (by decide +kernel) (Nat.le_of_ble_eq_true rfl) (ls0 := [some (zi x)]) rfl fun X hG hE => ?_
  have hG : zGood X l g RX10 cX10_asNumber 0 1 := hG
  have hE : zEnd X (some .int) _ := hE
  refine z_iload_n (i := 0) hG dX10_asNumber_0 rfl rfl ?_
  refine z_if_eq hG dX10_asNumber_1 (tgt := 8) rfl (fun c1 => ?_) (fun c1 => ?_)
  · try simp only [zite_eq0, ne_eq, Classical.not_not] at c1
    refine z_iconst hG dX10_asNumber_8 rfl ?_
    refine z_iret hG hE dX10_asNumber_9 trivial ?_
    exact ⟨congrArg (fun z => some (zi z)) (by omega), rfl⟩
  · try simp only [zite_eq0, ne_eq, Classical.not_not] at c1
    refine z_iconst hG dX10_asNumber_4 rfl ?_
    refine z_goto hG dX10_asNumber_5 (tgt := 9) rfl ?_
    refine z_iret hG hE dX10_asNumber_9 trivial ?_
    exact ⟨congrArg (fun z => some (zi z)) (by omega), rfl⟩
set_option maxRecDepth 20000 in
theorem ct_X10_roundedUp (l : Launch) (g : zG) {mem : zM} {x y : Int} (h0 : 0 ≤ x) (h1 : 0 < y) (h2 : x + y < 2147483648) : zMet l g Y_X10_roundedUp [zi x, zi y] mem (fun v m' => v = some (zi ((x + y - 1) / y)) ∧ m' = mem) := by
  refine zMet_introF (by decide +kernel) (Nat.le_of_ble_eq_true rfl) (ls0 := [some (zi x), some (zi y)]) rfl fun X hG hE => ?_
  have hG : zGood X l g RX10 cX10_roundedUp 0 2 := hG
  have hE : zEnd X (some .int) _ := hE
  refine z_iload_n (i := 1) hG dX10_roundedUp_0 rfl rfl ?_
  refine z_if_gt hG dX10_roundedUp_1 (tgt := 8) rfl (fun c1 => ?_) (fun c1 => ?_)
  · refine z_iload_n (i := 0) hG dX10_roundedUp_8 rfl rfl ?_
    refine z_iload_n (i := 1) hG dX10_roundedUp_9 rfl rfl ?_
    refine z_iadd hG dX10_roundedUp_10 (by omega) (by omega) ?_
    refine z_iconst hG dX10_roundedUp_11 rfl ?_
    refine z_isub hG dX10_roundedUp_12 (by omega) (by omega) ?_
    refine z_iload_n (i := 1) hG dX10_roundedUp_13 rfl rfl ?_
    refine z_idiv hG dX10_roundedUp_14 (by omega) (by omega) ?_
    refine z_iret hG hE dX10_roundedUp_15 trivial ?_
    exact ⟨rfl, rfl⟩
  · exact absurd c1 (by omega)
theorem ct_X10_roundedUp_0 (l : Launch) (g : zG) {mem : zM} {x y : Int} (h1 : y ≤ 0) : zMet l g Y_X10_roundedUp [zi x, zi y] mem (fun v m' => v = some (zi 0) ∧ m' = mem) := by
  refine zMet_introF (by decide +kernel) (Nat.le_of_ble_eq_true rfl) (ls0 := [some (zi x), some (zi y)]) rfl fun X hG hE => ?_
  have hG : zGood X l g RX10 cX10_roundedUp 0 2 := hG
  have hE : zEnd X (some .int) _ := hE
  refine z_iload_n (i := 1) hG dX10_roundedUp_0 rfl rfl ?_
  refine z_if_gt hG dX10_roundedUp_1 (tgt := 8) rfl (fun c1 => ?_) (fun c1 => ?_)
  · exact absurd c1 (by omega)
  · refine z_iconst hG dX10_roundedUp_4 rfl ?_
    refine z_goto hG dX10_roundedUp_5 (tgt := 15) rfl ?_
    refine z_iret hG hE dX10_roundedUp_15 trivial ?_
    exact ⟨rfl, rfl⟩
set_option maxRecDepth 20000 in
theorem ct_X1_placeOf (l : Launch) (g : zG) {mem : zM} {d : Int} (h0 : 0 ≤ d) : zMet l g Y_X1_placeOf [zi d] mem (fun v m' => v = some (zi (d % 30)) ∧ m' = mem) := by
  refine zMet_introF (by decide +kernel) (Nat.le_of_ble_eq_true rfl) (ls0 := [some (zi d)]) rfl fun X hG hE => ?_
  have hG : zGood X l g RX1 cX1_placeOf 1 1 := hG
  have hE : zEnd X (some .int) _ := hE
  refine z_iload_n (i := 0) hG dX1_placeOf_0 rfl rfl ?_
  refine z_bipush hG dX1_placeOf_1 rfl ?_
  refine z_callS hG dX1_placeOf_3 LS_X1_66 (ct_J9_floorMod_7cf53 l g h0 (by decide)) (by decide) rfl rfl (Nat.le_of_ble_eq_true rfl) ?_
  intro v9 m9 h9
  rw [h9.1, h9.2]
  clear h9 m9 v9
  refine z_iret hG hE dX1_placeOf_6 trivial ?_
  exact ⟨rfl, rfl⟩
set_option maxRecDepth 20000 in
theorem ct_X1_inPantry (l : Launch) (g : zG) {mem : zM} {s i : Int} (hB : ∀ j : Int, 0 ≤ j → j < 30 → 0 ≤ mem 14 s i j ∧ mem 14 s i j ≤ 12000000) : zMet l g Y_X1_inPantry [zr 3 s i] mem (fun v m' => v = some (zi (zsum 30 (mem 14 s i))) ∧ m' = mem) := by
  refine zMet_introF (by decide +kernel) (Nat.le_of_ble_eq_true rfl) (ls0 := [some (zr 3 s i), none, none, none, none, none]) rfl fun X hG hE => ?_
  have hG : zGood X l g RX1 cX1_inPantry 0 6 := hG
  have hE : zEnd X (some .int) _ := hE
  have loop : ∀ n j : Nat, j + n = 30 → zZ X 13 [some (zr 3 s i), some (zi (zsum j (mem 14 s i))), some (zr 14 s i), some (zi 30), some (zi j), none] [] mem := by
    intro n
    induction n with
    | zero =>
      intro j hj
      refine z_iload hG dX1_inPantry_13 rfl ?_
      refine z_iload_n (i := 3) hG dX1_inPantry_15 rfl rfl ?_
      refine z_icmp_ge hG dX1_inPantry_16 (tgt := 36) rfl (fun c16 => ?_) (fun c16 => ?_)
      · refine z_iload_n (i := 1) hG dX1_inPantry_36 rfl rfl ?_
        refine z_iret hG hE dX1_inPantry_37 trivial ?_
        have : j = 30 := by omega
        subst this
        exact ⟨rfl, rfl⟩
      · exact absurd c16 (by omega)
    | succ n ih =>
      intro j hj
      have hs := zsum_le (f := mem 14 s i) (B := 12000000) j (fun k h0 h1 => hB k h0 (by omega))
      have hk := hB j (by omega) (by omega)
      refine z_iload hG dX1_inPantry_13 rfl ?_
      refine z_iload_n (i := 3) hG dX1_inPantry_15 rfl rfl ?_
      refine z_icmp_ge hG dX1_inPantry_16 (tgt := 36) rfl (fun c16 => ?_) (fun c16 => ?_)
      · exact absurd c16 (by omega)
      · refine z_aload_n (i := 2) hG dX1_inPantry_19 rfl rfl ?_
        refine z_iload hG dX1_inPantry_20 rfl ?_
        refine z_iald hG dX1_inPantry_22 rfl rfl (by omega) (by omega) ?_
        refine z_istore hG dX1_inPantry_23 (by decide) (ls2 := [_, _, _, _, _, _]) rfl ?_
        refine z_iload_n (i := 1) hG dX1_inPantry_25 rfl rfl ?_
        refine z_iload hG dX1_inPantry_26 rfl ?_
        refine z_iadd hG dX1_inPantry_28 (by omega) (by omega) ?_
        refine z_istore_n (i := 1) hG dX1_inPantry_29 rfl (by decide) (ls2 := [_, _, _, _, _, _]) rfl ?_
        refine z_iinc hG dX1_inPantry_30 (by decide) rfl (by omega) (by omega) (ls2 := [_, _, _, _, _, _]) rfl ?_
        refine z_goto hG dX1_inPantry_33 (tgt := 13) rfl ?_
        exact z_forget [true, true, true, true, true, false] rfl (ih (j + 1) (by omega))
  refine z_iconst hG dX1_inPantry_0 rfl ?_
  refine z_istore_n (i := 1) hG dX1_inPantry_1 rfl (by decide) (ls2 := [_, _, _, _, _, _]) rfl ?_
  refine z_aload_n (i := 0) hG dX1_inPantry_2 rfl rfl ?_
  refine z_get_1_7 hG dX1_inPantry_3 FL_X1_18 ?_
  refine z_astore_n (i := 2) hG dX1_inPantry_6 rfl (by decide) (ls2 := [_, _, _, _, _, _]) rfl ?_
  refine z_aload_n (i := 2) hG dX1_inPantry_7 rfl rfl ?_
  refine z_alen (n := 30) hG dX1_inPantry_8 rfl rfl (by decide) rfl rfl ?_
  refine z_istore_n (i := 3) hG dX1_inPantry_9 rfl (by decide) (ls2 := [_, _, _, _, _, _]) rfl ?_
  refine z_iconst hG dX1_inPantry_10 rfl ?_
  refine z_istore hG dX1_inPantry_11 (by decide) (ls2 := [_, _, _, _, _, _]) rfl ?_
  exact loop 30 0 rfl
set_option maxRecDepth 20000 in
theorem ct_X1_hasKind (l : Launch) (g : zG) {mem : zM} {s i k : Int} : zMet l g Y_X1_hasKind [zr 3 s i, zi k] mem (fun v m' => v = some (zi (if 0 ≤ k ∧ k < mem 3 s i 2 ∧ k < 3 then 1 else 0)) ∧ m' = mem) := by
  refine zMet_introF (by decide +kernel) (Nat.le_of_ble_eq_true rfl) (ls0 := [some (zr 3 s i), some (zi k)]) rfl fun X hG hE => ?_
  have hG : zGood X l g RX1 cX1_hasKind 0 2 := hG
  have hE : zEnd X (some .boolean) _ := hE
  refine z_iload_n (i := 1) hG dX1_hasKind_0 rfl rfl ?_
  refine z_if_lt hG dX1_hasKind_1 (tgt := 21) rfl (fun c1 => ?_) (fun c1 => ?_)
  · refine z_iconst hG dX1_hasKind_21 rfl ?_
    refine z_iret hG hE dX1_hasKind_22 (by first | exact Or.inl rfl | exact Or.inr rfl | (show _ ∨ _; omega)) ?_
    first | exact ⟨by rw [if_pos (by omega)], rfl⟩ | exact ⟨by rw [if_neg (by omega)], rfl⟩
  · refine z_iload_n (i := 1) hG dX1_hasKind_4 rfl rfl ?_
    refine z_aload_n (i := 0) hG dX1_hasKind_5 rfl rfl ?_
    refine z_getI hG dX1_hasKind_6 FL_X1_29 rfl rfl (kk := 2) rfl ?_
    refine z_icmp_ge hG dX1_hasKind_9 (tgt := 21) rfl (fun c9 => ?_) (fun c9 => ?_)
    · refine z_iconst hG dX1_hasKind_21 rfl ?_
      refine z_iret hG hE dX1_hasKind_22 (by first | exact Or.inl rfl | exact Or.inr rfl | (show _ ∨ _; omega)) ?_
      first | exact ⟨by rw [if_pos (by omega)], rfl⟩ | exact ⟨by rw [if_neg (by omega)], rfl⟩
    · refine z_iload_n (i := 1) hG dX1_hasKind_12 rfl rfl ?_
      refine z_iconst hG dX1_hasKind_13 rfl ?_
      refine z_icmp_ge hG dX1_hasKind_14 (tgt := 21) rfl (fun c14 => ?_) (fun c14 => ?_)
      · refine z_iconst hG dX1_hasKind_21 rfl ?_
        refine z_iret hG hE dX1_hasKind_22 (by first | exact Or.inl rfl | exact Or.inr rfl | (show _ ∨ _; omega)) ?_
        first | exact ⟨by rw [if_pos (by omega)], rfl⟩ | exact ⟨by rw [if_neg (by omega)], rfl⟩
      · refine z_iconst hG dX1_hasKind_17 rfl ?_
        refine z_goto hG dX1_hasKind_18 (tgt := 22) rfl ?_
        refine z_iret hG hE dX1_hasKind_22 (by first | exact Or.inl rfl | exact Or.inr rfl | (show _ ∨ _; omega)) ?_
        first | exact ⟨by rw [if_pos (by omega)], rfl⟩ | exact ⟨by rw [if_neg (by omega)], rfl⟩
