/-- the bits of a long -/
def zu (x : Int64) : Nat := x.toUInt64.toNat
theorem zu_lt (x : Int64) : zu x < 18446744073709551616 := x.toUInt64.toNat_lt
theorem zu_0 {x : Int64} : zu x = 0 ↔ x = 0 := by
  constructor
  · intro h
    have h2 : x.toUInt64 = 0 := UInt64.toNat_inj.mp h
    have e : x = x.toUInt64.toInt64 := rfl
    rw [e, h2]
    rfl
  · rintro rfl; rfl
theorem zu_and (x : Int64) : (x &&& 255).toInt32.toInt = ((zu x % 256 : Nat) : Int) := by
  have h1 : (x &&& 255).toBitVec.toNat = zu x % 256 := by
    have : (x &&& 255).toBitVec = x.toBitVec &&& 255#64 := rfl
    rw [this, BitVec.toNat_and]
    exact Nat.and_two_pow_sub_one_eq_mod (zu x) 8
  have h2 : (x &&& 255).toInt = ((zu x % 256 : Nat) : Int) := by
    rw [← h1]
    exact BitVec.toInt_eq_toNat_of_lt (by rw [h1]; omega)
  rw [Int64.toInt_toInt32, h2]
  exact Int.bmod_eq_of_le (by omega) (by omega)
def zush (x : Int64) (y : Int) : Int64 := (x.toUInt64 >>> ((Int32.ofInt y).toInt64.toUInt64 &&& Int64.toUInt64 63)).toInt64
theorem zush_n (x : Int64) : ∀ n : Nat, n < 8 → zu (zush x (8 * n)) = zu x / 256 ^ n := by
  intro n hn
  have h : ∀ n : Nat, n < 8 → ((Int32.ofInt (8 * n)).toInt64.toUInt64 &&& Int64.toUInt64 63).toNat % 64 = 8 * n := by decide
  have e : zu (zush x (8 * n)) = (x.toUInt64 >>> ((Int32.ofInt (8 * n)).toInt64.toUInt64 &&& Int64.toUInt64 63)).toNat := rfl
  rw [e, UInt64.toNat_shiftRight, h n hn, Nat.shiftRight_eq_div_pow, Nat.pow_mul]
  rfl
def zlen : Nat → Nat → Int → Int
  | 0, _, c => c
  | n + 1, u, c => if u = 0 then c else if ¬ (33 ≤ u % 256 ∧ u % 256 ≤ 126) then 0 else zlen n (u / 256) (c + 1)
def zby (u n : Nat) : Int := ((u / 256 ^ n % 256 : Nat) : Int)
def zapp (u : Nat) : Nat → zM → zM
  | 0, m => m
  | n + 1, m => zapp u n (zset (zset m 22 0 0 (m 6 0 0 0) (zby u n)) 6 0 0 0 (m 6 0 0 0 + 1))
theorem zlen_bd : ∀ (n u : Nat) (c : Int), 0 ≤ c → 0 ≤ zlen n u c ∧ zlen n u c ≤ c + n
  | 0, _, c, h => ⟨h, by simp [zlen]⟩
  | n + 1, u, c, h => by
    rw [zlen]
    have := zlen_bd n (u / 256) (c + 1) (by omega)
    split
    · omega
    · split <;> omega
theorem zcmp0 {x : Int64} : (lg_cmp x 0).toInt = 0 ↔ x = 0 := by
  unfold lg_cmp
  split
  · next h =>
    constructor
    · intro q; exact absurd q (by decide)
    · rintro rfl; exact absurd h (by decide)
  · split
    · next h => exact ⟨fun _ => h, fun _ => rfl⟩
    · next h => exact ⟨fun q => absurd q (by decide), fun q => absurd q h⟩
theorem zush8 (x : Int64) : zu (zush x 8) = zu x / 256 := by have := zush_n x 1 (by decide); simpa using this
set_option maxRecDepth 20000 in
theorem ct_X10_lengthOf (l : Launch) (g : zG) {mem : zM} {x : Int64} : zMet l g Y_X10_lengthOf [zl x] mem (fun v m' => v = some (zi (zlen 8 (zu x) 0)) ∧ m' = mem) := by
  refine zMet_introF (by decide +kernel) (Nat.le_of_ble_eq_true rfl) (ls0 := [some (zl x), none, none, none, none]) rfl fun X hG hE => ?_
  have hG : zGood X l g RX10 cX10_lengthOf 1 5 := hG
  have hE : zEnd X (some .int) _ := hE
  have loop : ∀ (n : Nat) (y : Int64) (c : Int), 0 ≤ c ∧ c + n = 8 → zlen n (zu y) c = zlen 8 (zu x) 0 → zZ X 5 [some (zl x), none, some (zl y), none, some (zi c)] [] mem := by
    intro n
    induction n with
    | zero =>
      intro y c hc hR
      refine z_iload hG dX10_lengthOf_5 rfl ?_
      refine z_bipush hG dX10_lengthOf_7 rfl ?_
      refine z_icmp_ge hG dX10_lengthOf_9 (tgt := 47) rfl (fun c9 => ?_) (fun c9 => ?_)
      · refine z_iload hG dX10_lengthOf_47 rfl ?_
        refine z_iret hG hE dX10_lengthOf_49 trivial ?_
        rw [← hR]
        exact ⟨rfl, rfl⟩
      · exact absurd c9 (by omega)
    | succ n ih =>
      intro y c hc hR
      rw [zlen] at hR
      refine z_iload hG dX10_lengthOf_5 rfl ?_
      refine z_bipush hG dX10_lengthOf_7 rfl ?_
      refine z_icmp_ge hG dX10_lengthOf_9 (tgt := 47) rfl (fun c9 => ?_) (fun c9 => ?_)
      · exact absurd c9 (by omega)
      · refine z_lload_n (i := 2) hG dX10_lengthOf_12 rfl rfl ?_
        refine z_lconst hG dX10_lengthOf_13 ?_
        refine z_lcmp hG dX10_lengthOf_14 ?_
        refine z_if_eq hG dX10_lengthOf_15 (tgt := 47) rfl (fun c15 => ?_) (fun c15 => ?_)
        · try simp only [zite_eq0, ne_eq, Classical.not_not] at c15
          rw [if_pos (zu_0.mpr (zcmp0.mp c15))] at hR
          refine z_iload hG dX10_lengthOf_47 rfl ?_
          refine z_iret hG hE dX10_lengthOf_49 trivial ?_
          rw [← hR]
          exact ⟨rfl, rfl⟩
        · try simp only [zite_eq0, ne_eq, Classical.not_not] at c15
          rw [if_neg (fun q => c15 (zcmp0.mpr (zu_0.mp q)))] at hR
          refine z_lload_n (i := 2) hG dX10_lengthOf_18 rfl rfl ?_
          refine z_ldc2 hG dX10_lengthOf_19 KC_X10_331 ?_
          refine z_land hG dX10_lengthOf_22 ?_
          refine z_l2i hG dX10_lengthOf_23 ?_
          refine z_bipush hG dX10_lengthOf_24 rfl ?_
          refine z_bipush hG dX10_lengthOf_26 rfl ?_
          refine z_callS hG dX10_lengthOf_28 LS_X10_57 (ct_X10_isWithin l g) (by decide) rfl rfl (Nat.le_of_ble_eq_true rfl) ?_
          intro v9 m9 h9
          rw [h9.1, h9.2]
          clear h9 m9 v9
          refine z_if_ne hG dX10_lengthOf_31 (tgt := 36) rfl (fun c31 => ?_) (fun c31 => ?_)
          · try simp only [zite_eq0, ne_eq, Classical.not_not] at c31
            refine z_lload_n (i := 2) hG dX10_lengthOf_36 rfl rfl ?_
            refine z_bipush hG dX10_lengthOf_37 rfl ?_
            refine z_lushr hG dX10_lengthOf_39 ?_
            refine z_lstore_n (i := 2) hG dX10_lengthOf_40 rfl (by decide) (ls2 := [_, _, _, _, _]) rfl ?_
            refine z_iinc hG dX10_lengthOf_41 (by decide) rfl (by omega) (by omega) (ls2 := [_, _, _, _, _]) rfl ?_
            refine z_goto hG dX10_lengthOf_44 (tgt := 5) rfl ?_
            rw [zu_and] at c31
            rw [if_neg (by omega)] at hR
            exact ih _ _ ⟨by omega, by omega⟩ (by rw [← hR]; exact congrArg (fun q => zlen n q (c + 1)) (zush8 y))
          · try simp only [zite_eq0, ne_eq, Classical.not_not] at c31
            refine z_iconst hG dX10_lengthOf_34 rfl ?_
            refine z_iret hG hE dX10_lengthOf_35 trivial ?_
            rw [zu_and] at c31
            rw [if_pos (by omega)] at hR
            rw [← hR]
            exact ⟨rfl, rfl⟩
  refine z_lload_n (i := 0) hG dX10_lengthOf_0 rfl rfl ?_
  refine z_lstore_n (i := 2) hG dX10_lengthOf_1 rfl (by decide) (ls2 := [_, _, _, _, _]) rfl ?_
  refine z_iconst hG dX10_lengthOf_2 rfl ?_
  refine z_istore hG dX10_lengthOf_3 (by decide) (ls2 := [_, _, _, _, _]) rfl ?_
  exact loop 8 x 0 (by decide) rfl
theorem zapp_6 (u : Nat) : ∀ (n : Nat) (m : zM), (zapp u n m) 6 0 0 0 = m 6 0 0 0 + n
  | 0, m => by simp [zapp]
  | n + 1, m => by
    rw [zapp, zapp_6 u n]
    simp [zset]
    omega
theorem zush_b (x : Int64) {n : Nat} (hn : n < 8) : (zush x (8 * n) &&& 255).toInt32.toInt = zby (zu x) n := by rw [zu_and, zush_n x n hn]; rfl
theorem zby_bd {u n : Nat} : 0 ≤ zby u n ∧ zby u n < 256 := by unfold zby; omega
set_option maxRecDepth 20000 in
theorem ct_X2_append (l : Launch) (g : zG) {mem : zM} {x : Int64} {k : Nat} (hk : k ≤ 8) (h0 : 0 ≤ mem 6 0 0 0) (h1 : mem 6 0 0 0 + k ≤ 80) : zMet l g Y_X2_append [zr 6 0 0, zl x, zi k] mem (fun v m' => v = none ∧ m' = zapp (zu x) k mem) := by
  refine zMet_introF (by decide +kernel) (Nat.le_of_ble_eq_true rfl) (ls0 := [some (zr 6 0 0), some (zl x), none, some (zi k), none]) rfl fun X hG hE => ?_
  have hG : zGood X l g RX2 cX2_append 0 5 := hG
  have hE : zEnd X (none) _ := hE
  have loop : ∀ (n : Nat) (m0 : zM), n ≤ 8 → 0 ≤ m0 6 0 0 0 → m0 6 0 0 0 + n ≤ 80 → zapp (zu x) n m0 = zapp (zu x) k mem → zZ X 5 [some (zr 6 0 0), some (zl x), none, some (zi k), some (zi ((n : Int) - 1))] [] m0 := by
    intro n
    induction n with
    | zero =>
      intro m0 hn h0' h1' hR
      refine z_iload hG dX2_append_5 rfl ?_
      refine z_if_lt hG dX2_append_7 (tgt := 64) rfl (fun c7 => ?_) (fun c7 => ?_)
      · refine z_vret hG hE dX2_append_64 ?_
        exact ⟨rfl, hR⟩
      · exact absurd c7 (by omega)
    | succ n ih =>
      intro m0 hn h0' h1' hR
      rw [show ((n + 1 : Nat) : Int) - 1 = n by omega]
      refine z_iload hG dX2_append_5 rfl ?_
      refine z_if_lt hG dX2_append_7 (tgt := 64) rfl (fun c7 => ?_) (fun c7 => ?_)
      · exact absurd c7 (by omega)
      · refine z_aload_n (i := 0) hG dX2_append_10 rfl rfl ?_
        refine z_getI hG dX2_append_11 FL_X2_15 rfl rfl (kk := 0) rfl ?_
        refine z_if_lt hG dX2_append_14 (tgt := 64) rfl (fun c14 => ?_) (fun c14 => ?_)
        · exact absurd c14 (by omega)
        · refine z_aload_n (i := 0) hG dX2_append_17 rfl rfl ?_
          refine z_getI hG dX2_append_18 FL_X2_15 rfl rfl (kk := 0) rfl ?_
          refine z_bipush hG dX2_append_21 rfl ?_
          refine z_icmp_ge hG dX2_append_23 (tgt := 64) rfl (fun c23 => ?_) (fun c23 => ?_)
          · exact absurd c23 (by omega)
          · refine z_aload_n (i := 0) hG dX2_append_26 rfl rfl ?_
            refine z_get_2_1 hG dX2_append_27 FL_X2_9 ?_
            refine z_aload_n (i := 0) hG dX2_append_30 rfl rfl ?_
            refine z_getI hG dX2_append_31 FL_X2_15 rfl rfl (kk := 0) rfl ?_
            refine z_lload_n (i := 1) hG dX2_append_34 rfl rfl ?_
            refine z_bipush hG dX2_append_35 rfl ?_
            refine z_iload hG dX2_append_37 rfl ?_
            refine z_imul hG dX2_append_39 (by omega) (by omega) ?_
            change zZ X _ _ (zi (8 * (n : Int)) :: zl x :: _) m0
            refine z_lushr hG dX2_append_40 ?_
            change zZ X _ _ (zl (zush x (8 * n)) :: _) m0
            refine z_ldc2 hG dX2_append_41 KC_X2_19 ?_
            refine z_land hG dX2_append_44 ?_
            refine z_l2i hG dX2_append_45 ?_
            rw [zush_b x (by omega)]
            have hbb := zby_bd (u := zu x) (n := n)
            refine z_i2c hG dX2_append_46 (by omega) (by omega) ?_
            refine z_cast hG dX2_append_47 rfl rfl (by omega) (by omega) (by omega) (by omega) ?_
            refine z_aload_n (i := 0) hG dX2_append_48 rfl rfl ?_
            first | refine z_dup_r hG dX2_append_49 ?_ | refine z_dup_i hG dX2_append_49 ?_
            refine z_getI hG dX2_append_50 FL_X2_15 rfl rfl (kk := 0) rfl ?_
            have e6 : ∀ a v : Int, zset m0 22 0 0 a v 6 0 0 0 = m0 6 0 0 0 := fun a v => by simp [zset]
            rw [e6]
            refine z_iconst hG dX2_append_53 rfl ?_
            refine z_iadd hG dX2_append_54 (by omega) (by omega) ?_
            refine z_put hG dX2_append_55 FP_X2_15 rfl rfl (kk := 0) rfl ?_
            refine z_iinc hG dX2_append_58 (by decide) rfl (by omega) (by omega) (ls2 := [_, _, _, _, _]) rfl ?_
            refine z_goto hG dX2_append_61 (tgt := 5) rfl ?_
            refine z_forget [true, true, false, true, true] (ls2 := [some (zr 6 0 0), some (zl x), none, some (zi k), some (zi ((n : Int) - 1))]) (by simp [zfor]; try omega) (ih _ (by omega) (by simp [zset]; omega) (by simp [zset]; omega) (by rw [← hR]; simp [zapp, zset]))
  refine z_iload_n (i := 3) hG dX2_append_0 rfl rfl ?_
  refine z_iconst hG dX2_append_1 rfl ?_
  refine z_isub hG dX2_append_2 (by omega) (by omega) ?_
  refine z_istore hG dX2_append_3 (by decide) (ls2 := [_, _, _, _, _]) rfl ?_
  exact loop k mem hk h0 h1 rfl
def zk_put (x : Int64) (m : zM) : Int × zM := if zlen 8 (zu x) 0 = 0 then (-2, m) else if 80 < m 6 0 0 0 + zlen 8 (zu x) 0 then (-4, m) else (m 6 0 0 0 + zlen 8 (zu x) 0, zapp (zu x) (zlen 8 (zu x) 0).toNat m)
/-- whether one of the places a to n - 1 is above 0 -/
def zgt (f : Int → Int) (a : Int) : Nat → Bool
  | 0 => false
  | n + 1 => zgt f a n || decide (a ≤ n ∧ 0 < f n)
theorem zgt_iff {f : Int → Int} {a : Int} (ha : 0 ≤ a) : ∀ n : Nat, zgt f a n = true ↔ ∃ k : Int, a ≤ k ∧ k < n ∧ 0 < f k
  | 0 => by
    simp [zgt]
    intro k h0 h1
    omega
  | n + 1 => by
    simp only [zgt, Bool.or_eq_true, zgt_iff ha n, decide_eq_true_eq]
    constructor
    · rintro (⟨k, h0, h1, h2⟩ | ⟨h0, h1⟩)
      · exact ⟨k, h0, by omega, h2⟩
      · exact ⟨n, h0, by omega, h1⟩
    · rintro ⟨k, h0, h1, h2⟩
      by_cases e : k = n
      · subst e; exact Or.inr ⟨h0, h2⟩
      · exact Or.inl ⟨k, h0, by omega, h2⟩
set_option maxRecDepth 20000 in
theorem ct_X10_put (l : Launch) (g : zG) {mem : zM} {B : Int} {x : Int64} (hI : zInv B mem) : zMet l g Y_X10_put [zr 0 0 0, zl x] mem (fun v m' => v = some (zi (zk_put x mem).1) ∧ m' = (zk_put x mem).2) := by
  refine zMet_introF (by decide +kernel) (Nat.le_of_ble_eq_true rfl) (ls0 := [some (zr 0 0 0), some (zl x), none, none]) rfl fun X hG hE => ?_
  have hG : zGood X l g RX10 cX10_put 2 4 := hG
  have hE : zEnd X (some .int) _ := hE
  have hL := zlen_bd 8 (zu x) 0 (by decide)
  have h6 := hI.2.2.2.1
  refine z_lload_n (i := 1) hG dX10_put_0 rfl rfl ?_
  refine z_callS hG dX10_put_1 LS_X10_303 (ct_X10_lengthOf l g) (by decide) rfl rfl (Nat.le_of_ble_eq_true rfl) ?_
  intro v9 m9 h9
  rw [h9.1, h9.2]
  clear h9 m9 v9
  refine z_istore_n (i := 3) hG dX10_put_4 rfl (by decide) (ls2 := [_, _, _, _]) rfl ?_
  refine z_iload_n (i := 3) hG dX10_put_5 rfl rfl ?_
  refine z_if_ne hG dX10_put_6 (tgt := 12) rfl (fun c6 => ?_) (fun c6 => ?_)
  · try simp only [zite_eq0, ne_eq, Classical.not_not] at c6
    refine z_aload_n (i := 0) hG dX10_put_12 rfl rfl ?_
    refine z_get_10_5 hG dX10_put_13 FL_X10_42 ?_
    refine z_getI hG dX10_put_16 FL_X10_144 rfl rfl (kk := 0) rfl ?_
    refine z_iload_n (i := 3) hG dX10_put_19 rfl rfl ?_
    refine z_iadd hG dX10_put_20 (by omega) (by omega) ?_
    refine z_bipush hG dX10_put_21 rfl ?_
    refine z_icmp_le hG dX10_put_23 (tgt := 29) rfl (fun c23 => ?_) (fun c23 => ?_)
    · refine z_aload_n (i := 0) hG dX10_put_29 rfl rfl ?_
      refine z_get_10_5 hG dX10_put_30 FL_X10_42 ?_
      refine z_lload_n (i := 1) hG dX10_put_33 rfl rfl ?_
      refine z_iload_n (i := 3) hG dX10_put_34 rfl rfl ?_
      refine z_callV hG dX10_put_35 LV_X10_307 (show zMet l g Y_X2_append [zr 6 0 0, zl x, zi (zlen 8 (zu x) 0)] mem (fun v m' => v = none ∧ m' = zapp (zu x) (zlen 8 (zu x) 0).toNat mem) from (Int.toNat_of_nonneg hL.1) ▸ ct_X2_append l g (k := (zlen 8 (zu x) 0).toNat) (by omega) h6.1 (by omega)) (by decide) rfl rfl rfl (Nat.le_of_ble_eq_true rfl) ?_
      intro v9 m9 h9
      rw [h9.1, h9.2]
      clear h9 m9 v9
      refine z_aload_n (i := 0) hG dX10_put_38 rfl rfl ?_
      refine z_get_10_5 hG dX10_put_39 FL_X10_42 ?_
      refine z_getI hG dX10_put_42 FL_X10_144 rfl rfl (kk := 0) rfl ?_
      refine z_iret hG hE dX10_put_45 trivial ?_
      rw [zk_put, if_neg c6, if_neg (by omega), zapp_6]
      exact ⟨by simp only; rw [Int.toNat_of_nonneg hL.1], rfl⟩
    · refine z_bipush hG dX10_put_26 rfl ?_
      refine z_iret hG hE dX10_put_28 trivial ?_
      rw [zk_put, if_neg c6, if_pos (by omega)]
      exact ⟨rfl, rfl⟩
  · try simp only [zite_eq0, ne_eq, Classical.not_not] at c6
    refine z_bipush hG dX10_put_9 rfl ?_
    refine z_iret hG hE dX10_put_11 trivial ?_
    rw [zk_put, if_pos c6]
    exact ⟨rfl, rfl⟩
def zk_fault (m : zM) : Int × zM :=
  (zFlt m, zRdm m)
set_option maxRecDepth 20000 in
theorem ct_X10_fault (l : Launch) (g : zG) {mem : zM} {B : Int} (hI : zInv B mem) (hB : B ≤ 11900000) : zMet l g Y_X10_fault [zr 0 0 0] mem (fun v m' => v = some (zi (zk_fault mem).1) ∧ m' = (zk_fault mem).2) := by
  refine zMet_introF (by decide +kernel) (Nat.le_of_ble_eq_true rfl) (ls0 := [some (zr 0 0 0)]) rfl fun X hG hE => ?_
  have hG : zGood X l g RX10 cX10_fault 6 1 := hG
  have hE : zEnd X (some .int) _ := hE
  have hI0 := zInv0 hI
  obtain ⟨hday, hhan, hing, hrcp, hrec, hboo, hrow, hrow2, hstp⟩ := id hI0
  have hr0 : ∀ (t : Nat) (i k : Int), t ≠ 1 → zrecd mem t 0 i k = mem t 0 i k := fun t i k ht => zrecd_0 hI.1.1.1 ht
  refine z_aload_n (i := 0) hG dX10_fault_0 rfl rfl ?_
  refine z_get_10_4 hG dX10_fault_1 FL_X10_34 ?_
  refine z_callV hG dX10_fault_4 LV_X10_121 (ct_X3_read l g ⟨hI.2.2.2.1, hI.2.2.2.2.1⟩) (by decide) rfl rfl rfl (Nat.le_of_ble_eq_true rfl) ?_
  intro v9 m9 h9
  rw [h9.1, h9.2]
  clear h9 m9 v9
  refine z_iret hG hE dX10_fault_7 trivial ?_
  exact ⟨rfl, rfl⟩
def zk_recipe (m : zM) : Int × zM :=
  if zFlt m ≠ -6 then (-3, zRdm m) else if ¬ m 2 0 0 5 < 4 then (-4, zRdm m) else if zgt (zRdm m 17 9 0) (m 2 0 0 4) 8 = true then (-5, zRdm m) else
    (m 2 0 0 5, zset (zset (zcR (zrecd (zRdm m)) 0 (m 2 0 0 5) 9 0 8) 2 0 0 5 (m 2 0 0 5 + 1)) 6 0 0 0 0)
set_option maxRecDepth 20000 in
theorem ct_X10_recipe (l : Launch) (g : zG) {mem : zM} {B : Int} (hI : zInv B mem) (hB : B ≤ 11900000) : zMet l g Y_X10_recipe [zr 0 0 0] mem (fun v m' => v = some (zi (zk_recipe mem).1) ∧ m' = (zk_recipe mem).2) := by
  refine zMet_introF (by decide +kernel) (Nat.le_of_ble_eq_true rfl) (ls0 := [some (zr 0 0 0), none]) rfl fun X hG hE => ?_
  have hG : zGood X l g RX10 cX10_recipe 6 2 := hG
  have hE : zEnd X (some .int) _ := hE
  have hI0 := zInv0 hI
  obtain ⟨hday, hhan, hing, hrcp, hrec, hboo, hrow, hrow2, hstp⟩ := id hI0
  have hr0 : ∀ (t : Nat) (i k : Int), t ≠ 1 → zrecd mem t 0 i k = mem t 0 i k := fun t i k ht => zrecd_0 hI.1.1.1 ht
  have hq : ∀ (t : Nat) (i k : Int), t ≠ 7 → zRdm mem t 0 i k = mem t 0 i k := fun t i k ht => zRdm_o ht (Or.inr (by decide))
  refine z_aload_n (i := 0) hG dX10_recipe_0 rfl rfl ?_
  refine z_get_10_4 hG dX10_recipe_1 FL_X10_34 ?_
  refine z_callV hG dX10_recipe_4 LV_X10_121 (ct_X3_read l g ⟨hI.2.2.2.1, hI.2.2.2.2.1⟩) (by decide) rfl rfl rfl (Nat.le_of_ble_eq_true rfl) ?_
  intro v9 m9 h9
  rw [h9.1, h9.2]
  clear h9 m9 v9
  refine z_bipush hG dX10_recipe_7 rfl ?_
  refine z_icmp_eq hG dX10_recipe_9 (tgt := 15) rfl (fun c9 => ?_) (fun c9 => ?_)
  · refine z_aload_n (i := 0) hG dX10_recipe_15 rfl rfl ?_
    refine z_get_10_0 hG dX10_recipe_16 FL_X10_12 ?_
    refine z_getI hG dX10_recipe_19 FL_X10_124 rfl rfl (kk := 5) rfl ?_
    refine z_istore_n (i := 1) hG dX10_recipe_22 rfl (by decide) (ls2 := [_, _]) rfl ?_
    rw [hq 2 _ _ (by decide)]
    refine z_iload_n (i := 1) hG dX10_recipe_23 rfl rfl ?_
    refine z_iconst hG dX10_recipe_24 rfl ?_
    refine z_icmp_lt hG dX10_recipe_25 (tgt := 31) rfl (fun c25 => ?_) (fun c25 => ?_)
    · refine z_aload_n (i := 0) hG dX10_recipe_31 rfl rfl ?_
      refine z_get_10_4 hG dX10_recipe_32 FL_X10_34 ?_
      refine z_get_3_0 hG dX10_recipe_35 FL_X10_127 ?_
      refine z_aload_n (i := 0) hG dX10_recipe_38 rfl rfl ?_
      refine z_get_10_0 hG dX10_recipe_39 FL_X10_12 ?_
      refine z_getI hG dX10_recipe_42 FL_X10_61 rfl rfl (kk := 4) rfl ?_
      refine z_callV hG dX10_recipe_45 LV_X10_131 (ct_X4_namesFrom l g (by rw [hq 2 _ _ (by decide)]; exact hing.1)) (by decide) rfl rfl rfl (Nat.le_of_ble_eq_true rfl) ?_
      intro v9 m9 h9
      obtain ⟨q9, h9a, h9b, h9c, h9d⟩ := h9
      rw [h9a, h9b]
      clear h9a h9b m9 v9
      have hz := zgt_iff (f := zRdm mem 17 9 0) (a := mem 2 0 0 4) hing.1 8
      rw [hq 2 _ _ (by decide)] at h9d
      refine z_if_eq hG dX10_recipe_48 (tgt := 54) rfl (fun c48 => ?_) (fun c48 => ?_)
      · try simp only [zite_eq0, ne_eq, Classical.not_not] at c48
        refine z_aload_n (i := 0) hG dX10_recipe_54 rfl rfl ?_
        refine z_get_10_1 hG dX10_recipe_55 FL_X10_19 ?_
        refine z_aload_n (i := 0) hG dX10_recipe_58 rfl rfl ?_
        refine z_get_10_0 hG dX10_recipe_59 FL_X10_12 ?_
        refine z_callV hG dX10_recipe_62 LV_X10_65 (ct_X0_record l g (by rw [hq 1 _ _ (by decide)]; exact hI.1.1) (by rw [hq 1 _ _ (by decide)]; exact hI.1.2) ⟨fun i h0 h1 => by rw [hq 3 _ _ (by decide)]; exact hboo.1 i h0 h1, fun i h0 h1 => by rw [hq 5 _ _ (by decide)]; exact hboo.2 i h0 h1⟩) (by decide) rfl rfl rfl (Nat.le_of_ble_eq_true rfl) ?_
        intro v9 m9 h9
        rw [h9.1, h9.2]
        clear h9 m9 v9
        refine z_aload_n (i := 0) hG dX10_recipe_65 rfl rfl ?_
        refine z_get_10_0 hG dX10_recipe_66 FL_X10_12 ?_
        refine z_get_7_7 hG dX10_recipe_69 FL_X10_136 ?_
        refine z_iload_n (i := 1) hG dX10_recipe_72 rfl rfl ?_
        refine z_aa_16 hG dX10_recipe_73 (by omega) (by omega) ?_
        refine z_aload_n (i := 0) hG dX10_recipe_74 rfl rfl ?_
        refine z_get_10_4 hG dX10_recipe_75 FL_X10_34 ?_
        refine z_get_3_0 hG dX10_recipe_78 FL_X10_127 ?_
        refine z_callV hG dX10_recipe_81 LV_X10_140 (ct_X4_copyFrom l g (s2 := 9) (i2 := 0) (by decide) (fun j h0 h1 => by rw [zrecd_7 (by rw [hq 1 _ _ (by decide)]; exact hI.1.1.1) (by decide), show (8 * 0 + j : Int) = j by omega]; exact zRdm_b hI.2.2.2.2.2.2 j h0 h1)) (by decide) rfl rfl rfl (Nat.le_of_ble_eq_true rfl) ?_
        intro v9 m9 h9
        rw [h9.1, h9.2]
        clear h9 m9 v9
        refine z_aload_n (i := 0) hG dX10_recipe_84 rfl rfl ?_
        refine z_get_10_0 hG dX10_recipe_85 FL_X10_12 ?_
        refine z_iload_n (i := 1) hG dX10_recipe_88 rfl rfl ?_
        refine z_iconst hG dX10_recipe_89 rfl ?_
        refine z_iadd hG dX10_recipe_90 (by omega) (by omega) ?_
        refine z_put hG dX10_recipe_91 FP_X10_124 rfl rfl (kk := 5) rfl ?_
        refine z_aload_n (i := 0) hG dX10_recipe_94 rfl rfl ?_
        refine z_get_10_5 hG dX10_recipe_95 FL_X10_42 ?_
        refine z_iconst hG dX10_recipe_98 rfl ?_
        refine z_put hG dX10_recipe_99 FP_X10_144 rfl rfl (kk := 0) rfl ?_
        refine z_iload_n (i := 1) hG dX10_recipe_102 rfl rfl ?_
        refine z_iret hG hE dX10_recipe_103 trivial ?_
        rw [zk_recipe, if_neg (fun z => z c9), if_neg (by omega), if_neg (fun z => absurd (h9d.mpr (hz.mp z)) (by omega))]
        exact ⟨rfl, rfl⟩
      · try simp only [zite_eq0, ne_eq, Classical.not_not] at c48
        refine z_bipush hG dX10_recipe_51 rfl ?_
        refine z_iret hG hE dX10_recipe_53 trivial ?_
        rw [zk_recipe, if_neg (fun z => z c9), if_neg (by omega), if_pos (hz.mpr (h9d.mp (h9c.resolve_left c48)))]
        exact ⟨rfl, rfl⟩
    · refine z_bipush hG dX10_recipe_28 rfl ?_
      refine z_iret hG hE dX10_recipe_30 trivial ?_
      rw [zk_recipe, if_neg (fun z => z c9), if_pos (by omega)]
      exact ⟨rfl, rfl⟩
  · refine z_bipush hG dX10_recipe_12 rfl ?_
    refine z_iret hG hE dX10_recipe_14 trivial ?_
    rw [zk_recipe, if_pos c9]
    exact ⟨rfl, rfl⟩
