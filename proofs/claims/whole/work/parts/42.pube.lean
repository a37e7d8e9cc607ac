/-- the bits of a long -/
def zu (x : Int64) : Nat := x.toUInt64.toNat
theorem zu_lt (x : Int64) : zu x < 18446744073709551616 := x.toUInt64.toNat_lt
theorem zu_0 {x : Int64} : zu x = 0 ↔ x = 0 := by
  constructor
  · intro h
    have h2 : x.toUInt64 = 0 := UInt64.toNat_inj.mp h
    have e : x = x.toUInt64.toInt64 := rfl
    rw [e, h2]
    rfl
  · rintro rfl; rfl
theorem zu_and (x : Int64) : (x &&& 255).toInt32.toInt = ((zu x % 256 : Nat) : Int) := by
  have h1 : (x &&& 255).toBitVec.toNat = zu x % 256 := by
    have : (x &&& 255).toBitVec = x.toBitVec &&& 255#64 := rfl
    rw [this, BitVec.toNat_and]
    exact Nat.and_two_pow_sub_one_eq_mod (zu x) 8
  have h2 : (x &&& 255).toInt = ((zu x % 256 : Nat) : Int) := by
    rw [← h1]
    exact BitVec.toInt_eq_toNat_of_lt (by rw [h1]; omega)
  rw [Int64.toInt_toInt32, h2]
  exact Int.bmod_eq_of_le (by omega) (by omega)
def zush (x : Int64) (y : Int) : Int64 := (x.toUInt64 >>> ((Int32.ofInt y).toInt64.toUInt64 &&& Int64.toUInt64 63)).toInt64
theorem zush_n (x : Int64) : ∀ n : Nat, n < 8 → zu (zush x (8 * n)) = zu x / 256 ^ n := by
  intro n hn
  have h : ∀ n : Nat, n < 8 → ((Int32.ofInt (8 * n)).toInt64.toUInt64 &&& Int64.toUInt64 63).toNat % 64 = 8 * n := by decide
  have e : zu (zush x (8 * n)) = (x.toUInt64 >>> ((Int32.ofInt (8 * n)).toInt64.toUInt64 &&& Int64.toUInt64 63)).toNat := rfl
  rw [e, UInt64.toNat_shiftRight, h n hn, Nat.shiftRight_eq_div_pow, Nat.pow_mul]
  rfl
def zlen : Nat → Nat → Int → Int
  | 0, _, c => c
  | n + 1, u, c => if u = 0 then c else if ¬ (33 ≤ u % 256 ∧ u % 256 ≤ 126) then 0 else zlen n (u / 256) (c + 1)
def zby (u n : Nat) : Int := ((u / 256 ^ n % 256 : Nat) : Int)
def zapp (u : Nat) : Nat → zM → zM
  | 0, m => m
  | n + 1, m => zapp u n (zset (zset m 22 0 0 (m 6 0 0 0) (zby u n)) 6 0 0 0 (m 6 0 0 0 + 1))
theorem zlen_bd : ∀ (n u : Nat) (c : Int), 0 ≤ c → 0 ≤ zlen n u c ∧ zlen n u c ≤ c + n
  | 0, _, c, h => ⟨h, by simp [zlen]⟩
  | n + 1, u, c, h => by
    rw [zlen]
    have := zlen_bd n (u / 256) (c + 1) (by omega)
    split
    · omega
    · split <;> omega
theorem zcmp0 {x : Int64} : (lg_cmp x 0).toInt = 0 ↔ x = 0 := by
  unfold lg_cmp
  split
  · next h =>
    constructor
    · intro q; exact absurd q (by decide)
    · rintro rfl; exact absurd h (by decide)
  · split
    · next h => exact ⟨fun _ => h, fun _ => rfl⟩
    · next h => exact ⟨fun q => absurd q (by decide), fun q => absurd q h⟩
theorem zush8 (x : Int64) : zu (zush x 8) = zu x / 256 := by have := zush_n x 1 (by decide); simpa using this
set_option maxRecDepth 20000 in
theorem ct_X10_lengthOf (l : Launch) (g : zG) {mem : zM} {x : Int64} : zMet l g Y_X10_lengthOf [zl x] mem (fun v m' => v = some (zi (zlen 8 (zu x) 0)) ∧ m' = mem) := by
  refine zMet_introF (by decide +kernel) (Nat.le_of_ble_eq_true rfl) (ls0 := [some (zl x), none, none, none, none]) rfl fun X hG hE => ?_
  have hG : zGood X l g RX10 cX10_lengthOf 1 5 := hG
  have hE : zEnd X (some .int) _ := hE
  have loop : ∀ (n : Nat) (y : Int64) (c : Int), 0 ≤ c ∧ c + n = 8 → zlen n (zu y) c = zlen 8 (zu x) 0 → zZ X 5 [some (zl x), none, some (zl y), none, some (zi c)] [] mem := by
    intro n
    induction n with
    | zero =>
      intro y c hc hR
      refine z_iload hG dX10_lengthOf_5 rfl ?_
      refine z_bipush hG dX10_lengthOf_7 rfl ?_
      refine z_icmp_ge hG dX10_lengthOf_9 (tgt := 47) rfl (fun c9 => ?_) (fun c9 => ?_)
      · refine z_iload hG dX10_lengthOf_47 rfl ?_
        refine z_iret hG hE dX10_lengthOf_49 trivial ?_
        rw [← hR]
        exact ⟨rfl, rfl⟩
      · exact absurd c9 (by omega)
    | succ n ih =>
      intro y c hc hR
      rw [zlen] at hR
      refine z_iload hG dX10_lengthOf_5 rfl ?_
      refine z_bipush hG dX10_lengthOf_7 rfl ?_
      refine z_icmp_ge hG dX10_lengthOf_9 (tgt := 47) rfl (fun c9 => ?_) (fun c9 => ?_)
      · exact absurd c9 (by omega)
      · refine z_lload_n (i := 2) hG dX10_lengthOf_12 rfl rfl ?_
        refine z_lconst hG dX10_lengthOf_13 ?_
        refine z_lcmp hG dX10_lengthOf_14 ?_
        refine z_if_eq hG dX10_lengthOf_15 (tgt := 47) rfl (fun c15 => ?_) (fun c15 => ?_)
        · try simp only [zite_eq0, ne_eq, Classical.not_not] at c15
          rw [if_pos (zu_0.mpr (zcmp0.mp c15))] at hR
          refine z_iload hG dX10_lengthOf_47 rfl ?_
          refine z_iret hG hE dX10_lengthOf_49 trivial ?_
          rw [← hR]
          exact ⟨rfl, rfl⟩
        · try simp only [zite_eq0, ne_eq, Classical.not_not] at c15
          rw [if_neg (fun q => c15 (zcmp0.mpr (zu_0.mp q)))] at hR
          refine z_lload_n (i := 2) hG dX10_lengthOf_18 rfl rfl ?_
          refine z_ldc2 hG dX10_lengthOf_19 KC_X10_333 ?_
          refine z_land hG dX10_lengthOf_22 ?_
          refine z_l2i hG dX10_lengthOf_23 ?_
          refine z_bipush hG dX10_lengthOf_24 rfl ?_
          refine z_bipush hG dX10_lengthOf_26 rfl ?_
          refine z_callS hG dX10_lengthOf_28 LS_X10_61 (ct_X10_isWithin l g) (by decide) rfl rfl (Nat.le_of_ble_eq_true rfl) ?_
          intro v9 m9 h9
          rw [h9.1, h9.2]
          clear h9 m9 v9
          refine z_if_ne hG dX10_lengthOf_31 (tgt := 36) rfl (fun c31 => ?_) (fun c31 => ?_)
          · try simp only [zite_eq0, ne_eq, Classical.not_not] at c31
            refine z_lload_n (i := 2) hG dX10_lengthOf_36 rfl rfl ?_
            refine z_bipush hG dX10_lengthOf_37 rfl ?_
            refine z_lushr hG dX10_lengthOf_39 ?_
            refine z_lstore_n (i := 2) hG dX10_lengthOf_40 rfl (by decide) (ls2 := [_, _, _, _, _]) rfl ?_
            refine z_iinc hG dX10_lengthOf_41 (by decide) rfl (by omega) (by omega) (ls2 := [_, _, _, _, _]) rfl ?_
            refine z_goto hG dX10_lengthOf_44 (tgt := 5) rfl ?_
            rw [zu_and] at c31
            rw [if_neg (by omega)] at hR
            exact ih _ _ ⟨by omega, by omega⟩ (by rw [← hR]; exact congrArg (fun q => zlen n q (c + 1)) (zush8 y))
          · try simp only [zite_eq0, ne_eq, Classical.not_not] at c31
            refine z_iconst hG dX10_lengthOf_34 rfl ?_
            refine z_iret hG hE dX10_lengthOf_35 trivial ?_
            rw [zu_and] at c31
            rw [if_pos (by omega)] at hR
            rw [← hR]
            exact ⟨rfl, rfl⟩
  refine z_lload_n (i := 0) hG dX10_lengthOf_0 rfl rfl ?_
  refine z_lstore_n (i := 2) hG dX10_lengthOf_1 rfl (by decide) (ls2 := [_, _, _, _, _]) rfl ?_
  refine z_iconst hG dX10_lengthOf_2 rfl ?_
  refine z_istore hG dX10_lengthOf_3 (by decide) (ls2 := [_, _, _, _, _]) rfl ?_
  exact loop 8 x 0 (by decide) rfl
