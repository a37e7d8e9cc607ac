section ZTERN
variable {X : zX} {l : Launch} {g : zG} {own : String} {cc : ByteArray} {h nL pc : Nat} {ls : zL} {st : List zV} {mem : zM}
theorem z_pop (hG : zGood X l g own cc h nL) {x : Int} (hd : decode cc pc = .ok (.pop, 1)) (k : zZ X (pc + 1) ls st mem) : zZ X pc ls (zi x :: st) mem := by
  obtain ⟨p, l, e, R, s, m, args, below, meth, c, Q, g, kc, ks⟩ := X
  obtain ⟨hx, hb, hml, hown, hts, hK, hN, hg, hR1, hR2, hlk, hl2, hg2⟩ := hG
  subst hl2 hg2
  intro hM hL hS H locs lsA hP hS0 hl
  refine lv_pop hx hb hd rfl ?_
  exact k hM hL (zokS_cons.mp hS).2 H locs lsA hP hS0 hl
theorem z_tif_le (hG : zGood X l g own cc h nL) {x : Int} {a b : Int} {off : Int} {tgt j : Nat} (hd : decode cc pc = .ok (.ifCond .le off, 3)) (ht : (pc : Int) + off = (tgt : Int)) (kb : zZ X j ls (zi b :: st) mem → zZ X tgt ls st mem) (ka : zZ X j ls (zi a :: st) mem → zZ X (pc + 3) ls st mem) (k : zZ X j ls (zi (if x ≤ 0 then b else a) :: st) mem) : zZ X pc ls (zi x :: st) mem := by
  refine z_if_le hG hd ht (fun c => kb ?_) (fun c => ka ?_)
  · rw [if_pos c] at k; exact k
  · rw [if_neg (by omega)] at k; exact k
theorem z_ticmp_le (hG : zGood X l g own cc h nL) {x y : Int} {a b : Int} {off : Int} {tgt j : Nat} (hd : decode cc pc = .ok (.if_icmp .le off, 3)) (ht : (pc : Int) + off = (tgt : Int)) (kb : zZ X j ls (zi b :: st) mem → zZ X tgt ls st mem) (ka : zZ X j ls (zi a :: st) mem → zZ X (pc + 3) ls st mem) (k : zZ X j ls (zi (if x ≤ y then b else a) :: st) mem) : zZ X pc ls (zi y :: zi x :: st) mem := by
  refine z_icmp_le hG hd ht (fun c => kb ?_) (fun c => ka ?_)
  · rw [if_pos c] at k; exact k
  · rw [if_neg (by omega)] at k; exact k
theorem z_tif_lt (hG : zGood X l g own cc h nL) {x : Int} {a b : Int} {off : Int} {tgt j : Nat} (hd : decode cc pc = .ok (.ifCond .lt off, 3)) (ht : (pc : Int) + off = (tgt : Int)) (kb : zZ X j ls (zi b :: st) mem → zZ X tgt ls st mem) (ka : zZ X j ls (zi a :: st) mem → zZ X (pc + 3) ls st mem) (k : zZ X j ls (zi (if x < 0 then b else a) :: st) mem) : zZ X pc ls (zi x :: st) mem := by
  refine z_if_lt hG hd ht (fun c => kb ?_) (fun c => ka ?_)
  · rw [if_pos c] at k; exact k
  · rw [if_neg (by omega)] at k; exact k
theorem z_ticmp_lt (hG : zGood X l g own cc h nL) {x y : Int} {a b : Int} {off : Int} {tgt j : Nat} (hd : decode cc pc = .ok (.if_icmp .lt off, 3)) (ht : (pc : Int) + off = (tgt : Int)) (kb : zZ X j ls (zi b :: st) mem → zZ X tgt ls st mem) (ka : zZ X j ls (zi a :: st) mem → zZ X (pc + 3) ls st mem) (k : zZ X j ls (zi (if x < y then b else a) :: st) mem) : zZ X pc ls (zi y :: zi x :: st) mem := by
  refine z_icmp_lt hG hd ht (fun c => kb ?_) (fun c => ka ?_)
  · rw [if_pos c] at k; exact k
  · rw [if_neg (by omega)] at k; exact k
theorem z_tif_ge (hG : zGood X l g own cc h nL) {x : Int} {a b : Int} {off : Int} {tgt j : Nat} (hd : decode cc pc = .ok (.ifCond .ge off, 3)) (ht : (pc : Int) + off = (tgt : Int)) (kb : zZ X j ls (zi b :: st) mem → zZ X tgt ls st mem) (ka : zZ X j ls (zi a :: st) mem → zZ X (pc + 3) ls st mem) (k : zZ X j ls (zi (if 0 ≤ x then b else a) :: st) mem) : zZ X pc ls (zi x :: st) mem := by
  refine z_if_ge hG hd ht (fun c => kb ?_) (fun c => ka ?_)
  · rw [if_pos c] at k; exact k
  · rw [if_neg (by omega)] at k; exact k
theorem z_ticmp_ge (hG : zGood X l g own cc h nL) {x y : Int} {a b : Int} {off : Int} {tgt j : Nat} (hd : decode cc pc = .ok (.if_icmp .ge off, 3)) (ht : (pc : Int) + off = (tgt : Int)) (kb : zZ X j ls (zi b :: st) mem → zZ X tgt ls st mem) (ka : zZ X j ls (zi a :: st) mem → zZ X (pc + 3) ls st mem) (k : zZ X j ls (zi (if y ≤ x then b else a) :: st) mem) : zZ X pc ls (zi y :: zi x :: st) mem := by
  refine z_icmp_ge hG hd ht (fun c => kb ?_) (fun c => ka ?_)
  · rw [if_pos c] at k; exact k
  · rw [if_neg (by omega)] at k; exact k
theorem z_tif_gt (hG : zGood X l g own cc h nL) {x : Int} {a b : Int} {off : Int} {tgt j : Nat} (hd : decode cc pc = .ok (.ifCond .gt off, 3)) (ht : (pc : Int) + off = (tgt : Int)) (kb : zZ X j ls (zi b :: st) mem → zZ X tgt ls st mem) (ka : zZ X j ls (zi a :: st) mem → zZ X (pc + 3) ls st mem) (k : zZ X j ls (zi (if 0 < x then b else a) :: st) mem) : zZ X pc ls (zi x :: st) mem := by
  refine z_if_gt hG hd ht (fun c => kb ?_) (fun c => ka ?_)
  · rw [if_pos c] at k; exact k
  · rw [if_neg (by omega)] at k; exact k
theorem z_ticmp_gt (hG : zGood X l g own cc h nL) {x y : Int} {a b : Int} {off : Int} {tgt j : Nat} (hd : decode cc pc = .ok (.if_icmp .gt off, 3)) (ht : (pc : Int) + off = (tgt : Int)) (kb : zZ X j ls (zi b :: st) mem → zZ X tgt ls st mem) (ka : zZ X j ls (zi a :: st) mem → zZ X (pc + 3) ls st mem) (k : zZ X j ls (zi (if y < x then b else a) :: st) mem) : zZ X pc ls (zi y :: zi x :: st) mem := by
  refine z_icmp_gt hG hd ht (fun c => kb ?_) (fun c => ka ?_)
  · rw [if_pos c] at k; exact k
  · rw [if_neg (by omega)] at k; exact k
theorem z_tif_eq (hG : zGood X l g own cc h nL) {x : Int} {a b : Int} {off : Int} {tgt j : Nat} (hd : decode cc pc = .ok (.ifCond .eq off, 3)) (ht : (pc : Int) + off = (tgt : Int)) (kb : zZ X j ls (zi b :: st) mem → zZ X tgt ls st mem) (ka : zZ X j ls (zi a :: st) mem → zZ X (pc + 3) ls st mem) (k : zZ X j ls (zi (if x = 0 then b else a) :: st) mem) : zZ X pc ls (zi x :: st) mem := by
  refine z_if_eq hG hd ht (fun c => kb ?_) (fun c => ka ?_)
  · rw [if_pos c] at k; exact k
  · rw [if_neg (by omega)] at k; exact k
theorem z_ticmp_eq (hG : zGood X l g own cc h nL) {x y : Int} {a b : Int} {off : Int} {tgt j : Nat} (hd : decode cc pc = .ok (.if_icmp .eq off, 3)) (ht : (pc : Int) + off = (tgt : Int)) (kb : zZ X j ls (zi b :: st) mem → zZ X tgt ls st mem) (ka : zZ X j ls (zi a :: st) mem → zZ X (pc + 3) ls st mem) (k : zZ X j ls (zi (if x = y then b else a) :: st) mem) : zZ X pc ls (zi y :: zi x :: st) mem := by
  refine z_icmp_eq hG hd ht (fun c => kb ?_) (fun c => ka ?_)
  · rw [if_pos c] at k; exact k
  · rw [if_neg (by omega)] at k; exact k
theorem z_tif_ne (hG : zGood X l g own cc h nL) {x : Int} {a b : Int} {off : Int} {tgt j : Nat} (hd : decode cc pc = .ok (.ifCond .ne off, 3)) (ht : (pc : Int) + off = (tgt : Int)) (kb : zZ X j ls (zi b :: st) mem → zZ X tgt ls st mem) (ka : zZ X j ls (zi a :: st) mem → zZ X (pc + 3) ls st mem) (k : zZ X j ls (zi (if x ≠ 0 then b else a) :: st) mem) : zZ X pc ls (zi x :: st) mem := by
  refine z_if_ne hG hd ht (fun c => kb ?_) (fun c => ka ?_)
  · rw [if_pos c] at k; exact k
  · rw [if_neg (by omega)] at k; exact k
theorem z_ticmp_ne (hG : zGood X l g own cc h nL) {x y : Int} {a b : Int} {off : Int} {tgt j : Nat} (hd : decode cc pc = .ok (.if_icmp .ne off, 3)) (ht : (pc : Int) + off = (tgt : Int)) (kb : zZ X j ls (zi b :: st) mem → zZ X tgt ls st mem) (ka : zZ X j ls (zi a :: st) mem → zZ X (pc + 3) ls st mem) (k : zZ X j ls (zi (if x ≠ y then b else a) :: st) mem) : zZ X pc ls (zi y :: zi x :: st) mem := by
  refine z_icmp_ne hG hd ht (fun c => kb ?_) (fun c => ka ?_)
  · rw [if_pos c] at k; exact k
  · rw [if_neg (by omega)] at k; exact k
end ZTERN
theorem zand31 (x : Int) : 0 ≤ zand x 2147483647 := by
  unfold zand
  have h : (Int32.ofInt x &&& Int32.ofInt 2147483647).toBitVec.msb = false := by
    rw [Int32.toBitVec_and, BitVec.msb_and]
    have : (Int32.ofInt 2147483647).toBitVec.msb = false := by decide
    rw [this, Bool.and_false]
  have e : (Int32.ofInt x &&& Int32.ofInt 2147483647).toInt = (Int32.ofInt x &&& Int32.ofInt 2147483647).toBitVec.toInt := rfl
  rw [e, BitVec.toInt_eq_toNat_of_msb h]
  omega
/-- a number of the script, within a range -/
def zUp (v m : Int) : Int := zand v 2147483647 % m
theorem zUp_bd {v m : Int} (h : 0 < m) : 0 ≤ zUp v m ∧ zUp v m < m := ⟨Int.emod_nonneg _ (by omega), Int.emod_lt_of_pos _ h⟩
/-- a quotient, rounded up -/
def zCe (a b : Int) : Int := (a + b - 1) / b
theorem zCe_eq {a b : Int} (h0 : 0 ≤ a) (h1 : 0 < b) : a / b + (if a % b ≤ 0 then 0 else 1) = zCe a b := by
  unfold zCe
  have e := Int.emod_add_mul_ediv a b
  have m0 := Int.emod_nonneg a (show b ≠ 0 by omega)
  have m1 := Int.emod_lt_of_pos a h1
  have key : (a + b - 1) = (a % b + b - 1) + b * (a / b) := by omega
  rw [key, Int.add_mul_ediv_left _ _ (show b ≠ 0 by omega)]
  by_cases c : a % b ≤ 0
  · have h2 : (a % b + b - 1) / b = 0 := Int.ediv_eq_zero_of_lt (by omega) (by omega)
    rw [if_pos c, h2]
    omega
  · have h2 : (a % b + b - 1) / b = 1 := by
      rw [show a % b + b - 1 = (a % b - 1) + b * 1 by omega, Int.add_mul_ediv_left _ _ (show b ≠ 0 by omega), Int.ediv_eq_zero_of_lt (by omega) (by omega)]
      rfl
    rw [if_neg c, h2]
    omega
theorem zCe_bd {a b : Int} (h0 : 0 ≤ a) (h1 : 0 < b) : 0 ≤ zCe a b ∧ zCe a b ≤ a + b - 1 ∧ a ≤ zCe a b * b ∧ (zCe a b - 1) * b < a + 1 := by
  unfold zCe
  have e := Int.emod_add_mul_ediv (a + b - 1) b
  have m0 := Int.emod_nonneg (a + b - 1) (show b ≠ 0 by omega)
  have m1 := Int.emod_lt_of_pos (a + b - 1) h1
  have q0 := Int.ediv_nonneg (show 0 ≤ a + b - 1 by omega) (show 0 ≤ b by omega)
  have q1 := Int.ediv_le_self b (show 0 ≤ a + b - 1 by omega)
  refine ⟨q0, q1, ?_, ?_⟩
  · rw [Int.mul_comm]; omega
  · rw [Int.sub_mul, Int.mul_comm, Int.one_mul]; omega
set_option maxRecDepth 20000 in
theorem ct_L_up (l : Launch) (g : zG) {mem : zM} {v k : Int} (hk : 0 < k) : zMet l g Y_L_up [zi v, zi k] mem (fun r m' => r = some (zi (zUp v k)) ∧ m' = mem) := by
  refine zMet_introF (by decide +kernel) (Nat.le_of_ble_eq_true rfl) (ls0 := [some (zi v), some (zi k)]) rfl fun X hG hE => ?_
  have hG : zGood X l g RL cL_up 0 2 := hG
  have hE : zEnd X (some .int) _ := hE
  have h31 := zand31 v
  refine z_iload_n (i := 0) hG dL_up_0 rfl rfl ?_
  refine z_ldc hG dL_up_1 KC_L_8 rfl ?_
  refine z_iand hG dL_up_3 ?_
  refine z_iload_n (i := 1) hG dL_up_4 rfl rfl ?_
  refine z_irem hG dL_up_5 (by omega) (by omega) ?_
  refine z_iret hG hE dL_up_6 trivial ?_
  exact ⟨rfl, rfl⟩
set_option maxRecDepth 20000 in
theorem ct_L_ceil (l : Launch) (g : zG) {mem : zM} {a b : Int} (ha : 0 ≤ a) (hb : 0 < b) (hc : a + b < 2147483648) : zMet l g Y_L_ceil [zi a, zi b] mem (fun r m' => r = some (zi (zCe a b)) ∧ m' = mem) := by
  refine zMet_introF (by decide +kernel) (Nat.le_of_ble_eq_true rfl) (ls0 := [some (zi a), some (zi b)]) rfl fun X hG hE => ?_
  have hG : zGood X l g RL cL_ceil 0 2 := hG
  have hE : zEnd X (some .int) _ := hE
  have hq := Int.ediv_le_self b ha
  have hq0 := Int.ediv_nonneg ha (show 0 ≤ b by omega)
  have hv := zCe_eq ha hb
  have hv2 := zCe_bd ha hb
  refine z_iload_n (i := 0) hG dL_ceil_0 rfl rfl ?_
  refine z_iload_n (i := 1) hG dL_ceil_1 rfl rfl ?_
  refine z_idiv hG dL_ceil_2 (by omega) (by omega) ?_
  refine z_iload_n (i := 0) hG dL_ceil_3 rfl rfl ?_
  refine z_iload_n (i := 1) hG dL_ceil_4 rfl rfl ?_
  refine z_irem hG dL_ceil_5 (by omega) (by omega) ?_
  refine z_tif_le hG dL_ceil_6 (tgt := 13) (j := 14) rfl (fun K => (z_iconst hG dL_ceil_13 rfl K)) (fun K => (z_iconst hG dL_ceil_9 rfl (z_goto hG dL_ceil_10 (tgt := 14) rfl K))) ?_
  refine z_iadd hG dL_ceil_14 (by rw [hv]; omega) (by rw [hv]; omega) ?_
  refine z_iret hG hE dL_ceil_15 trivial ?_
  exact ⟨by rw [hv], rfl⟩
