theorem zl64 {x : Int} (h : zin x) : ((Int32.ofInt x).toInt64).toInt = x := by rw [Int32.toInt_toInt64, zti h]
theorem zl64m {A B : Int64} {x y : Int} (ha : A.toInt = x) (hb : B.toInt = y) (h1 : -4611686018427387904 ≤ x * y) (h2 : x * y < 4611686018427387904) : (A * B).toInt = x * y := by
  rw [Int64.toInt_mul, ha, hb]
  exact Int.bmod_eq_of_le (by omega) (by omega)
theorem zl64a {A B : Int64} {x y : Int} (ha : A.toInt = x) (hb : B.toInt = y) (h1 : -4611686018427387904 ≤ x + y) (h2 : x + y < 4611686018427387904) : (A + B).toInt = x + y := by
  rw [Int64.toInt_add, ha, hb]
  exact Int.bmod_eq_of_le (by omega) (by omega)
theorem zlcmp_le {A B : Int64} {x y : Int} (ha : A.toInt = x) (hb : B.toInt = y) : (lg_cmp A B).toInt ≤ 0 ↔ x ≤ y := by
  unfold lg_cmp
  have e : A > B ↔ y < x := by rw [gt_iff_lt, Int64.lt_iff_toInt_lt, ha, hb]
  by_cases h : y < x
  · rw [if_pos (e.mpr h)]
    constructor
    · intro q; exact absurd q (by decide)
    · intro q; omega
  · rw [if_neg (fun q => h (e.mp q))]
    constructor
    · intro _; omega
    · intro _; split <;> decide
/-- five numbers, the first of them that differs decides -/
abbrev zK5 : Type := Int × Int × Int × Int × Int
def zklt (a b : zK5) : Prop := a.1 < b.1 ∨ (a.1 = b.1 ∧ (a.2.1 < b.2.1 ∨ (a.2.1 = b.2.1 ∧ (a.2.2.1 < b.2.2.1 ∨ (a.2.2.1 = b.2.2.1 ∧ (a.2.2.2.1 < b.2.2.2.1 ∨ (a.2.2.2.1 = b.2.2.2.1 ∧ a.2.2.2.2 < b.2.2.2.2)))))))
def zmx (x : Int) : Int := if 0 < x then x else 0
/-- how many of the first kind fill up -/
def zfil (m : zM) (w s t : Int) : Int := (zmx (w - s * m 36 0 0 1 - t * m 36 0 0 2) + m 36 0 0 0 - 1) / m 36 0 0 0
def zvec (R0 R1 f s t k : Int) : Int := if k = R0 then f else if k = R1 then s else t
def zcost (m : zM) (f s t : Int) : Int := f * m 37 0 0 0 + s * m 37 0 0 1 + t * m 37 0 0 2
def zgram (m : zM) (f s t : Int) : Int := f * m 36 0 0 0 + s * m 36 0 0 1 + t * m 36 0 0 2
theorem ct_putTried (l : Launch) (g : zG) {mem : zM} {r x q : Int} (hr : 0 ≤ r ∧ r < 3) (hq : mem 35 0 0 r = q) (h0 : 0 ≤ q ∧ q < 3) : zMet l g Y_X9_putTried [zr 9 0 0, zi r, zi x] mem (fun v m' => v = none ∧ m' = zset mem 34 0 0 q x) := by
  subst hq
  have h := ct_X9_putTried l g (mem := mem) (x := x) hr
  rw [if_pos h0] at h
  exact h
set_option maxRecDepth 20000 in
theorem ct_X9_isTooDear (l : Launch) (g : zG) {mem : zM} {s t w : Int} (hsea : zsea mem) (hs : 0 ≤ s ∧ s ≤ 2000) (ht : 0 ≤ t ∧ t ≤ 2000) (hw : 0 ≤ w ∧ w ≤ 100000) (hb0 : mem 9 0 0 4 ≠ 0 → 0 ≤ mem 9 0 0 0 ∧ mem 9 0 0 0 ≤ 200000000) : zMet l g Y_X9_isTooDear [zr 9 0 0, zi s, zi t, zi w] mem (fun v m' => ∃ r : Int, v = some (zi r) ∧ m' = mem ∧ (r = 0 ∨ r = 1) ∧ (r = 1 ↔ mem 9 0 0 4 ≠ 0 ∧ mem 9 0 0 0 * mem 36 0 0 0 < (s * mem 37 0 0 1 + t * mem 37 0 0 2) * mem 36 0 0 0 + zmx (w - s * mem 36 0 0 1 - t * mem 36 0 0 2) * mem 37 0 0 0)) := by
  refine zMet_introF (by decide +kernel) (Nat.le_of_ble_eq_true rfl) (ls0 := [some (zr 9 0 0), some (zi s), some (zi t), some (zi w), none, none, none, none]) rfl fun X hG hE => ?_
  have hG : zGood X l g RX9 cX9_isTooDear 1 8 := hG
  have hE : zEnd X (some .boolean) _ := hE
  have hs0 := hsea 0 (by decide) (by decide)
  have hs1 := hsea 1 (by decide) (by decide)
  have hs2 := hsea 2 (by decide) (by decide)
  have m1 := zmulb hs.1 hs.2 hs1.2.1 hs1.2.2
  have m2 := zmulb ht.1 ht.2 hs2.2.1 hs2.2.2
  have m3 := zmulb hs.1 hs.2 hs1.1.1 hs1.1.2
  have m4 := zmulb ht.1 ht.2 hs2.1.1 hs2.1.2
  have hmx : 0 ≤ zmx (w - s * mem 36 0 0 1 - t * mem 36 0 0 2) ∧ zmx (w - s * mem 36 0 0 1 - t * mem 36 0 0 2) ≤ 100000 := by unfold zmx; split <;> omega
  have m5 := zmulb (x := s * mem 37 0 0 1 + t * mem 37 0 0 2) (A := 4000000) (by omega) (by omega) hs0.1.1 hs0.1.2
  have m6 := zmulb hmx.1 hmx.2 hs0.2.1 hs0.2.2
  refine z_aload_n (i := 0) hG dX9_isTooDear_0 rfl rfl ?_
  refine z_getI hG dX9_isTooDear_1 FL_X9_50 rfl rfl (kk := 4) rfl ?_
  refine z_if_ne hG dX9_isTooDear_4 (tgt := 9) rfl (fun c4 => ?_) (fun c4 => ?_)
  · try simp only [zite_eq0, ne_eq, Classical.not_not] at c4
    have hb := hb0 c4
    have m7 := zmulb hb.1 hb.2 hs0.1.1 hs0.1.2
    refine z_iload_n (i := 1) hG dX9_isTooDear_9 rfl rfl ?_
    refine z_aload_n (i := 0) hG dX9_isTooDear_10 rfl rfl ?_
    refine z_get_9_8 hG dX9_isTooDear_11 FL_X9_24 ?_
    refine z_iconst hG dX9_isTooDear_14 rfl ?_
    refine z_iald hG dX9_isTooDear_15 rfl rfl (by omega) (by omega) ?_
    refine z_imul hG dX9_isTooDear_16 (by omega) (by omega) ?_
    refine z_iload_n (i := 2) hG dX9_isTooDear_17 rfl rfl ?_
    refine z_aload_n (i := 0) hG dX9_isTooDear_18 rfl rfl ?_
    refine z_get_9_8 hG dX9_isTooDear_19 FL_X9_24 ?_
    refine z_iconst hG dX9_isTooDear_22 rfl ?_
    refine z_iald hG dX9_isTooDear_23 rfl rfl (by omega) (by omega) ?_
    refine z_imul hG dX9_isTooDear_24 (by omega) (by omega) ?_
    refine z_iadd hG dX9_isTooDear_25 (by omega) (by omega) ?_
    refine z_i2l hG dX9_isTooDear_26 ?_
    refine z_lstore hG dX9_isTooDear_27 (by decide) (ls2 := [_, _, _, _, _, _, _, _]) rfl ?_
    refine z_iconst hG dX9_isTooDear_29 rfl ?_
    refine z_iload_n (i := 3) hG dX9_isTooDear_30 rfl rfl ?_
    refine z_iload_n (i := 1) hG dX9_isTooDear_31 rfl rfl ?_
    refine z_aload_n (i := 0) hG dX9_isTooDear_32 rfl rfl ?_
    refine z_get_9_7 hG dX9_isTooDear_33 FL_X9_21 ?_
    refine z_iconst hG dX9_isTooDear_36 rfl ?_
    refine z_iald hG dX9_isTooDear_37 rfl rfl (by omega) (by omega) ?_
    refine z_imul hG dX9_isTooDear_38 (by omega) (by omega) ?_
    refine z_isub hG dX9_isTooDear_39 (by omega) (by omega) ?_
    refine z_iload_n (i := 2) hG dX9_isTooDear_40 rfl rfl ?_
    refine z_aload_n (i := 0) hG dX9_isTooDear_41 rfl rfl ?_
    refine z_get_9_7 hG dX9_isTooDear_42 FL_X9_21 ?_
    refine z_iconst hG dX9_isTooDear_45 rfl ?_
    refine z_iald hG dX9_isTooDear_46 rfl rfl (by omega) (by omega) ?_
    refine z_imul hG dX9_isTooDear_47 (by omega) (by omega) ?_
    refine z_isub hG dX9_isTooDear_48 (by omega) (by omega) ?_
    refine z_max hG dX9_isTooDear_49 LM_X9_71 (by decide) (Nat.le_of_ble_eq_true rfl) ?_
    refine z_i2l hG dX9_isTooDear_52 ?_
    refine z_lstore hG dX9_isTooDear_53 (by decide) (ls2 := [_, _, _, _, _, _, _, _]) rfl ?_
    refine z_lload hG dX9_isTooDear_55 rfl ?_
    refine z_aload_n (i := 0) hG dX9_isTooDear_57 rfl rfl ?_
    refine z_get_9_7 hG dX9_isTooDear_58 FL_X9_21 ?_
    refine z_iconst hG dX9_isTooDear_61 rfl ?_
    refine z_iald hG dX9_isTooDear_62 rfl rfl (by omega) (by omega) ?_
    refine z_i2l hG dX9_isTooDear_63 ?_
    refine z_lmul hG dX9_isTooDear_64 ?_
    refine z_lload hG dX9_isTooDear_65 rfl ?_
    refine z_aload_n (i := 0) hG dX9_isTooDear_67 rfl rfl ?_
    refine z_get_9_8 hG dX9_isTooDear_68 FL_X9_24 ?_
    refine z_iconst hG dX9_isTooDear_71 rfl ?_
    refine z_iald hG dX9_isTooDear_72 rfl rfl (by omega) (by omega) ?_
    refine z_i2l hG dX9_isTooDear_73 ?_
    refine z_lmul hG dX9_isTooDear_74 ?_
    refine z_ladd hG dX9_isTooDear_75 ?_
    refine z_aload_n (i := 0) hG dX9_isTooDear_76 rfl rfl ?_
    refine z_getI hG dX9_isTooDear_77 FL_X9_74 rfl rfl (kk := 0) rfl ?_
    refine z_i2l hG dX9_isTooDear_80 ?_
    refine z_aload_n (i := 0) hG dX9_isTooDear_81 rfl rfl ?_
    refine z_get_9_7 hG dX9_isTooDear_82 FL_X9_21 ?_
    refine z_iconst hG dX9_isTooDear_85 rfl ?_
    refine z_iald hG dX9_isTooDear_86 rfl rfl (by omega) (by omega) ?_
    refine z_i2l hG dX9_isTooDear_87 ?_
    refine z_lmul hG dX9_isTooDear_88 ?_
    refine z_lcmp hG dX9_isTooDear_89 ?_
    have e : (lg_cmp ((Int32.ofInt (s * mem 37 0 0 1 + t * mem 37 0 0 2)).toInt64 * (Int32.ofInt (mem 36 0 0 0)).toInt64 + (Int32.ofInt (zmx (w - s * mem 36 0 0 1 - t * mem 36 0 0 2))).toInt64 * (Int32.ofInt (mem 37 0 0 0)).toInt64) ((Int32.ofInt (mem 9 0 0 0)).toInt64 * (Int32.ofInt (mem 36 0 0 0)).toInt64)).toInt ≤ 0 ↔ _ := zlcmp_le (zl64a (zl64m (zl64 ⟨by omega, by omega⟩) (zl64 ⟨by omega, by omega⟩) (by omega) (by omega)) (zl64m (zl64 ⟨by omega, by omega⟩) (zl64 ⟨by omega, by omega⟩) (by omega) (by omega)) (by omega) (by omega)) (zl64m (zl64 ⟨by omega, by omega⟩) (zl64 ⟨by omega, by omega⟩) (by omega) (by omega))
    refine z_if_le hG dX9_isTooDear_90 (tgt := 97) rfl (fun c90 => ?_) (fun c90 => ?_)
    · have c90 := e.mp c90
      refine z_iconst hG dX9_isTooDear_97 rfl ?_
      refine z_iret hG hE dX9_isTooDear_98 (by first | exact Or.inl rfl | exact Or.inr rfl | (show _ ∨ _; omega)) ?_
      first | (refine ⟨1, rfl, rfl, Or.inr rfl, ⟨fun _ => ⟨by omega, by omega⟩, fun _ => rfl⟩⟩) | (refine ⟨0, rfl, rfl, Or.inl rfl, ⟨fun z => absurd z (by decide), fun z => ?_⟩⟩; omega)
    · have c90 : ¬ _ := fun z => absurd (e.mpr z) (by exact Int.not_le.mpr c90)
      refine z_iconst hG dX9_isTooDear_93 rfl ?_
      refine z_goto hG dX9_isTooDear_94 (tgt := 98) rfl ?_
      refine z_iret hG hE dX9_isTooDear_98 (by first | exact Or.inl rfl | exact Or.inr rfl | (show _ ∨ _; omega)) ?_
      first | (refine ⟨1, rfl, rfl, Or.inr rfl, ⟨fun _ => ⟨by omega, by omega⟩, fun _ => rfl⟩⟩) | (refine ⟨0, rfl, rfl, Or.inl rfl, ⟨fun z => absurd z (by decide), fun z => ?_⟩⟩; omega)
  · try simp only [zite_eq0, ne_eq, Classical.not_not] at c4
    refine z_iconst hG dX9_isTooDear_7 rfl ?_
    refine z_iret hG hE dX9_isTooDear_8 (by first | exact Or.inl rfl | exact Or.inr rfl | (show _ ∨ _; omega)) ?_
    exact ⟨0, rfl, rfl, Or.inl rfl, ⟨fun z => absurd z (by decide), fun z => absurd z.1 (by omega)⟩⟩
set_option maxRecDepth 20000 in
theorem ct_X9_offer (l : Launch) (g : zG) {mem : zM} {s t w R0 R1 R2 : Int} (hsea : zsea mem) (h50 : 1 ≤ mem 36 0 0 0) (hs : 0 ≤ s ∧ s ≤ 2000) (ht : 0 ≤ t ∧ t ≤ 2000) (hw : 0 ≤ w ∧ w ≤ 100000) (hR0 : mem 35 0 0 0 = R0) (hR1 : mem 35 0 0 1 = R1) (hR2 : mem 35 0 0 2 = R2) (hR : (0 ≤ R0 ∧ R0 < 3) ∧ (0 ≤ R1 ∧ R1 < 3) ∧ (0 ≤ R2 ∧ R2 < 3) ∧ R0 ≠ R1 ∧ R0 ≠ R2 ∧ R1 ≠ R2) : zMet l g Y_X9_offer [zr 9 0 0, zi s, zi t, zi w] mem (fun v m' => v = none ∧ (∀ (t' : Nat) (s' i' k' : Int), t' ≠ 9 → t' ≠ 33 → t' ≠ 34 → m' t' s' i' k' = mem t' s' i' k') ∧
    (((mem 9 0 0 4 = 0 ∨ zklt (zcost mem (zfil mem w s t) s t, zgram mem (zfil mem w s t) s t, zfil mem w s t + s + t, zvec R0 R1 (zfil mem w s t) s t 0, zvec R0 R1 (zfil mem w s t) s t 1) (mem 9 0 0 0, mem 9 0 0 1, mem 9 0 0 3, mem 33 0 0 0, mem 33 0 0 1)) ∧ m' 9 0 0 4 = 1 ∧ m' 9 0 0 0 = zcost mem (zfil mem w s t) s t ∧ m' 9 0 0 1 = zgram mem (zfil mem w s t) s t ∧ m' 9 0 0 3 = zfil mem w s t + s + t ∧ ∀ k : Int, 0 ≤ k → k < 3 → m' 33 0 0 k = zvec R0 R1 (zfil mem w s t) s t k) ∨
     (¬ (mem 9 0 0 4 = 0 ∨ zklt (zcost mem (zfil mem w s t) s t, zgram mem (zfil mem w s t) s t, zfil mem w s t + s + t, zvec R0 R1 (zfil mem w s t) s t 0, zvec R0 R1 (zfil mem w s t) s t 1) (mem 9 0 0 0, mem 9 0 0 1, mem 9 0 0 3, mem 33 0 0 0, mem 33 0 0 1)) ∧ (∀ k : Int, m' 9 0 0 k = mem 9 0 0 k) ∧ ∀ k : Int, m' 33 0 0 k = mem 33 0 0 k))) := by
  refine zMet_introF (by decide +kernel) (Nat.le_of_ble_eq_true rfl) (ls0 := [some (zr 9 0 0), some (zi s), some (zi t), some (zi w), none, none, none, none, none]) rfl fun X hG hE => ?_
  have hG : zGood X l g RX9 cX9_offer 1 9 := hG
  have hE : zEnd X (none) _ := hE
  have hs0 := hsea 0 (by decide) (by decide)
  have hs1 := hsea 1 (by decide) (by decide)
  have hs2 := hsea 2 (by decide) (by decide)
  have m3 := zmulb hs.1 hs.2 hs1.1.1 hs1.1.2
  have m4 := zmulb ht.1 ht.2 hs2.1.1 hs2.1.2
  have m1 := zmulb hs.1 hs.2 hs1.2.1 hs1.2.2
  have m2 := zmulb ht.1 ht.2 hs2.2.1 hs2.2.2
  have hmx : 0 ≤ zmx (w - s * mem 36 0 0 1 - t * mem 36 0 0 2) ∧ zmx (w - s * mem 36 0 0 1 - t * mem 36 0 0 2) ≤ 100000 := by unfold zmx; split <;> omega
  have hf : 0 ≤ zfil mem w s t ∧ zfil mem w s t ≤ 102000 := ⟨Int.ediv_nonneg (by omega) (by omega), Int.le_trans (Int.ediv_le_self _ (by omega)) (by omega)⟩
  have m5 := zmulb hf.1 hf.2 hs0.2.1 hs0.2.2
  have m6 := zmulb hf.1 hf.2 hs0.1.1 hs0.1.2
  refine z_iconst hG dX9_offer_0 rfl ?_
  refine z_iload_n (i := 3) hG dX9_offer_1 rfl rfl ?_
  refine z_iload_n (i := 1) hG dX9_offer_2 rfl rfl ?_
  refine z_aload_n (i := 0) hG dX9_offer_3 rfl rfl ?_
  refine z_get_9_7 hG dX9_offer_4 FL_X9_21 ?_
  refine z_iconst hG dX9_offer_7 rfl ?_
  refine z_iald hG dX9_offer_8 rfl rfl (by omega) (by omega) ?_
  refine z_imul hG dX9_offer_9 (by omega) (by omega) ?_
  refine z_isub hG dX9_offer_10 (by omega) (by omega) ?_
  refine z_iload_n (i := 2) hG dX9_offer_11 rfl rfl ?_
  refine z_aload_n (i := 0) hG dX9_offer_12 rfl rfl ?_
  refine z_get_9_7 hG dX9_offer_13 FL_X9_21 ?_
  refine z_iconst hG dX9_offer_16 rfl ?_
  refine z_iald hG dX9_offer_17 rfl rfl (by omega) (by omega) ?_
  refine z_imul hG dX9_offer_18 (by omega) (by omega) ?_
  refine z_isub hG dX9_offer_19 (by omega) (by omega) ?_
  refine z_max hG dX9_offer_20 LM_X9_71 (by decide) (Nat.le_of_ble_eq_true rfl) ?_
  refine z_istore hG dX9_offer_23 (by decide) (ls2 := [_, _, _, _, _, _, _, _, _]) rfl ?_
  refine z_iload hG dX9_offer_25 rfl ?_
  refine z_aload_n (i := 0) hG dX9_offer_27 rfl rfl ?_
  refine z_get_9_7 hG dX9_offer_28 FL_X9_21 ?_
  refine z_iconst hG dX9_offer_31 rfl ?_
  refine z_iald hG dX9_offer_32 rfl rfl (by omega) (by omega) ?_
  refine z_callN hG dX9_offer_33 LN_X9_78 (ct_X10_roundedUp l g (by exact hmx.1) (by omega) (by have := hmx.2; show zmx _ + _ < _; omega)) (by decide) rfl rfl (Nat.le_of_ble_eq_true rfl) ?_
  intro v9 m9 h9
  rw [h9.1, h9.2]
  clear h9 m9 v9
  refine z_istore hG dX9_offer_36 (by decide) (ls2 := [_, _, _, _, _, _, _, _, _]) rfl ?_
  refine z_aload_n (i := 0) hG dX9_offer_38 rfl rfl ?_
  refine z_iconst hG dX9_offer_39 rfl ?_
  refine z_iload hG dX9_offer_40 rfl ?_
  refine z_callV hG dX9_offer_42 LV_X9_81 (ct_putTried l g (by decide) hR0 hR.1) (by decide) rfl rfl rfl (Nat.le_of_ble_eq_true rfl) ?_
  intro v9 m9 h9
  rw [h9.1, h9.2]
  clear h9 m9 v9
  refine z_aload_n (i := 0) hG dX9_offer_45 rfl rfl ?_
  refine z_iconst hG dX9_offer_46 rfl ?_
  refine z_iload_n (i := 1) hG dX9_offer_47 rfl rfl ?_
  refine z_callV hG dX9_offer_48 LV_X9_81 (ct_putTried l g (by decide) (by simpa [zset] using hR1) hR.2.1) (by decide) rfl rfl rfl (Nat.le_of_ble_eq_true rfl) ?_
  intro v9 m9 h9
  rw [h9.1, h9.2]
  clear h9 m9 v9
  refine z_aload_n (i := 0) hG dX9_offer_51 rfl rfl ?_
  refine z_iconst hG dX9_offer_52 rfl ?_
  refine z_iload_n (i := 2) hG dX9_offer_53 rfl rfl ?_
  refine z_callV hG dX9_offer_54 LV_X9_81 (ct_putTried l g (by decide) (by simpa [zset] using hR2) hR.2.2.1) (by decide) rfl rfl rfl (Nat.le_of_ble_eq_true rfl) ?_
  intro v9 m9 h9
  rw [h9.1, h9.2]
  clear h9 m9 v9
  have e35 : ∀ j : Int, zset (zset (zset mem 34 0 0 R0 (zfil mem w s t)) 34 0 0 R1 s) 34 0 0 R2 t 36 0 0 j = mem 36 0 0 j := fun j => by simp [zset]
  have e36 : ∀ j : Int, zset (zset (zset mem 34 0 0 R0 (zfil mem w s t)) 34 0 0 R1 s) 34 0 0 R2 t 37 0 0 j = mem 37 0 0 j := fun j => by simp [zset]
  have e9 : ∀ j : Int, zset (zset (zset mem 34 0 0 R0 (zfil mem w s t)) 34 0 0 R1 s) 34 0 0 R2 t 9 0 0 j = mem 9 0 0 j := fun j => by simp [zset]
  have e33 : ∀ j : Int, zset (zset (zset mem 34 0 0 R0 (zfil mem w s t)) 34 0 0 R1 s) 34 0 0 R2 t 33 0 0 j = mem 33 0 0 j := fun j => by simp [zset]
  have e34 : ∀ j : Int, 0 ≤ j → j < 3 → zset (zset (zset mem 34 0 0 R0 (zfil mem w s t)) 34 0 0 R1 s) 34 0 0 R2 t 34 0 0 j = zvec R0 R1 (zfil mem w s t) s t j := fun j h0 h1 => by
    simp only [zset, zvec]
    grind
  have eo : ∀ (t' : Nat) (s' i' k' : Int), t' ≠ 34 → zset (zset (zset mem 34 0 0 R0 (zfil mem w s t)) 34 0 0 R1 s) 34 0 0 R2 t t' s' i' k' = mem t' s' i' k' := fun t' s' i' k' h => by simp [zset, h]
  generalize hm3 : zset (zset (zset mem 34 0 0 R0 (zfil mem w s t)) 34 0 0 R1 s) 34 0 0 R2 t = m3 at e35 e36 e9 e33 e34 eo
  rw [show zset (zset (zset mem 34 0 0 R0 (((if 0 < w - s * mem 36 0 0 1 - t * mem 36 0 0 2 then w - s * mem 36 0 0 1 - t * mem 36 0 0 2 else 0) + mem 36 0 0 0 - 1) / mem 36 0 0 0)) 34 0 0 R1 s) 34 0 0 R2 t = m3 from hm3]
  rw [show ((if 0 < w - s * mem 36 0 0 1 - t * mem 36 0 0 2 then w - s * mem 36 0 0 1 - t * mem 36 0 0 2 else 0) + mem 36 0 0 0 - 1) / mem 36 0 0 0 = zfil mem w s t from rfl]
  refine z_iload hG dX9_offer_57 rfl ?_
  refine z_aload_n (i := 0) hG dX9_offer_59 rfl rfl ?_
  refine z_get_9_8 hG dX9_offer_60 FL_X9_24 ?_
  refine z_iconst hG dX9_offer_63 rfl ?_
  refine z_iald hG dX9_offer_64 rfl rfl (by omega) (by omega) ?_
  rw [e36]
  refine z_imul hG dX9_offer_65 (by omega) (by omega) ?_
  refine z_iload_n (i := 1) hG dX9_offer_66 rfl rfl ?_
  refine z_aload_n (i := 0) hG dX9_offer_67 rfl rfl ?_
  refine z_get_9_8 hG dX9_offer_68 FL_X9_24 ?_
  refine z_iconst hG dX9_offer_71 rfl ?_
  refine z_iald hG dX9_offer_72 rfl rfl (by omega) (by omega) ?_
  rw [e36]
  refine z_imul hG dX9_offer_73 (by omega) (by omega) ?_
  refine z_iadd hG dX9_offer_74 (by omega) (by omega) ?_
  refine z_iload_n (i := 2) hG dX9_offer_75 rfl rfl ?_
  refine z_aload_n (i := 0) hG dX9_offer_76 rfl rfl ?_
  refine z_get_9_8 hG dX9_offer_77 FL_X9_24 ?_
  refine z_iconst hG dX9_offer_80 rfl ?_
  refine z_iald hG dX9_offer_81 rfl rfl (by omega) (by omega) ?_
  rw [e36]
  refine z_imul hG dX9_offer_82 (by omega) (by omega) ?_
  refine z_iadd hG dX9_offer_83 (by omega) (by omega) ?_
  refine z_istore hG dX9_offer_84 (by decide) (ls2 := [_, _, _, _, _, _, _, _, _]) rfl ?_
  refine z_iload hG dX9_offer_86 rfl ?_
  refine z_aload_n (i := 0) hG dX9_offer_88 rfl rfl ?_
  refine z_get_9_7 hG dX9_offer_89 FL_X9_21 ?_
  refine z_iconst hG dX9_offer_92 rfl ?_
  refine z_iald hG dX9_offer_93 rfl rfl (by omega) (by omega) ?_
  rw [e35]
  refine z_imul hG dX9_offer_94 (by omega) (by omega) ?_
  refine z_iload_n (i := 1) hG dX9_offer_95 rfl rfl ?_
  refine z_aload_n (i := 0) hG dX9_offer_96 rfl rfl ?_
  refine z_get_9_7 hG dX9_offer_97 FL_X9_21 ?_
  refine z_iconst hG dX9_offer_100 rfl ?_
  refine z_iald hG dX9_offer_101 rfl rfl (by omega) (by omega) ?_
  rw [e35]
  refine z_imul hG dX9_offer_102 (by omega) (by omega) ?_
  refine z_iadd hG dX9_offer_103 (by omega) (by omega) ?_
  refine z_iload_n (i := 2) hG dX9_offer_104 rfl rfl ?_
  refine z_aload_n (i := 0) hG dX9_offer_105 rfl rfl ?_
  refine z_get_9_7 hG dX9_offer_106 FL_X9_21 ?_
  refine z_iconst hG dX9_offer_109 rfl ?_
  refine z_iald hG dX9_offer_110 rfl rfl (by omega) (by omega) ?_
  rw [e35]
  refine z_imul hG dX9_offer_111 (by omega) (by omega) ?_
  refine z_iadd hG dX9_offer_112 (by omega) (by omega) ?_
  refine z_istore hG dX9_offer_113 (by decide) (ls2 := [_, _, _, _, _, _, _, _, _]) rfl ?_
  refine z_iload hG dX9_offer_115 rfl ?_
  refine z_iload_n (i := 1) hG dX9_offer_117 rfl rfl ?_
  refine z_iadd hG dX9_offer_118 (by omega) (by omega) ?_
  refine z_iload_n (i := 2) hG dX9_offer_119 rfl rfl ?_
  refine z_iadd hG dX9_offer_120 (by omega) (by omega) ?_
  refine z_istore hG dX9_offer_121 (by decide) (ls2 := [_, _, _, _, _, _, _, _, _]) rfl ?_
  refine z_aload_n (i := 0) hG dX9_offer_123 rfl rfl ?_
  refine z_getI hG dX9_offer_124 FL_X9_50 rfl rfl (kk := 4) rfl ?_
  rw [e9]
  refine z_if_eq hG dX9_offer_127 (tgt := 143) rfl (fun c127 => ?_) (fun c127 => ?_)
  · try simp only [zite_eq0, ne_eq, Classical.not_not] at c127
    refine z_aload_n (i := 0) hG dX9_offer_143 rfl rfl ?_
    refine z_iconst hG dX9_offer_144 rfl ?_
    refine z_putB hG dX9_offer_145 FP_X9_50 rfl rfl (kk := 4) rfl (by omega) ?_
    refine z_aload_n (i := 0) hG dX9_offer_148 rfl rfl ?_
    refine z_iload hG dX9_offer_149 rfl ?_
    refine z_put hG dX9_offer_151 FP_X9_74 rfl rfl (kk := 0) rfl ?_
    refine z_aload_n (i := 0) hG dX9_offer_154 rfl rfl ?_
    refine z_iload hG dX9_offer_155 rfl ?_
    refine z_put hG dX9_offer_157 FP_X9_88 rfl rfl (kk := 1) rfl ?_
    refine z_aload_n (i := 0) hG dX9_offer_160 rfl rfl ?_
    refine z_iload hG dX9_offer_161 rfl ?_
    refine z_put hG dX9_offer_163 FP_X9_91 rfl rfl (kk := 3) rfl ?_
    refine z_aload_n (i := 0) hG dX9_offer_166 rfl rfl ?_
    refine z_get_9_5 hG dX9_offer_167 FL_X9_15 ?_
    refine z_iconst hG dX9_offer_170 rfl ?_
    refine z_aload_n (i := 0) hG dX9_offer_171 rfl rfl ?_
    refine z_get_9_2 hG dX9_offer_172 FL_X9_9 ?_
    refine z_iconst hG dX9_offer_175 rfl ?_
    refine z_iconst hG dX9_offer_176 rfl ?_
    refine z_copy hG dX9_offer_177 LC_X9_94 (by decide) (Nat.le_of_ble_eq_true rfl) rfl rfl rfl rfl (by omega) (by omega) (by omega) (by omega) (by omega) ?_
    refine z_vret hG hE dX9_offer_180 ?_
    refine ⟨rfl, fun t' s' i' k' h1 h2 h3 => ?_, Or.inl ⟨?_, ?_, ?_, ?_, ?_, fun k h0 h1 => ?_⟩⟩
    · simp only [zcpy, zset, h1, h2, false_and, if_false]
      exact eo t' s' i' k' h3
    · first | exact Or.inl c127 | exact Or.inr (hiff.mp (by omega))
    · simp [zset, zcpy]
    · simp [zset, zcpy]; rfl
    · simp [zset, zcpy]; rfl
    · simp [zset, zcpy]
    · simp only [zset, zcpy]
      rw [if_pos ⟨trivial, trivial, trivial, by omega, by omega⟩]
      simp
      exact e34 k h0 h1
  · try simp only [zite_eq0, ne_eq, Classical.not_not] at c127
    refine z_aload_n (i := 0) hG dX9_offer_130 rfl rfl ?_
    refine z_iload hG dX9_offer_131 rfl ?_
    refine z_iload hG dX9_offer_133 rfl ?_
    refine z_iload hG dX9_offer_135 rfl ?_
    refine z_callV hG dX9_offer_137 LV_X9_85 (ct_X9_isBetter l g) (by decide) rfl rfl rfl (Nat.le_of_ble_eq_true rfl) ?_
    rintro v9 m9 ⟨r9, rfl, rfl, hr9, hiff⟩
    rw [e9, e9, e9, e33, e33, e34 0 (by decide) (by decide), e34 1 (by decide) (by decide)] at hiff
    refine z_if_eq hG dX9_offer_140 (tgt := 180) rfl (fun c140 => ?_) (fun c140 => ?_)
    · try simp only [zite_eq0, ne_eq, Classical.not_not] at c140
      refine z_vret hG hE dX9_offer_180 ?_
      refine ⟨rfl, fun t' s' i' k' h1 h2 h3 => eo t' s' i' k' h3, Or.inr ⟨fun z => ?_, e9, e33⟩⟩
      rcases z with z | z
      · exact absurd z c127
      · have := hiff.mpr z
        omega
    · try simp only [zite_eq0, ne_eq, Classical.not_not] at c140
      refine z_aload_n (i := 0) hG dX9_offer_143 rfl rfl ?_
      refine z_iconst hG dX9_offer_144 rfl ?_
      refine z_putB hG dX9_offer_145 FP_X9_50 rfl rfl (kk := 4) rfl (by omega) ?_
      refine z_aload_n (i := 0) hG dX9_offer_148 rfl rfl ?_
      refine z_iload hG dX9_offer_149 rfl ?_
      refine z_put hG dX9_offer_151 FP_X9_74 rfl rfl (kk := 0) rfl ?_
      refine z_aload_n (i := 0) hG dX9_offer_154 rfl rfl ?_
      refine z_iload hG dX9_offer_155 rfl ?_
      refine z_put hG dX9_offer_157 FP_X9_88 rfl rfl (kk := 1) rfl ?_
      refine z_aload_n (i := 0) hG dX9_offer_160 rfl rfl ?_
      refine z_iload hG dX9_offer_161 rfl ?_
      refine z_put hG dX9_offer_163 FP_X9_91 rfl rfl (kk := 3) rfl ?_
      refine z_aload_n (i := 0) hG dX9_offer_166 rfl rfl ?_
      refine z_get_9_5 hG dX9_offer_167 FL_X9_15 ?_
      refine z_iconst hG dX9_offer_170 rfl ?_
      refine z_aload_n (i := 0) hG dX9_offer_171 rfl rfl ?_
      refine z_get_9_2 hG dX9_offer_172 FL_X9_9 ?_
      refine z_iconst hG dX9_offer_175 rfl ?_
      refine z_iconst hG dX9_offer_176 rfl ?_
      refine z_copy hG dX9_offer_177 LC_X9_94 (by decide) (Nat.le_of_ble_eq_true rfl) rfl rfl rfl rfl (by omega) (by omega) (by omega) (by omega) (by omega) ?_
      refine z_vret hG hE dX9_offer_180 ?_
      refine ⟨rfl, fun t' s' i' k' h1 h2 h3 => ?_, Or.inl ⟨?_, ?_, ?_, ?_, ?_, fun k h0 h1 => ?_⟩⟩
      · simp only [zcpy, zset, h1, h2, false_and, if_false]
        exact eo t' s' i' k' h3
      · first | exact Or.inl c127 | exact Or.inr (hiff.mp (by omega))
      · simp [zset, zcpy]
      · simp [zset, zcpy]; rfl
      · simp [zset, zcpy]; rfl
      · simp [zset, zcpy]
      · simp only [zset, zcpy]
        rw [if_pos ⟨trivial, trivial, trivial, by omega, by omega⟩]
        simp
        exact e34 k h0 h1
