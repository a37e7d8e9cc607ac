theorem zsum_sh {f : Int → Int} : ∀ n : Nat, zsum (n + 1) f = f 0 + zsum n (fun j => f (j + 1))
  | 0 => by simp [zsum]
  | n + 1 => by
    rw [zsum, zsum_sh n, zsum]
    simp only [Int.natCast_add, Int.cast_ofNat_Int]
    omega
theorem zsum_rot1 {f : Int → Int} (n : Nat) : zsum (n + 1) (fun j => f ((j + 1) % ((n + 1 : Nat) : Int))) = zsum (n + 1) f := by
  rw [zsum_sh (f := f), zsum]
  have e : ((n : Int) + 1) % ((n + 1 : Nat) : Int) = 0 := by rw [show ((n : Int) + 1) = ((n + 1 : Nat) : Int) by omega]; exact Int.emod_self
  rw [e, zsum_congr n (f' := fun j => f (j + 1)) (fun j j0 j1 => by rw [Int.emod_eq_of_lt (by omega) (by omega)])]
  omega
/-- a ring's sum begins anywhere -/
theorem zsum_rot {f : Int → Int} (n : Nat) : ∀ t : Nat, zsum (n + 1) (fun j => f ((t + j) % ((n + 1 : Nat) : Int))) = zsum (n + 1) f
  | 0 => zsum_congr (n + 1) (fun j j0 j1 => by
    show f ((((0 : Nat) : Int) + j) % ((n + 1 : Nat) : Int)) = f j
    rw [show (((0 : Nat) : Int) + j) = j by omega, Int.emod_eq_of_lt j0 j1])
  | t + 1 => by
    refine Eq.trans ?_ ((zsum_rot1 (f := fun j => f ((t + j) % ((n + 1 : Nat) : Int))) n).trans (zsum_rot n t))
    refine zsum_congr (n + 1) (fun j j0 j1 => ?_)
    have e : ((t : Int) + (j + 1) % ((n + 1 : Nat) : Int)) % ((n + 1 : Nat) : Int) = (((t + 1 : Nat) : Int) + j) % ((n + 1 : Nat) : Int) := by
      rw [Int.add_emod_emod]
      congr 1
      omega
    simp only [e]
/-- the two rings of lots hold the same -/
theorem zring {f g : Int → Int} {t : Int} (ht : 0 ≤ t) (h : ∀ d : Int, 1 ≤ d → d ≤ 30 → f ((t + d) % 31) = g ((t + d) % 30)) (h0 : f (t % 31) = 0) : zsum 31 f = zsum 30 g := by
  obtain ⟨t, rfl⟩ := Int.eq_ofNat_of_zero_le ht
  have e1 := zsum_rot (f := f) 30 t
  have e2 := zsum_rot (f := g) 29 (t + 1)
  rw [← e1, ← e2, zsum_sh, show ((t : Int) + 0) % ((30 + 1 : Nat) : Int) = (t : Int) % 31 by simp, h0, Int.zero_add]
  refine zsum_congr 30 (fun j j0 j1 => ?_)
  have := h (j + 1) (by omega) (by omega)
  have e : (((t + 1 : Nat) : Int) + j) % ((29 + 1 : Nat) : Int) = ((t : Int) + (j + 1)) % 30 := by
    congr 1
    omega
  simp only [e]
  exact this
/-- what a related row's lots are -/
theorem zRi_B {a : zM} {i : Int} {f : Int → Int} {B : Int} (hd : 0 ≤ a 2 0 0 0) (h : zRi a 0 i f) (hB : ∀ j : Int, 0 ≤ j → j < 30 → 0 ≤ a 14 0 i j ∧ a 14 0 i j ≤ B) : ∀ j : Int, 0 ≤ j → j < 31 → 0 ≤ f (6 + 46 * i + (15 + j)) ∧ f (6 + 46 * i + (15 + j)) ≤ B := by
  intro j j0 j1
  obtain ⟨-, -, -, -, -, -, -, -, -, -, -, a11, a12⟩ := h
  by_cases e : j = a 2 0 0 0 % 31
  · have := hB 0 (by decide) (by decide)
    rw [e, a12]
    omega
  · have := a11 ((j - a 2 0 0 0) % 31) (by omega) (by omega)
    rw [show (a 2 0 0 0 + (j - a 2 0 0 0) % 31) % 31 = j by omega] at this
    rw [this]
    exact hB _ (by omega) (by omega)
theorem zRi_sum {a : zM} {i : Int} {f : Int → Int} (hd : 0 ≤ a 2 0 0 0) (h : zRi a 0 i f) : zsum 31 (fun j => f (6 + 46 * i + (15 + j))) = zsum 30 (a 14 0 i) := zring (f := fun j => f (6 + 46 * i + (15 + j))) hd h.2.2.2.2.2.2.2.2.2.2.2.1 h.2.2.2.2.2.2.2.2.2.2.2.2
theorem zRi_cnt {a : zM} {i : Int} {f : Int → Int} (hd : 0 ≤ a 2 0 0 0) (h : zRi a 0 i f) : zsum 31 (fun j => if 0 < f (6 + 46 * i + (15 + j)) then 1 else 0) = zsum 30 (fun j => if 0 < a 14 0 i j then 1 else 0) := zring (f := fun j => if 0 < f (6 + 46 * i + (15 + j)) then 1 else 0) hd (fun d d0 d1 => by simp only [h.2.2.2.2.2.2.2.2.2.2.2.1 d d0 d1]) (by simp only [h.2.2.2.2.2.2.2.2.2.2.2.2]; decide)
set_option maxRecDepth 20000 in
theorem ct_X11_ingredient (l : Launch) (g : zG) {a m : zM} {B : Int} {d : Int} (hI : zInv B a) (hB : B ≤ 11900000) (hR : zRM a m) : zMet l g Y_X11_ingredient [zr 11 0 0, zi d] m (fun v m' => v = some (zi (zk_ingredient d a).1) ∧ zRM (zk_ingredient d a).2 m' ∧ zKt m' m) := by
  refine zMet_introF (by decide +kernel) (Nat.le_of_ble_eq_true rfl) (ls0 := [some (zr 11 0 0), some (zi d), none]) rfl fun X hG hE => ?_
  have hG : zGood X l g RX11 cX11_ingredient 1 3 := hG
  have hE : zEnd X (some .int) _ := hE
  have hI0 := zInv0 hI
  obtain ⟨hday, hhan, hing, hrcp, hrec, hboo, hrow, hrow2, hstp⟩ := id hI0
  obtain ⟨⟨e0, e1, e2, e3, e4, e5, eI, eZ, eR⟩, eN, eP, eS, e6, eT⟩ := id hR
  have hb : ∀ (t : Nat) (i k : Int), t ≠ 1 → zrecd a t 0 i k = a t 0 i k := fun t i k ht => zrecd_0 hI.1.1.1 ht
  have hK := zRM_keep hI.1.1 hI.1.2 (fun s s0 s1 => (hI.2.2.1 s s0 s1).1.1) hR
  refine z_iload_n (i := 1) hG dX11_ingredient_0 rfl rfl ?_
  refine z_iconst hG dX11_ingredient_1 rfl ?_
  refine z_bipush hG dX11_ingredient_2 rfl ?_
  refine z_callS hG dX11_ingredient_4 LS_X11_76 (ct_X11_in l g) (by decide) rfl rfl (Nat.le_of_ble_eq_true rfl) ?_
  intro v9 m9 h9
  rw [h9.1, h9.2]
  clear h9 m9 v9
  refine z_if_ne hG dX11_ingredient_7 (tgt := 13) rfl (fun c7 => ?_) (fun c7 => ?_)
  · try simp only [zite_eq0, ne_eq, Classical.not_not] at c7
    refine z_aload_n (i := 0) hG dX11_ingredient_13 rfl rfl ?_
    refine z_get_11_0 hG dX11_ingredient_14 FL_X11_7 ?_
    refine z_iconst hG dX11_ingredient_17 rfl ?_
    refine z_iald hG dX11_ingredient_18 rfl rfl (by omega) (by omega) ?_
    rw [e1]
    refine z_bipush hG dX11_ingredient_19 rfl ?_
    refine z_icmp_ne hG dX11_ingredient_21 (tgt := 27) rfl (fun c21 => ?_) (fun c21 => ?_)
    · refine z_aload_n (i := 0) hG dX11_ingredient_27 rfl rfl ?_
      refine z_callV hG dX11_ingredient_28 LV_X11_80 (ct_X11_keep l g (by rw [eN]; exact hI.1.2)) (by decide) rfl rfl rfl (Nat.le_of_ble_eq_true rfl) ?_
      intro v9 m9 h9
      rw [h9.1, h9.2]
      clear h9 m9 v9
      have hkt : zKt (zkp m) m := zKt_kp
      have h45 : ∀ q, zkp m 45 0 0 q = m 45 0 0 q := fun q => zkp_o (by decide) (Or.inl (by decide))
      generalize zkp m = n at *
      have n1 : n 45 0 0 1 = a 2 0 0 4 := by rw [h45, e1]
      refine z_aload_n (i := 0) hG dX11_ingredient_31 rfl rfl ?_
      refine z_get_11_0 hG dX11_ingredient_32 FL_X11_7 ?_
      refine z_iconst hG dX11_ingredient_35 rfl ?_
      refine z_iald hG dX11_ingredient_36 rfl rfl (by omega) (by omega) ?_
      rw [n1]
      refine z_istore_n (i := 2) hG dX11_ingredient_37 rfl (by decide) (ls2 := [_, _, _]) rfl ?_
      refine z_aload_n (i := 0) hG dX11_ingredient_38 rfl rfl ?_
      refine z_get_11_0 hG dX11_ingredient_39 FL_X11_7 ?_
      refine z_iconst hG dX11_ingredient_42 rfl ?_
      refine z_dup2 hG dX11_ingredient_43 ?_
      refine z_iald hG dX11_ingredient_44 rfl rfl (by omega) (by omega) ?_
      rw [n1]
      refine z_iconst hG dX11_ingredient_45 rfl ?_
      refine z_iadd hG dX11_ingredient_46 (by omega) (by omega) ?_
      refine z_iast hG dX11_ingredient_47 rfl rfl (by omega) (by omega) ?_
      refine z_aload_n (i := 0) hG dX11_ingredient_48 rfl rfl ?_
      refine z_iload_n (i := 2) hG dX11_ingredient_49 rfl rfl ?_
      refine z_iconst hG dX11_ingredient_50 rfl ?_
      refine z_iload_n (i := 1) hG dX11_ingredient_51 rfl rfl ?_
      refine z_callV hG dX11_ingredient_52 LV_X11_83 (ct_X11_lay l g ⟨by omega, by omega⟩ ⟨by omega, by omega⟩) (by decide) rfl rfl rfl (Nat.le_of_ble_eq_true rfl) ?_
      intro v9 m9 h9
      rw [h9.1, h9.2]
      clear h9 m9 v9
      refine z_aload_n (i := 0) hG dX11_ingredient_55 rfl rfl ?_
      refine z_iload_n (i := 2) hG dX11_ingredient_56 rfl rfl ?_
      refine z_iconst hG dX11_ingredient_57 rfl ?_
      refine z_iconst hG dX11_ingredient_58 rfl ?_
      refine z_callV hG dX11_ingredient_59 LV_X11_83 (ct_X11_lay l g ⟨by omega, by omega⟩ ⟨by omega, by omega⟩) (by decide) rfl rfl rfl (Nat.le_of_ble_eq_true rfl) ?_
      intro v9 m9 h9
      rw [h9.1, h9.2]
      clear h9 m9 v9
      refine z_aload_n (i := 0) hG dX11_ingredient_62 rfl rfl ?_
      refine z_iload_n (i := 2) hG dX11_ingredient_63 rfl rfl ?_
      refine z_iconst hG dX11_ingredient_64 rfl ?_
      refine z_bipush hG dX11_ingredient_65 rfl ?_
      refine z_callV hG dX11_ingredient_67 LV_X11_83 (ct_X11_lay l g ⟨by omega, by omega⟩ ⟨by omega, by omega⟩) (by decide) rfl rfl rfl (Nat.le_of_ble_eq_true rfl) ?_
      intro v9 m9 h9
      rw [h9.1, h9.2]
      clear h9 m9 v9
      refine z_iload_n (i := 2) hG dX11_ingredient_70 rfl rfl ?_
      refine z_iret hG hE dX11_ingredient_71 trivial ?_
      obtain ⟨A, hA⟩ : ∃ A, A = (zk_ingredient d a).2 := ⟨_, rfl⟩
      have hv : (zk_ingredient d a).1 = a 2 0 0 4 := by
        unfold zk_ingredient
        rw [if_neg (by omega), if_neg (by omega)]
      rw [hv, ← hA]
      unfold zk_ingredient at hA
      rw [if_neg (by omega), if_neg (by omega)] at hA
      simp only at hA
      have hz : ∀ q : Int, 6 + 46 * a 2 0 0 4 ≤ q → q < 52 + 46 * a 2 0 0 4 → n 45 0 0 q = 0 := fun q q0 q1 => by
        have := hK.1.2.2.2.2.2.2.2.1 (a 2 0 0 4) (q - 6 - 46 * a 2 0 0 4) (by omega) (by omega) (by rw [hb 2 _ _ (by decide)]; exact Int.le_refl _) (by omega) (by omega)
        rw [show 6 + 46 * a 2 0 0 4 + (q - 6 - 46 * a 2 0 0 4) = q by omega] at this
        exact this
      have hAo : ∀ (t : Nat) (s i k : Int), (s ≠ 0 ∨ (t ≠ 2 ∧ (i ≠ a 2 0 0 4 ∨ (t ≠ 3 ∧ t ≠ 14))) ∨ (t = 2 ∧ k ≠ 4)) → A t s i k = zrecd a t s i k := fun t s i k hh => by
        rw [hA]; simp only [zset, zfill]; (repeat rw [if_neg (by omega)])
      have hA4 : A 2 0 0 4 = a 2 0 0 4 + 1 := by rw [hA]; simp [zset]
      have hA3 : A 3 0 (a 2 0 0 4) 0 = d ∧ A 3 0 (a 2 0 0 4) 1 = 1 ∧ A 3 0 (a 2 0 0 4) 2 = 0 ∧ A 3 0 (a 2 0 0 4) 5 = -6 ∧ A 3 0 (a 2 0 0 4) 6 = -6 ∧ A 3 0 (a 2 0 0 4) 8 = 0 ∧ A 3 0 (a 2 0 0 4) 9 = 0 ∧ A 3 0 (a 2 0 0 4) 10 = 0 ∧ A 3 0 (a 2 0 0 4) 11 = 0 := by rw [hA]; simp [zset, zfill]
      have hA14 : ∀ q : Int, 0 ≤ q → q < 30 → A 14 0 (a 2 0 0 4) q = 0 := fun q q0 q1 => by
        rw [hA]; simp only [zset, zfill]
        rw [if_neg (by omega), if_neg (by omega), if_neg (by omega), if_neg (by omega), if_neg (by omega), if_pos (by first | omega | (simp; done) | (simp; omega))]
      clear hA
      obtain ⟨p0, p1, p2, p5, p6, p8, p9, p10, p11⟩ := hA3
      refine ⟨rfl, zRM_now hK (fun t s i k hh => hAo t s i k (by omega)) (fun t k hh => by simp only [zset]; (repeat rw [if_neg (by omega)])) (zRel_i (a 2 0 0 4) (by omega) hK.1 (fun q h1 h2 => by simp only [zset]; (repeat rw [if_neg (by omega)])) (fun t j k hh => hAo t 0 j k (by omega)) (by rw [hA4]; simp only [zset]; rw [if_neg (by omega), if_neg (by omega), if_neg (by omega), if_pos (by first | omega | (simp; done) | (simp; omega))]) (fun q h1 => by rw [hA4, hb 2 _ _ (by decide)]; omega) (by rw [hA4]; omega) ?_), zKt_set (zKt_set (zKt_set (zKt_set hkt (Or.inr (by decide))) (Or.inr (by decide))) (Or.inr (by decide))) (Or.inr (by decide))⟩
      rw [zRi, p0, p1, p2, p5, p6, p8, p9, p10, p11]
      refine ⟨?_, ?_, ?_, ?_, fun q0 => by omega, fun _ => rfl, ?_, ?_, ?_, ?_, fun k k0 k1 k2 => by omega, fun d d0 d1 => ?_, ?_⟩
      · simp only [zset]
        rw [if_neg (by omega), if_neg (by omega), if_pos (by first | omega | (simp; done) | (simp; omega))]
      · simp only [zset]
        rw [if_neg (by omega), if_pos (by first | omega | (simp; done) | (simp; omega))]
      · simp only [zset]; (repeat rw [if_neg (by omega)]); exact hz _ (by omega) (by omega)
      · simp [zset]
      · simp only [zset]; (repeat rw [if_neg (by omega)]); exact hz _ (by omega) (by omega)
      · simp only [zset]; (repeat rw [if_neg (by omega)]); exact hz _ (by omega) (by omega)
      · simp only [zset]; (repeat rw [if_neg (by omega)]); exact hz _ (by omega) (by omega)
      · simp only [zset]; (repeat rw [if_neg (by omega)]); exact hz _ (by omega) (by omega)
      · rw [hA14 _ (by omega) (by omega)]
        simp only [zset]; (repeat rw [if_neg (by omega)]); exact hz _ (by omega) (by omega)
      · simp only [zset]; (repeat rw [if_neg (by omega)]); exact hz _ (by omega) (by omega)
    · refine z_bipush hG dX11_ingredient_24 rfl ?_
      refine z_iret hG hE dX11_ingredient_26 trivial ?_
      unfold zk_ingredient
      repeat (first | rw [if_pos (by omega)] | rw [if_neg (by omega)])
      exact ⟨rfl, hR, zKt_rf⟩
  · try simp only [zite_eq0, ne_eq, Classical.not_not] at c7
    refine z_bipush hG dX11_ingredient_10 rfl ?_
    refine z_iret hG hE dX11_ingredient_12 trivial ?_
    unfold zk_ingredient
    repeat (first | rw [if_pos (by omega)] | rw [if_neg (by omega)])
    exact ⟨rfl, hR, zKt_rf⟩
set_option maxRecDepth 20000 in
theorem ct_X11_tin (l : Launch) (g : zG) {a m : zM} {B : Int} {i z p : Int} (hI : zInv B a) (hB : B ≤ 11900000) (hR : zRM a m) : zMet l g Y_X11_tin [zr 11 0 0, zi i, zi z, zi p] m (fun v m' => v = some (zi (zk_tin i z p a).1) ∧ zRM (zk_tin i z p a).2 m' ∧ zKt m' m) := by
  refine zMet_introF (by decide +kernel) (Nat.le_of_ble_eq_true rfl) (ls0 := [some (zr 11 0 0), some (zi i), some (zi z), some (zi p), none, none]) rfl fun X hG hE => ?_
  have hG : zGood X l g RX11 cX11_tin 2 6 := hG
  have hE : zEnd X (some .int) _ := hE
  have hI0 := zInv0 hI
  obtain ⟨hday, hhan, hing, hrcp, hrec, hboo, hrow, hrow2, hstp⟩ := id hI0
  obtain ⟨⟨e0, e1, e2, e3, e4, e5, eI, eZ, eR⟩, eN, eP, eS, e6, eT⟩ := id hR
  have hb : ∀ (t : Nat) (i k : Int), t ≠ 1 → zrecd a t 0 i k = a t 0 i k := fun t i k ht => zrecd_0 hI.1.1.1 ht
  have hK := zRM_keep hI.1.1 hI.1.2 (fun s s0 s1 => (hI.2.2.1 s s0 s1).1.1) hR

  have loop : (0 ≤ i ∧ i < a 2 0 0 4) → (50 ≤ z ∧ z ≤ 2000) → (1 ≤ p ∧ p ≤ 999) → a 3 0 i 2 < 3 → ∀ (n : Nat) (k : Int), 0 ≤ k → k + n = a 3 0 i 2 → (∀ j : Int, 0 ≤ j → j < k → a 12 0 i j ≠ z) → zZ X 56 [some (zr 11 0 0), some (zi i), some (zi z), some (zi p), some (zi (a 3 0 i 2)), some (zi k)] [] m := by
    intro hi hz hp hk3 n
    induction n with
    | zero =>
      intro k hk0 hk hno
      obtain rfl : k = a 3 0 i 2 := by omega
      refine z_iload hG dX11_tin_56 rfl ?_
      refine z_iload hG dX11_tin_58 rfl ?_
      refine z_icmp_ge hG dX11_tin_60 (tgt := 83) rfl (fun c60 => ?_) (fun c60 => ?_)
      · refine z_aload_n (i := 0) hG dX11_tin_83 rfl rfl ?_
        refine z_callV hG dX11_tin_84 LV_X11_80 (ct_X11_keep l g (by rw [eN]; exact hI.1.2)) (by decide) rfl rfl rfl (Nat.le_of_ble_eq_true rfl) ?_
        intro v9 m9 h9
        rw [h9.1, h9.2]
        clear h9 m9 v9
        have hkt : zKt (zkp m) m := zKt_kp
        have h45 : ∀ q, zkp m 45 0 0 q = m 45 0 0 q := fun q => zkp_o (by decide) (Or.inl (by decide))
        generalize zkp m = n at *
        refine z_aload_n (i := 0) hG dX11_tin_87 rfl rfl ?_
        refine z_iload_n (i := 1) hG dX11_tin_88 rfl rfl ?_
        refine z_bipush hG dX11_tin_89 rfl ?_
        refine z_iconst hG dX11_tin_91 rfl ?_
        refine z_iload hG dX11_tin_92 rfl ?_
        refine z_imul hG dX11_tin_94 (by omega) (by omega) ?_
        refine z_iadd hG dX11_tin_95 (by omega) (by omega) ?_
        refine z_iload_n (i := 2) hG dX11_tin_96 rfl rfl ?_
        refine z_callV hG dX11_tin_97 LV_X11_83 (ct_X11_lay l g ⟨by omega, by omega⟩ ⟨by omega, by omega⟩) (by decide) rfl rfl rfl (Nat.le_of_ble_eq_true rfl) ?_
        intro v9 m9 h9
        rw [h9.1, h9.2]
        clear h9 m9 v9
        refine z_aload_n (i := 0) hG dX11_tin_100 rfl rfl ?_
        refine z_iload_n (i := 1) hG dX11_tin_101 rfl rfl ?_
        refine z_bipush hG dX11_tin_102 rfl ?_
        refine z_iconst hG dX11_tin_104 rfl ?_
        refine z_iload hG dX11_tin_105 rfl ?_
        refine z_imul hG dX11_tin_107 (by omega) (by omega) ?_
        refine z_iadd hG dX11_tin_108 (by omega) (by omega) ?_
        refine z_iconst hG dX11_tin_109 rfl ?_
        refine z_iadd hG dX11_tin_110 (by omega) (by omega) ?_
        refine z_iload_n (i := 3) hG dX11_tin_111 rfl rfl ?_
        refine z_callV hG dX11_tin_112 LV_X11_83 (ct_X11_lay l g ⟨by omega, by omega⟩ ⟨by omega, by omega⟩) (by decide) rfl rfl rfl (Nat.le_of_ble_eq_true rfl) ?_
        intro v9 m9 h9
        rw [h9.1, h9.2]
        clear h9 m9 v9
        refine z_aload_n (i := 0) hG dX11_tin_115 rfl rfl ?_
        refine z_iload_n (i := 1) hG dX11_tin_116 rfl rfl ?_
        refine z_iconst hG dX11_tin_117 rfl ?_
        refine z_iload hG dX11_tin_118 rfl ?_
        refine z_iconst hG dX11_tin_120 rfl ?_
        refine z_iadd hG dX11_tin_121 (by omega) (by omega) ?_
        refine z_callV hG dX11_tin_122 LV_X11_83 (ct_X11_lay l g ⟨by omega, by omega⟩ ⟨by omega, by omega⟩) (by decide) rfl rfl rfl (Nat.le_of_ble_eq_true rfl) ?_
        intro v9 m9 h9
        rw [h9.1, h9.2]
        clear h9 m9 v9
        refine z_iload hG dX11_tin_125 rfl ?_
        refine z_iconst hG dX11_tin_127 rfl ?_
        refine z_iadd hG dX11_tin_128 (by omega) (by omega) ?_
        refine z_iret hG hE dX11_tin_129 trivial ?_
        obtain ⟨A, hA⟩ : ∃ A, A = (zk_tin i z p a).2 := ⟨_, rfl⟩
        have hcn : ¬ ((0 < a 3 0 i 2 ∧ a 12 0 i 0 = z) ∨ (1 < a 3 0 i 2 ∧ a 12 0 i 1 = z) ∨ (2 < a 3 0 i 2 ∧ a 12 0 i 2 = z)) := by
          rintro (q | q | q)
          · exact hno 0 (by decide) (by omega) q.2
          · exact hno 1 (by decide) (by omega) q.2
          · exact hno 2 (by decide) (by omega) q.2
        have hv : (zk_tin i z p a).1 = a 3 0 i 2 + 1 := by
          unfold zk_tin
          rw [if_neg (by omega), if_neg (by omega), if_neg (by omega), if_neg hcn]
        rw [hv, ← hA]
        unfold zk_tin at hA
        rw [if_neg (by omega), if_neg (by omega), if_neg (by omega), if_neg hcn] at hA
        simp only at hA
        refine ⟨rfl, ?_, zKt_set (zKt_set (zKt_set hkt (Or.inr (by decide))) (Or.inr (by decide))) (Or.inr (by decide))⟩
        rw [hA]
        have hk2 : zrecd a 3 0 i 2 = a 3 0 i 2 := hb 3 _ _ (by decide)
        have hb4 : i < zrecd a 2 0 0 4 := by rw [hb 2 _ _ (by decide)]; omega
        refine zRM_now hK (fun t s j k hh => by simp only [zset]; (repeat rw [if_neg (by omega)])) (fun t k hh => by simp only [zset]; (repeat rw [if_neg (by omega)])) (zRel_i i (by omega) hK.1 (fun q h1 h2 => by simp only [zset]; (repeat rw [if_neg (by omega)])) (fun t j k hh => by simp only [zset]; (repeat rw [if_neg (by omega)])) (by simp only [zset]; (repeat rw [if_neg (by omega)]); exact hK.1.2.1) (fun q h1 => by simp [zset]) (by simpa [zset] using hb4) ?_)
        obtain ⟨a0, a1, a2, a3, a4, a5, a6, a7, a8, a9, a10, a11, a12⟩ := hK.1.2.2.2.2.2.2.1 i (by omega) (by omega) hb4
        refine ⟨?_, ?_, ?_, ?_, ?_, ?_, ?_, ?_, ?_, ?_, fun k k0 k1 k2 => ?_, fun d d0 d1 => ?_, ?_⟩
        · simp only [zset]; (repeat rw [if_neg (by omega)]); exact a0
        · simp only [zset]; (repeat rw [if_neg (by omega)]); exact a1
        · simp [zset]
        · simp only [zset]; (repeat rw [if_neg (by omega)]); exact a3
        · simp only [zset]; (repeat rw [if_neg (by omega)]); exact a4
        · simp only [zset]; (repeat rw [if_neg (by omega)]); exact a5
        · simp only [zset]; (repeat rw [if_neg (by omega)]); exact a6
        · simp only [zset]; (repeat rw [if_neg (by omega)]); exact a7
        · simp only [zset]; (repeat rw [if_neg (by omega)]); exact a8
        · simp only [zset]; (repeat rw [if_neg (by omega)]); exact a9
        · simp [zset] at k2
          by_cases ck : k = a 3 0 i 2
          · subst ck
            refine ⟨?_, ?_⟩
            · simp only [zset]
              rw [if_neg (by omega), if_neg (by omega), if_pos (by first | omega | (simp; done) | (simp; omega)), if_neg (by omega), if_neg (by omega), if_pos (by first | omega | (simp; done) | (simp; omega))]
            · simp only [zset]
              rw [if_neg (by omega), if_pos (by first | omega | (simp; done) | (simp; omega)), if_neg (by omega), if_pos (by first | omega | (simp; done) | (simp; omega))]
          · have := a10 k k0 k1 (by omega)
            refine ⟨?_, ?_⟩
            · simp only [zset]; (repeat rw [if_neg (by omega)]); exact this.1
            · simp only [zset]; (repeat rw [if_neg (by omega)]); exact this.2
        · simp only [zset]; (repeat rw [if_neg (by omega)]); exact a11 d d0 d1
        · simp only [zset]; (repeat rw [if_neg (by omega)]); exact a12
      · exact absurd c60 (by omega)
    | succ n' ih =>
      intro k hk0 hk hno
      have ek := (eI i (by omega) (by omega) (by omega)).2.2.2.2.2.2.2.2.2.2.1 k hk0 (by omega) (by omega)
      refine z_iload hG dX11_tin_56 rfl ?_
      refine z_iload hG dX11_tin_58 rfl ?_
      refine z_icmp_ge hG dX11_tin_60 (tgt := 83) rfl (fun c60 => ?_) (fun c60 => ?_)
      · exact absurd c60 (by omega)
      · refine z_aload_n (i := 0) hG dX11_tin_63 rfl rfl ?_
        refine z_iload_n (i := 1) hG dX11_tin_64 rfl rfl ?_
        refine z_iload hG dX11_tin_65 rfl ?_
        refine z_callV hG dX11_tin_67 LV_X11_94 (ct_X11_sizeOf l g ⟨by omega, by omega⟩ ⟨by omega, by omega⟩) (by decide) rfl rfl rfl (Nat.le_of_ble_eq_true rfl) ?_
        intro v9 m9 h9
        rw [h9.1, h9.2]
        clear h9 m9 v9
        rw [ek.1]
        refine z_iload_n (i := 2) hG dX11_tin_70 rfl rfl ?_
        refine z_icmp_ne hG dX11_tin_71 (tgt := 77) rfl (fun c71 => ?_) (fun c71 => ?_)
        · refine z_iinc hG dX11_tin_77 (by decide) rfl (by omega) (by omega) (ls2 := [_, _, _, _, _, _]) rfl ?_
          refine z_goto hG dX11_tin_80 (tgt := 56) rfl ?_
          exact ih (k + 1) (by omega) (by omega) (fun j j0 j1 => by
            by_cases q : j = k
            · rw [q]; exact c71
            · exact hno j j0 (by omega))
        · refine z_bipush hG dX11_tin_74 rfl ?_
          refine z_iret hG hE dX11_tin_76 trivial ?_
          have hc : (0 < a 3 0 i 2 ∧ a 12 0 i 0 = z) ∨ (1 < a 3 0 i 2 ∧ a 12 0 i 1 = z) ∨ (2 < a 3 0 i 2 ∧ a 12 0 i 2 = z) := by
            rcases (show k = 0 ∨ k = 1 ∨ k = 2 by omega) with rfl | rfl | rfl
            · exact Or.inl ⟨by omega, c71⟩
            · exact Or.inr (Or.inl ⟨by omega, c71⟩)
            · exact Or.inr (Or.inr ⟨by omega, c71⟩)
          unfold zk_tin
          rw [if_neg (by omega), if_neg (by omega), if_neg (by omega), if_pos hc]
          exact ⟨rfl, hR, zKt_rf⟩
  refine z_aload_n (i := 0) hG dX11_tin_0 rfl rfl ?_
  refine z_iload_n (i := 1) hG dX11_tin_1 rfl rfl ?_
  refine z_callV hG dX11_tin_2 LV_X11_90 (ct_X11_isIngredient l g) (by decide) rfl rfl rfl (Nat.le_of_ble_eq_true rfl) ?_
  intro v9 m9 h9
  rw [h9.1, h9.2, e1]
  clear h9 m9 v9
  refine z_if_ne hG dX11_tin_5 (tgt := 10) rfl (fun c5 => ?_) (fun c5 => ?_)
  · try simp only [zite_eq0, ne_eq, Classical.not_not] at c5
    refine z_iload_n (i := 2) hG dX11_tin_10 rfl rfl ?_
    refine z_bipush hG dX11_tin_11 rfl ?_
    refine z_sipush hG dX11_tin_13 rfl ?_
    refine z_callS hG dX11_tin_16 LS_X11_76 (ct_X11_in l g) (by decide) rfl rfl (Nat.le_of_ble_eq_true rfl) ?_
    intro v9 m9 h9
    rw [h9.1, h9.2]
    clear h9 m9 v9
    refine z_if_eq hG dX11_tin_19 (tgt := 33) rfl (fun c19 => ?_) (fun c19 => ?_)
    · try simp only [zite_eq0, ne_eq, Classical.not_not] at c19
      refine z_bipush hG dX11_tin_33 rfl ?_
      refine z_iret hG hE dX11_tin_35 trivial ?_
      unfold zk_tin
      repeat (first | rw [if_pos (by omega)] | rw [if_neg (by omega)])
      exact ⟨rfl, hR, zKt_rf⟩
    · try simp only [zite_eq0, ne_eq, Classical.not_not] at c19
      refine z_iload_n (i := 3) hG dX11_tin_22 rfl rfl ?_
      refine z_iconst hG dX11_tin_23 rfl ?_
      refine z_sipush hG dX11_tin_24 rfl ?_
      refine z_callS hG dX11_tin_27 LS_X11_76 (ct_X11_in l g) (by decide) rfl rfl (Nat.le_of_ble_eq_true rfl) ?_
      intro v9 m9 h9
      rw [h9.1, h9.2]
      clear h9 m9 v9
      refine z_if_ne hG dX11_tin_30 (tgt := 36) rfl (fun c30 => ?_) (fun c30 => ?_)
      · try simp only [zite_eq0, ne_eq, Classical.not_not] at c30
        refine z_aload_n (i := 0) hG dX11_tin_36 rfl rfl ?_
        refine z_iload_n (i := 1) hG dX11_tin_37 rfl rfl ?_
        refine z_iconst hG dX11_tin_38 rfl ?_
        refine z_callV hG dX11_tin_39 LV_X11_87 (ct_X11_of l g ⟨by omega, by omega⟩ ⟨by omega, by omega⟩) (by decide) rfl rfl rfl (Nat.le_of_ble_eq_true rfl) ?_
        intro v9 m9 h9
        rw [h9.1, h9.2]
        clear h9 m9 v9
        rw [(eI i (by omega) (by omega) (by omega)).2.2.1]
        have hk3 := (hrow i (by omega) (by omega)).1.1
        refine z_istore hG dX11_tin_42 (by decide) (ls2 := [_, _, _, _, _, _]) rfl ?_
        refine z_iload hG dX11_tin_44 rfl ?_
        refine z_iconst hG dX11_tin_46 rfl ?_
        refine z_icmp_ne hG dX11_tin_47 (tgt := 53) rfl (fun c47 => ?_) (fun c47 => ?_)
        · refine z_iconst hG dX11_tin_53 rfl ?_
          refine z_istore hG dX11_tin_54 (by decide) (ls2 := [_, _, _, _, _, _]) rfl ?_
          exact loop (by omega) (by omega) (by omega) (by omega) (a 3 0 i 2).toNat 0 (by decide) (by omega) (fun j j0 j1 => by omega)
        · refine z_bipush hG dX11_tin_50 rfl ?_
          refine z_iret hG hE dX11_tin_52 trivial ?_
          unfold zk_tin
          repeat (first | rw [if_pos (by omega)] | rw [if_neg (by omega)])
          exact ⟨rfl, hR, zKt_rf⟩
      · try simp only [zite_eq0, ne_eq, Classical.not_not] at c30
        refine z_bipush hG dX11_tin_33 rfl ?_
        refine z_iret hG hE dX11_tin_35 trivial ?_
        unfold zk_tin
        repeat (first | rw [if_pos (by omega)] | rw [if_neg (by omega)])
        exact ⟨rfl, hR, zKt_rf⟩
  · try simp only [zite_eq0, ne_eq, Classical.not_not] at c5
    refine z_iconst hG dX11_tin_8 rfl ?_
    refine z_iret hG hE dX11_tin_9 trivial ?_
    unfold zk_tin
    repeat (first | rw [if_pos (by omega)] | rw [if_neg (by omega)])
    exact ⟨rfl, hR, zKt_rf⟩
