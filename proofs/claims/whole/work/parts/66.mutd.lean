theorem zsum_upd {f : Int → Int} {k v : Int} : ∀ n : Nat, 0 ≤ k → k < n → zsum n (fun j => if j = k then v else f j) = zsum n f + (v - f k)
  | 0, h0, h1 => by omega
  | n + 1, h0, h1 => by
    rw [zsum, zsum]
    by_cases c : k = n
    · subst c
      rw [if_pos rfl, zsum_congr n (f' := f) (fun j j0 j1 => if_neg (by omega))]
      omega
    · rw [zsum_upd n h0 (by omega), if_neg (by omega)]
      omega
set_option maxRecDepth 20000 in
theorem ct_X11_putIn (l : Launch) (g : zG) {m : zM} {i x D : Int} (hi : 0 ≤ i ∧ i < 8) (hd : 0 ≤ D ∧ D ≤ 4000) (hD : m 45 0 0 0 + m 45 0 0 (6 + 46 * i) = D) (hx : 0 ≤ x ∧ x ≤ 1000000) (hl : 0 ≤ m 45 0 0 (6 + 46 * i + (15 + D % 31)) ∧ m 45 0 0 (6 + 46 * i + (15 + D % 31)) ≤ 12000000) : zMet l g Y_X11_putIn [zr 11 0 0, zi i, zi x] m (fun v m' => v = none ∧ m' = zset m 45 0 0 (6 + 46 * i + (15 + D % 31)) (m 45 0 0 (6 + 46 * i + (15 + D % 31)) + x)) := by
  refine zMet_introF (by decide +kernel) (Nat.le_of_ble_eq_true rfl) (ls0 := [some (zr 11 0 0), some (zi i), some (zi x), none]) rfl fun X hG hE => ?_
  have hG : zGood X l g RX11 cX11_putIn 2 4 := hG
  have hE : zEnd X (none) _ := hE
  refine z_aload_n (i := 0) hG dX11_putIn_0 rfl rfl ?_
  refine z_get_11_0 hG dX11_putIn_1 FL_X11_7 ?_
  refine z_iconst hG dX11_putIn_4 rfl ?_
  refine z_iald hG dX11_putIn_5 rfl rfl (by omega) (by omega) ?_
  refine z_aload_n (i := 0) hG dX11_putIn_6 rfl rfl ?_
  refine z_iload_n (i := 1) hG dX11_putIn_7 rfl rfl ?_
  refine z_iconst hG dX11_putIn_8 rfl ?_
  refine z_callV hG dX11_putIn_9 LV_X11_87 (ct_X11_of l g hi ⟨by omega, by omega⟩) (by decide) rfl rfl rfl (Nat.le_of_ble_eq_true rfl) ?_
  intro v9 m9 h9
  rw [h9.1, h9.2]
  clear h9 m9 v9
  rw [show m 45 0 0 (6 + 46 * i + 0) = m 45 0 0 (6 + 46 * i) from by rw [Int.add_zero]]
  refine z_iadd hG dX11_putIn_12 (by omega) (by omega) ?_
  rw [hD]
  refine z_istore_n (i := 3) hG dX11_putIn_13 rfl (by decide) (ls2 := [_, _, _, _]) rfl ?_
  refine z_aload_n (i := 0) hG dX11_putIn_14 rfl rfl ?_
  refine z_iload_n (i := 1) hG dX11_putIn_15 rfl rfl ?_
  refine z_iload_n (i := 3) hG dX11_putIn_16 rfl rfl ?_
  refine z_aload_n (i := 0) hG dX11_putIn_17 rfl rfl ?_
  refine z_iload_n (i := 1) hG dX11_putIn_18 rfl rfl ?_
  refine z_iload_n (i := 3) hG dX11_putIn_19 rfl rfl ?_
  refine z_callV hG dX11_putIn_20 LV_X11_97 (ct_X11_lotOn l g hi (by omega)) (by decide) rfl rfl rfl (Nat.le_of_ble_eq_true rfl) ?_
  intro v9 m9 h9
  rw [h9.1, h9.2]
  clear h9 m9 v9
  refine z_iload_n (i := 2) hG dX11_putIn_23 rfl rfl ?_
  refine z_iadd hG dX11_putIn_24 (by omega) (by omega) ?_
  refine z_callV hG dX11_putIn_25 LV_X11_100 (ct_X11_layLot l g hi (by omega)) (by decide) rfl rfl rfl (Nat.le_of_ble_eq_true rfl) ?_
  intro v9 m9 h9
  rw [h9.1, h9.2]
  clear h9 m9 v9
  refine z_vret hG hE dX11_putIn_28 ?_
  exact ⟨rfl, rfl⟩
set_option maxRecDepth 20000 in
theorem ct_X11_firstDay (l : Launch) (g : zG) {m : zM} {i t : Int} (hi : 0 ≤ i ∧ i < 8) (hd : 0 ≤ t ∧ t ≤ 4000) (ht : m 45 0 0 0 = t) {g2 : Int → Int} (hf : ∀ d : Int, 1 ≤ d → d ≤ 30 → m 45 0 0 (6 + 46 * i + (15 + (t + d) % 31)) = g2 ((t + d) % 30)) : zMet l g Y_X11_firstDay [zr 11 0 0, zi i] m (fun v m' => v = some (zi (zfst g2 30 t 30 1)) ∧ m' = m) := by
  refine zMet_introF (by decide +kernel) (Nat.le_of_ble_eq_true rfl) (ls0 := [some (zr 11 0 0), some (zi i), none]) rfl fun X hG hE => ?_
  have hG : zGood X l g RX11 cX11_firstDay 2 3 := hG
  have hE : zEnd X (some .int) _ := hE
  have loop : ∀ (n : Nat) (d : Int), 1 ≤ d → d + n = 31 → zfst g2 30 t 30 1 = zfst g2 30 t n d → zZ X 9 [some (zr 11 0 0), some (zi i), some (zi (t + d))] [] m := by
    intro n
    induction n with
    | zero =>
      intro d hd0 hd1 hz
      refine z_iload_n (i := 2) hG dX11_firstDay_9 rfl rfl ?_
      refine z_aload_n (i := 0) hG dX11_firstDay_10 rfl rfl ?_
      refine z_get_11_0 hG dX11_firstDay_11 FL_X11_7 ?_
      refine z_iconst hG dX11_firstDay_14 rfl ?_
      refine z_iald hG dX11_firstDay_15 rfl rfl (by omega) (by omega) ?_
      rw [ht]
      refine z_bipush hG dX11_firstDay_16 rfl ?_
      refine z_iadd hG dX11_firstDay_18 (by omega) (by omega) ?_
      refine z_icmp_ge hG dX11_firstDay_19 (tgt := 39) rfl (fun c19 => ?_) (fun c19 => ?_)
      · refine z_bipush hG dX11_firstDay_39 rfl ?_
        refine z_iret hG hE dX11_firstDay_41 trivial ?_
        exact ⟨by rw [hz]; rfl, rfl⟩
      · exact absurd c19 (by omega)
    | succ n ih =>
      intro d hd0 hd1 hz
      have hz2 : zfst g2 30 t (n + 1) d = if 0 < m 45 0 0 (6 + 46 * i + (15 + (t + d) % 31)) then t + d else zfst g2 30 t n (d + 1) := by rw [hf d hd0 (by omega)]; rfl
      rw [hz2] at hz
      refine z_iload_n (i := 2) hG dX11_firstDay_9 rfl rfl ?_
      refine z_aload_n (i := 0) hG dX11_firstDay_10 rfl rfl ?_
      refine z_get_11_0 hG dX11_firstDay_11 FL_X11_7 ?_
      refine z_iconst hG dX11_firstDay_14 rfl ?_
      refine z_iald hG dX11_firstDay_15 rfl rfl (by omega) (by omega) ?_
      rw [ht]
      refine z_bipush hG dX11_firstDay_16 rfl ?_
      refine z_iadd hG dX11_firstDay_18 (by omega) (by omega) ?_
      refine z_icmp_ge hG dX11_firstDay_19 (tgt := 39) rfl (fun c19 => ?_) (fun c19 => ?_)
      · exact absurd c19 (by omega)
      · refine z_aload_n (i := 0) hG dX11_firstDay_22 rfl rfl ?_
        refine z_iload_n (i := 1) hG dX11_firstDay_23 rfl rfl ?_
        refine z_iload_n (i := 2) hG dX11_firstDay_24 rfl rfl ?_
        refine z_callV hG dX11_firstDay_25 LV_X11_97 (ct_X11_lotOn l g hi (by omega)) (by decide) rfl rfl rfl (Nat.le_of_ble_eq_true rfl) ?_
        intro v9 m9 h9
        rw [h9.1, h9.2]
        clear h9 m9 v9
        refine z_if_le hG dX11_firstDay_28 (tgt := 33) rfl (fun c28 => ?_) (fun c28 => ?_)
        · refine z_iinc hG dX11_firstDay_33 (by decide) rfl (by omega) (by omega) (ls2 := [_, _, _]) rfl ?_
          refine z_goto hG dX11_firstDay_36 (tgt := 9) rfl ?_
          rw [show t + d + 1 = t + (d + 1) by omega]
          exact ih (d + 1) (by omega) (by omega) (by rw [hz, if_neg (by omega)])
        · refine z_iload_n (i := 2) hG dX11_firstDay_31 rfl rfl ?_
          refine z_iret hG hE dX11_firstDay_32 trivial ?_
          exact ⟨by rw [hz, if_pos (by omega)], rfl⟩
  refine z_aload_n (i := 0) hG dX11_firstDay_0 rfl rfl ?_
  refine z_get_11_0 hG dX11_firstDay_1 FL_X11_7 ?_
  refine z_iconst hG dX11_firstDay_4 rfl ?_
  refine z_iald hG dX11_firstDay_5 rfl rfl (by omega) (by omega) ?_
  rw [ht]
  refine z_iconst hG dX11_firstDay_6 rfl ?_
  refine z_iadd hG dX11_firstDay_7 (by omega) (by omega) ?_
  refine z_istore_n (i := 2) hG dX11_firstDay_8 rfl (by decide) (ls2 := [_, _, _]) rfl ?_
  exact loop 30 1 (by decide) rfl rfl
/-- a day's lot is put into an ingredient's row -/
theorem zRi_put {a a' : zM} {i x : Int} {f f' : Int → Int} (hd : 0 ≤ a 2 0 0 0) (h : zRi a 0 i f) (hk : 1 ≤ a 3 0 i 0 ∧ a 3 0 i 0 ≤ 30)
  (hf : ∀ q : Int, 6 + 46 * i ≤ q → q < 52 + 46 * i → f' q = if q = 6 + 46 * i + (15 + (a 2 0 0 0 + a 3 0 i 0) % 31) then f q + x else f q)
  (ha3 : ∀ k : Int, a' 3 0 i k = a 3 0 i k) (ha12 : ∀ k : Int, a' 12 0 i k = a 12 0 i k) (ha13 : ∀ k : Int, a' 13 0 i k = a 13 0 i k) (ha2 : a' 2 0 0 0 = a 2 0 0 0)
  (ha14 : ∀ q : Int, a' 14 0 i q = if q = (a 2 0 0 0 + a 3 0 i 0) % 30 then a 14 0 i q + x else a 14 0 i q) : zRi a' 0 i f' := by
  obtain ⟨a0, a1, a2, a3, a4, a5, a6, a7, a8, a9, a10, a11, a12⟩ := h
  have hf' : ∀ q : Int, 6 + 46 * i ≤ q → q < 6 + 46 * i + 15 → f' q = f q := fun q q0 q1 => by rw [hf q (by omega) (by omega), if_neg (by omega)]
  simp only [zRi, ha3, ha12, ha13, ha2]
  rw [hf' _ (by omega) (by omega), hf' (6 + 46 * i + 1) (by omega) (by omega), hf' (6 + 46 * i + 2) (by omega) (by omega), hf' (6 + 46 * i + 3) (by omega) (by omega), hf' (6 + 46 * i + 4) (by omega) (by omega), hf' (6 + 46 * i + 5) (by omega) (by omega), hf' (6 + 46 * i + 6) (by omega) (by omega), hf' (6 + 46 * i + 7) (by omega) (by omega), hf' (6 + 46 * i + 8) (by omega) (by omega)]
  refine ⟨a0, a1, a2, a3, a4, a5, a6, a7, a8, a9, fun k k0 k1 k2 => ?_, fun d d0 d1 => ?_, ?_⟩
  · rw [hf' _ (by omega) (by omega), hf' (6 + 46 * i + (9 + 2 * k + 1)) (by omega) (by omega)]
    exact a10 k k0 k1 k2
  · rw [hf _ (by omega) (by omega), ha14]
    have := a11 d d0 d1
    by_cases c : d = a 3 0 i 0
    · subst c
      rw [if_pos rfl, if_pos rfl, this]
    · rw [if_neg (by omega), if_neg (by omega), this]
  · rw [hf _ (by omega) (by omega), if_neg (by omega), a12]
theorem zRi_8 {a a' : zM} {i : Int} {f f' : Int → Int} (h : zRi a 0 i f) (hf : ∀ q : Int, 6 + 46 * i ≤ q → q < 52 + 46 * i → (q < 6 + 46 * i + 5 ∨ 6 + 46 * i + 8 < q) → f' q = f q)
  (ha : ∀ (t : Nat) (k : Int), (t = 3 ∧ k < 8) ∨ t = 12 ∨ t = 13 ∨ t = 14 → a' t 0 i k = a t 0 i k) (ha2 : a' 2 0 0 0 = a 2 0 0 0)
  (h5 : f' (6 + 46 * i + 5) = a' 3 0 i 8) (h6 : f' (6 + 46 * i + 6) = a' 3 0 i 9) (h7 : f' (6 + 46 * i + 7) = a' 3 0 i 10) (h8 : f' (6 + 46 * i + 8) = a' 3 0 i 11) : zRi a' 0 i f' := by
  obtain ⟨a0, a1, a2, a3, a4, a5, -, -, -, -, a10, a11, a12⟩ := h
  rw [zRi, ha2, ha 3 0 (by omega), ha 3 1 (by omega), ha 3 2 (by omega), ha 3 5 (by omega), ha 3 6 (by omega), hf _ (by omega) (by omega) (by omega), hf (6 + 46 * i + 1) (by omega) (by omega) (by omega), hf (6 + 46 * i + 2) (by omega) (by omega) (by omega), hf (6 + 46 * i + 3) (by omega) (by omega) (by omega), hf (6 + 46 * i + 4) (by omega) (by omega) (by omega)]
  refine ⟨a0, a1, a2, a3, a4, a5, h5, h6, h7, h8, fun k k0 k1 k2 => ?_, fun d d0 d1 => ?_, ?_⟩
  · rw [hf _ (by omega) (by omega) (by omega), hf (6 + 46 * i + (9 + 2 * k + 1)) (by omega) (by omega) (by omega), ha 12 k (by omega), ha 13 k (by omega)]
    exact a10 k k0 k1 k2
  · rw [hf _ (by omega) (by omega) (by omega), ha 14 _ (by omega)]
    exact a11 d d0 d1
  · rw [hf _ (by omega) (by omega) (by omega)]
    exact a12
theorem zRi_up {a a' : zM} {s i : Int} {f : Int → Int} (h : zRi a s i f) (ha : ∀ (t : Nat) (k : Int), t = 3 ∨ t = 12 ∨ t = 13 ∨ t = 14 → a' t s i k = a t s i k) (hd : a' 2 s 0 0 = a 2 s 0 0) : zRi a' s i f := zRi_mv (fun _ _ _ => rfl) ha hd h
set_option maxRecDepth 20000 in
theorem ct_X11_stock (l : Launch) (g : zG) {a m : zM} {B : Int} {i x : Int} (hI : zInv B a) (hB : B ≤ 11900000) (hR : zRM a m) : zMet l g Y_X11_stock [zr 11 0 0, zi i, zi x] m (fun v m' => v = some (zi (zk_stock i x a).1) ∧ zRM (zk_stock i x a).2 m' ∧ zKt m' m) := by
  refine zMet_introF (by decide +kernel) (Nat.le_of_ble_eq_true rfl) (ls0 := [some (zr 11 0 0), some (zi i), some (zi x)]) rfl fun X hG hE => ?_
  have hG : zGood X l g RX11 cX11_stock 3 3 := hG
  have hE : zEnd X (some .int) _ := hE
  have hI0 := zInv0 hI
  obtain ⟨hday, hhan, hing, hrcp, hrec, hboo, hrow, hrow2, hstp⟩ := id hI0
  obtain ⟨⟨e0, e1, e2, e3, e4, e5, eI, eZ, eR⟩, eN, eP, eS, e6, eT⟩ := id hR
  have hb : ∀ (t : Nat) (i k : Int), t ≠ 1 → zrecd a t 0 i k = a t 0 i k := fun t i k ht => zrecd_0 hI.1.1.1 ht
  have hK := zRM_keep hI.1.1 hI.1.2 (fun s s0 s1 => (hI.2.2.1 s s0 s1).1.1) hR
  refine z_aload_n (i := 0) hG dX11_stock_0 rfl rfl ?_
  refine z_iload_n (i := 1) hG dX11_stock_1 rfl rfl ?_
  refine z_callV hG dX11_stock_2 LV_X11_90 (ct_X11_isIngredient l g) (by decide) rfl rfl rfl (Nat.le_of_ble_eq_true rfl) ?_
  intro v9 m9 h9
  rw [h9.1, h9.2, e1]
  clear h9 m9 v9
  refine z_if_ne hG dX11_stock_5 (tgt := 10) rfl (fun c5 => ?_) (fun c5 => ?_)
  · try simp only [zite_eq0, ne_eq, Classical.not_not] at c5
    refine z_iload_n (i := 2) hG dX11_stock_10 rfl rfl ?_
    refine z_iconst hG dX11_stock_11 rfl ?_
    refine z_sipush hG dX11_stock_12 rfl ?_
    refine z_callS hG dX11_stock_15 LS_X11_76 (ct_X11_in l g) (by decide) rfl rfl (Nat.le_of_ble_eq_true rfl) ?_
    intro v9 m9 h9
    rw [h9.1, h9.2]
    clear h9 m9 v9
    refine z_if_ne hG dX11_stock_18 (tgt := 24) rfl (fun c18 => ?_) (fun c18 => ?_)
    · try simp only [zite_eq0, ne_eq, Classical.not_not] at c18
      have hri := eI i (by omega) (by omega) (by omega)
      have hrw := hrow i (by omega) (by omega)
      have hkd := hrw.2.2.2.2.2 (by omega)
      have hlb : ∀ j : Int, 0 ≤ j → j < 31 → 0 ≤ m 45 0 0 (6 + 46 * i + (15 + j)) ∧ m 45 0 0 (6 + 46 * i + (15 + j)) ≤ 12000000 := zRi_B hday.1 hri (fun j j0 j1 => by have := hrw.2.1 j j0 j1; omega)
      have hsum := zRi_sum hday.1 hri
      have hsm := zsum_le (f := a 14 0 i) (B := 12000000) 30 (fun j h0 h1 => by have := hrw.2.1 j h0 h1; omega)
      refine z_aload_n (i := 0) hG dX11_stock_24 rfl rfl ?_
      refine z_iload_n (i := 1) hG dX11_stock_25 rfl rfl ?_
      refine z_callV hG dX11_stock_26 LV_X11_103 (ct_X11_pantry l g ⟨by omega, by omega⟩ hlb) (by decide) rfl rfl rfl (Nat.le_of_ble_eq_true rfl) ?_
      intro v9 m9 h9
      first | rw [h9.1, h9.2, hsum2, hs3] | rw [h9.1, h9.2, hsum]
      clear h9 m9 v9
      refine z_iload_n (i := 2) hG dX11_stock_29 rfl rfl ?_
      refine z_iadd hG dX11_stock_30 (by omega) (by omega) ?_
      refine z_ldc hG dX11_stock_31 KC_X11_107 rfl ?_
      refine z_icmp_le hG dX11_stock_33 (tgt := 39) rfl (fun c33 => ?_) (fun c33 => ?_)
      · refine z_aload_n (i := 0) hG dX11_stock_39 rfl rfl ?_
        refine z_callV hG dX11_stock_40 LV_X11_80 (ct_X11_keep l g (by rw [eN]; exact hI.1.2)) (by decide) rfl rfl rfl (Nat.le_of_ble_eq_true rfl) ?_
        intro v9 m9 h9
        rw [h9.1, h9.2]
        clear h9 m9 v9
        have hkt : zKt (zkp m) m := zKt_kp
        have h45 : ∀ q, zkp m 45 0 0 q = m 45 0 0 q := fun q => zkp_o (by decide) (Or.inl (by decide))
        generalize zkp m = n at *
        refine z_aload_n (i := 0) hG dX11_stock_43 rfl rfl ?_
        refine z_iload_n (i := 1) hG dX11_stock_44 rfl rfl ?_
        refine z_iload_n (i := 2) hG dX11_stock_45 rfl rfl ?_
        refine z_callV hG dX11_stock_46 LV_X11_108 (ct_X11_putIn l g (D := a 2 0 0 0 + a 3 0 i 0) ⟨by omega, by omega⟩ ⟨by omega, by omega⟩ (by rw [h45, h45, e0, hri.1]) ⟨by omega, by omega⟩ (by rw [h45]; exact hlb _ (by omega) (by omega))) (by decide) rfl rfl rfl (Nat.le_of_ble_eq_true rfl) ?_
        intro v9 m9 h9
        rw [h9.1, h9.2]
        clear h9 m9 v9
        refine z_aload_n (i := 0) hG dX11_stock_49 rfl rfl ?_
        refine z_iload_n (i := 1) hG dX11_stock_50 rfl rfl ?_
        refine z_bipush hG dX11_stock_51 rfl ?_
        refine z_aload_n (i := 0) hG dX11_stock_53 rfl rfl ?_
        refine z_iload_n (i := 1) hG dX11_stock_54 rfl rfl ?_
        refine z_bipush hG dX11_stock_55 rfl ?_
        refine z_callV hG dX11_stock_57 LV_X11_87 (ct_X11_of l g ⟨by omega, by omega⟩ ⟨by omega, by omega⟩) (by decide) rfl rfl rfl (Nat.le_of_ble_eq_true rfl) ?_
        intro v9 m9 h9
        rw [h9.1, h9.2]
        clear h9 m9 v9
        have h8 : ∀ v w : Int, zset n 45 0 0 (6 + 46 * i + (15 + v % 31)) w 45 0 0 (6 + 46 * i + 8) = a 3 0 i 11 := fun v w => by
          simp only [zset]
          rw [if_neg (by omega), h45]
          exact hri.2.2.2.2.2.2.2.2.2.1
        rw [h8]
        refine z_iload_n (i := 2) hG dX11_stock_60 rfl rfl ?_
        refine z_iaddw hG dX11_stock_61 ?_
        refine z_callV hG dX11_stock_62 LV_X11_83 (ct_X11_lay l g ⟨by omega, by omega⟩ ⟨by omega, by omega⟩) (by decide) rfl rfl rfl (Nat.le_of_ble_eq_true rfl) ?_
        intro v9 m9 h9
        rw [h9.1, h9.2]
        clear h9 m9 v9
        rw [h45]
        obtain ⟨A, hA⟩ : ∃ A, A = (zk_stock i x a).2 := ⟨_, rfl⟩
        have hv : (zk_stock i x a).1 = zsum 30 (a 14 0 i) + x := by
          unfold zk_stock
          rw [if_neg (by omega), if_neg (by omega), if_neg (by omega)]
        rw [← hA] at hE
        unfold zk_stock at hA
        rw [if_neg (by omega), if_neg (by omega), if_neg (by omega)] at hA
        simp only at hA
        have hA2 : ∀ (t : Nat) (s j k : Int), (t ≠ 14 ∨ s ≠ 0 ∨ j ≠ i) → (t ≠ 3 ∨ s ≠ 0 ∨ j ≠ i ∨ k ≠ 11) → A t s j k = zrecd a t s j k := fun t s j k h1 h2 => by
          rw [hA]; simp only [zset]; rw [if_neg (by omega), if_neg (by omega)]
        have hA14 : ∀ q : Int, A 14 0 i q = if q = (a 2 0 0 0 + a 3 0 i 0) % 30 then a 14 0 i q + x else a 14 0 i q := fun q => by
          rw [hA]; simp only [zset]
          rw [if_neg (by omega)]
          by_cases c : q = (a 2 0 0 0 + a 3 0 i 0) % 30
          · rw [if_pos (by first | omega | (simp; done) | (simp; omega)), if_pos c, c]
          · rw [if_neg (by omega), if_neg c, hb 14 _ _ (by decide)]
        have hA11 : A 3 0 i 11 = zwr (a 3 0 i 11 + x) := by rw [hA]; simp [zset]
        clear hA
        obtain ⟨M, hM⟩ : ∃ M, M = zset (zset n 45 0 0 (6 + 46 * i + (15 + (a 2 0 0 0 + a 3 0 i 0) % 31)) (m 45 0 0 (6 + 46 * i + (15 + (a 2 0 0 0 + a 3 0 i 0) % 31)) + x)) 45 0 0 (6 + 46 * i + 8) (zwr (a 3 0 i 11 + x)) := ⟨_, rfl⟩
        rw [← hM]
        have hMo : ∀ (t : Nat) (k : Int), t ≠ 45 → M t 0 0 k = n t 0 0 k := fun t k h1 => by
          rw [hM]; simp only [zset]; rw [if_neg (by omega), if_neg (by omega)]
        have hMq : ∀ q : Int, M 45 0 0 q = if q = 6 + 46 * i + 8 then zwr (a 3 0 i 11 + x) else if q = 6 + 46 * i + (15 + (a 2 0 0 0 + a 3 0 i 0) % 31) then n 45 0 0 q + x else n 45 0 0 q := fun q => by
          rw [hM]; simp only [zset]
          by_cases c1 : q = 6 + 46 * i + 8
          · rw [if_pos (by first | omega | (simp; done) | (simp; omega)), if_pos c1]
          · rw [if_neg (by omega), if_neg c1]
            by_cases c2 : q = 6 + 46 * i + (15 + (a 2 0 0 0 + a 3 0 i 0) % 31)
            · rw [if_pos (by first | omega | (simp; done) | (simp; omega)), if_pos c2, c2, h45]
            · rw [if_neg (by omega), if_neg c2]
        have hMk : zKt M m := by rw [hM]; exact zKt_set (zKt_set hkt (Or.inr (by decide))) (Or.inr (by decide))
        clear hM
        have hb4 : i < zrecd a 2 0 0 4 := by rw [hb 2 _ _ (by decide)]; omega
        have hb2 : zrecd a 2 0 0 0 = a 2 0 0 0 := hb 2 _ _ (by decide)
        have hb3 : ∀ k, zrecd a 3 0 i k = a 3 0 i k := fun k => hb 3 _ _ (by decide)
        have hr1 := hK.1.2.2.2.2.2.2.1 i (by omega) (by omega) hb4
        have hR1 : zRM A M := by
          refine zRM_now hK (fun t s j k hh => hA2 t s j k (by omega) (by omega)) (fun t k hh => hMo t k (by omega)) (zRel_i i (by omega) hK.1 (fun q q0 q1 => by rw [hMq, if_neg (by omega), if_neg (by omega)]) (fun t j k hh => hA2 t 0 j k (by omega) (by omega)) (by rw [hMq, if_neg (by omega), if_neg (by omega), hA2 2 0 0 4 (by omega) (by omega)]; exact hK.1.2.1) (fun q hq => by rw [hA2 2 0 0 4 (by omega) (by omega)]) (by rw [hA2 2 0 0 4 (by omega) (by omega)]; exact hb4) ?_)
          have hp := zRi_put (a := zrecd a) (a' := fun t s j k => if t = 14 ∧ s = 0 ∧ j = i then A t s j k else zrecd a t s j k) (x := x) (f' := fun q => if q = 6 + 46 * i + (15 + (a 2 0 0 0 + a 3 0 i 0) % 31) then n 45 0 0 q + x else n 45 0 0 q) (by rw [hb2]; exact hday.1) hr1 (by rw [hb3]; omega) (fun q q0 q1 => by rw [hb2, hb3]) (fun k => by simp) (fun k => by simp) (fun k => by simp) (by simp) (fun q => by
            simp only [and_self, if_true]
            rw [hA14, hb2, hb3, hb 14 _ _ (by decide)])
          exact zRi_8 hp (fun q q0 q1 q2 => by rw [hMq, if_neg (by omega)]) (fun t k hh => by
            by_cases c : t = 14
            · subst c; simp
            · simp only [c, false_and, if_false]
              exact hA2 t 0 i k (by omega) (by omega)) (by simp; exact hA2 2 0 0 0 (by omega) (by omega))
            (by rw [hMq, if_neg (by omega), if_neg (by omega), hA2 3 0 i 8 (by omega) (by omega)]; exact hr1.2.2.2.2.2.2.1)
            (by rw [hMq, if_neg (by omega), if_neg (by omega), hA2 3 0 i 9 (by omega) (by omega)]; exact hr1.2.2.2.2.2.2.2.1)
            (by rw [hMq, if_neg (by omega), if_neg (by omega), hA2 3 0 i 10 (by omega) (by omega)]; exact hr1.2.2.2.2.2.2.2.2.1)
            (by rw [hMq, if_pos rfl, hA11])
        have hA20 : A 2 0 0 0 = a 2 0 0 0 := by rw [hA2 2 0 0 0 (by omega) (by omega), hb2]
        have hr2 := hR1.1.2.2.2.2.2.2.1 i (by omega) (by omega) (by rw [hA2 2 0 0 4 (by omega) (by omega)]; exact hb4)
        have hlb2 : ∀ j : Int, 0 ≤ j → j < 31 → 0 ≤ M 45 0 0 (6 + 46 * i + (15 + j)) ∧ M 45 0 0 (6 + 46 * i + (15 + j)) ≤ 12000000 := zRi_B (by rw [hA20]; exact hday.1) hr2 (fun j j0 j1 => by
          have := hrw.2.1 j j0 j1
          rw [hA14]
          split <;> omega)
        have hsum2 := zRi_sum (by rw [hA20]; exact hday.1) hr2
        have hs3 : zsum 30 (A 14 0 i) = zsum 30 (a 14 0 i) + x := by
          rw [show A 14 0 i = fun q => if q = (a 2 0 0 0 + a 3 0 i 0) % 30 then a 14 0 i ((a 2 0 0 0 + a 3 0 i 0) % 30) + x else a 14 0 i q from funext fun q => by
            rw [hA14]
            by_cases c : q = (a 2 0 0 0 + a 3 0 i 0) % 30
            · rw [if_pos c, if_pos c, c]
            · rw [if_neg c, if_neg c], zsum_upd 30 (by omega) (by omega)]
          omega
        refine z_aload_n (i := 0) hG dX11_stock_65 rfl rfl ?_
        refine z_iload_n (i := 1) hG dX11_stock_66 rfl rfl ?_
        refine z_callV hG dX11_stock_67 LV_X11_103 (ct_X11_pantry l g ⟨by omega, by omega⟩ hlb2) (by decide) rfl rfl rfl (Nat.le_of_ble_eq_true rfl) ?_
        intro v9 m9 h9
        first | rw [h9.1, h9.2, hsum2, hs3] | rw [h9.1, h9.2, hsum]
        clear h9 m9 v9
        refine z_iret hG hE dX11_stock_70 trivial ?_
        exact ⟨by rw [hv], hR1, hMk⟩
      · refine z_bipush hG dX11_stock_36 rfl ?_
        refine z_iret hG hE dX11_stock_38 trivial ?_
        unfold zk_stock
        repeat (first | rw [if_pos (by omega)] | rw [if_neg (by omega)])
        exact ⟨rfl, hR, zKt_rf⟩
    · try simp only [zite_eq0, ne_eq, Classical.not_not] at c18
      refine z_bipush hG dX11_stock_21 rfl ?_
      refine z_iret hG hE dX11_stock_23 trivial ?_
      unfold zk_stock
      repeat (first | rw [if_pos (by omega)] | rw [if_neg (by omega)])
      exact ⟨rfl, hR, zKt_rf⟩
  · try simp only [zite_eq0, ne_eq, Classical.not_not] at c5
    refine z_iconst hG dX11_stock_8 rfl ?_
    refine z_iret hG hE dX11_stock_9 trivial ?_
    unfold zk_stock
    repeat (first | rw [if_pos (by omega)] | rw [if_neg (by omega)])
    exact ⟨rfl, hR, zKt_rf⟩
