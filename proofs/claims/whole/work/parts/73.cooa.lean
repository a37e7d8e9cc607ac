theorem zor_0 {x : Int} (h : zin x) : zor x 0 = x := by
  unfold zor
  rw [z00, show Int32.ofInt x ||| 0 = Int32.ofInt x from by simp]
  exact zti h
theorem zmss_in (f : Int → Int) : ∀ n : Nat, zin (zmss f n)
  | 0 => z0in
  | n + 1 => by
    rw [zmss]
    split
    · exact zinT _
    · exact zmss_in f n
theorem zwr_m (x : Int) : ∃ k : Int, zwr x = x + 4294967296 * k := by
  have := zwr_def x
  split at this
  · exact ⟨-(x / 4294967296), by omega⟩
  · exact ⟨-(x / 4294967296) - 1, by omega⟩
theorem zwr_ad {x y : Int} : zwr (zwr x + y) = zwr (x + y) := by
  obtain ⟨k, hk⟩ := zwr_m x
  rw [hk, zwr_def, zwr_def, show (x + 4294967296 * k + y) % 4294967296 = (x + y) % 4294967296 by omega]
theorem zwr_sb {x y : Int} : zwr (zwr x - y) = zwr (x - y) := by
  obtain ⟨k, hk⟩ := zwr_m x
  rw [hk, zwr_def, zwr_def, show (x + 4294967296 * k - y) % 4294967296 = (x - y) % 4294967296 by omega]
/-- one lot is another -/
theorem zRi_lot {a a' : zM} {i d v : Int} {f f' : Int → Int} (hd : 0 ≤ a 2 0 0 0) (h : zRi a 0 i f) (hk : 1 ≤ d ∧ d ≤ 30)
  (hf : ∀ q : Int, 6 + 46 * i ≤ q → q < 52 + 46 * i → f' q = if q = 6 + 46 * i + (15 + (a 2 0 0 0 + d) % 31) then v else f q)
  (ha3 : ∀ k : Int, a' 3 0 i k = a 3 0 i k) (ha12 : ∀ k : Int, a' 12 0 i k = a 12 0 i k) (ha13 : ∀ k : Int, a' 13 0 i k = a 13 0 i k) (ha2 : a' 2 0 0 0 = a 2 0 0 0)
  (ha14 : ∀ q : Int, 0 ≤ q → q < 30 → a' 14 0 i q = if q = (a 2 0 0 0 + d) % 30 then v else a 14 0 i q) : zRi a' 0 i f' := by
  obtain ⟨a0, a1, a2, a3, a4, a5, a6, a7, a8, a9, a10, a11, a12⟩ := h
  have hf' : ∀ q : Int, 6 + 46 * i ≤ q → q < 6 + 46 * i + 15 → f' q = f q := fun q q0 q1 => by rw [hf q (by omega) (by omega), if_neg (by omega)]
  simp only [zRi, ha3, ha12, ha13, ha2]
  rw [hf' _ (by omega) (by omega), hf' (6 + 46 * i + 1) (by omega) (by omega), hf' (6 + 46 * i + 2) (by omega) (by omega), hf' (6 + 46 * i + 3) (by omega) (by omega), hf' (6 + 46 * i + 4) (by omega) (by omega), hf' (6 + 46 * i + 5) (by omega) (by omega), hf' (6 + 46 * i + 6) (by omega) (by omega), hf' (6 + 46 * i + 7) (by omega) (by omega), hf' (6 + 46 * i + 8) (by omega) (by omega)]
  refine ⟨a0, a1, a2, a3, a4, a5, a6, a7, a8, a9, fun k k0 k1 k2 => ?_, fun d' d0 d1 => ?_, ?_⟩
  · rw [hf' _ (by omega) (by omega), hf' (6 + 46 * i + (9 + 2 * k + 1)) (by omega) (by omega)]
    exact a10 k k0 k1 k2
  · rw [hf _ (by omega) (by omega), ha14 _ (by omega) (by omega)]
    have := a11 d' d0 d1
    by_cases c : d' = d
    · subst c
      rw [if_pos rfl, if_pos rfl]
    · rw [if_neg (by omega), if_neg (by omega), this]
  · rw [hf _ (by omega) (by omega), if_neg (by omega), a12]
set_option maxRecDepth 20000 in
theorem ct_X11_sumOf (l : Launch) (g : zG) {mem : zM} {t : Nat} (ht : zTO t = none) (ha : zTA t = some (0, 8)) (hB : ∀ j : Int, 0 ≤ j → j < 8 → -200000000 ≤ mem t 0 0 j ∧ mem t 0 0 j ≤ 200000000) : zMet l g Y_X11_sumOf [zr 11 0 0, zr t 0 0] mem (fun v m' => v = some (zi (zsum 8 (mem t 0 0))) ∧ m' = mem) := by
  refine zMet_introF (by decide +kernel) (Nat.le_of_ble_eq_true rfl) (ls0 := [some (zr 11 0 0), some (zr t 0 0), none, none]) rfl fun X hG hE => ?_
  have hG : zGood X l g RX11 cX11_sumOf 0 4 := hG
  have hE : zEnd X (some .int) _ := hE
  have hsm : ∀ n : Nat, n ≤ 8 → -200000000 * (n : Int) ≤ zsum n (mem t 0 0) ∧ zsum n (mem t 0 0) ≤ 200000000 * (n : Int) := by
    intro n
    induction n with
    | zero => intro _; simp [zsum]
    | succ n ih =>
      intro hn
      have h1 := ih (by omega)
      have h2 := hB n (by omega) (by omega)
      simp only [zsum]
      omega
  have loop : ∀ n j : Nat, j + n = 8 → zZ X 4 [some (zr 11 0 0), some (zr t 0 0), some (zi (zsum j (mem t 0 0))), some (zi j)] [] mem := by
    intro n
    induction n with
    | zero =>
      intro j hj
      refine z_iload_n (i := 3) hG dX11_sumOf_4 rfl rfl ?_
      refine z_bipush hG dX11_sumOf_5 rfl ?_
      refine z_icmp_ge hG dX11_sumOf_7 (tgt := 22) rfl (fun zcq7 => ?_) (fun zcq7 => ?_)
      · refine z_iload_n (i := 2) hG dX11_sumOf_22 rfl rfl ?_
        refine z_iret hG hE dX11_sumOf_23 trivial ?_
        have : j = 8 := by omega
        subst this
        exact ⟨rfl, rfl⟩
      · exact absurd zcq7 (by omega)
    | succ n ih =>
      intro j hj
      have hs := hsm j (by omega)
      have hk := hB j (by omega) (by omega)
      refine z_iload_n (i := 3) hG dX11_sumOf_4 rfl rfl ?_
      refine z_bipush hG dX11_sumOf_5 rfl ?_
      refine z_icmp_ge hG dX11_sumOf_7 (tgt := 22) rfl (fun zcq7 => ?_) (fun zcq7 => ?_)
      · exact absurd zcq7 (by omega)
      · refine z_iload_n (i := 2) hG dX11_sumOf_10 rfl rfl ?_
        refine z_aload_n (i := 1) hG dX11_sumOf_11 rfl rfl ?_
        refine z_iload_n (i := 3) hG dX11_sumOf_12 rfl rfl ?_
        refine z_iald hG dX11_sumOf_13 ht ha (by omega) (by omega) ?_
        refine z_iadd hG dX11_sumOf_14 (by omega) (by omega) ?_
        refine z_istore_n (i := 2) hG dX11_sumOf_15 rfl (by decide) (ls2 := [_, _, _, _]) rfl ?_
        refine z_iinc hG dX11_sumOf_16 (by decide) rfl (by omega) (by omega) (ls2 := [_, _, _, _]) rfl ?_
        refine z_goto hG dX11_sumOf_19 (tgt := 4) rfl ?_
        exact ih (j + 1) (by omega)
  refine z_iconst hG dX11_sumOf_0 rfl ?_
  refine z_istore_n (i := 2) hG dX11_sumOf_1 rfl (by decide) (ls2 := [_, _, _, _]) rfl ?_
  refine z_iconst hG dX11_sumOf_2 rfl ?_
  refine z_istore_n (i := 3) hG dX11_sumOf_3 rfl (by decide) (ls2 := [_, _, _, _]) rfl ?_
  exact loop 8 0 rfl
set_option maxRecDepth 20000 in
theorem ct_X11_missingSet (l : Launch) (g : zG) {m : zM} : zMet l g Y_X11_missingSet [zr 11 0 0] m (fun v m' => v = some (zi (zmss (m 56 0 0) 8)) ∧ m' = m) := by
  refine zMet_introF (by decide +kernel) (Nat.le_of_ble_eq_true rfl) (ls0 := [some (zr 11 0 0), none, none]) rfl fun X hG hE => ?_
  have hG : zGood X l g RX11 cX11_missingSet 0 3 := hG
  have hE : zEnd X (some .int) _ := hE
  have loop : ∀ n j : Nat, j + n = 8 → zZ X 4 [some (zr 11 0 0), some (zi (zmss (m 56 0 0) j)), some (zi j)] [] m := by
    intro n
    induction n with
    | zero =>
      intro j hj
      refine z_iload_n (i := 2) hG dX11_missingSet_4 rfl rfl ?_
      refine z_bipush hG dX11_missingSet_5 rfl ?_
      refine z_icmp_ge hG dX11_missingSet_7 (tgt := 35) rfl (fun zcq7 => ?_) (fun zcq7 => ?_)
      · refine z_iload_n (i := 1) hG dX11_missingSet_35 rfl rfl ?_
        refine z_iret hG hE dX11_missingSet_36 trivial ?_
        have : j = 8 := by omega
        subst this
        exact ⟨rfl, rfl⟩
      · exact absurd zcq7 (by omega)
    | succ n ih =>
      intro j hj
      have hin := zmss_in (m 56 0 0) j
      refine z_iload_n (i := 2) hG dX11_missingSet_4 rfl rfl ?_
      refine z_bipush hG dX11_missingSet_5 rfl ?_
      refine z_icmp_ge hG dX11_missingSet_7 (tgt := 35) rfl (fun zcq7 => ?_) (fun zcq7 => ?_)
      · exact absurd zcq7 (by omega)
      · refine z_iload_n (i := 1) hG dX11_missingSet_10 rfl rfl ?_
        refine z_aload_n (i := 0) hG dX11_missingSet_11 rfl rfl ?_
        refine z_get_11_13 hG dX11_missingSet_12 FL_X11_44 ?_
        refine z_iload_n (i := 2) hG dX11_missingSet_15 rfl rfl ?_
        refine z_iald hG dX11_missingSet_16 rfl rfl (by omega) (by omega) ?_
        refine z_if_le hG dX11_missingSet_17 (tgt := 26) rfl (fun zcq17 => ?_) (fun zcq17 => ?_)
        · refine z_iconst hG dX11_missingSet_26 rfl ?_
          refine z_ior hG dX11_missingSet_27 ?_
          first | rw [zor_0 hin] | skip
          refine z_istore_n (i := 1) hG dX11_missingSet_28 rfl (by decide) (ls2 := [_, _, _]) rfl ?_
          refine z_iinc hG dX11_missingSet_29 (by decide) rfl (by omega) (by omega) (ls2 := [_, _, _]) rfl ?_
          refine z_goto hG dX11_missingSet_32 (tgt := 4) rfl ?_
          have h9 := ih (j + 1) (by omega)
          rw [zmss] at h9
          first
          | (rw [if_pos (by omega)] at h9; exact h9)
          | (rw [if_neg (by omega)] at h9; exact h9)
        · refine z_iconst hG dX11_missingSet_20 rfl ?_
          refine z_iload_n (i := 2) hG dX11_missingSet_21 rfl rfl ?_
          refine z_ishl hG dX11_missingSet_22 ?_
          refine z_goto hG dX11_missingSet_23 (tgt := 27) rfl ?_
          refine z_ior hG dX11_missingSet_27 ?_
          first | rw [zor_0 hin] | skip
          refine z_istore_n (i := 1) hG dX11_missingSet_28 rfl (by decide) (ls2 := [_, _, _]) rfl ?_
          refine z_iinc hG dX11_missingSet_29 (by decide) rfl (by omega) (by omega) (ls2 := [_, _, _]) rfl ?_
          refine z_goto hG dX11_missingSet_32 (tgt := 4) rfl ?_
          have h9 := ih (j + 1) (by omega)
          rw [zmss] at h9
          first
          | (rw [if_pos (by omega)] at h9; exact h9)
          | (rw [if_neg (by omega)] at h9; exact h9)
  refine z_iconst hG dX11_missingSet_0 rfl ?_
  refine z_istore_n (i := 1) hG dX11_missingSet_1 rfl (by decide) (ls2 := [_, _, _]) rfl ?_
  refine z_iconst hG dX11_missingSet_2 rfl ?_
  refine z_istore_n (i := 2) hG dX11_missingSet_3 rfl (by decide) (ls2 := [_, _, _]) rfl ?_
  exact loop 8 0 rfl
set_option maxRecDepth 20000 in
theorem ct_X11_hasPortions (l : Launch) (g : zG) {a m : zM} (hp : zmp a) (hR : zRel a 0 (m 45 0 0)) : zMet l g Y_X11_hasPortions [zr 11 0 0] m (fun v m' => v = some (zi (if zhp a then 1 else 0)) ∧ m' = m) := by
  refine zMet_introF (by decide +kernel) (Nat.le_of_ble_eq_true rfl) (ls0 := [some (zr 11 0 0), none, none]) rfl fun X hG hE => ?_
  have hG : zGood X l g RX11 cX11_hasPortions 1 3 := hG
  have hE : zEnd X (some .boolean) _ := hE
  have eR := hR.2.2.2.2.2.2.2.2
  have h54 := hp.2.1
  have loop : ∀ (N : Nat) (k b : Int), 0 ≤ k → k + N = a 2 0 0 5 → (b = 0 ∨ b = 1) → (b = 1 ↔ ∃ j : Int, 0 ≤ j ∧ j < k ∧ 0 < a 4 0 j 1) → zZ X 4 [some (zr 11 0 0), some (zi b), some (zi k)] [] m := by
    intro N
    induction N with
    | zero =>
      intro k b hk0 hk hb hbe
      refine z_iload_n (i := 2) hG dX11_hasPortions_4 rfl rfl ?_
      refine z_aload_n (i := 0) hG dX11_hasPortions_5 rfl rfl ?_
      refine z_get_11_0 hG dX11_hasPortions_6 FL_X11_7 ?_
      refine z_iconst hG dX11_hasPortions_9 rfl ?_
      refine z_iald hG dX11_hasPortions_10 rfl rfl (by omega) (by omega) ?_
      rw [hR.2.2.1]
      refine z_icmp_ge hG dX11_hasPortions_11 (tgt := 39) rfl (fun zcq11 => ?_) (fun zcq11 => ?_)
      · refine z_iload_n (i := 1) hG dX11_hasPortions_39 rfl rfl ?_
        refine z_iret hG hE dX11_hasPortions_40 hb ?_
        refine ⟨?_, rfl⟩
        have hz : b = 1 ↔ zhp a := by
          rw [hbe, ← zhp_iff]
          constructor
          · rintro ⟨j, j0, j1, j2⟩
            exact ⟨j, j0, by omega, j2⟩
          · rintro ⟨j, j0, j1, j2⟩
            refine ⟨j, j0, Classical.byContradiction fun q => ?_, j2⟩
            have := (hp.2.2.1 j j0 j1).1 (by omega)
            omega
        by_cases q : zhp a
        · rw [if_pos q, hz.mpr q]
        · rw [if_neg q]
          rcases hb with rfl | rfl
          · rfl
          · exact absurd (hz.mp rfl) q
      · exact absurd zcq11 (by omega)
    | succ N ih =>
      intro k b hk0 hk hb hbe
      have er := eR k hk0 (by omega) (by omega)
      refine z_iload_n (i := 2) hG dX11_hasPortions_4 rfl rfl ?_
      refine z_aload_n (i := 0) hG dX11_hasPortions_5 rfl rfl ?_
      refine z_get_11_0 hG dX11_hasPortions_6 FL_X11_7 ?_
      refine z_iconst hG dX11_hasPortions_9 rfl ?_
      refine z_iald hG dX11_hasPortions_10 rfl rfl (by omega) (by omega) ?_
      rw [hR.2.2.1]
      refine z_icmp_ge hG dX11_hasPortions_11 (tgt := 39) rfl (fun zcq11 => ?_) (fun zcq11 => ?_)
      · exact absurd zcq11 (by omega)
      · refine z_iload_n (i := 1) hG dX11_hasPortions_14 rfl rfl ?_
        refine z_if_ne hG dX11_hasPortions_15 (tgt := 27) rfl (fun zcq15 => ?_) (fun zcq15 => ?_)
        · try simp only [zite_eq0, ne_eq, Classical.not_not] at zcq15
          refine z_iconst hG dX11_hasPortions_27 rfl ?_
          refine z_goto hG dX11_hasPortions_28 (tgt := 32) rfl ?_
          refine z_istore_n (i := 1) hG dX11_hasPortions_32 rfl (by decide) (ls2 := [_, _, _]) rfl ?_
          refine z_iinc hG dX11_hasPortions_33 (by decide) rfl (by omega) (by omega) (ls2 := [_, _, _]) rfl ?_
          refine z_goto hG dX11_hasPortions_36 (tgt := 4) rfl ?_
          refine ih (k + 1) _ (by omega) (by omega) (by decide) ?_
          first
          | (refine ⟨fun _ => ?_, fun _ => rfl⟩
             first
             | exact ⟨k, hk0, by omega, by omega⟩
             | (obtain ⟨j, j0, j1, j2⟩ := hbe.mp (by omega)
                exact ⟨j, j0, by omega, j2⟩))
          | (refine ⟨fun q => by omega, fun q => ?_⟩
             exfalso
             obtain ⟨j, j0, j1, j2⟩ := q
             by_cases c : j = k
             · subst c
               omega
             · have := hbe.mpr ⟨j, j0, by omega, j2⟩
               omega)
        · try simp only [zite_eq0, ne_eq, Classical.not_not] at zcq15
          refine z_aload_n (i := 0) hG dX11_hasPortions_18 rfl rfl ?_
          refine z_iload_n (i := 2) hG dX11_hasPortions_19 rfl rfl ?_
          refine z_iconst hG dX11_hasPortions_20 rfl ?_
          refine z_callV hG dX11_hasPortions_21 LV_X11_68 (ct_X11_ofARecipe l g ⟨by omega, by omega⟩ ⟨by omega, by omega⟩) (by decide) rfl rfl rfl (Nat.le_of_ble_eq_true rfl) ?_
          intro v9 m9 h9
          rw [h9.1, h9.2, er.2.2.1]
          clear h9 m9 v9
          refine z_if_le hG dX11_hasPortions_24 (tgt := 31) rfl (fun zcq24 => ?_) (fun zcq24 => ?_)
          · refine z_iconst hG dX11_hasPortions_31 rfl ?_
            refine z_istore_n (i := 1) hG dX11_hasPortions_32 rfl (by decide) (ls2 := [_, _, _]) rfl ?_
            refine z_iinc hG dX11_hasPortions_33 (by decide) rfl (by omega) (by omega) (ls2 := [_, _, _]) rfl ?_
            refine z_goto hG dX11_hasPortions_36 (tgt := 4) rfl ?_
            refine ih (k + 1) _ (by omega) (by omega) (by decide) ?_
            first
            | (refine ⟨fun _ => ?_, fun _ => rfl⟩
               first
               | exact ⟨k, hk0, by omega, by omega⟩
               | (obtain ⟨j, j0, j1, j2⟩ := hbe.mp (by omega)
                  exact ⟨j, j0, by omega, j2⟩))
            | (refine ⟨fun q => by omega, fun q => ?_⟩
               exfalso
               obtain ⟨j, j0, j1, j2⟩ := q
               by_cases c : j = k
               · subst c
                 omega
               · have := hbe.mpr ⟨j, j0, by omega, j2⟩
                 omega)
          · refine z_iconst hG dX11_hasPortions_27 rfl ?_
            refine z_goto hG dX11_hasPortions_28 (tgt := 32) rfl ?_
            refine z_istore_n (i := 1) hG dX11_hasPortions_32 rfl (by decide) (ls2 := [_, _, _]) rfl ?_
            refine z_iinc hG dX11_hasPortions_33 (by decide) rfl (by omega) (by omega) (ls2 := [_, _, _]) rfl ?_
            refine z_goto hG dX11_hasPortions_36 (tgt := 4) rfl ?_
            refine ih (k + 1) _ (by omega) (by omega) (by decide) ?_
            first
            | (refine ⟨fun _ => ?_, fun _ => rfl⟩
               first
               | exact ⟨k, hk0, by omega, by omega⟩
               | (obtain ⟨j, j0, j1, j2⟩ := hbe.mp (by omega)
                  exact ⟨j, j0, by omega, j2⟩))
            | (refine ⟨fun q => by omega, fun q => ?_⟩
               exfalso
               obtain ⟨j, j0, j1, j2⟩ := q
               by_cases c : j = k
               · subst c
                 omega
               · have := hbe.mpr ⟨j, j0, by omega, j2⟩
                 omega)
  refine z_iconst hG dX11_hasPortions_0 rfl ?_
  refine z_istore_n (i := 1) hG dX11_hasPortions_1 rfl (by decide) (ls2 := [_, _, _]) rfl ?_
  refine z_iconst hG dX11_hasPortions_2 rfl ?_
  refine z_istore_n (i := 2) hG dX11_hasPortions_3 rfl (by decide) (ls2 := [_, _, _]) rfl ?_
  exact loop (a 2 0 0 5).toNat 0 0 (by decide) (by omega) (Or.inl rfl) ⟨fun q => absurd q (by decide), fun ⟨j, j0, j1, _⟩ => by omega⟩
theorem zMod_mss {m : zM} {W : zPl} (hW : zMod m W) : zmss (m 56 0 0) 8 = zmss (W 6) 8 := zmss_congr 8 (fun j h0 h1 => (hW j h0 h1).1.2.2.2.2.2.2.1)
theorem zMod_s7 {m : zM} {W : zPl} (hW : zMod m W) : zsum 8 (m 57 0 0) = zsum 8 (W 7) := zsum_congr 8 (fun j h0 h1 => (hW j h0 h1).1.2.2.2.2.2.2.2)
theorem zMod_s4 {m : zM} {W : zPl} (hW : zMod m W) : zsum 8 (m 54 0 0) = zsum 8 (W 4) := zsum_congr 8 (fun j h0 h1 => (hW j h0 h1).1.2.2.2.2.1)
theorem zMod_congr {m m2 : zM} {W : zPl} (hW : zMod m W) (h : ∀ (t : Nat) (q : Int), 50 ≤ t → t ≤ 58 → m2 t 0 0 q = m t 0 0 q) : zMod m2 W := fun j j0 j1 => by
  rw [zMr, h 50 j (by decide) (by decide), h 51 j (by decide) (by decide), h 52 j (by decide) (by decide), h 53 j (by decide) (by decide), h 54 j (by decide) (by decide), h 55 j (by decide) (by decide), h 56 j (by decide) (by decide), h 57 j (by decide) (by decide), h 58 _ (by decide) (by decide), h 58 (3 * j + 1) (by decide) (by decide), h 58 (3 * j + 2) (by decide) (by decide)]
  exact hW j j0 j1
theorem zIS_mp {B : Int} {a : zM} (h : zIS B a 0) (hB : B ≤ 12000000) : zmp a := ⟨zIS_pc h hB, h.2.2.2.1, fun r r0 r1 => (h.2.2.2.2.2.2.2.1 r r0 r1).2, h.2.2.2.2.2.1.1, h.1.1⟩
theorem ct_sum7 (l : Launch) (g : zG) {m : zM} {W : zPl} (hW : zMod m W) (hb : zplb W) : zMet l g Y_X11_sumOf [zr 11 0 0, zr 57 0 0] m (fun v m' => v = some (zi (zsum 8 (W 7))) ∧ m' = m) := by
  rw [← zMod_s7 hW]
  exact ct_X11_sumOf l g rfl rfl (fun j j0 j1 => by rw [(hW j j0 j1).1.2.2.2.2.2.2.2]; have := hb j j0 j1; omega)
theorem ct_sum4 (l : Launch) (g : zG) {m : zM} {W : zPl} (hW : zMod m W) (hb : zplb W) : zMet l g Y_X11_sumOf [zr 11 0 0, zr 54 0 0] m (fun v m' => v = some (zi (zsum 8 (W 4))) ∧ m' = m) := by
  rw [← zMod_s4 hW]
  exact ct_X11_sumOf l g rfl rfl (fun j j0 j1 => by rw [(hW j j0 j1).1.2.2.2.2.1]; have := hb j j0 j1; omega)
set_option maxRecDepth 20000 in
theorem ct_X11_canCook (l : Launch) (g : zG) {a m : zM} (hp : zmp a) (hR : zRel a 0 (m 45 0 0)) : zMet l g Y_X11_canCook [zr 11 0 0] m (fun v m' => v = some (zi (if zmss (zPl0 a 6) 8 = 0 ∧ zhp a then 1 else 0)) ∧ zMod m' (zPl0 a) ∧ zplb (zPl0 a) ∧ zMo m' m) := by
  refine zMet_introF (by decide +kernel) (Nat.le_of_ble_eq_true rfl) (ls0 := [some (zr 11 0 0)]) rfl fun X hG hE => ?_
  have hG : zGood X l g RX11 cX11_canCook 7 1 := hG
  have hE : zEnd X (some .boolean) _ := hE
  refine z_aload_n (i := 0) hG dX11_canCook_0 rfl rfl ?_
  refine z_callV hG dX11_canCook_1 LV_X11_150 (ct_X11_findNeeds l g hp hR) (by decide) rfl rfl rfl (Nat.le_of_ble_eq_true rfl) ?_
  intro v9 m1 h9
  obtain ⟨h9a, hW, hb, hO⟩ := h9
  rw [h9a]
  clear h9a v9
  have hR1 : zRel a 0 (m1 45 0 0) := by rw [zMo_45 hO]; exact hR
  refine z_aload_n (i := 0) hG dX11_canCook_4 rfl rfl ?_
  refine z_callV hG dX11_canCook_5 LV_X11_153 (ct_X11_hasPortions l g hp hR1) (by decide) rfl rfl rfl (Nat.le_of_ble_eq_true rfl) ?_
  intro v9 m9 h9
  rw [h9.1, h9.2]
  clear h9 m9 v9
  refine z_if_eq hG dX11_canCook_8 (tgt := 22) rfl (fun zcq8 => ?_) (fun zcq8 => ?_)
  · try simp only [zite_eq0, ne_eq, Classical.not_not] at zcq8
    refine z_iconst hG dX11_canCook_22 rfl ?_
    refine z_iret hG hE dX11_canCook_23 (by first | exact Or.inl rfl | exact Or.inr rfl | (show _ ∨ _; omega)) ?_
    refine ⟨?_, hW, hb, hO⟩
    first
    | (rw [if_pos ⟨by assumption, by assumption⟩]; done)
    | (rw [if_neg (fun q => absurd q.2 (by assumption))]; done)
    | (rw [if_neg (fun q => absurd q.1 (by assumption))]; done)
  · try simp only [zite_eq0, ne_eq, Classical.not_not] at zcq8
    refine z_aload_n (i := 0) hG dX11_canCook_11 rfl rfl ?_
    refine z_callV hG dX11_canCook_12 LV_X11_157 (ct_X11_missingSet l g) (by decide) rfl rfl rfl (Nat.le_of_ble_eq_true rfl) ?_
    intro v9 m9 h9
    rw [h9.1, h9.2, zMod_mss hW]
    clear h9 m9 v9
    refine z_if_ne hG dX11_canCook_15 (tgt := 22) rfl (fun zcq15 => ?_) (fun zcq15 => ?_)
    · try simp only [zite_eq0, ne_eq, Classical.not_not] at zcq15
      refine z_iconst hG dX11_canCook_22 rfl ?_
      refine z_iret hG hE dX11_canCook_23 (by first | exact Or.inl rfl | exact Or.inr rfl | (show _ ∨ _; omega)) ?_
      refine ⟨?_, hW, hb, hO⟩
      first
      | (rw [if_pos ⟨by assumption, by assumption⟩]; done)
      | (rw [if_neg (fun q => absurd q.2 (by assumption))]; done)
      | (rw [if_neg (fun q => absurd q.1 (by assumption))]; done)
    · try simp only [zite_eq0, ne_eq, Classical.not_not] at zcq15
      refine z_iconst hG dX11_canCook_18 rfl ?_
      refine z_goto hG dX11_canCook_19 (tgt := 23) rfl ?_
      refine z_iret hG hE dX11_canCook_23 (by first | exact Or.inl rfl | exact Or.inr rfl | (show _ ∨ _; omega)) ?_
      refine ⟨?_, hW, hb, hO⟩
      first
      | (rw [if_pos ⟨by assumption, by assumption⟩]; done)
      | (rw [if_neg (fun q => absurd q.2 (by assumption))]; done)
      | (rw [if_neg (fun q => absurd q.1 (by assumption))]; done)
