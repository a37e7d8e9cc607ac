theorem zsea_of {m m2 : zM} (h : ∀ (t : Nat) (k : Int), 33 ≤ t → m2 t 0 0 k = m t 0 0 k) (hs : zsea m) : zsea m2 := fun j h0 h1 => by
  rw [h 36 j (by decide), h 37 j (by decide)]
  exact hs j h0 h1
/-- the set of the ingredients that are missing -/
def zmss (f : Int → Int) : Nat → Int
  | 0 => 0
  | n + 1 => if 0 < f n then zor (zmss f n) (zshl 1 n) else zmss f n
/-- one ingredient is taken from the pantry, what is left over is put into it -/
def zcar1 (W : zPl) (i : Int) (m : zM) : zM :=
  let m1 := ztake 0 i (m 2 0 0 0) 30 1 (W 2 i) m
  let m2 := zset m1 14 0 i ((m1 2 0 0 0 + m1 3 0 i 0) % 30) (m1 14 0 i ((m1 2 0 0 0 + m1 3 0 i 0) % 30) + W 4 i)
  let m3 := zset m2 3 0 i 8 (zwr (m2 3 0 i 8 + W 3 i))
  zset m3 3 0 i 9 (zwr (m3 3 0 i 9 + (W 2 i + W 3 i - W 4 i)))
def zcarry (W : zPl) : Nat → zM → zM
  | 0, m => m
  | n + 1, m => zcar1 W n (zcarry W n m)
theorem ztake_out {s i t : Int} : ∀ (n : Nat) (a left : Int) (m : zM) (t' : Nat) (s' i' k' : Int), (t' ≠ 14 ∨ s' ≠ s ∨ i' ≠ i ∨ ¬ (0 ≤ k' ∧ k' < 30)) → ztake s i t n a left m t' s' i' k' = m t' s' i' k'
  | 0, _, _, _, _, _, _, _, _ => rfl
  | n + 1, a, left, m, t', s', i', k', h => by
    rw [ztake, ztake_out n _ _ _ t' s' i' k' h]
    simp only [zset]
    rw [if_neg]
    rintro ⟨h1, h2, h3, h4⟩
    have : 0 ≤ (t + a) % 30 ∧ (t + a) % 30 < 30 := by omega
    omega
theorem ztake_bd {s i t : Int} : ∀ (n : Nat) (a left : Int) (m : zM), 0 ≤ left → (∀ j : Int, 0 ≤ j → j < 30 → 0 ≤ m 14 s i j) → ∀ j : Int, 0 ≤ j → j < 30 → 0 ≤ ztake s i t n a left m 14 s i j ∧ ztake s i t n a left m 14 s i j ≤ m 14 s i j
  | 0, _, _, m, _, hm, j, h0, h1 => ⟨hm j h0 h1, Int.le_refl _⟩
  | n + 1, a, left, m, hl, hm, j, h0, h1 => by
    have hp := hm ((t + a) % 30) (by omega) (by omega)
    rw [ztake]
    have hm2 : ∀ j : Int, 0 ≤ j → j < 30 → 0 ≤ zset m 14 s i ((t + a) % 30) (m 14 s i ((t + a) % 30) - (if m 14 s i ((t + a) % 30) < left then m 14 s i ((t + a) % 30) else left)) 14 s i j ∧ zset m 14 s i ((t + a) % 30) (m 14 s i ((t + a) % 30) - (if m 14 s i ((t + a) % 30) < left then m 14 s i ((t + a) % 30) else left)) 14 s i j ≤ m 14 s i j := by
      intro j h0 h1
      have := hm j h0 h1
      simp only [zset]
      by_cases q : j = (t + a) % 30
      · subst q
        simp
        split <;> omega
      · simp [q]
        omega
    have := ztake_bd (t := t) n (a + 1) (left - (if m 14 s i ((t + a) % 30) < left then m 14 s i ((t + a) % 30) else left)) _ (by split <;> omega) (fun j h0 h1 => (hm2 j h0 h1).1) j h0 h1
    have := hm2 j h0 h1
    omega
theorem zcar1_out {W : zPl} {i : Int} {m : zM} {t' : Nat} {s' i' k' : Int} (h : (t' ≠ 14 ∧ t' ≠ 3) ∨ s' ≠ 0 ∨ i' ≠ i ∨ (t' = 3 ∧ k' ≠ 8 ∧ k' ≠ 9)) : zcar1 W i m t' s' i' k' = m t' s' i' k' := by
  have e := ztake_out (s := 0) (i := i) (t := m 2 0 0 0) 30 1 (W 2 i) m t' s' i' k'
  simp only [zcar1]
  generalize ztake 0 i (m 2 0 0 0) 30 1 (W 2 i) m = m1 at e
  have e2 : m1 t' s' i' k' = m t' s' i' k' := e (by omega)
  rw [← e2]
  simp only [zset]
  grind
theorem zcar1_bd {W : zPl} {i : Int} {m : zM} {B : Int} (hW : 0 ≤ W 2 i ∧ 0 ≤ W 4 i ∧ W 4 i ≤ 2000) (hm : ∀ j : Int, 0 ≤ j → j < 30 → 0 ≤ m 14 0 i j ∧ m 14 0 i j ≤ B) : ∀ j : Int, 0 ≤ j → j < 30 → 0 ≤ zcar1 W i m 14 0 i j ∧ zcar1 W i m 14 0 i j ≤ B + 2000 := by
  intro j h0 h1
  have hb := ztake_bd (s := 0) (i := i) (t := m 2 0 0 0) 30 1 (W 2 i) m hW.1 (fun j h0 h1 => (hm j h0 h1).1)
  simp only [zcar1]
  generalize ztake 0 i (m 2 0 0 0) 30 1 (W 2 i) m = m1 at hb
  have h2 := hb j h0 h1
  have h3 := hm j h0 h1
  simp only [zset]
  by_cases q : j = (m1 2 0 0 0 + m1 3 0 i 0) % 30
  · subst q
    simp
    omega
  · simp [q]
    omega
theorem zcarry_out {W : zPl} {t' : Nat} {s' i' k' : Int} : ∀ (n : Nat) (m : zM), ((t' ≠ 14 ∧ t' ≠ 3) ∨ s' ≠ 0 ∨ (n : Int) ≤ i' ∨ i' < 0 ∨ (t' = 3 ∧ k' ≠ 8 ∧ k' ≠ 9)) → zcarry W n m t' s' i' k' = m t' s' i' k'
  | 0, _, _ => rfl
  | n + 1, m, h => by
    rw [zcarry, zcar1_out (by omega), zcarry_out n m (by omega)]
/-- nothing is needed of what is no ingredient -/
theorem zpN_z {m : zM} (hp : zpc m) : ∀ n : Nat, n ≤ 8 → ∀ j : Int, m 2 0 0 4 ≤ j → zpN (zDc m) n 0 j = 0
  | 0, _, j, hj => by
    show (if (0 : Nat) = 0 then zDc m 0 j 0 else 0) = 0
    rw [if_pos rfl]
    simp only [zDc]
    rw [if_neg (by omega)]
  | n + 1, hn, j, hj => by
    have ih := zpN_z hp n (by omega)
    have hI := hp.2.2 n (by omega) (by omega)
    have hpan := zsum_le (f := m 14 0 n) (B := 12000000) 30 (fun j h0 h1 => hI.2.1 j h0 (by omega))
    have e1 : zDc m 1 n 0 = zsum 30 (m 14 0 n) := rfl
    have e6 : zDc m 6 n 0 = m 3 0 n 5 := rfl
    show zps (zDc m) n (zpN (zDc m) n) 0 j = 0
    by_cases q : m 2 0 0 4 ≤ (n : Int)
    · rw [zps_eq, if_pos (by rw [ih n q, e1, if_neg (by omega)]; decide)]
      simp [zps0, ih j hj]
    · have hr := hI.2.2 (by omega)
      rw [zps_eq, e6]
      generalize (if zDc m 1 (n : Int) 0 < zpN (zDc m) n 0 (n : Int) then zDc m 1 (n : Int) 0 else zpN (zDc m) n 0 (n : Int)) = fr
      split
      · simp [zps0, ih j hj]
      · split
        · simp [zbuyW, zps0, ih j hj]
        · split
          · simp only [zps0]
            rw [if_neg (by omega), if_neg (by omega), if_neg (by omega), if_neg (by omega), ih j hj]
          · simp [zps0, ih j hj]
set_option maxRecDepth 20000 in
theorem ct_X6_plan (l : Launch) (g : zG) {mem : zM} (hp : zpc mem) (hsea : zsea mem) : zMet l g Y_X6_plan [zr 8 0 0, zr 2 0 0] mem (fun v m' => v = none ∧ (∀ (t : Nat) (s i' k : Int), ¬ zscr t → m' t s i' k = mem t s i' k) ∧ zsea m' ∧ zShop m' (zpN (zDc mem) 8) ∧ zplb (zpN (zDc mem) 8)) := by
  refine zMet_introF (by decide +kernel) (Nat.le_of_ble_eq_true rfl) (ls0 := [some (zr 8 0 0), some (zr 2 0 0), none]) rfl fun X hG hE => ?_
  have hG : zGood X l g RX6 cX6_plan 5 3 := hG
  have hE : zEnd X (none) _ := hE
  have hrec := hp.1
  have hb0 : zplb (zpN (zDc mem) 0) := fun j h0 h1 => by
    have e : zpN (zDc mem) 0 = fun a i => if a = 0 then zDc mem 0 i 0 else 0 := rfl
    rw [e]
    have hq : 0 ≤ zDc mem 0 j 0 ∧ zDc mem 0 j 0 ≤ 100000 := by
      simp only [zDc]
      split
      · next h =>
        have := zsum_le (f := fun r => zscal mem 0 r (mem 17 0 r j)) (B := 10020) 4 (fun r r0 r1 => zscal_le ((hrec r r0 (by omega)).2.2.2 j h.1 h.2.2) (hrec r r0 (by omega)).1 (hrec r r0 (by omega)).2.1.2)
        omega
      · omega
    simp
    omega
  have loop2 : ∀ (n i : Nat) (m0 : zM), i + n = 8 → (∀ (t : Nat) (s i' k : Int), ¬ zscr t → m0 t s i' k = mem t s i' k) → zsea m0 → zShop m0 (zpN (zDc mem) i) → zplb (zpN (zDc mem) i) → zZ X 32 [some (zr 8 0 0), some (zr 2 0 0), some (zi i)] [] m0 := by
    intro n
    induction n with
    | zero =>
      intro i m0 hi hO hs hW hb
      refine z_iload_n (i := 2) hG dX6_plan_32 rfl rfl ?_
      refine z_bipush hG dX6_plan_33 rfl ?_
      refine z_icmp_ge hG dX6_plan_35 (tgt := 50) rfl (fun c35 => ?_) (fun c35 => ?_)
      · refine z_vret hG hE dX6_plan_50 ?_
        obtain rfl : i = 8 := by omega
        exact ⟨rfl, hO, hs, hW, hb⟩
      · exact absurd c35 (by omega)
    | succ n ih =>
      intro i m0 hi hO hs hW hb
      refine z_iload_n (i := 2) hG dX6_plan_32 rfl rfl ?_
      refine z_bipush hG dX6_plan_33 rfl ?_
      refine z_icmp_ge hG dX6_plan_35 (tgt := 50) rfl (fun c35 => ?_) (fun c35 => ?_)
      · exact absurd c35 (by omega)
      · refine z_aload_n (i := 0) hG dX6_plan_38 rfl rfl ?_
        refine z_aload_n (i := 1) hG dX6_plan_39 rfl rfl ?_
        refine z_iload_n (i := 2) hG dX6_plan_40 rfl rfl ?_
        refine z_callV hG dX6_plan_41 LV_X6_58 (ct_X6_planOne l g ⟨by omega, by omega⟩ (zpc_congr hO hp) hs hW hb (by rw [hO 2 0 0 4 (by simp [zscr])]; exact zpN_z hp i (by omega) i)) (by decide) rfl rfl rfl (Nat.le_of_ble_eq_true rfl) ?_
        intro v9 m1 h9
        obtain ⟨h9a, hO1, hs1, hW1, hb1⟩ := h9
        rw [h9a]
        clear h9a v9
        rw [zDc_congr hO] at hW1 hb1
        refine z_iinc hG dX6_plan_44 (by decide) rfl (by omega) (by omega) (ls2 := [_, _, _]) rfl ?_
        refine z_goto hG dX6_plan_47 (tgt := 32) rfl ?_
        exact ih (i + 1) m1 (by omega) (fun t s i' k h => by rw [hO1 t s i' k h, hO t s i' k h]) hs1 hW1 hb1
  have loop1 : ∀ (n i : Nat) (m0 : zM), i + n = 8 → (∀ (t : Nat) (s i' k : Int), ¬ zscr t → m0 t s i' k = mem t s i' k) → zsea m0 → (∀ j : Int, 0 ≤ j → j < i → (m0 23 0 0 j = zDc mem 0 j 0 ∧ (∀ t : Nat, 24 ≤ t → t ≤ 30 → m0 t 0 0 j = 0) ∧ ∀ k : Int, 0 ≤ k → k < 3 → m0 32 0 j k = 0)) → zZ X 2 [some (zr 8 0 0), some (zr 2 0 0), some (zi i)] [] m0 := by
    intro n
    induction n with
    | zero =>
      intro i m0 hi hO hs hJ
      refine z_iload_n (i := 2) hG dX6_plan_2 rfl rfl ?_
      refine z_bipush hG dX6_plan_3 rfl ?_
      refine z_icmp_ge hG dX6_plan_5 (tgt := 30) rfl (fun c5 => ?_) (fun c5 => ?_)
      · refine z_iconst hG dX6_plan_30 rfl ?_
        refine z_istore_n (i := 2) hG dX6_plan_31 rfl (by decide) (ls2 := [_, _, _]) rfl ?_
        refine loop2 8 0 m0 rfl hO hs (fun j h0 h1 => ?_) hb0
        have hj := hJ j h0 (by omega)
        refine ⟨⟨by rw [hj.1]; rfl, ?_, ?_, ?_, ?_, ?_, ?_, ?_⟩, ?_, ?_, ?_⟩
        · exact hj.2.1 24 (by decide) (by decide)
        · exact hj.2.1 25 (by decide) (by decide)
        · exact hj.2.1 26 (by decide) (by decide)
        · exact hj.2.1 27 (by decide) (by decide)
        · exact hj.2.1 28 (by decide) (by decide)
        · exact hj.2.1 29 (by decide) (by decide)
        · exact hj.2.1 30 (by decide) (by decide)
        · exact hj.2.2 0 (by decide) (by decide)
        · exact hj.2.2 1 (by decide) (by decide)
        · exact hj.2.2 2 (by decide) (by decide)
      · exact absurd c5 (by omega)
    | succ n ih =>
      intro i m0 hi hO hs hJ
      refine z_iload_n (i := 2) hG dX6_plan_2 rfl rfl ?_
      refine z_bipush hG dX6_plan_3 rfl ?_
      refine z_icmp_ge hG dX6_plan_5 (tgt := 30) rfl (fun c5 => ?_) (fun c5 => ?_)
      · exact absurd c5 (by omega)
      · refine z_aload_n (i := 0) hG dX6_plan_8 rfl rfl ?_
        refine z_iload_n (i := 2) hG dX6_plan_9 rfl rfl ?_
        refine z_callV hG dX6_plan_10 LV_X6_48 (ct_X6_clear l g ⟨by omega, by omega⟩) (by decide) rfl rfl rfl (Nat.le_of_ble_eq_true rfl) ?_
        intro v9 m1 h9
        obtain ⟨h9a, hOc, h33, h9s, h23, hz, h32⟩ := h9
        rw [h9a]
        clear h9a v9
        have hO1 : ∀ (t : Nat) (s i' k : Int), ¬ zscr t → m1 t s i' k = mem t s i' k := fun t s i' k h => by rw [hOc t s i' k h, hO t s i' k h]
        have hs1 := zsea_of h33 hs
        refine z_aload_n (i := 0) hG dX6_plan_13 rfl rfl ?_
        refine z_get_6_0 hG dX6_plan_14 FL_X6_9 ?_
        refine z_iload_n (i := 2) hG dX6_plan_17 rfl rfl ?_
        refine z_aload_n (i := 1) hG dX6_plan_18 rfl rfl ?_
        refine z_iload_n (i := 2) hG dX6_plan_19 rfl rfl ?_
        refine z_callV hG dX6_plan_20 LV_X6_52 (ct_X7_neededByRecipes l g (zpc_congr hO1 hp).1) (by decide) rfl rfl rfl (Nat.le_of_ble_eq_true rfl) ?_
        intro v9 m9 h9
        rw [h9.1, h9.2]
        clear h9 m9 v9
        refine z_iast hG dX6_plan_23 rfl rfl (by omega) (by omega) ?_
        refine z_iinc hG dX6_plan_24 (by decide) rfl (by omega) (by omega) (ls2 := [_, _, _]) rfl ?_
        refine z_goto hG dX6_plan_27 (tgt := 2) rfl ?_
        have hval : (if 0 ≤ (i : Int) ∧ (i : Int) < m1 2 0 0 4 ∧ (i : Int) < 8 then zsum 4 (fun r => zscal m1 0 r (m1 17 0 r i)) else 0) = zDc mem 0 i 0 := by rw [← zDc_congr hO1]; rfl
        rw [hval]
        refine ih (i + 1) _ (by omega) (fun t s i' k h => ?_) (fun j h0 h1 => ?_) (fun j h0 h1 => ?_)
        · rw [← hO1 t s i' k h]
          have : t ≠ 23 := fun z => h (by rw [z]; simp [zscr])
          simp [zset, this]
        · have := hs1 j h0 h1
          simpa [zset] using this
        · rcases (show j = i ∨ j < i by omega) with rfl | hlt
          · refine ⟨by simp [zset], fun t t0 t1 => ?_, fun k k0 k1 => ?_⟩
            · have := hz t i t0 t1
              simp [zset, show t ≠ 23 by omega, this]
            · have := h32 i k
              simp [zset, this]
              omega
          · have hj := hJ j h0 hlt
            have hne : j ≠ i := by omega
            refine ⟨by simp [zset, hne, h23, hj.1], fun t t0 t1 => ?_, fun k k0 k1 => ?_⟩
            · have := hz t j t0 t1
              simp [zset, show t ≠ 23 by omega, this, hne, hj.2.1 t t0 t1]
            · have := h32 j k
              simp [zset, this, hne, hj.2.2 k k0 k1]
  refine z_iconst hG dX6_plan_0 rfl ?_
  refine z_istore_n (i := 2) hG dX6_plan_1 rfl (by decide) (ls2 := [_, _, _]) rfl ?_
  exact loop1 8 0 mem rfl (fun _ _ _ _ _ => rfl) hsea (fun j h0 h1 => absurd h0 (by omega))
set_option maxRecDepth 20000 in
theorem ct_X6_missingSet (l : Launch) (g : zG) {mem : zM} : zMet l g Y_X6_missingSet [zr 8 0 0] mem (fun v m' => v = some (zi (zmss (mem 29 0 0) 8)) ∧ m' = mem) := by
  refine zMet_introF (by decide +kernel) (Nat.le_of_ble_eq_true rfl) (ls0 := [some (zr 8 0 0), none, none]) rfl fun X hG hE => ?_
  have hG : zGood X l g RX6 cX6_missingSet 0 3 := hG
  have hE : zEnd X (some .int) _ := hE
  have loop : ∀ n i : Nat, i + n = 8 → zZ X 4 [some (zr 8 0 0), some (zi (zmss (mem 29 0 0) i)), some (zi i)] [] mem := by
    intro n
    induction n with
    | zero =>
      intro i hi
      refine z_iload_n (i := 2) hG dX6_missingSet_4 rfl rfl ?_
      refine z_bipush hG dX6_missingSet_5 rfl ?_
      refine z_icmp_ge hG dX6_missingSet_7 (tgt := 31) rfl (fun c7 => ?_) (fun c7 => ?_)
      · refine z_iload_n (i := 1) hG dX6_missingSet_31 rfl rfl ?_
        refine z_iret hG hE dX6_missingSet_32 trivial ?_
        obtain rfl : i = 8 := by omega
        exact ⟨rfl, rfl⟩
      · exact absurd c7 (by omega)
    | succ n ih =>
      intro i hi
      refine z_iload_n (i := 2) hG dX6_missingSet_4 rfl rfl ?_
      refine z_bipush hG dX6_missingSet_5 rfl ?_
      refine z_icmp_ge hG dX6_missingSet_7 (tgt := 31) rfl (fun c7 => ?_) (fun c7 => ?_)
      · exact absurd c7 (by omega)
      · refine z_aload_n (i := 0) hG dX6_missingSet_10 rfl rfl ?_
        refine z_get_6_6 hG dX6_missingSet_11 FL_X6_30 ?_
        refine z_iload_n (i := 2) hG dX6_missingSet_14 rfl rfl ?_
        refine z_iald hG dX6_missingSet_15 rfl rfl (by omega) (by omega) ?_
        refine z_if_le hG dX6_missingSet_16 (tgt := 25) rfl (fun c16 => ?_) (fun c16 => ?_)
        · refine z_iinc hG dX6_missingSet_25 (by decide) rfl (by omega) (by omega) (ls2 := [_, _, _]) rfl ?_
          refine z_goto hG dX6_missingSet_28 (tgt := 4) rfl ?_
          refine z_forget [true, true, true] (ls2 := [some (zr 8 0 0), some (zi (zmss (mem 29 0 0) (i + 1))), some (zi ((i + 1 : Nat) : Int))]) ?_ (ih (i + 1) (by omega))
          first | (simp only [zmss, zfor, if_pos c16]; rfl) | (simp only [zmss, zfor, show ¬ 0 < mem 29 0 0 i by omega, if_false]; rfl)
        · refine z_iload_n (i := 1) hG dX6_missingSet_19 rfl rfl ?_
          refine z_iconst hG dX6_missingSet_20 rfl ?_
          refine z_iload_n (i := 2) hG dX6_missingSet_21 rfl rfl ?_
          refine z_ishl hG dX6_missingSet_22 ?_
          refine z_ior hG dX6_missingSet_23 ?_
          refine z_istore_n (i := 1) hG dX6_missingSet_24 rfl (by decide) (ls2 := [_, _, _]) rfl ?_
          refine z_iinc hG dX6_missingSet_25 (by decide) rfl (by omega) (by omega) (ls2 := [_, _, _]) rfl ?_
          refine z_goto hG dX6_missingSet_28 (tgt := 4) rfl ?_
          refine z_forget [true, true, true] (ls2 := [some (zr 8 0 0), some (zi (zmss (mem 29 0 0) (i + 1))), some (zi ((i + 1 : Nat) : Int))]) ?_ (ih (i + 1) (by omega))
          first | (simp only [zmss, zfor, if_pos c16]; rfl) | (simp only [zmss, zfor, show ¬ 0 < mem 29 0 0 i by omega, if_false]; rfl)
  refine z_iconst hG dX6_missingSet_0 rfl ?_
  refine z_istore_n (i := 1) hG dX6_missingSet_1 rfl (by decide) (ls2 := [_, _, _]) rfl ?_
  refine z_iconst hG dX6_missingSet_2 rfl ?_
  refine z_istore_n (i := 2) hG dX6_missingSet_3 rfl (by decide) (ls2 := [_, _, _]) rfl ?_
  exact loop 8 0 rfl
set_option maxRecDepth 20000 in
theorem ct_X6_allPrices (l : Launch) (g : zG) {mem : zM} {W : zPl} (hW : zShop mem W) (hb : zplb W) : zMet l g Y_X6_allPrices [zr 8 0 0] mem (fun v m' => v = some (zi (zsum 8 (W 7))) ∧ m' = mem) := by
  refine zMet_introF (by decide +kernel) (Nat.le_of_ble_eq_true rfl) (ls0 := [some (zr 8 0 0)]) rfl fun X hG hE => ?_
  have hG : zGood X l g RX6 cX6_allPrices 1 1 := hG
  have hE : zEnd X (some .int) _ := hE
  have hsm : zsum 8 (mem 30 0 0) = zsum 8 (W 7) := by
    have e : ∀ n : Nat, n ≤ 8 → zsum n (mem 30 0 0) = zsum n (W 7) := by
      intro n
      induction n with
      | zero => intro _; rfl
      | succ n ih =>
        intro hn
        have h := hW n (by omega) (by omega)
        simp only [zsum]
        rw [ih (by omega)]
        grind
    exact e 8 (by decide)
  refine z_aload_n (i := 0) hG dX6_allPrices_0 rfl rfl ?_
  refine z_get_6_7 hG dX6_allPrices_1 FL_X6_33 ?_
  refine z_callS hG dX6_allPrices_4 LS_X6_139 (ct_X6_sum l g rfl rfl (fun j h0 h1 => by have h := hW j h0 h1; have h2 := hb j h0 h1; omega)) (by decide) rfl rfl (Nat.le_of_ble_eq_true rfl) ?_
  intro v9 m9 h9
  rw [h9.1, h9.2]
  clear h9 m9 v9
  refine z_iret hG hE dX6_allPrices_7 trivial ?_
  exact ⟨by rw [hsm], rfl⟩
set_option maxRecDepth 20000 in
theorem ct_X6_allLeftOver (l : Launch) (g : zG) {mem : zM} {W : zPl} (hW : zShop mem W) (hb : zplb W) : zMet l g Y_X6_allLeftOver [zr 8 0 0] mem (fun v m' => v = some (zi (zsum 8 (W 4))) ∧ m' = mem) := by
  refine zMet_introF (by decide +kernel) (Nat.le_of_ble_eq_true rfl) (ls0 := [some (zr 8 0 0)]) rfl fun X hG hE => ?_
  have hG : zGood X l g RX6 cX6_allLeftOver 1 1 := hG
  have hE : zEnd X (some .int) _ := hE
  have hsm : zsum 8 (mem 27 0 0) = zsum 8 (W 4) := by
    have e : ∀ n : Nat, n ≤ 8 → zsum n (mem 27 0 0) = zsum n (W 4) := by
      intro n
      induction n with
      | zero => intro _; rfl
      | succ n ih =>
        intro hn
        have h := hW n (by omega) (by omega)
        simp only [zsum]
        rw [ih (by omega)]
        grind
    exact e 8 (by decide)
  refine z_aload_n (i := 0) hG dX6_allLeftOver_0 rfl rfl ?_
  refine z_get_6_4 hG dX6_allLeftOver_1 FL_X6_24 ?_
  refine z_callS hG dX6_allLeftOver_4 LS_X6_139 (ct_X6_sum l g rfl rfl (fun j h0 h1 => by have h := hW j h0 h1; have h2 := hb j h0 h1; omega)) (by decide) rfl rfl (Nat.le_of_ble_eq_true rfl) ?_
  intro v9 m9 h9
  rw [h9.1, h9.2]
  clear h9 m9 v9
  refine z_iret hG hE dX6_allLeftOver_7 trivial ?_
  exact ⟨by rw [hsm], rfl⟩
set_option maxRecDepth 20000 in
theorem ct_X6_carryOut (l : Launch) (g : zG) {mem : zM} {W : zPl} (hW : zShop mem W) (hb : zplb W) (hd : 0 ≤ mem 2 0 0 0 ∧ mem 2 0 0 0 ≤ 3000) (hk : ∀ i : Int, 0 ≤ i → i < 8 → (0 ≤ mem 3 0 i 0 ∧ mem 3 0 i 0 ≤ 30) ∧ ∀ j : Int, 0 ≤ j → j < 30 → 0 ≤ mem 14 0 i j ∧ mem 14 0 i j ≤ 12000000) : zMet l g Y_X6_carryOut [zr 8 0 0, zr 2 0 0] mem (fun v m' => v = none ∧ m' = zcarry W 8 mem) := by
  refine zMet_introF (by decide +kernel) (Nat.le_of_ble_eq_true rfl) (ls0 := [some (zr 8 0 0), some (zr 2 0 0), none, none]) rfl fun X hG hE => ?_
  have hG : zGood X l g RX6 cX6_carryOut 3 4 := hG
  have hE : zEnd X (none) _ := hE
  have loop : ∀ n i : Nat, i + n = 8 → zZ X 2 [some (zr 8 0 0), some (zr 2 0 0), some (zi i), none] [] (zcarry W i mem) := by
    intro n
    induction n with
    | zero =>
      intro i hi
      refine z_iload_n (i := 2) hG dX6_carryOut_2 rfl rfl ?_
      refine z_bipush hG dX6_carryOut_3 rfl ?_
      refine z_icmp_ge hG dX6_carryOut_5 (tgt := 93) rfl (fun c5 => ?_) (fun c5 => ?_)
      · refine z_vret hG hE dX6_carryOut_93 ?_
        obtain rfl : i = 8 := by omega
        exact ⟨rfl, rfl⟩
      · exact absurd c5 (by omega)
    | succ n ih =>
      intro i hi
      have hWi := hW i (by omega) (by omega)
      have hbi := hb i (by omega) (by omega)
      have hki := hk i (by omega) (by omega)
      have e2 : zcarry W i mem 2 0 0 0 = mem 2 0 0 0 := zcarry_out i mem (by omega)
      have e3 : ∀ k : Int, zcarry W i mem 3 0 i k = mem 3 0 i k := fun k => zcarry_out i mem (by omega)
      have e14 : ∀ k : Int, zcarry W i mem 14 0 i k = mem 14 0 i k := fun k => zcarry_out i mem (by omega)
      have e25 : zcarry W i mem 25 0 0 i = W 2 i := by rw [zcarry_out i mem (by omega)]; exact hWi.1.2.2.1
      have e26 : zcarry W i mem 26 0 0 i = W 3 i := by rw [zcarry_out i mem (by omega)]; exact hWi.1.2.2.2.1
      have e27 : zcarry W i mem 27 0 0 i = W 4 i := by rw [zcarry_out i mem (by omega)]; exact hWi.1.2.2.2.2.1
      have hlast : zcarry W (i + 1) mem = zcar1 W i (zcarry W i mem) := rfl
      generalize zcarry W i mem = m0 at *
      refine z_iload_n (i := 2) hG dX6_carryOut_2 rfl rfl ?_
      refine z_bipush hG dX6_carryOut_3 rfl ?_
      refine z_icmp_ge hG dX6_carryOut_5 (tgt := 93) rfl (fun c5 => ?_) (fun c5 => ?_)
      · exact absurd c5 (by omega)
      · refine z_aload_n (i := 1) hG dX6_carryOut_8 rfl rfl ?_
        refine z_get_7_6 hG dX6_carryOut_9 FL_X6_62 ?_
        refine z_iload_n (i := 2) hG dX6_carryOut_12 rfl rfl ?_
        refine z_aa_15 hG dX6_carryOut_13 (by omega) (by omega) ?_
        refine z_astore_n (i := 3) hG dX6_carryOut_14 rfl (by decide) (ls2 := [_, _, _, _]) rfl ?_
        refine z_aload_n (i := 3) hG dX6_carryOut_15 rfl rfl ?_
        refine z_aload_n (i := 1) hG dX6_carryOut_16 rfl rfl ?_
        refine z_getI hG dX6_carryOut_17 FL_X6_124 rfl rfl (kk := 0) rfl ?_
        refine z_aload_n (i := 0) hG dX6_carryOut_20 rfl rfl ?_
        refine z_get_6_2 hG dX6_carryOut_21 FL_X6_18 ?_
        refine z_iload_n (i := 2) hG dX6_carryOut_24 rfl rfl ?_
        refine z_iald hG dX6_carryOut_25 rfl rfl (by omega) (by omega) ?_
        rw [e25]
        refine z_callV hG dX6_carryOut_26 LV_X6_127 (ct_X1_takeFromLots l g (by omega) (by omega) (fun j h0 h1 => by rw [e14]; have := hki.2 j h0 h1; omega) ⟨by omega, by omega⟩) (by decide) rfl rfl rfl (Nat.le_of_ble_eq_true rfl) ?_
        intro v9 m9 h9
        rw [h9.1, h9.2]
        clear h9 m9 v9
        have g2 : ztake 0 i (m0 2 0 0 0) 30 1 (W 2 i) m0 2 0 0 0 = mem 2 0 0 0 := by rw [ztake_out 30 1 _ m0 2 0 0 0 (by omega), e2]
        have g3 : ∀ k : Int, ztake 0 i (m0 2 0 0 0) 30 1 (W 2 i) m0 3 0 i k = mem 3 0 i k := fun k => by rw [ztake_out 30 1 _ m0 3 0 i k (by omega), e3]
        have g25 : ztake 0 i (m0 2 0 0 0) 30 1 (W 2 i) m0 25 0 0 i = W 2 i := by rw [ztake_out 30 1 _ m0 25 0 0 i (by omega), e25]
        have g26 : ztake 0 i (m0 2 0 0 0) 30 1 (W 2 i) m0 26 0 0 i = W 3 i := by rw [ztake_out 30 1 _ m0 26 0 0 i (by omega), e26]
        have g27 : ztake 0 i (m0 2 0 0 0) 30 1 (W 2 i) m0 27 0 0 i = W 4 i := by rw [ztake_out 30 1 _ m0 27 0 0 i (by omega), e27]
        have gb := ztake_bd (s := 0) (i := i) (t := m0 2 0 0 0) 30 1 (W 2 i) m0 (by omega) (fun j h0 h1 => by rw [e14]; exact (hki.2 j h0 h1).1)
        simp only [zcar1] at hlast
        generalize ztake 0 i (m0 2 0 0 0) 30 1 (W 2 i) m0 = m1 at *
        refine z_aload_n (i := 3) hG dX6_carryOut_29 rfl rfl ?_
        refine z_aload_n (i := 1) hG dX6_carryOut_30 rfl rfl ?_
        refine z_getI hG dX6_carryOut_31 FL_X6_124 rfl rfl (kk := 0) rfl ?_
        refine z_aload_n (i := 0) hG dX6_carryOut_34 rfl rfl ?_
        refine z_get_6_4 hG dX6_carryOut_35 FL_X6_24 ?_
        refine z_iload_n (i := 2) hG dX6_carryOut_38 rfl rfl ?_
        refine z_iald hG dX6_carryOut_39 rfl rfl (by omega) (by omega) ?_
        rw [g27]
        refine z_callV hG dX6_carryOut_40 LV_X6_131 (ct_X1_addLot l g (by omega) (by omega) (by rw [g3]; omega) (by rw [g3]; omega) (by have := hki.2 ((m1 2 0 0 0 + m1 3 0 i 0) % 30) (by omega) (by omega); have := gb ((m1 2 0 0 0 + m1 3 0 i 0) % 30) (by omega) (by omega); rw [e14] at this; omega) ⟨by omega, by omega⟩) (by decide) rfl rfl rfl (Nat.le_of_ble_eq_true rfl) ?_
        intro v9 m9 h9
        rw [h9.1, h9.2]
        clear h9 m9 v9
        have k26 : ∀ (v : Int), zset m1 14 0 i ((m1 2 0 0 0 + m1 3 0 i 0) % 30) v 26 0 0 i = W 3 i := fun v => by rw [← g26]; simp [zset]
        have k25 : ∀ (v u : Int), zset (zset m1 14 0 i ((m1 2 0 0 0 + m1 3 0 i 0) % 30) v) 3 0 i 8 u 25 0 0 i = W 2 i := fun v u => by rw [← g25]; simp [zset]
        have k26b : ∀ (v u : Int), zset (zset m1 14 0 i ((m1 2 0 0 0 + m1 3 0 i 0) % 30) v) 3 0 i 8 u 26 0 0 i = W 3 i := fun v u => by rw [← g26]; simp [zset]
        have k27b : ∀ (v u : Int), zset (zset m1 14 0 i ((m1 2 0 0 0 + m1 3 0 i 0) % 30) v) 3 0 i 8 u 27 0 0 i = W 4 i := fun v u => by rw [← g27]; simp [zset]
        refine z_aload_n (i := 3) hG dX6_carryOut_43 rfl rfl ?_
        first | refine z_dup_r hG dX6_carryOut_44 ?_ | refine z_dup_i hG dX6_carryOut_44 ?_
        refine z_getI hG dX6_carryOut_45 FL_X6_134 rfl rfl (kk := 8) rfl ?_
        refine z_aload_n (i := 0) hG dX6_carryOut_48 rfl rfl ?_
        refine z_get_6_3 hG dX6_carryOut_49 FL_X6_21 ?_
        refine z_iload_n (i := 2) hG dX6_carryOut_52 rfl rfl ?_
        refine z_iald hG dX6_carryOut_53 rfl rfl (by omega) (by omega) ?_
        rw [k26]
        refine z_iaddw hG dX6_carryOut_54 ?_
        refine z_put hG dX6_carryOut_55 FP_X6_134 rfl rfl (kk := 8) rfl ?_
        refine z_aload_n (i := 3) hG dX6_carryOut_58 rfl rfl ?_
        first | refine z_dup_r hG dX6_carryOut_59 ?_ | refine z_dup_i hG dX6_carryOut_59 ?_
        refine z_getI hG dX6_carryOut_60 FL_X6_136 rfl rfl (kk := 9) rfl ?_
        refine z_aload_n (i := 0) hG dX6_carryOut_63 rfl rfl ?_
        refine z_get_6_2 hG dX6_carryOut_64 FL_X6_18 ?_
        refine z_iload_n (i := 2) hG dX6_carryOut_67 rfl rfl ?_
        refine z_iald hG dX6_carryOut_68 rfl rfl (by omega) (by omega) ?_
        rw [k25]
        refine z_aload_n (i := 0) hG dX6_carryOut_69 rfl rfl ?_
        refine z_get_6_3 hG dX6_carryOut_70 FL_X6_21 ?_
        refine z_iload_n (i := 2) hG dX6_carryOut_73 rfl rfl ?_
        refine z_iald hG dX6_carryOut_74 rfl rfl (by omega) (by omega) ?_
        rw [k26b]
        refine z_iadd hG dX6_carryOut_75 (by omega) (by omega) ?_
        refine z_aload_n (i := 0) hG dX6_carryOut_76 rfl rfl ?_
        refine z_get_6_4 hG dX6_carryOut_77 FL_X6_24 ?_
        refine z_iload_n (i := 2) hG dX6_carryOut_80 rfl rfl ?_
        refine z_iald hG dX6_carryOut_81 rfl rfl (by omega) (by omega) ?_
        rw [k27b]
        refine z_isub hG dX6_carryOut_82 (by omega) (by omega) ?_
        refine z_iaddw hG dX6_carryOut_83 ?_
        refine z_put hG dX6_carryOut_84 FP_X6_136 rfl rfl (kk := 9) rfl ?_
        refine z_iinc hG dX6_carryOut_87 (by decide) rfl (by omega) (by omega) (ls2 := [_, _, _, _]) rfl ?_
        refine z_goto hG dX6_carryOut_90 (tgt := 2) rfl ?_
        refine z_forget [true, true, true, false] rfl (z_mem ?_ (ih (i + 1) (by omega)))
        rw [hlast]
  refine z_iconst hG dX6_carryOut_0 rfl ?_
  refine z_istore_n (i := 2) hG dX6_carryOut_1 rfl (by decide) (ls2 := [_, _, _, _]) rfl ?_
  exact loop 8 0 rfl
