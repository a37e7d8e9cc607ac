theorem zcheap_trans {m : zM} {s i a b c : Int} (ha : 0 < m 12 s i a) (hb : 0 < m 12 s i b) (hc : 0 < m 12 s i c) (h1 : zcheap m s i a b) (h2 : zcheap m s i b c) : zcheap m s i a c := by
  unfold zcheap at *
  generalize m 12 s i a = sa at *
  generalize m 12 s i b = sb at *
  generalize m 12 s i c = sc at *
  generalize m 13 s i a = pa at *
  generalize m 13 s i b = pb at *
  generalize m 13 s i c = pc at *
  have le1 : pa * sb ≤ pb * sa := by omega
  have le2 : pb * sc ≤ pc * sb := by omega
  have e1 : pa * sc * sb = pa * sb * sc := by rw [Int.mul_right_comm]
  have e2 : pb * sa * sc = pb * sc * sa := by rw [Int.mul_right_comm]
  have e3 : pc * sb * sa = pc * sa * sb := by rw [Int.mul_right_comm]
  have g1 : pa * sb * sc ≤ pb * sa * sc := Int.mul_le_mul_of_nonneg_right le1 (Int.le_of_lt hc)
  have g2 : pb * sc * sa ≤ pc * sb * sa := Int.mul_le_mul_of_nonneg_right le2 (Int.le_of_lt ha)
  rcases h1 with h1 | ⟨h1, h1s⟩
  · have g3 : pa * sb * sc < pb * sa * sc := Int.mul_lt_mul_of_pos_right h1 hc
    exact Or.inl (Int.lt_of_mul_lt_mul_right (a := sb) (by omega) (Int.le_of_lt hb))
  · rcases h2 with h2 | ⟨h2, h2s⟩
    · have g3 : pb * sc * sa < pc * sb * sa := Int.mul_lt_mul_of_pos_right h2 ha
      exact Or.inl (Int.lt_of_mul_lt_mul_right (a := sb) (by omega) (Int.le_of_lt hb))
    · have g3 : pa * sc * sb = pc * sa * sb := by rw [e1, h1, e2, h2, e3]
      exact Or.inr ⟨Int.eq_of_mul_eq_mul_right (Int.ne_of_gt hb) g3, by omega⟩
theorem zcheap_total {m : zM} {s i a b : Int} (hk : zkin m s i) (ha : zhk m s i a) (hb : zhk m s i b) (hne : a ≠ b) (h : ¬ zcheap m s i a b) : zcheap m s i b a := by
  have hs := hk.2.2.2 a b ha.1 ha.2.1 hb.1 hb.2.1 hne
  unfold zcheap at *
  omega
/-- r goes ahead of o -/
def zah (m : zM) (s i r o : Int) : Prop := zhk m s i r ∧ (zhk m s i o → zcheap m s i r o)
/-- the kinds in their order: those that there are first, the cheapest ahead -/
def zord (m : zM) (s i R0 R1 R2 : Int) : Prop := ((0 ≤ R0 ∧ R0 < 3) ∧ (0 ≤ R1 ∧ R1 < 3) ∧ (0 ≤ R2 ∧ R2 < 3) ∧ R0 ≠ R1 ∧ R0 ≠ R2 ∧ R1 ≠ R2) ∧ (zhk m s i R1 → zhk m s i R0 ∧ zcheap m s i R0 R1) ∧ (zhk m s i R2 → zhk m s i R1 ∧ zcheap m s i R0 R2 ∧ zcheap m s i R1 R2)
theorem zord_of {m : zM} {s i a b R0 R1 R2 : Int} (hk : zkin m s i) (hab : (a = 0 ∧ b = 1 ∧ ¬ zah m s i 1 0) ∨ (a = 1 ∧ b = 0 ∧ zah m s i 1 0))
    (h : (R0 = a ∧ R1 = b ∧ R2 = 2 ∧ ¬ zah m s i 2 b) ∨ (R0 = a ∧ R1 = 2 ∧ R2 = b ∧ zah m s i 2 b ∧ ¬ zah m s i 2 a) ∨ (R0 = 2 ∧ R1 = a ∧ R2 = b ∧ zah m s i 2 b ∧ zah m s i 2 a)) : zord m s i R0 R1 R2 := by
  have hpos : ∀ k, zhk m s i k → 0 < m 12 s i k := fun k q => by have := hk.2.1 k q.1 q.2.1; omega
  have dn : ∀ k o, 0 ≤ o → o ≤ k → zhk m s i k → zhk m s i o := fun k o h0 h1 q => ⟨h0, by have := q.2.1; omega, by have := q.2.2; omega⟩
  have tot : ∀ k o, k ≠ o → zhk m s i k → zhk m s i o → ¬ zah m s i k o → zcheap m s i o k := fun k o hne q1 q2 q3 => zcheap_total hk q1 q2 hne (fun z => q3 ⟨q1, fun _ => z⟩)
  have tr : ∀ x y z, zhk m s i x → zhk m s i y → zhk m s i z → zcheap m s i x y → zcheap m s i y z → zcheap m s i x z := fun x y z q1 q2 q3 => zcheap_trans (hpos x q1) (hpos y q2) (hpos z q3)
  rcases hab with ⟨rfl, rfl, h10⟩ | ⟨rfl, rfl, h10⟩
  · rcases h with ⟨rfl, rfl, rfl, h21⟩ | ⟨rfl, rfl, rfl, h21, h20⟩ | ⟨rfl, rfl, rfl, h21, h20⟩
    · refine ⟨by decide, fun q => ?_, fun q => ?_⟩
      · have q0 := dn _ 0 (by decide) (by decide) q
        exact ⟨q0, tot 1 0 (by decide) q q0 h10⟩
      · have q0 := dn _ 0 (by decide) (by decide) q
        have q1 := dn _ 1 (by decide) (by decide) q
        have c01 := tot 1 0 (by decide) q1 q0 h10
        have c12 := tot 2 1 (by decide) q q1 h21
        exact ⟨q1, tr 0 1 2 q0 q1 q c01 c12, c12⟩
    · have q2 := h21.1
      have q1 := dn _ 1 (by decide) (by decide) q2
      have q0 := dn _ 0 (by decide) (by decide) q2
      exact ⟨by decide, fun _ => ⟨q0, tot 2 0 (by decide) q2 q0 h20⟩, fun _ => ⟨q2, tot 1 0 (by decide) q1 q0 h10, h21.2 q1⟩⟩
    · have q2 := h21.1
      have q1 := dn _ 1 (by decide) (by decide) q2
      have q0 := dn _ 0 (by decide) (by decide) q2
      exact ⟨by decide, fun _ => ⟨q2, h20.2 q0⟩, fun _ => ⟨q0, h21.2 q1, tot 1 0 (by decide) q1 q0 h10⟩⟩
  · have q1 := h10.1
    have q0 := dn _ 0 (by decide) (by decide) q1
    have c10 := h10.2 q0
    rcases h with ⟨rfl, rfl, rfl, h20⟩ | ⟨rfl, rfl, rfl, h20, h21⟩ | ⟨rfl, rfl, rfl, h20, h21⟩
    · refine ⟨by decide, fun _ => ⟨q1, c10⟩, fun q => ?_⟩
      have c02 := tot 2 0 (by decide) q q0 h20
      exact ⟨q0, tr 1 0 2 q1 q0 q c10 c02, c02⟩
    · have q2 := h20.1
      exact ⟨by decide, fun _ => ⟨q1, tot 2 1 (by decide) q2 q1 h21⟩, fun _ => ⟨q2, c10, h20.2 q0⟩⟩
    · have q2 := h20.1
      exact ⟨by decide, fun _ => ⟨q2, h21.2 q1⟩, fun _ => ⟨q1, h20.2 q0, c10⟩⟩
theorem zmo_congr {m m2 : zM} {r : Int} : ∀ a : Nat, (a : Int) ≤ r → (∀ k : Int, 0 ≤ k → k ≤ r → m 36 0 0 k = m2 36 0 0 k) → zmo m r a = zmo m2 r a
  | 0, _, _ => rfl
  | a + 1, h, hk => by
    have ih := zmo_congr (m := m) (m2 := m2) a (by omega) hk
    simp only [zmo]
    rw [hk a (by omega) (by omega), hk r (by omega) (by omega), ih]
/-- what rank leaves -/
def zrkd (m m' : zM) (s i R0 R1 R2 : Int) : Prop := (m' 35 0 0 0 = R0 ∧ m' 35 0 0 1 = R1 ∧ m' 35 0 0 2 = R2) ∧ zord m s i R0 R1 R2 ∧ (∀ j : Int, 0 ≤ j → j < 3 → (zhk m s i (m' 35 0 0 j) → m' 36 0 0 j = m 12 s i (m' 35 0 0 j) ∧ m' 37 0 0 j = m 13 s i (m' 35 0 0 j) ∧ m' 38 0 0 j = zmo m' j j.toNat) ∧ (¬ zhk m s i (m' 35 0 0 j) → m' 36 0 0 j = 0 ∧ m' 37 0 0 j = 0 ∧ m' 38 0 0 j = 0))
set_option maxRecDepth 20000 in
theorem ct_X9_rank (l : Launch) (g : zG) {mem : zM} {s i : Int} (hk : zkin mem s i) (hsea : zsea mem) : zMet l g Y_X9_rank [zr 9 0 0, zr 3 s i] mem (fun v m' => v = none ∧ (∀ (t' : Nat) (s' i' k' : Int), t' ≠ 35 → t' ≠ 36 → t' ≠ 37 → t' ≠ 38 → m' t' s' i' k' = mem t' s' i' k') ∧ zsea m' ∧ ∃ R0 R1 R2 : Int, zrkd mem m' s i R0 R1 R2) := by
  refine zMet_introF (by decide +kernel) (Nat.le_of_ble_eq_true rfl) (ls0 := [some (zr 9 0 0), some (zr 3 s i), none, none]) rfl fun X hG hE => ?_
  have hG : zGood X l g RX9 cX9_rank 2 4 := hG
  have hE : zEnd X (none) _ := hE
  have kin2 : ∀ m0 : zM, (∀ (t' : Nat) (s' i' k' : Int), t' ≠ 35 → m0 t' s' i' k' = mem t' s' i' k') → zkin m0 s i := fun m0 h => by
    have e3 := fun k => h 3 s i k (by decide)
    have e12 := fun k => h 12 s i k (by decide)
    have e13 := fun k => h 13 s i k (by decide)
    unfold zkin
    simp only [e3, e12, e13]
    exact hk
  have hk2 : ∀ (m0 : zM) (k : Int), (∀ (t' : Nat) (s' i' k' : Int), t' ≠ 35 → m0 t' s' i' k' = mem t' s' i' k') → (zhk m0 s i k ↔ zhk mem s i k) := fun m0 k h => by
    unfold zhk
    rw [h 3 s i 2 (by decide)]
  have ch2 : ∀ (m0 : zM) (k o : Int), (∀ (t' : Nat) (s' i' k' : Int), t' ≠ 35 → m0 t' s' i' k' = mem t' s' i' k') → (zcheap m0 s i k o ↔ zcheap mem s i k o) := fun m0 k o h => by
    unfold zcheap
    rw [h 13 s i k (by decide), h 13 s i o (by decide), h 12 s i k (by decide), h 12 s i o (by decide)]
  have inner : ∀ (n : Nat) (r q : Int) (m0 : zM), q = n → q ≤ r → r < 3 → (∀ (t' : Nat) (s' i' k' : Int), t' ≠ 35 → m0 t' s' i' k' = mem t' s' i' k') →
      (∀ (q' : Int) (m1 : zM), 0 ≤ q' → q' ≤ q → (∀ (t' : Nat) (s' i' k' : Int), t' ≠ 35 → m1 t' s' i' k' = mem t' s' i' k') → (∀ j : Int, m1 35 0 0 j = if q' < j ∧ j ≤ q then m0 35 0 0 (j - 1) else m0 35 0 0 j) → (∀ j : Int, q' ≤ j → j < q → zah mem s i r (m0 35 0 0 j)) → (q' = 0 ∨ ¬ zah mem s i r (m0 35 0 0 (q' - 1))) → zZ X 57 [some (zr 9 0 0), some (zr 3 s i), some (zi r), some (zi q')] [] m1) →
      zZ X 9 [some (zr 9 0 0), some (zr 3 s i), some (zi r), some (zi q)] [] m0 := by
    intro n
    induction n with
    | zero =>
      intro r q m0 hq hqr hr hm K
      refine z_iload_n (i := 3) hG dX9_rank_9 rfl rfl ?_
      refine z_if_le hG dX9_rank_10 (tgt := 57) rfl (fun c10 => ?_) (fun c10 => ?_)
      · exact K q m0 (by omega) (by omega) hm (fun j => by rw [if_neg (by omega)]) (fun j h0 h1 => by omega) (Or.inl (by omega))
      · exact absurd c10 (by omega)
    | succ n ih =>
      intro r q m0 hq hqr hr hm K
      have hkm := kin2 m0 hm
      refine z_iload_n (i := 3) hG dX9_rank_9 rfl rfl ?_
      refine z_if_le hG dX9_rank_10 (tgt := 57) rfl (fun c10 => ?_) (fun c10 => ?_)
      · exact absurd c10 (by omega)
      · refine z_aload_n (i := 1) hG dX9_rank_13 rfl rfl ?_
        refine z_iload_n (i := 2) hG dX9_rank_14 rfl rfl ?_
        refine z_callV hG dX9_rank_15 LV_X9_30 (ct_X1_hasKind l g) (by decide) rfl rfl rfl (Nat.le_of_ble_eq_true rfl) ?_
        intro v9 m9 h9
        rw [h9.1, h9.2]
        clear h9 m9 v9
        refine z_if_eq hG dX9_rank_18 (tgt := 57) rfl (fun c18 => ?_) (fun c18 => ?_)
        · try simp only [zite_eq0, ne_eq, Classical.not_not] at c18
          exact K q m0 (by omega) (by omega) hm (fun j => by rw [if_neg (by omega)]) (fun j h0 h1 => by omega) (Or.inr (fun z => c18 ((hk2 m0 r hm).mpr z.1)))
        · try simp only [zite_eq0, ne_eq, Classical.not_not] at c18
          refine z_aload_n (i := 1) hG dX9_rank_21 rfl rfl ?_
          refine z_iload_n (i := 2) hG dX9_rank_22 rfl rfl ?_
          refine z_aload_n (i := 0) hG dX9_rank_23 rfl rfl ?_
          refine z_get_9_6 hG dX9_rank_24 FL_X9_18 ?_
          refine z_iload_n (i := 3) hG dX9_rank_27 rfl rfl ?_
          refine z_iconst hG dX9_rank_28 rfl ?_
          refine z_isub hG dX9_rank_29 (by omega) (by omega) ?_
          refine z_iald hG dX9_rank_30 rfl rfl (by omega) (by omega) ?_
          refine z_callS hG dX9_rank_31 LS_X9_36 (ct_X9_isAhead l g hkm) (by decide) rfl rfl (Nat.le_of_ble_eq_true rfl) ?_
          rintro v9 m9 ⟨r9, rfl, rfl, hr9, hiff⟩
          refine z_if_eq hG dX9_rank_34 (tgt := 57) rfl (fun c34 => ?_) (fun c34 => ?_)
          · try simp only [zite_eq0, ne_eq, Classical.not_not] at c34
            refine K q m9 (by omega) (by omega) hm (fun j => by rw [if_neg (by omega)]) (fun j h0 h1 => by omega) (Or.inr (fun z => ?_))
            have := hiff.mpr ⟨(hk2 m9 r hm).mpr z.1, fun y => (ch2 m9 r _ hm).mpr (z.2 ((hk2 m9 _ hm).mp y))⟩
            omega
          · try simp only [zite_eq0, ne_eq, Classical.not_not] at c34
            refine z_aload_n (i := 0) hG dX9_rank_37 rfl rfl ?_
            refine z_get_9_6 hG dX9_rank_38 FL_X9_18 ?_
            refine z_iload_n (i := 3) hG dX9_rank_41 rfl rfl ?_
            refine z_aload_n (i := 0) hG dX9_rank_42 rfl rfl ?_
            refine z_get_9_6 hG dX9_rank_43 FL_X9_18 ?_
            refine z_iload_n (i := 3) hG dX9_rank_46 rfl rfl ?_
            refine z_iconst hG dX9_rank_47 rfl ?_
            refine z_isub hG dX9_rank_48 (by omega) (by omega) ?_
            refine z_iald hG dX9_rank_49 rfl rfl (by omega) (by omega) ?_
            refine z_iast hG dX9_rank_50 rfl rfl (by omega) (by omega) ?_
            refine z_iinc hG dX9_rank_51 (by decide) rfl (by omega) (by omega) (ls2 := [_, _, _, _]) rfl ?_
            refine z_goto hG dX9_rank_54 (tgt := 9) rfl ?_
            have hA : zah mem s i r (m9 35 0 0 (q - 1)) := by
              have := hiff.mp (by omega)
              exact ⟨(hk2 m9 r hm).mp this.1, fun y => (ch2 m9 r _ hm).mp (this.2 ((hk2 m9 _ hm).mpr y))⟩
            refine ih r (q + -1) _ (by omega) (by omega) hr (fun t' s' i' k' h => by simp only [zset, h, false_and, if_false]; exact hm t' s' i' k' h) (fun q' m1 h0 h1 hm1 hj hA2 hno => ?_)
            refine K q' m1 h0 (by omega) hm1 (fun j => ?_) (fun j h2 h3 => ?_) ?_
            · rw [hj j]
              simp only [zset]
              grind
            · rcases (show j = q - 1 ∨ j < q + -1 by omega) with rfl | h4
              · exact hA
              · have := hA2 j h2 h4
                simpa only [zset, show ¬ (j = q) by omega, and_false, if_false] using this
            · rcases hno with h4 | h4
              · exact Or.inl h4
              · right
                simpa only [zset, show ¬ (q' - 1 = q) by omega, and_false, if_false] using h4
  have fill : ∀ (n : Nat) (r : Int) (m0 mb : zM), 0 ≤ r → r + n = 3 → (∀ (t' : Nat) (s' i' k' : Int), t' ≠ 35 → mb t' s' i' k' = mem t' s' i' k') → (∀ (t' : Nat) (s' i' k' : Int), t' ≠ 36 → t' ≠ 37 → t' ≠ 38 → m0 t' s' i' k' = mb t' s' i' k') → (∀ j : Int, 0 ≤ j → j < 3 → 0 ≤ mb 35 0 0 j ∧ mb 35 0 0 j < 3) → zsea m0 →
      (∀ j : Int, 0 ≤ j → j < r → (zhk mem s i (mb 35 0 0 j) → m0 36 0 0 j = mem 12 s i (mb 35 0 0 j) ∧ m0 37 0 0 j = mem 13 s i (mb 35 0 0 j) ∧ m0 38 0 0 j = zmo m0 j j.toNat) ∧ (¬ zhk mem s i (mb 35 0 0 j) → m0 36 0 0 j = 0 ∧ m0 37 0 0 j = 0 ∧ m0 38 0 0 j = 0)) →
      (∃ R0 R1 R2 : Int, (mb 35 0 0 0 = R0 ∧ mb 35 0 0 1 = R1 ∧ mb 35 0 0 2 = R2) ∧ zord mem s i R0 R1 R2) →
      zZ X 72 [some (zr 9 0 0), some (zr 3 s i), some (zi r), none] [] m0 := by
    intro n
    induction n with
    | zero =>
      intro r m0 mb hr0 hr hmb hm hp hs hJ hR
      refine z_iload_n (i := 2) hG dX9_rank_72 rfl rfl ?_
      refine z_iconst hG dX9_rank_73 rfl ?_
      refine z_icmp_ge hG dX9_rank_74 (tgt := 163) rfl (fun c74 => ?_) (fun c74 => ?_)
      · refine z_vret hG hE dX9_rank_163 ?_
        obtain ⟨R0, R1, R2, hR1, hR2⟩ := hR
        have e35 : ∀ j : Int, m0 35 0 0 j = mb 35 0 0 j := fun j => hm 35 0 0 j (by decide) (by decide) (by decide)
        refine ⟨rfl, fun t' s' i' k' h1 h2 h3 h4 => by rw [hm t' s' i' k' h2 h3 h4, hmb t' s' i' k' h1], hs, R0, R1, R2, ⟨by rw [e35, e35, e35]; exact hR1, hR2, fun j h0 h1 => ?_⟩⟩
        rw [e35 j]
        exact hJ j h0 (by omega)
      · exact absurd c74 (by omega)
    | succ n ih =>
      intro r m0 mb hr0 hr hmb hm hp hs hJ hR
      have e35 : ∀ j : Int, m0 35 0 0 j = mb 35 0 0 j := fun j => hm 35 0 0 j (by decide) (by decide) (by decide)
      have e3 : ∀ j : Int, m0 3 s i j = mem 3 s i j := fun j => by rw [hm 3 s i j (by decide) (by decide) (by decide), hmb 3 s i j (by decide)]
      have e12 : ∀ j : Int, m0 12 s i j = mem 12 s i j := fun j => by rw [hm 12 s i j (by decide) (by decide) (by decide), hmb 12 s i j (by decide)]
      have e13 : ∀ j : Int, m0 13 s i j = mem 13 s i j := fun j => by rw [hm 13 s i j (by decide) (by decide) (by decide), hmb 13 s i j (by decide)]
      have hpr := hp r hr0 (by omega)
      have hz0 : ∀ a b c : Int, zset m0 36 0 0 r a 35 0 0 r = mb 35 0 0 r := fun a b c => by rw [← e35 r]; simp [zset]
      by_cases hq : zhk mem s i (mb 35 0 0 r)
      · have hsz := hk.2.1 _ hq.1 hq.2.1
        have hpz := hk.2.2.1 _ hq.1 hq.2.1
        refine z_iload_n (i := 2) hG dX9_rank_72 rfl rfl ?_
        refine z_iconst hG dX9_rank_73 rfl ?_
        refine z_icmp_ge hG dX9_rank_74 (tgt := 163) rfl (fun c74 => ?_) (fun c74 => ?_)
        · exact absurd c74 (by omega)
        · refine z_aload_n (i := 1) hG dX9_rank_77 rfl rfl ?_
          refine z_aload_n (i := 0) hG dX9_rank_78 rfl rfl ?_
          refine z_get_9_6 hG dX9_rank_79 FL_X9_18 ?_
          refine z_iload_n (i := 2) hG dX9_rank_82 rfl rfl ?_
          refine z_iald hG dX9_rank_83 rfl rfl (by omega) (by omega) ?_
          rw [e35 r]
          refine z_callV hG dX9_rank_84 LV_X9_30 (ct_X1_hasKind l g) (by decide) rfl rfl rfl (Nat.le_of_ble_eq_true rfl) ?_
          intro v9 m9 h9
          rw [h9.1, h9.2]
          clear h9 m9 v9
          refine z_istore_n (i := 3) hG dX9_rank_87 rfl (by decide) (ls2 := [_, _, _, _]) rfl ?_
          rw [e3]
          rw [if_pos (show 0 ≤ mb 35 0 0 r ∧ mb 35 0 0 r < mem 3 s i 2 ∧ mb 35 0 0 r < 3 from hq)]
          refine z_aload_n (i := 0) hG dX9_rank_88 rfl rfl ?_
          refine z_get_9_7 hG dX9_rank_89 FL_X9_21 ?_
          refine z_iload_n (i := 2) hG dX9_rank_92 rfl rfl ?_
          refine z_iload_n (i := 3) hG dX9_rank_93 rfl rfl ?_
          refine z_if_eq hG dX9_rank_94 (tgt := 111) rfl (fun c94 => ?_) (fun c94 => ?_)
          · try simp only [zite_eq0, ne_eq, Classical.not_not] at c94
            exact absurd c94 (by decide)
          · try simp only [zite_eq0, ne_eq, Classical.not_not] at c94
            refine z_aload_n (i := 1) hG dX9_rank_97 rfl rfl ?_
            refine z_get_1_3 hG dX9_rank_98 FL_X9_40 ?_
            refine z_aload_n (i := 0) hG dX9_rank_101 rfl rfl ?_
            refine z_get_9_6 hG dX9_rank_102 FL_X9_18 ?_
            refine z_iload_n (i := 2) hG dX9_rank_105 rfl rfl ?_
            refine z_iald hG dX9_rank_106 rfl rfl (by omega) (by omega) ?_
            rw [e35 r]
            refine z_iald hG dX9_rank_107 rfl rfl (by omega) (by omega) ?_
            refine z_goto hG dX9_rank_108 (tgt := 112) rfl ?_
            rw [e12]
            refine z_iast hG dX9_rank_112 rfl rfl (by omega) (by omega) ?_
            refine z_aload_n (i := 0) hG dX9_rank_113 rfl rfl ?_
            refine z_get_9_8 hG dX9_rank_114 FL_X9_24 ?_
            refine z_iload_n (i := 2) hG dX9_rank_117 rfl rfl ?_
            refine z_iload_n (i := 3) hG dX9_rank_118 rfl rfl ?_
            refine z_if_eq hG dX9_rank_119 (tgt := 136) rfl (fun c119 => ?_) (fun c119 => ?_)
            · try simp only [zite_eq0, ne_eq, Classical.not_not] at c119
              exact absurd c119 (by decide)
            · try simp only [zite_eq0, ne_eq, Classical.not_not] at c119
              refine z_aload_n (i := 1) hG dX9_rank_122 rfl rfl ?_
              refine z_get_1_4 hG dX9_rank_123 FL_X9_43 ?_
              refine z_aload_n (i := 0) hG dX9_rank_126 rfl rfl ?_
              refine z_get_9_6 hG dX9_rank_127 FL_X9_18 ?_
              refine z_iload_n (i := 2) hG dX9_rank_130 rfl rfl ?_
              refine z_iald hG dX9_rank_131 rfl rfl (by omega) (by omega) ?_
              rw [show zset m0 36 0 0 r (mem 12 s i (mb 35 0 0 r)) 35 0 0 r = mb 35 0 0 r by rw [← e35 r]; simp [zset]]
              refine z_iald hG dX9_rank_132 rfl rfl (by omega) (by omega) ?_
              refine z_goto hG dX9_rank_133 (tgt := 137) rfl ?_
              rw [show zset m0 36 0 0 r (mem 12 s i (mb 35 0 0 r)) 13 s i (mb 35 0 0 r) = mem 13 s i (mb 35 0 0 r) by rw [← e13]; simp [zset]]
              refine z_iast hG dX9_rank_137 rfl rfl (by omega) (by omega) ?_
              refine z_aload_n (i := 0) hG dX9_rank_138 rfl rfl ?_
              refine z_get_9_9 hG dX9_rank_139 FL_X9_27 ?_
              refine z_iload_n (i := 2) hG dX9_rank_142 rfl rfl ?_
              refine z_iload_n (i := 3) hG dX9_rank_143 rfl rfl ?_
              refine z_if_eq hG dX9_rank_144 (tgt := 155) rfl (fun c144 => ?_) (fun c144 => ?_)
              · try simp only [zite_eq0, ne_eq, Classical.not_not] at c144
                exact absurd c144 (by decide)
              · try simp only [zite_eq0, ne_eq, Classical.not_not] at c144
                refine z_aload_n (i := 0) hG dX9_rank_147 rfl rfl ?_
                refine z_iload_n (i := 2) hG dX9_rank_148 rfl rfl ?_
                have hs2 : zsea (zset (zset m0 36 0 0 r (mem 12 s i (mb 35 0 0 r))) 37 0 0 r (mem 13 s i (mb 35 0 0 r))) := fun j h0 h1 => by
                  have := hs j h0 h1
                  simp only [zset]
                  constructor
                  · split
                    · omega
                    · split <;> omega
                  · split
                    · omega
                    · split <;> omega
                refine z_callV hG dX9_rank_149 LV_X9_46 (ct_X9_mostOf l g ⟨hr0, by omega⟩ hs2) (by decide) rfl rfl rfl (Nat.le_of_ble_eq_true rfl) ?_
                intro v9 m9 h9
                rw [h9.1, h9.2]
                clear h9 m9 v9
                refine z_goto hG dX9_rank_152 (tgt := 156) rfl ?_
                refine z_iast hG dX9_rank_156 rfl rfl (by (first | omega)) (by (first | omega)) ?_
                refine z_iinc hG dX9_rank_157 (by decide) rfl (by omega) (by omega) (ls2 := [_, _, _, _]) rfl ?_
                refine z_goto hG dX9_rank_160 (tgt := 72) rfl ?_
                refine z_forget [true, true, true, false] rfl (ih (r + 1) _ mb (by omega) (by omega) hmb (fun t' s' i' k' h1 h2 h3 => by simp only [zset, h1, h2, h3, false_and, if_false]; exact hm t' s' i' k' h1 h2 h3) hp (fun j h0 h1 => ?_) (fun j h0 h1 => ?_) hR)
                · have := hs2 j h0 h1
                  simpa [zset] using this
                · rcases (show j = r ∨ j < r by omega) with rfl | h2
                  · refine ⟨fun _ => ⟨by simp [zset], by simp [zset], ?_⟩, fun z => absurd hq z⟩
                    simp only [zset]
                    simp
                    exact zmo_congr _ (by omega) (fun k h3 h4 => by simp [zset])
                  · have h3 := hJ j h0 h2
                    have hne : ¬ (j = r) := by omega
                    have hc : zmo (zset (zset (zset m0 36 0 0 r (mem 12 s i (mb 35 0 0 r))) 37 0 0 r (mem 13 s i (mb 35 0 0 r))) 38 0 0 r (zmo (zset (zset m0 36 0 0 r (mem 12 s i (mb 35 0 0 r))) 37 0 0 r (mem 13 s i (mb 35 0 0 r))) r r.toNat)) j j.toNat = zmo m0 j j.toNat := zmo_congr _ (by omega) (fun k h4 h5 => by simp [zset, show ¬ (k = r) by omega])
                    rw [hc]
                    simpa [zset, hne] using h3
      · refine z_iload_n (i := 2) hG dX9_rank_72 rfl rfl ?_
        refine z_iconst hG dX9_rank_73 rfl ?_
        refine z_icmp_ge hG dX9_rank_74 (tgt := 163) rfl (fun c74 => ?_) (fun c74 => ?_)
        · exact absurd c74 (by omega)
        · refine z_aload_n (i := 1) hG dX9_rank_77 rfl rfl ?_
          refine z_aload_n (i := 0) hG dX9_rank_78 rfl rfl ?_
          refine z_get_9_6 hG dX9_rank_79 FL_X9_18 ?_
          refine z_iload_n (i := 2) hG dX9_rank_82 rfl rfl ?_
          refine z_iald hG dX9_rank_83 rfl rfl (by omega) (by omega) ?_
          rw [e35 r]
          refine z_callV hG dX9_rank_84 LV_X9_30 (ct_X1_hasKind l g) (by decide) rfl rfl rfl (Nat.le_of_ble_eq_true rfl) ?_
          intro v9 m9 h9
          rw [h9.1, h9.2]
          clear h9 m9 v9
          refine z_istore_n (i := 3) hG dX9_rank_87 rfl (by decide) (ls2 := [_, _, _, _]) rfl ?_
          rw [e3]
          rw [if_neg (show ¬ (0 ≤ mb 35 0 0 r ∧ mb 35 0 0 r < mem 3 s i 2 ∧ mb 35 0 0 r < 3) from hq)]
          refine z_aload_n (i := 0) hG dX9_rank_88 rfl rfl ?_
          refine z_get_9_7 hG dX9_rank_89 FL_X9_21 ?_
          refine z_iload_n (i := 2) hG dX9_rank_92 rfl rfl ?_
          refine z_iload_n (i := 3) hG dX9_rank_93 rfl rfl ?_
          refine z_if_eq hG dX9_rank_94 (tgt := 111) rfl (fun c94 => ?_) (fun c94 => ?_)
          · try simp only [zite_eq0, ne_eq, Classical.not_not] at c94
            refine z_iconst hG dX9_rank_111 rfl ?_
            refine z_iast hG dX9_rank_112 rfl rfl (by omega) (by omega) ?_
            refine z_aload_n (i := 0) hG dX9_rank_113 rfl rfl ?_
            refine z_get_9_8 hG dX9_rank_114 FL_X9_24 ?_
            refine z_iload_n (i := 2) hG dX9_rank_117 rfl rfl ?_
            refine z_iload_n (i := 3) hG dX9_rank_118 rfl rfl ?_
            refine z_if_eq hG dX9_rank_119 (tgt := 136) rfl (fun c119 => ?_) (fun c119 => ?_)
            · try simp only [zite_eq0, ne_eq, Classical.not_not] at c119
              refine z_iconst hG dX9_rank_136 rfl ?_
              refine z_iast hG dX9_rank_137 rfl rfl (by omega) (by omega) ?_
              refine z_aload_n (i := 0) hG dX9_rank_138 rfl rfl ?_
              refine z_get_9_9 hG dX9_rank_139 FL_X9_27 ?_
              refine z_iload_n (i := 2) hG dX9_rank_142 rfl rfl ?_
              refine z_iload_n (i := 3) hG dX9_rank_143 rfl rfl ?_
              refine z_if_eq hG dX9_rank_144 (tgt := 155) rfl (fun c144 => ?_) (fun c144 => ?_)
              · try simp only [zite_eq0, ne_eq, Classical.not_not] at c144
                refine z_iconst hG dX9_rank_155 rfl ?_
                refine z_iast hG dX9_rank_156 rfl rfl (by omega) (by omega) ?_
                refine z_iinc hG dX9_rank_157 (by decide) rfl (by omega) (by omega) (ls2 := [_, _, _, _]) rfl ?_
                refine z_goto hG dX9_rank_160 (tgt := 72) rfl ?_
                refine z_forget [true, true, true, false] rfl (ih (r + 1) _ mb (by omega) (by omega) hmb (fun t' s' i' k' h1 h2 h3 => by simp only [zset, h1, h2, h3, false_and, if_false]; exact hm t' s' i' k' h1 h2 h3) hp (fun j h0 h1 => ?_) (fun j h0 h1 => ?_) hR)
                · have := hs j h0 h1
                  simp only [zset]
                  constructor
                  · split
                    · omega
                    · split
                      · omega
                      · split <;> omega
                  · split
                    · omega
                    · split
                      · omega
                      · split <;> omega
                · rcases (show j = r ∨ j < r by omega) with rfl | h2
                  · exact ⟨fun z => absurd z hq, fun _ => ⟨by simp [zset], by simp [zset], by simp [zset]⟩⟩
                  · have h3 := hJ j h0 h2
                    have hne : ¬ (j = r) := by omega
                    have hc : zmo (zset (zset (zset m0 36 0 0 r 0) 37 0 0 r 0) 38 0 0 r 0) j j.toNat = zmo m0 j j.toNat := zmo_congr _ (by omega) (fun k h4 h5 => by simp [zset, show ¬ (k = r) by omega])
                    rw [hc]
                    simpa [zset, hne] using h3
              · try simp only [zite_eq0, ne_eq, Classical.not_not] at c144
                exact absurd trivial c144
            · try simp only [zite_eq0, ne_eq, Classical.not_not] at c119
              exact absurd trivial c119
          · try simp only [zite_eq0, ne_eq, Classical.not_not] at c94
            exact absurd trivial c94
  refine z_iconst hG dX9_rank_0 rfl ?_
  refine z_istore_n (i := 2) hG dX9_rank_1 rfl (by decide) (ls2 := [_, _, _, _]) rfl ?_
  refine z_iload_n (i := 2) hG dX9_rank_2 rfl rfl ?_
  refine z_iconst hG dX9_rank_3 rfl ?_
  refine z_icmp_ge hG dX9_rank_4 (tgt := 70) rfl (fun c4 => ?_) (fun c4 => ?_)
  · exact absurd c4 (by decide)
  · refine z_iload_n (i := 2) hG dX9_rank_7 rfl rfl ?_
    refine z_istore_n (i := 3) hG dX9_rank_8 rfl (by decide) (ls2 := [_, _, _, _]) rfl ?_
    refine inner 0 0 0 mem rfl (by decide) (by decide) (fun _ _ _ _ _ => rfl) (fun q1 m1 h0 h1 hm1 hj1 _ _ => ?_)
    obtain rfl : q1 = 0 := by omega
    refine z_aload_n (i := 0) hG dX9_rank_57 rfl rfl ?_
    refine z_get_9_6 hG dX9_rank_58 FL_X9_18 ?_
    refine z_iload_n (i := 3) hG dX9_rank_61 rfl rfl ?_
    refine z_iload_n (i := 2) hG dX9_rank_62 rfl rfl ?_
    refine z_iast hG dX9_rank_63 rfl rfl (by omega) (by omega) ?_
    refine z_iinc hG dX9_rank_64 (by decide) rfl (by omega) (by omega) (ls2 := [_, _, _, _]) rfl ?_
    refine z_goto hG dX9_rank_67 (tgt := 2) rfl ?_
    refine z_iload_n (i := 2) hG dX9_rank_2 rfl rfl ?_
    refine z_iconst hG dX9_rank_3 rfl ?_
    refine z_icmp_ge hG dX9_rank_4 (tgt := 70) rfl (fun c4 => ?_) (fun c4 => ?_)
    · exact absurd c4 (by decide)
    · refine z_iload_n (i := 2) hG dX9_rank_7 rfl rfl ?_
      refine z_istore_n (i := 3) hG dX9_rank_8 rfl (by decide) (ls2 := [_, _, _, _]) rfl ?_
      refine inner 1 (0 + 1) (0 + 1) _ rfl (by decide) (by decide) (fun t' s' i' k' h => by simp only [zset, h, false_and, if_false]; exact hm1 t' s' i' k' h) (fun q2 m2 h2 h3 hm2 hj2 hA2 hN2 => ?_)
      have f0 : zset m1 35 0 0 0 0 35 0 0 0 = 0 := by simp [zset]
      refine z_aload_n (i := 0) hG dX9_rank_57 rfl rfl ?_
      refine z_get_9_6 hG dX9_rank_58 FL_X9_18 ?_
      refine z_iload_n (i := 3) hG dX9_rank_61 rfl rfl ?_
      refine z_iload_n (i := 2) hG dX9_rank_62 rfl rfl ?_
      refine z_iast hG dX9_rank_63 rfl rfl (by omega) (by omega) ?_
      refine z_iinc hG dX9_rank_64 (by decide) rfl (by omega) (by omega) (ls2 := [_, _, _, _]) rfl ?_
      refine z_goto hG dX9_rank_67 (tgt := 2) rfl ?_
      refine z_iload_n (i := 2) hG dX9_rank_2 rfl rfl ?_
      refine z_iconst hG dX9_rank_3 rfl ?_
      refine z_icmp_ge hG dX9_rank_4 (tgt := 70) rfl (fun c4 => ?_) (fun c4 => ?_)
      · exact absurd c4 (by decide)
      · refine z_iload_n (i := 2) hG dX9_rank_7 rfl rfl ?_
        refine z_istore_n (i := 3) hG dX9_rank_8 rfl (by decide) (ls2 := [_, _, _, _]) rfl ?_
        have hab : ∃ a b : Int, zset m2 35 0 0 q2 (0 + 1) 35 0 0 0 = a ∧ zset m2 35 0 0 q2 (0 + 1) 35 0 0 1 = b ∧ ((a = 0 ∧ b = 1 ∧ ¬ zah mem s i 1 0) ∨ (a = 1 ∧ b = 0 ∧ zah mem s i 1 0)) := by
          rcases (show q2 = 0 ∨ q2 = 1 by omega) with rfl | rfl
          · refine ⟨1, 0, by simp [zset], ?_, Or.inr ⟨rfl, rfl, ?_⟩⟩
            · simp only [zset]
              rw [if_neg (by decide), hj2 1]
              simp [zset]
            · have := hA2 0 (by decide) (by decide)
              rw [f0] at this
              exact this
          · refine ⟨0, 1, ?_, by simp [zset], Or.inl ⟨rfl, rfl, ?_⟩⟩
            · simp only [zset]
              rw [if_neg (by decide), hj2 0]
              simp [zset]
            · rcases hN2 with h | h
              · exact absurd h (by decide)
              · rw [show (1 : Int) - 1 = 0 by decide, f0] at h
                exact h
        obtain ⟨a, b, ha, hb, hab⟩ := hab
        refine inner 2 (0 + 1 + 1) (0 + 1 + 1) _ rfl (by decide) (by decide) (fun t' s' i' k' h => by simp only [zset, h, false_and, if_false]; exact hm2 t' s' i' k' h) (fun q3 m3 h4 h5 hm3 hj3 hA3 hN3 => ?_)
        generalize hmm : zset m2 35 0 0 q2 (0 + 1) = mm at ha hb hj3 hA3 hN3
        refine z_aload_n (i := 0) hG dX9_rank_57 rfl rfl ?_
        refine z_get_9_6 hG dX9_rank_58 FL_X9_18 ?_
        refine z_iload_n (i := 3) hG dX9_rank_61 rfl rfl ?_
        refine z_iload_n (i := 2) hG dX9_rank_62 rfl rfl ?_
        refine z_iast hG dX9_rank_63 rfl rfl (by omega) (by omega) ?_
        refine z_iinc hG dX9_rank_64 (by decide) rfl (by omega) (by omega) (ls2 := [_, _, _, _]) rfl ?_
        refine z_goto hG dX9_rank_67 (tgt := 2) rfl ?_
        refine z_iload_n (i := 2) hG dX9_rank_2 rfl rfl ?_
        refine z_iconst hG dX9_rank_3 rfl ?_
        refine z_icmp_ge hG dX9_rank_4 (tgt := 70) rfl (fun c4 => ?_) (fun c4 => ?_)
        · refine z_iconst hG dX9_rank_70 rfl ?_
          refine z_istore_n (i := 2) hG dX9_rank_71 rfl (by decide) (ls2 := [_, _, _, _]) rfl ?_
          have hord : ∃ R0 R1 R2 : Int, (zset m3 35 0 0 q3 (0 + 1 + 1) 35 0 0 0 = R0 ∧ zset m3 35 0 0 q3 (0 + 1 + 1) 35 0 0 1 = R1 ∧ zset m3 35 0 0 q3 (0 + 1 + 1) 35 0 0 2 = R2) ∧ zord mem s i R0 R1 R2 := by
            rcases (show q3 = 0 ∨ q3 = 1 ∨ q3 = 2 by omega) with rfl | rfl | rfl
            · refine ⟨2, a, b, ⟨by simp [zset], ?_, ?_⟩, zord_of hk hab (Or.inr (Or.inr ⟨rfl, rfl, rfl, ?_, ?_⟩))⟩
              · simp only [zset]
                rw [if_neg (by decide), hj3 1, if_pos (by decide)]
                exact ha
              · simp only [zset]
                rw [if_neg (by decide), hj3 2, if_pos (by decide)]
                exact hb
              · have := hA3 1 (by decide) (by decide)
                rw [hb] at this
                exact this
              · have := hA3 0 (by decide) (by decide)
                rw [ha] at this
                exact this
            · refine ⟨a, 2, b, ⟨?_, by simp [zset], ?_⟩, zord_of hk hab (Or.inr (Or.inl ⟨rfl, rfl, rfl, ?_, ?_⟩))⟩
              · simp only [zset]
                rw [if_neg (by decide), hj3 0, if_neg (by decide)]
                exact ha
              · simp only [zset]
                rw [if_neg (by decide), hj3 2, if_pos (by decide)]
                exact hb
              · have := hA3 1 (by decide) (by decide)
                rw [hb] at this
                exact this
              · rcases hN3 with h | h
                · exact absurd h (by decide)
                · rw [show (1 : Int) - 1 = 0 by decide, ha] at h
                  exact h
            · refine ⟨a, b, 2, ⟨?_, ?_, by simp [zset]⟩, zord_of hk hab (Or.inl ⟨rfl, rfl, rfl, ?_⟩)⟩
              · simp only [zset]
                rw [if_neg (by decide), hj3 0, if_neg (by decide)]
                exact ha
              · simp only [zset]
                rw [if_neg (by decide), hj3 1, if_neg (by decide)]
                exact hb
              · rcases hN3 with h | h
                · exact absurd h (by decide)
                · rw [show (2 : Int) - 1 = 1 by decide, hb] at h
                  exact h
          have hb0 : ∀ (t' : Nat) (s' i' k' : Int), t' ≠ 35 → zset m3 35 0 0 q3 (0 + 1 + 1) t' s' i' k' = mem t' s' i' k' := fun t' s' i' k' h => by simp only [zset, h, false_and, if_false]; exact hm3 t' s' i' k' h
          refine z_forget [true, true, true, false] rfl (fill 3 0 _ _ (by decide) rfl hb0 (fun _ _ _ _ _ _ _ => rfl) (fun j h6 h7 => ?_) (fun j h6 h7 => ?_) (fun j h6 h7 => by omega) hord)
          · obtain ⟨R0, R1, R2, ⟨e0, e1, e2⟩, ho⟩ := hord
            rcases (show j = 0 ∨ j = 1 ∨ j = 2 by omega) with rfl | rfl | rfl
            · rw [e0]; exact ho.1.1
            · rw [e1]; exact ho.1.2.1
            · rw [e2]; exact ho.1.2.2.1
          · rw [hb0 36 0 0 j (by decide), hb0 37 0 0 j (by decide)]
            exact hsea j h6 h7
        · exact absurd c4 (by decide)
