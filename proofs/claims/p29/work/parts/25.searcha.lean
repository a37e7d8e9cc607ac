/-- the greatest number of tins worth trying of a kind, as mostOf reckons it over the first a kinds ahead -/
def zmo (m : zM) (r : Int) : Nat → Int
  | 0 => 2000
  | a + 1 => if 0 < Int.gcd (m 36 0 0 a) (m 36 0 0 r) then (if m 36 0 0 a / (Int.gcd (m 36 0 0 a) (m 36 0 0 r) : Int) - 1 < zmo m r a then m 36 0 0 a / (Int.gcd (m 36 0 0 a) (m 36 0 0 r) : Int) - 1 else zmo m r a) else zmo m r a
/-- kind k of an ingredient is ahead of kind o -/
def zhk (m : zM) (s i k : Int) : Prop := 0 ≤ k ∧ k < m 3 s i 2 ∧ k < 3
def zcheap (m : zM) (s i k o : Int) : Prop := m 13 s i k * m 12 s i o < m 13 s i o * m 12 s i k ∨ (m 13 s i k * m 12 s i o = m 13 s i o * m 12 s i k ∧ m 12 s i o < m 12 s i k)
/-- sizes and prices of an ingredient's kinds -/
def zkin (m : zM) (s i : Int) : Prop := (0 ≤ m 3 s i 2 ∧ m 3 s i 2 ≤ 3) ∧ (∀ k : Int, 0 ≤ k → k < m 3 s i 2 → 50 ≤ m 12 s i k ∧ m 12 s i k ≤ 2000) ∧ (∀ k : Int, 0 ≤ k → k < m 3 s i 2 → 1 ≤ m 13 s i k ∧ m 13 s i k ≤ 999) ∧ (∀ k o : Int, 0 ≤ k → k < m 3 s i 2 → 0 ≤ o → o < m 3 s i 2 → k ≠ o → m 12 s i k ≠ m 12 s i o)
/-- the search's own arrays hold what it can bear: sizes, prices, numbers -/
def zsea (m : zM) : Prop := ∀ j : Int, 0 ≤ j → j < 3 → (0 ≤ m 36 0 0 j ∧ m 36 0 0 j ≤ 2000) ∧ (0 ≤ m 37 0 0 j ∧ m 37 0 0 j ≤ 999)
set_option maxRecDepth 20000 in
theorem ct_X9_commonDivisor (l : Launch) (g : zG) {mem : zM} {x y : Int} (hx : 0 ≤ x ∧ x ≤ 2000) (hy : 0 ≤ y ∧ y ≤ 2000) : zMet l g Y_X9_commonDivisor [zi x, zi y] mem (fun v m' => v = some (zi (Int.gcd x y)) ∧ m' = mem) := by
  refine zMet_introF (by decide +kernel) (Nat.le_of_ble_eq_true rfl) (ls0 := [some (zi x), some (zi y), none, none, none, none]) rfl fun X hG hE => ?_
  have hG : zGood X l g RX9 cX9_commonDivisor 0 6 := hG
  have hE : zEnd X (some .int) _ := hE
  have loop : ∀ (n a b : Nat) (t : Int), 0 ≤ t → t + n = 2000 → b ≤ n → a ≤ 2000 → Nat.gcd a b = Int.gcd x y → zZ X 7 [some (zi x), some (zi y), some (zi a), some (zi b), some (zi t), none] [] mem := by
    intro n
    induction n with
    | zero =>
      intro a b t ht0 ht hb ha he
      refine z_iload hG dX9_commonDivisor_7 rfl ?_
      refine z_sipush hG dX9_commonDivisor_9 rfl ?_
      refine z_icmp_ge hG dX9_commonDivisor_12 (tgt := 35) rfl (fun c12 => ?_) (fun c12 => ?_)
      · refine z_iload_n (i := 2) hG dX9_commonDivisor_35 rfl rfl ?_
        refine z_iret hG hE dX9_commonDivisor_36 trivial ?_
        have h0 : b = 0 := by omega
        subst h0
        rw [Nat.gcd_zero_right] at he
        exact ⟨by rw [he], rfl⟩
      · exact absurd c12 (by omega)
    | succ n ih =>
      intro a b t ht0 ht hb ha he
      refine z_iload hG dX9_commonDivisor_7 rfl ?_
      refine z_sipush hG dX9_commonDivisor_9 rfl ?_
      refine z_icmp_ge hG dX9_commonDivisor_12 (tgt := 35) rfl (fun c12 => ?_) (fun c12 => ?_)
      · exact absurd c12 (by omega)
      · refine z_iload_n (i := 3) hG dX9_commonDivisor_15 rfl rfl ?_
        refine z_if_le hG dX9_commonDivisor_16 (tgt := 35) rfl (fun c16 => ?_) (fun c16 => ?_)
        · refine z_iload_n (i := 2) hG dX9_commonDivisor_35 rfl rfl ?_
          refine z_iret hG hE dX9_commonDivisor_36 trivial ?_
          have h0 : b = 0 := by omega
          subst h0
          rw [Nat.gcd_zero_right] at he
          exact ⟨by rw [he], rfl⟩
        · refine z_iload_n (i := 2) hG dX9_commonDivisor_19 rfl rfl ?_
          refine z_iload_n (i := 3) hG dX9_commonDivisor_20 rfl rfl ?_
          refine z_irem hG dX9_commonDivisor_21 (by omega) (by omega) ?_
          refine z_istore hG dX9_commonDivisor_22 (by decide) (ls2 := [_, _, _, _, _, _]) rfl ?_
          refine z_iload_n (i := 3) hG dX9_commonDivisor_24 rfl rfl ?_
          refine z_istore_n (i := 2) hG dX9_commonDivisor_25 rfl (by decide) (ls2 := [_, _, _, _, _, _]) rfl ?_
          refine z_iload hG dX9_commonDivisor_26 rfl ?_
          refine z_istore_n (i := 3) hG dX9_commonDivisor_28 rfl (by decide) (ls2 := [_, _, _, _, _, _]) rfl ?_
          refine z_iinc hG dX9_commonDivisor_29 (by decide) rfl (by omega) (by omega) (ls2 := [_, _, _, _, _, _]) rfl ?_
          refine z_goto hG dX9_commonDivisor_32 (tgt := 7) rfl ?_
          have hlt := Nat.mod_lt a (show b > 0 by omega)
          refine z_forget [true, true, true, true, true, false] (ls2 := [some (zi x), some (zi y), some (zi b), some (zi ((a % b : Nat) : Int)), some (zi (t + 1)), none]) (by simp [zfor]) (ih b (a % b) (t + 1) (by omega) (by omega) (by omega) (by omega) ?_)
          rw [← he, Nat.gcd_comm a b, Nat.gcd_rec b a, Nat.gcd_comm]
  obtain ⟨a, rfl⟩ := Int.eq_ofNat_of_zero_le hx.1
  obtain ⟨b, rfl⟩ := Int.eq_ofNat_of_zero_le hy.1
  refine z_iload_n (i := 0) hG dX9_commonDivisor_0 rfl rfl ?_
  refine z_istore_n (i := 2) hG dX9_commonDivisor_1 rfl (by decide) (ls2 := [_, _, _, _, _, _]) rfl ?_
  refine z_iload_n (i := 1) hG dX9_commonDivisor_2 rfl rfl ?_
  refine z_istore_n (i := 3) hG dX9_commonDivisor_3 rfl (by decide) (ls2 := [_, _, _, _, _, _]) rfl ?_
  refine z_iconst hG dX9_commonDivisor_4 rfl ?_
  refine z_istore hG dX9_commonDivisor_5 (by decide) (ls2 := [_, _, _, _, _, _]) rfl ?_
  exact loop 2000 a b 0 (by decide) rfl (by omega) (by omega) rfl
set_option maxRecDepth 20000 in
theorem ct_X9_mostOf (l : Launch) (g : zG) {mem : zM} {r : Int} (hr : 0 ≤ r ∧ r < 3) (hs : zsea mem) : zMet l g Y_X9_mostOf [zr 9 0 0, zi r] mem (fun v m' => v = some (zi (zmo mem r r.toNat)) ∧ m' = mem) := by
  refine zMet_introF (by decide +kernel) (Nat.le_of_ble_eq_true rfl) (ls0 := [some (zr 9 0 0), some (zi r), none, none, none]) rfl fun X hG hE => ?_
  have hG : zGood X l g RX9 cX9_mostOf 1 5 := hG
  have hE : zEnd X (some .int) _ := hE
  have hmo : ∀ a : Nat, a ≤ 3 → -1 ≤ zmo mem r a ∧ zmo mem r a ≤ 2000 := by
    intro a
    induction a with
    | zero => intro _; simp [zmo]
    | succ a ih =>
      intro ha
      have h1 := ih (by omega)
      have h2 := (hs a (by omega) (by omega)).1
      simp only [zmo]
      split
      · have h3 : 0 ≤ mem 36 0 0 a / (Int.gcd (mem 36 0 0 a) (mem 36 0 0 r) : Int) := Int.ediv_nonneg h2.1 (by omega)
        split <;> omega
      · exact h1
  have loop : ∀ (n a : Nat), (a : Int) + n = r → zZ X 6 [some (zr 9 0 0), some (zi r), some (zi (zmo mem r a)), some (zi a), none] [] mem := by
    intro n
    induction n with
    | zero =>
      intro a ha
      refine z_iload_n (i := 3) hG dX9_mostOf_6 rfl rfl ?_
      refine z_iload_n (i := 1) hG dX9_mostOf_7 rfl rfl ?_
      refine z_icmp_ge hG dX9_mostOf_8 (tgt := 55) rfl (fun c8 => ?_) (fun c8 => ?_)
      · refine z_iload_n (i := 2) hG dX9_mostOf_55 rfl rfl ?_
        refine z_iret hG hE dX9_mostOf_56 trivial ?_
        exact ⟨by rw [show r.toNat = a by omega], rfl⟩
      · exact absurd c8 (by omega)
    | succ n ih =>
      intro a ha
      have h2 := (hs a (by omega) (by omega)).1
      have h3 := (hs r hr.1 hr.2).1
      have hm := hmo a (by omega)
      have hq : 0 < Int.gcd (mem 36 0 0 a) (mem 36 0 0 r) → 0 ≤ mem 36 0 0 a / (Int.gcd (mem 36 0 0 a) (mem 36 0 0 r) : Int) ∧ mem 36 0 0 a / (Int.gcd (mem 36 0 0 a) (mem 36 0 0 r) : Int) ≤ 2000 := fun h => ⟨Int.ediv_nonneg h2.1 (by omega), Int.le_trans (Int.ediv_le_self _ h2.1) h2.2⟩
      refine z_iload_n (i := 3) hG dX9_mostOf_6 rfl rfl ?_
      refine z_iload_n (i := 1) hG dX9_mostOf_7 rfl rfl ?_
      refine z_icmp_ge hG dX9_mostOf_8 (tgt := 55) rfl (fun c8 => ?_) (fun c8 => ?_)
      · exact absurd c8 (by omega)
      · refine z_aload_n (i := 0) hG dX9_mostOf_11 rfl rfl ?_
        refine z_get_9_7 hG dX9_mostOf_12 FL_X9_21 ?_
        refine z_iload_n (i := 3) hG dX9_mostOf_15 rfl rfl ?_
        refine z_iald hG dX9_mostOf_16 rfl rfl (by omega) (by omega) ?_
        refine z_aload_n (i := 0) hG dX9_mostOf_17 rfl rfl ?_
        refine z_get_9_7 hG dX9_mostOf_18 FL_X9_21 ?_
        refine z_iload_n (i := 1) hG dX9_mostOf_21 rfl rfl ?_
        refine z_iald hG dX9_mostOf_22 rfl rfl (by omega) (by omega) ?_
        refine z_callS hG dX9_mostOf_23 LS_X9_62 (ct_X9_commonDivisor l g h2 h3) (by decide) rfl rfl (Nat.le_of_ble_eq_true rfl) ?_
        intro v9 m9 h9
        rw [h9.1, h9.2]
        clear h9 m9 v9
        refine z_istore hG dX9_mostOf_26 (by decide) (ls2 := [_, _, _, _, _]) rfl ?_
        refine z_iload hG dX9_mostOf_28 rfl ?_
        refine z_if_le hG dX9_mostOf_30 (tgt := 49) rfl (fun c30 => ?_) (fun c30 => ?_)
        · refine z_iinc hG dX9_mostOf_49 (by decide) rfl (by omega) (by omega) (ls2 := [_, _, _, _, _]) rfl ?_
          refine z_goto hG dX9_mostOf_52 (tgt := 6) rfl ?_
          refine z_forget [true, true, true, true, false] (ls2 := [some (zr 9 0 0), some (zi r), some (zi (zmo mem r (a + 1))), some (zi ((a + 1 : Nat) : Int)), none]) ?_ (ih (a + 1) (by omega))
          first | (simp only [zmo, zfor, show 0 < Int.gcd (mem 36 0 0 a) (mem 36 0 0 r) by omega, if_true]; rfl) | (simp only [zmo, zfor, show ¬ 0 < Int.gcd (mem 36 0 0 a) (mem 36 0 0 r) by omega, if_false]; rfl)
        · have hq := hq (by omega)
          refine z_iload_n (i := 2) hG dX9_mostOf_33 rfl rfl ?_
          refine z_aload_n (i := 0) hG dX9_mostOf_34 rfl rfl ?_
          refine z_get_9_7 hG dX9_mostOf_35 FL_X9_21 ?_
          refine z_iload_n (i := 3) hG dX9_mostOf_38 rfl rfl ?_
          refine z_iald hG dX9_mostOf_39 rfl rfl (by omega) (by omega) ?_
          refine z_iload hG dX9_mostOf_40 rfl ?_
          refine z_idiv hG dX9_mostOf_42 (by omega) (by omega) ?_
          refine z_iconst hG dX9_mostOf_43 rfl ?_
          refine z_isub hG dX9_mostOf_44 (by omega) (by omega) ?_
          refine z_min hG dX9_mostOf_45 LM_X9_66 (by decide) (Nat.le_of_ble_eq_true rfl) ?_
          refine z_istore_n (i := 2) hG dX9_mostOf_48 rfl (by decide) (ls2 := [_, _, _, _, _]) rfl ?_
          refine z_iinc hG dX9_mostOf_49 (by decide) rfl (by omega) (by omega) (ls2 := [_, _, _, _, _]) rfl ?_
          refine z_goto hG dX9_mostOf_52 (tgt := 6) rfl ?_
          refine z_forget [true, true, true, true, false] (ls2 := [some (zr 9 0 0), some (zi r), some (zi (zmo mem r (a + 1))), some (zi ((a + 1 : Nat) : Int)), none]) ?_ (ih (a + 1) (by omega))
          first | (simp only [zmo, zfor, show 0 < Int.gcd (mem 36 0 0 a) (mem 36 0 0 r) by omega, if_true]; rfl) | (simp only [zmo, zfor, show ¬ 0 < Int.gcd (mem 36 0 0 a) (mem 36 0 0 r) by omega, if_false]; rfl)
  refine z_sipush hG dX9_mostOf_0 rfl ?_
  refine z_istore_n (i := 2) hG dX9_mostOf_3 rfl (by decide) (ls2 := [_, _, _, _, _]) rfl ?_
  refine z_iconst hG dX9_mostOf_4 rfl ?_
  refine z_istore_n (i := 3) hG dX9_mostOf_5 rfl (by decide) (ls2 := [_, _, _, _, _]) rfl ?_
  exact loop r.toNat 0 (by omega)
set_option maxRecDepth 20000 in
theorem ct_X9_isAhead (l : Launch) (g : zG) {mem : zM} {s i k o : Int} (hk : zkin mem s i) : zMet l g Y_X9_isAhead [zr 3 s i, zi k, zi o] mem (fun v m' => ∃ r : Int, v = some (zi r) ∧ m' = mem ∧ (r = 0 ∨ r = 1) ∧ (r = 1 ↔ zhk mem s i k ∧ (zhk mem s i o → zcheap mem s i k o))) := by
  refine zMet_introF (by decide +kernel) (Nat.le_of_ble_eq_true rfl) (ls0 := [some (zr 3 s i), some (zi k), some (zi o), none, none]) rfl fun X hG hE => ?_
  have hG : zGood X l g RX9 cX9_isAhead 1 5 := hG
  have hE : zEnd X (some .boolean) _ := hE
  refine z_aload_n (i := 0) hG dX9_isAhead_0 rfl rfl ?_
  refine z_iload_n (i := 1) hG dX9_isAhead_1 rfl rfl ?_
  refine z_callV hG dX9_isAhead_2 LV_X9_30 (ct_X1_hasKind l g) (by decide) rfl rfl rfl (Nat.le_of_ble_eq_true rfl) ?_
  intro v9 m9 h9
  rw [h9.1, h9.2]
  clear h9 m9 v9
  refine z_if_eq hG dX9_isAhead_5 (tgt := 16) rfl (fun c5 => ?_) (fun c5 => ?_)
  · try simp only [zite_eq0, ne_eq, Classical.not_not] at c5
    refine z_aload_n (i := 0) hG dX9_isAhead_16 rfl rfl ?_
    refine z_iload_n (i := 1) hG dX9_isAhead_17 rfl rfl ?_
    refine z_callV hG dX9_isAhead_18 LV_X9_30 (ct_X1_hasKind l g) (by decide) rfl rfl rfl (Nat.le_of_ble_eq_true rfl) ?_
    intro v9 m9 h9
    rw [h9.1, h9.2]
    clear h9 m9 v9
    refine z_iret hG hE dX9_isAhead_21 (by show _ ∨ _; split <;> simp) ?_
    first | (refine ⟨_, rfl, rfl, by split <;> simp, ?_⟩; simp only [zhk, c5]; simp; done) | (refine ⟨_, rfl, rfl, by split <;> simp, ?_⟩; simp only [zhk, c13]; simp; done)
  · try simp only [zite_eq0, ne_eq, Classical.not_not] at c5
    refine z_aload_n (i := 0) hG dX9_isAhead_8 rfl rfl ?_
    refine z_iload_n (i := 2) hG dX9_isAhead_9 rfl rfl ?_
    refine z_callV hG dX9_isAhead_10 LV_X9_30 (ct_X1_hasKind l g) (by decide) rfl rfl rfl (Nat.le_of_ble_eq_true rfl) ?_
    intro v9 m9 h9
    rw [h9.1, h9.2]
    clear h9 m9 v9
    refine z_if_ne hG dX9_isAhead_13 (tgt := 22) rfl (fun c13 => ?_) (fun c13 => ?_)
    · try simp only [zite_eq0, ne_eq, Classical.not_not] at c13
      have hk1 := hk.2.1 k c5.1 c5.2.1
      have hk2 := hk.2.2.1 k c5.1 c5.2.1
      have ho1 := hk.2.1 o c13.1 c13.2.1
      have ho2 := hk.2.2.1 o c13.1 c13.2.1
      have hm1 := zmulb (A := 999) (B := 2000) (by omega) hk2.2 (by omega) ho1.2
      have hm2 := zmulb (A := 999) (B := 2000) (by omega) ho2.2 (by omega) hk1.2
      refine z_aload_n (i := 0) hG dX9_isAhead_22 rfl rfl ?_
      refine z_get_1_4 hG dX9_isAhead_23 FL_X9_43 ?_
      refine z_iload_n (i := 1) hG dX9_isAhead_26 rfl rfl ?_
      refine z_iald hG dX9_isAhead_27 rfl rfl (by omega) (by omega) ?_
      refine z_aload_n (i := 0) hG dX9_isAhead_28 rfl rfl ?_
      refine z_get_1_3 hG dX9_isAhead_29 FL_X9_40 ?_
      refine z_iload_n (i := 2) hG dX9_isAhead_32 rfl rfl ?_
      refine z_iald hG dX9_isAhead_33 rfl rfl (by omega) (by omega) ?_
      refine z_imul hG dX9_isAhead_34 (by omega) (by omega) ?_
      refine z_istore_n (i := 3) hG dX9_isAhead_35 rfl (by decide) (ls2 := [_, _, _, _, _]) rfl ?_
      refine z_aload_n (i := 0) hG dX9_isAhead_36 rfl rfl ?_
      refine z_get_1_4 hG dX9_isAhead_37 FL_X9_43 ?_
      refine z_iload_n (i := 2) hG dX9_isAhead_40 rfl rfl ?_
      refine z_iald hG dX9_isAhead_41 rfl rfl (by omega) (by omega) ?_
      refine z_aload_n (i := 0) hG dX9_isAhead_42 rfl rfl ?_
      refine z_get_1_3 hG dX9_isAhead_43 FL_X9_40 ?_
      refine z_iload_n (i := 1) hG dX9_isAhead_46 rfl rfl ?_
      refine z_iald hG dX9_isAhead_47 rfl rfl (by omega) (by omega) ?_
      refine z_imul hG dX9_isAhead_48 (by omega) (by omega) ?_
      refine z_istore hG dX9_isAhead_49 (by decide) (ls2 := [_, _, _, _, _]) rfl ?_
      refine z_iload_n (i := 3) hG dX9_isAhead_51 rfl rfl ?_
      refine z_iload hG dX9_isAhead_52 rfl ?_
      refine z_icmp_lt hG dX9_isAhead_54 (tgt := 78) rfl (fun c54 => ?_) (fun c54 => ?_)
      · refine z_iconst hG dX9_isAhead_78 rfl ?_
        refine z_goto hG dX9_isAhead_79 (tgt := 83) rfl ?_
        refine z_iret hG hE dX9_isAhead_83 (by first | exact Or.inl rfl | exact Or.inr rfl | (show _ ∨ _; omega)) ?_
        first | (refine ⟨1, rfl, rfl, Or.inr rfl, ⟨fun _ => ⟨c5, fun _ => ?_⟩, fun _ => rfl⟩⟩; unfold zcheap; omega) | (refine ⟨0, rfl, rfl, Or.inl rfl, ⟨fun z => absurd z (by decide), fun z => absurd (z.2 c13) ?_⟩⟩; unfold zcheap; omega)
      · refine z_iload_n (i := 3) hG dX9_isAhead_57 rfl rfl ?_
        refine z_iload hG dX9_isAhead_58 rfl ?_
        refine z_icmp_ne hG dX9_isAhead_60 (tgt := 82) rfl (fun c60 => ?_) (fun c60 => ?_)
        · refine z_iconst hG dX9_isAhead_82 rfl ?_
          refine z_iret hG hE dX9_isAhead_83 (by first | exact Or.inl rfl | exact Or.inr rfl | (show _ ∨ _; omega)) ?_
          first | (refine ⟨1, rfl, rfl, Or.inr rfl, ⟨fun _ => ⟨c5, fun _ => ?_⟩, fun _ => rfl⟩⟩; unfold zcheap; omega) | (refine ⟨0, rfl, rfl, Or.inl rfl, ⟨fun z => absurd z (by decide), fun z => absurd (z.2 c13) ?_⟩⟩; unfold zcheap; omega)
        · refine z_aload_n (i := 0) hG dX9_isAhead_63 rfl rfl ?_
          refine z_get_1_3 hG dX9_isAhead_64 FL_X9_40 ?_
          refine z_iload_n (i := 1) hG dX9_isAhead_67 rfl rfl ?_
          refine z_iald hG dX9_isAhead_68 rfl rfl (by omega) (by omega) ?_
          refine z_aload_n (i := 0) hG dX9_isAhead_69 rfl rfl ?_
          refine z_get_1_3 hG dX9_isAhead_70 FL_X9_40 ?_
          refine z_iload_n (i := 2) hG dX9_isAhead_73 rfl rfl ?_
          refine z_iald hG dX9_isAhead_74 rfl rfl (by omega) (by omega) ?_
          refine z_icmp_le hG dX9_isAhead_75 (tgt := 82) rfl (fun c75 => ?_) (fun c75 => ?_)
          · refine z_iconst hG dX9_isAhead_82 rfl ?_
            refine z_iret hG hE dX9_isAhead_83 (by first | exact Or.inl rfl | exact Or.inr rfl | (show _ ∨ _; omega)) ?_
            first | (refine ⟨1, rfl, rfl, Or.inr rfl, ⟨fun _ => ⟨c5, fun _ => ?_⟩, fun _ => rfl⟩⟩; unfold zcheap; omega) | (refine ⟨0, rfl, rfl, Or.inl rfl, ⟨fun z => absurd z (by decide), fun z => absurd (z.2 c13) ?_⟩⟩; unfold zcheap; omega)
          · refine z_iconst hG dX9_isAhead_78 rfl ?_
            refine z_goto hG dX9_isAhead_79 (tgt := 83) rfl ?_
            refine z_iret hG hE dX9_isAhead_83 (by first | exact Or.inl rfl | exact Or.inr rfl | (show _ ∨ _; omega)) ?_
            first | (refine ⟨1, rfl, rfl, Or.inr rfl, ⟨fun _ => ⟨c5, fun _ => ?_⟩, fun _ => rfl⟩⟩; unfold zcheap; omega) | (refine ⟨0, rfl, rfl, Or.inl rfl, ⟨fun z => absurd z (by decide), fun z => absurd (z.2 c13) ?_⟩⟩; unfold zcheap; omega)
    · try simp only [zite_eq0, ne_eq, Classical.not_not] at c13
      refine z_aload_n (i := 0) hG dX9_isAhead_16 rfl rfl ?_
      refine z_iload_n (i := 1) hG dX9_isAhead_17 rfl rfl ?_
      refine z_callV hG dX9_isAhead_18 LV_X9_30 (ct_X1_hasKind l g) (by decide) rfl rfl rfl (Nat.le_of_ble_eq_true rfl) ?_
      intro v9 m9 h9
      rw [h9.1, h9.2]
      clear h9 m9 v9
      refine z_iret hG hE dX9_isAhead_21 (by show _ ∨ _; split <;> simp) ?_
      first | (refine ⟨_, rfl, rfl, by split <;> simp, ?_⟩; simp only [zhk, c5]; simp; done) | (refine ⟨_, rfl, rfl, by split <;> simp, ?_⟩; simp only [zhk, c13]; simp; done)
set_option maxRecDepth 20000 in
theorem ct_X9_putTried (l : Launch) (g : zG) {mem : zM} {r x : Int} (hr : 0 ≤ r ∧ r < 3) : zMet l g Y_X9_putTried [zr 9 0 0, zi r, zi x] mem (fun v m' => v = none ∧ m' = if 0 ≤ mem 35 0 0 r ∧ mem 35 0 0 r < 3 then zset mem 34 0 0 (mem 35 0 0 r) x else mem) := by
  refine zMet_introF (by decide +kernel) (Nat.le_of_ble_eq_true rfl) (ls0 := [some (zr 9 0 0), some (zi r), some (zi x), none]) rfl fun X hG hE => ?_
  have hG : zGood X l g RX9 cX9_putTried 0 4 := hG
  have hE : zEnd X (none) _ := hE
  refine z_aload_n (i := 0) hG dX9_putTried_0 rfl rfl ?_
  refine z_get_9_6 hG dX9_putTried_1 FL_X9_18 ?_
  refine z_iload_n (i := 1) hG dX9_putTried_4 rfl rfl ?_
  refine z_iald hG dX9_putTried_5 rfl rfl (by omega) (by omega) ?_
  refine z_istore_n (i := 3) hG dX9_putTried_6 rfl (by decide) (ls2 := [_, _, _, _]) rfl ?_
  refine z_iload_n (i := 3) hG dX9_putTried_7 rfl rfl ?_
  refine z_if_lt hG dX9_putTried_8 (tgt := 23) rfl (fun c8 => ?_) (fun c8 => ?_)
  · refine z_vret hG hE dX9_putTried_23 ?_
    first | exact ⟨rfl, by rw [if_pos (by omega)]⟩ | exact ⟨rfl, by rw [if_neg (by omega)]⟩
  · refine z_iload_n (i := 3) hG dX9_putTried_11 rfl rfl ?_
    refine z_iconst hG dX9_putTried_12 rfl ?_
    refine z_icmp_ge hG dX9_putTried_13 (tgt := 23) rfl (fun c13 => ?_) (fun c13 => ?_)
    · refine z_vret hG hE dX9_putTried_23 ?_
      first | exact ⟨rfl, by rw [if_pos (by omega)]⟩ | exact ⟨rfl, by rw [if_neg (by omega)]⟩
    · refine z_aload_n (i := 0) hG dX9_putTried_16 rfl rfl ?_
      refine z_get_9_5 hG dX9_putTried_17 FL_X9_15 ?_
      refine z_iload_n (i := 3) hG dX9_putTried_20 rfl rfl ?_
      refine z_iload_n (i := 2) hG dX9_putTried_21 rfl rfl ?_
      refine z_iast hG dX9_putTried_22 rfl rfl (by omega) (by omega) ?_
      refine z_vret hG hE dX9_putTried_23 ?_
      first | exact ⟨rfl, by rw [if_pos (by omega)]⟩ | exact ⟨rfl, by rw [if_neg (by omega)]⟩
set_option maxRecDepth 20000 in
theorem ct_X9_isBetter (l : Launch) (g : zG) {mem : zM} {c w t : Int} : zMet l g Y_X9_isBetter [zr 9 0 0, zi c, zi w, zi t] mem (fun v m' => ∃ r : Int, v = some (zi r) ∧ m' = mem ∧ (r = 0 ∨ r = 1) ∧ (r = 1 ↔ (c < mem 9 0 0 0 ∨ (c = mem 9 0 0 0 ∧ (w < mem 9 0 0 1 ∨ (w = mem 9 0 0 1 ∧ (t < mem 9 0 0 3 ∨ (t = mem 9 0 0 3 ∧ (mem 34 0 0 0 < mem 33 0 0 0 ∨ (mem 34 0 0 0 = mem 33 0 0 0 ∧ mem 34 0 0 1 < mem 33 0 0 1)))))))))) := by
  refine zMet_introF (by decide +kernel) (Nat.le_of_ble_eq_true rfl) (ls0 := [some (zr 9 0 0), some (zi c), some (zi w), some (zi t)]) rfl fun X hG hE => ?_
  have hG : zGood X l g RX9 cX9_isBetter 0 4 := hG
  have hE : zEnd X (some .boolean) _ := hE
  refine z_iload_n (i := 1) hG dX9_isBetter_0 rfl rfl ?_
  refine z_aload_n (i := 0) hG dX9_isBetter_1 rfl rfl ?_
  refine z_getI hG dX9_isBetter_2 FL_X9_74 rfl rfl (kk := 0) rfl ?_
  refine z_icmp_eq hG dX9_isBetter_5 (tgt := 22) rfl (fun c5 => ?_) (fun c5 => ?_)
  · refine z_iload_n (i := 2) hG dX9_isBetter_22 rfl rfl ?_
    refine z_aload_n (i := 0) hG dX9_isBetter_23 rfl rfl ?_
    refine z_getI hG dX9_isBetter_24 FL_X9_88 rfl rfl (kk := 1) rfl ?_
    refine z_icmp_eq hG dX9_isBetter_27 (tgt := 44) rfl (fun c27 => ?_) (fun c27 => ?_)
    · refine z_iload_n (i := 3) hG dX9_isBetter_44 rfl rfl ?_
      refine z_aload_n (i := 0) hG dX9_isBetter_45 rfl rfl ?_
      refine z_getI hG dX9_isBetter_46 FL_X9_91 rfl rfl (kk := 3) rfl ?_
      refine z_icmp_eq hG dX9_isBetter_49 (tgt := 66) rfl (fun c49 => ?_) (fun c49 => ?_)
      · refine z_aload_n (i := 0) hG dX9_isBetter_66 rfl rfl ?_
        refine z_get_9_5 hG dX9_isBetter_67 FL_X9_15 ?_
        refine z_iconst hG dX9_isBetter_70 rfl ?_
        refine z_iald hG dX9_isBetter_71 rfl rfl (by omega) (by omega) ?_
        refine z_aload_n (i := 0) hG dX9_isBetter_72 rfl rfl ?_
        refine z_get_9_2 hG dX9_isBetter_73 FL_X9_9 ?_
        refine z_iconst hG dX9_isBetter_76 rfl ?_
        refine z_iald hG dX9_isBetter_77 rfl rfl (by omega) (by omega) ?_
        refine z_icmp_eq hG dX9_isBetter_78 (tgt := 104) rfl (fun c78 => ?_) (fun c78 => ?_)
        · refine z_aload_n (i := 0) hG dX9_isBetter_104 rfl rfl ?_
          refine z_get_9_5 hG dX9_isBetter_105 FL_X9_15 ?_
          refine z_iconst hG dX9_isBetter_108 rfl ?_
          refine z_iald hG dX9_isBetter_109 rfl rfl (by omega) (by omega) ?_
          refine z_aload_n (i := 0) hG dX9_isBetter_110 rfl rfl ?_
          refine z_get_9_2 hG dX9_isBetter_111 FL_X9_9 ?_
          refine z_iconst hG dX9_isBetter_114 rfl ?_
          refine z_iald hG dX9_isBetter_115 rfl rfl (by omega) (by omega) ?_
          refine z_icmp_ge hG dX9_isBetter_116 (tgt := 123) rfl (fun c116 => ?_) (fun c116 => ?_)
          · refine z_iconst hG dX9_isBetter_123 rfl ?_
            refine z_iret hG hE dX9_isBetter_124 (by first | exact Or.inl rfl | exact Or.inr rfl | (show _ ∨ _; omega)) ?_
            first | (refine ⟨1, rfl, rfl, Or.inr rfl, ⟨fun _ => ?_, fun _ => rfl⟩⟩; omega) | (refine ⟨0, rfl, rfl, Or.inl rfl, ⟨fun z => absurd z (by decide), fun z => ?_⟩⟩; omega)
          · refine z_iconst hG dX9_isBetter_119 rfl ?_
            refine z_goto hG dX9_isBetter_120 (tgt := 124) rfl ?_
            refine z_iret hG hE dX9_isBetter_124 (by first | exact Or.inl rfl | exact Or.inr rfl | (show _ ∨ _; omega)) ?_
            first | (refine ⟨1, rfl, rfl, Or.inr rfl, ⟨fun _ => ?_, fun _ => rfl⟩⟩; omega) | (refine ⟨0, rfl, rfl, Or.inl rfl, ⟨fun z => absurd z (by decide), fun z => ?_⟩⟩; omega)
        · refine z_aload_n (i := 0) hG dX9_isBetter_81 rfl rfl ?_
          refine z_get_9_5 hG dX9_isBetter_82 FL_X9_15 ?_
          refine z_iconst hG dX9_isBetter_85 rfl ?_
          refine z_iald hG dX9_isBetter_86 rfl rfl (by omega) (by omega) ?_
          refine z_aload_n (i := 0) hG dX9_isBetter_87 rfl rfl ?_
          refine z_get_9_2 hG dX9_isBetter_88 FL_X9_9 ?_
          refine z_iconst hG dX9_isBetter_91 rfl ?_
          refine z_iald hG dX9_isBetter_92 rfl rfl (by omega) (by omega) ?_
          refine z_icmp_ge hG dX9_isBetter_93 (tgt := 100) rfl (fun c93 => ?_) (fun c93 => ?_)
          · refine z_iconst hG dX9_isBetter_100 rfl ?_
            refine z_goto hG dX9_isBetter_101 (tgt := 124) rfl ?_
            refine z_iret hG hE dX9_isBetter_124 (by first | exact Or.inl rfl | exact Or.inr rfl | (show _ ∨ _; omega)) ?_
            first | (refine ⟨1, rfl, rfl, Or.inr rfl, ⟨fun _ => ?_, fun _ => rfl⟩⟩; omega) | (refine ⟨0, rfl, rfl, Or.inl rfl, ⟨fun z => absurd z (by decide), fun z => ?_⟩⟩; omega)
          · refine z_iconst hG dX9_isBetter_96 rfl ?_
            refine z_goto hG dX9_isBetter_97 (tgt := 124) rfl ?_
            refine z_iret hG hE dX9_isBetter_124 (by first | exact Or.inl rfl | exact Or.inr rfl | (show _ ∨ _; omega)) ?_
            first | (refine ⟨1, rfl, rfl, Or.inr rfl, ⟨fun _ => ?_, fun _ => rfl⟩⟩; omega) | (refine ⟨0, rfl, rfl, Or.inl rfl, ⟨fun z => absurd z (by decide), fun z => ?_⟩⟩; omega)
      · refine z_iload_n (i := 3) hG dX9_isBetter_52 rfl rfl ?_
        refine z_aload_n (i := 0) hG dX9_isBetter_53 rfl rfl ?_
        refine z_getI hG dX9_isBetter_54 FL_X9_91 rfl rfl (kk := 3) rfl ?_
        refine z_icmp_ge hG dX9_isBetter_57 (tgt := 64) rfl (fun c57 => ?_) (fun c57 => ?_)
        · refine z_iconst hG dX9_isBetter_64 rfl ?_
          refine z_iret hG hE dX9_isBetter_65 (by first | exact Or.inl rfl | exact Or.inr rfl | (show _ ∨ _; omega)) ?_
          first | (refine ⟨1, rfl, rfl, Or.inr rfl, ⟨fun _ => ?_, fun _ => rfl⟩⟩; omega) | (refine ⟨0, rfl, rfl, Or.inl rfl, ⟨fun z => absurd z (by decide), fun z => ?_⟩⟩; omega)
        · refine z_iconst hG dX9_isBetter_60 rfl ?_
          refine z_goto hG dX9_isBetter_61 (tgt := 65) rfl ?_
          refine z_iret hG hE dX9_isBetter_65 (by first | exact Or.inl rfl | exact Or.inr rfl | (show _ ∨ _; omega)) ?_
          first | (refine ⟨1, rfl, rfl, Or.inr rfl, ⟨fun _ => ?_, fun _ => rfl⟩⟩; omega) | (refine ⟨0, rfl, rfl, Or.inl rfl, ⟨fun z => absurd z (by decide), fun z => ?_⟩⟩; omega)
    · refine z_iload_n (i := 2) hG dX9_isBetter_30 rfl rfl ?_
      refine z_aload_n (i := 0) hG dX9_isBetter_31 rfl rfl ?_
      refine z_getI hG dX9_isBetter_32 FL_X9_88 rfl rfl (kk := 1) rfl ?_
      refine z_icmp_ge hG dX9_isBetter_35 (tgt := 42) rfl (fun c35 => ?_) (fun c35 => ?_)
      · refine z_iconst hG dX9_isBetter_42 rfl ?_
        refine z_iret hG hE dX9_isBetter_43 (by first | exact Or.inl rfl | exact Or.inr rfl | (show _ ∨ _; omega)) ?_
        first | (refine ⟨1, rfl, rfl, Or.inr rfl, ⟨fun _ => ?_, fun _ => rfl⟩⟩; omega) | (refine ⟨0, rfl, rfl, Or.inl rfl, ⟨fun z => absurd z (by decide), fun z => ?_⟩⟩; omega)
      · refine z_iconst hG dX9_isBetter_38 rfl ?_
        refine z_goto hG dX9_isBetter_39 (tgt := 43) rfl ?_
        refine z_iret hG hE dX9_isBetter_43 (by first | exact Or.inl rfl | exact Or.inr rfl | (show _ ∨ _; omega)) ?_
        first | (refine ⟨1, rfl, rfl, Or.inr rfl, ⟨fun _ => ?_, fun _ => rfl⟩⟩; omega) | (refine ⟨0, rfl, rfl, Or.inl rfl, ⟨fun z => absurd z (by decide), fun z => ?_⟩⟩; omega)
  · refine z_iload_n (i := 1) hG dX9_isBetter_8 rfl rfl ?_
    refine z_aload_n (i := 0) hG dX9_isBetter_9 rfl rfl ?_
    refine z_getI hG dX9_isBetter_10 FL_X9_74 rfl rfl (kk := 0) rfl ?_
    refine z_icmp_ge hG dX9_isBetter_13 (tgt := 20) rfl (fun c13 => ?_) (fun c13 => ?_)
    · refine z_iconst hG dX9_isBetter_20 rfl ?_
      refine z_iret hG hE dX9_isBetter_21 (by first | exact Or.inl rfl | exact Or.inr rfl | (show _ ∨ _; omega)) ?_
      first | (refine ⟨1, rfl, rfl, Or.inr rfl, ⟨fun _ => ?_, fun _ => rfl⟩⟩; omega) | (refine ⟨0, rfl, rfl, Or.inl rfl, ⟨fun z => absurd z (by decide), fun z => ?_⟩⟩; omega)
    · refine z_iconst hG dX9_isBetter_16 rfl ?_
      refine z_goto hG dX9_isBetter_17 (tgt := 21) rfl ?_
      refine z_iret hG hE dX9_isBetter_21 (by first | exact Or.inl rfl | exact Or.inr rfl | (show _ ∨ _; omega)) ?_
      first | (refine ⟨1, rfl, rfl, Or.inr rfl, ⟨fun _ => ?_, fun _ => rfl⟩⟩; omega) | (refine ⟨0, rfl, rfl, Or.inl rfl, ⟨fun z => absurd z (by decide), fun z => ?_⟩⟩; omega)
