def zempty (mem : zM) (s n : Int) : zM := fun t' s' i' k' => if t' = 4 ∧ s' = s ∧ k' = 1 ∧ 0 ≤ i' ∧ i' < n then 0 else mem t' s' i' k'
/-- what scaling needs -/
def zrec (mem : zM) (s : Int) : Prop := ∀ r : Int, 0 ≤ r → r < 4 → (0 ≤ mem 4 s r 1 ∧ mem 4 s r 1 ≤ 20) ∧ (0 ≤ mem 4 s r 0 ∧ mem 4 s r 0 ≤ 20) ∧ (0 ≤ mem 4 s r 2 ∧ mem 4 s r 2 ≤ 8) ∧ (∀ k : Int, 0 ≤ k → k < 8 → 0 ≤ mem 17 s r k ∧ mem 17 s r k ≤ 500)
theorem zscal_le {m : zM} {s r x : Int} (hx : 0 ≤ x ∧ x ≤ 500) (hp : 0 ≤ m 4 s r 1 ∧ m 4 s r 1 ≤ 20) (hb : m 4 s r 0 ≤ 20) : 0 ≤ zscal m s r x ∧ zscal m s r x ≤ 10020 := by
  unfold zscal
  have hm := zmulb hx.1 hx.2 hp.1 hp.2
  split
  · omega
  · next h =>
    have h1 : 0 < m 4 s r 0 := by omega
    constructor
    · exact Int.ediv_nonneg (by omega) (by omega)
    · exact Int.le_trans (Int.ediv_le_self _ (by omega)) (by omega)
set_option maxRecDepth 20000 in
theorem ct_X7_hasPortions (l : Launch) (g : zG) {mem : zM} {s : Int} : zMet l g Y_X7_hasPortions [zr 2 s 0] mem (fun v m' => ∃ r : Int, v = some (zi r) ∧ m' = mem ∧ (r = 0 ∨ r = 1) ∧ (r = 1 ↔ ∃ k : Int, 0 ≤ k ∧ k < 4 ∧ 0 < mem 4 s k 1)) := by
  refine zMet_introF (by decide +kernel) (Nat.le_of_ble_eq_true rfl) (ls0 := [some (zr 2 s 0), none, none, none, none]) rfl fun X hG hE => ?_
  have hG : zGood X l g RX7 cX7_hasPortions 0 5 := hG
  have hE : zEnd X (some .boolean) _ := hE
  have loop : ∀ (n : Nat) (j : Int), 0 ≤ j → j + n = 4 → (∀ k : Int, 0 ≤ k → k < j → ¬ 0 < mem 4 s k 1) → zZ X 10 [some (zr 2 s 0), some (zr 16 s 0), some (zi 4), some (zi j), none] [] mem := by
    intro n
    induction n with
    | zero =>
      intro j hj0 hj hno
      refine z_iload_n (i := 3) hG dX7_hasPortions_10 rfl rfl ?_
      refine z_iload_n (i := 2) hG dX7_hasPortions_11 rfl rfl ?_
      refine z_icmp_ge hG dX7_hasPortions_12 (tgt := 36) rfl (fun c12 => ?_) (fun c12 => ?_)
      · refine z_iconst hG dX7_hasPortions_36 rfl ?_
        refine z_iret hG hE dX7_hasPortions_37 (by first | exact Or.inl rfl | exact Or.inr rfl | (show _ ∨ _; omega)) ?_
        refine ⟨0, rfl, rfl, Or.inl rfl, ⟨fun z => by omega, ?_⟩⟩
        rintro ⟨k, h0, h1, h2⟩
        exact absurd h2 (hno k h0 (by omega))
      · exact absurd c12 (by omega)
    | succ n ih =>
      intro j hj0 hj hno
      refine z_iload_n (i := 3) hG dX7_hasPortions_10 rfl rfl ?_
      refine z_iload_n (i := 2) hG dX7_hasPortions_11 rfl rfl ?_
      refine z_icmp_ge hG dX7_hasPortions_12 (tgt := 36) rfl (fun c12 => ?_) (fun c12 => ?_)
      · exact absurd c12 (by omega)
      · refine z_aload_n (i := 1) hG dX7_hasPortions_15 rfl rfl ?_
        refine z_iload_n (i := 3) hG dX7_hasPortions_16 rfl rfl ?_
        refine z_aa_16 hG dX7_hasPortions_17 (by omega) (by omega) ?_
        refine z_astore hG dX7_hasPortions_18 (by decide) (ls2 := [_, _, _, _, _]) rfl ?_
        refine z_aload hG dX7_hasPortions_20 rfl ?_
        refine z_getI hG dX7_hasPortions_22 FL_X7_51 rfl rfl (kk := 1) rfl ?_
        refine z_if_le hG dX7_hasPortions_25 (tgt := 30) rfl (fun c25 => ?_) (fun c25 => ?_)
        · refine z_iinc hG dX7_hasPortions_30 (by decide) rfl (by omega) (by omega) (ls2 := [_, _, _, _, _]) rfl ?_
          refine z_goto hG dX7_hasPortions_33 (tgt := 10) rfl ?_
          refine z_forget [true, true, true, true, false] rfl (ih (j + 1) (by omega) (by omega) (fun k h0 h1 => ?_))
          rcases (show k = j ∨ k < j by omega) with rfl | h
          · omega
          · exact hno k h0 h
        · refine z_iconst hG dX7_hasPortions_28 rfl ?_
          refine z_iret hG hE dX7_hasPortions_29 (by first | exact Or.inl rfl | exact Or.inr rfl | (show _ ∨ _; omega)) ?_
          exact ⟨1, rfl, rfl, Or.inr rfl, ⟨fun _ => ⟨j, hj0, by omega, c25⟩, fun _ => rfl⟩⟩
  refine z_aload_n (i := 0) hG dX7_hasPortions_0 rfl rfl ?_
  refine z_get_7_7 hG dX7_hasPortions_1 FL_X7_23 ?_
  refine z_astore_n (i := 1) hG dX7_hasPortions_4 rfl (by decide) (ls2 := [_, _, _, _, _]) rfl ?_
  refine z_aload_n (i := 1) hG dX7_hasPortions_5 rfl rfl ?_
  refine z_alen (n := 4) hG dX7_hasPortions_6 rfl rfl (by decide) rfl rfl ?_
  refine z_istore_n (i := 2) hG dX7_hasPortions_7 rfl (by decide) (ls2 := [_, _, _, _, _]) rfl ?_
  refine z_iconst hG dX7_hasPortions_8 rfl ?_
  refine z_istore_n (i := 3) hG dX7_hasPortions_9 rfl (by decide) (ls2 := [_, _, _, _, _]) rfl ?_
  exact loop 4 0 (by decide) rfl (fun k h0 h1 => by omega)
set_option maxRecDepth 20000 in
theorem ct_X7_neededByRecipes (l : Launch) (g : zG) {mem : zM} {s q : Int} (hr : zrec mem s) : zMet l g Y_X7_neededByRecipes [zr 2 s 0, zi q] mem (fun v m' => v = some (zi (if 0 ≤ q ∧ q < mem 2 s 0 4 ∧ q < 8 then zsum 4 (fun r => zscal mem s r (mem 17 s r q)) else 0)) ∧ m' = mem) := by
  refine zMet_introF (by decide +kernel) (Nat.le_of_ble_eq_true rfl) (ls0 := [some (zr 2 s 0), some (zi q), none, none, none, none, none]) rfl fun X hG hE => ?_
  have hG : zGood X l g RX7 cX7_neededByRecipes 2 7 := hG
  have hE : zEnd X (some .int) _ := hE
  have loop : (0 ≤ q ∧ q < mem 2 s 0 4 ∧ q < 8) → ∀ (n j : Nat), j + n = 4 → zZ X 22 [some (zr 2 s 0), some (zi q), some (zi (zsum j (fun r => zscal mem s r (mem 17 s r q)))), some (zr 16 s 0), some (zi 4), some (zi j), none] [] mem := by
    intro hq n
    induction n with
    | zero =>
      intro j hj
      refine z_iload hG dX7_neededByRecipes_22 rfl ?_
      refine z_iload hG dX7_neededByRecipes_24 rfl ?_
      refine z_icmp_ge hG dX7_neededByRecipes_26 (tgt := 56) rfl (fun c26 => ?_) (fun c26 => ?_)
      · refine z_iload_n (i := 2) hG dX7_neededByRecipes_56 rfl rfl ?_
        refine z_iret hG hE dX7_neededByRecipes_57 trivial ?_
        exact ⟨by rw [if_pos hq, show j = 4 by omega], rfl⟩
      · exact absurd c26 (by omega)
    | succ n ih =>
      intro j hj
      have hrj := hr j (by omega) (by omega)
      have hs := zsum_le (f := fun r => zscal mem s r (mem 17 s r q)) (B := 10020) j (fun r h0 h1 => zscal_le ((hr r h0 (by omega)).2.2.2 q hq.1 hq.2.2) (hr r h0 (by omega)).1 (hr r h0 (by omega)).2.1.2)
      have hsj := zscal_le (hrj.2.2.2 q hq.1 hq.2.2) hrj.1 hrj.2.1.2
      refine z_iload hG dX7_neededByRecipes_22 rfl ?_
      refine z_iload hG dX7_neededByRecipes_24 rfl ?_
      refine z_icmp_ge hG dX7_neededByRecipes_26 (tgt := 56) rfl (fun c26 => ?_) (fun c26 => ?_)
      · exact absurd c26 (by omega)
      · refine z_aload_n (i := 3) hG dX7_neededByRecipes_29 rfl rfl ?_
        refine z_iload hG dX7_neededByRecipes_30 rfl ?_
        refine z_aa_16 hG dX7_neededByRecipes_32 (by omega) (by omega) ?_
        refine z_astore hG dX7_neededByRecipes_33 (by decide) (ls2 := [_, _, _, _, _, _, _]) rfl ?_
        refine z_iload_n (i := 2) hG dX7_neededByRecipes_35 rfl rfl ?_
        refine z_aload hG dX7_neededByRecipes_36 rfl ?_
        refine z_aload hG dX7_neededByRecipes_38 rfl ?_
        refine z_get_4_3 hG dX7_neededByRecipes_40 FL_X7_58 ?_
        refine z_iload_n (i := 1) hG dX7_neededByRecipes_43 rfl rfl ?_
        refine z_iald hG dX7_neededByRecipes_44 rfl rfl (by omega) (by omega) ?_
        refine z_callV hG dX7_neededByRecipes_45 LV_X7_62 (ct_X4_scaled l g (hrj.2.2.2 q hq.1 hq.2.2) hrj.1 hrj.2.1.2) (by decide) rfl rfl rfl (Nat.le_of_ble_eq_true rfl) ?_
        intro v9 m9 h9
        rw [h9.1, h9.2]
        clear h9 m9 v9
        refine z_iadd hG dX7_neededByRecipes_48 (by omega) (by omega) ?_
        refine z_istore_n (i := 2) hG dX7_neededByRecipes_49 rfl (by decide) (ls2 := [_, _, _, _, _, _, _]) rfl ?_
        refine z_iinc hG dX7_neededByRecipes_50 (by decide) rfl (by omega) (by omega) (ls2 := [_, _, _, _, _, _, _]) rfl ?_
        refine z_goto hG dX7_neededByRecipes_53 (tgt := 22) rfl ?_
        exact z_forget [true, true, true, true, true, true, false] rfl (ih (j + 1) (by omega))
  refine z_iconst hG dX7_neededByRecipes_0 rfl ?_
  refine z_istore_n (i := 2) hG dX7_neededByRecipes_1 rfl (by decide) (ls2 := [_, _, _, _, _, _, _]) rfl ?_
  refine z_aload_n (i := 0) hG dX7_neededByRecipes_2 rfl rfl ?_
  refine z_iload_n (i := 1) hG dX7_neededByRecipes_3 rfl rfl ?_
  refine z_callV hG dX7_neededByRecipes_4 LV_X7_54 (ct_X7_hasIngredient l g) (by decide) rfl rfl rfl (Nat.le_of_ble_eq_true rfl) ?_
  intro v9 m9 h9
  rw [h9.1, h9.2]
  clear h9 m9 v9
  refine z_if_eq hG dX7_neededByRecipes_7 (tgt := 56) rfl (fun c7 => ?_) (fun c7 => ?_)
  · try simp only [zite_eq0, ne_eq, Classical.not_not] at c7
    refine z_iload_n (i := 2) hG dX7_neededByRecipes_56 rfl rfl ?_
    refine z_iret hG hE dX7_neededByRecipes_57 trivial ?_
    exact ⟨by rw [if_neg c7], rfl⟩
  · try simp only [zite_eq0, ne_eq, Classical.not_not] at c7
    refine z_aload_n (i := 0) hG dX7_neededByRecipes_10 rfl rfl ?_
    refine z_get_7_7 hG dX7_neededByRecipes_11 FL_X7_23 ?_
    refine z_astore_n (i := 3) hG dX7_neededByRecipes_14 rfl (by decide) (ls2 := [_, _, _, _, _, _, _]) rfl ?_
    refine z_aload_n (i := 3) hG dX7_neededByRecipes_15 rfl rfl ?_
    refine z_alen (n := 4) hG dX7_neededByRecipes_16 rfl rfl (by decide) rfl rfl ?_
    refine z_istore hG dX7_neededByRecipes_17 (by decide) (ls2 := [_, _, _, _, _, _, _]) rfl ?_
    refine z_iconst hG dX7_neededByRecipes_19 rfl ?_
    refine z_istore hG dX7_neededByRecipes_20 (by decide) (ls2 := [_, _, _, _, _, _, _]) rfl ?_
    exact loop c7 4 0 rfl
set_option maxRecDepth 20000 in
theorem ct_X7_emptyMenu (l : Launch) (g : zG) {mem : zM} {s : Int} : zMet l g Y_X7_emptyMenu [zr 2 s 0] mem (fun v m' => v = none ∧ m' = zempty mem s 4) := by
  refine zMet_introF (by decide +kernel) (Nat.le_of_ble_eq_true rfl) (ls0 := [some (zr 2 s 0), none, none, none, none]) rfl fun X hG hE => ?_
  have hG : zGood X l g RX7 cX7_emptyMenu 0 5 := hG
  have hE : zEnd X (none) _ := hE
  have loop : ∀ (n : Nat) (j : Int), 0 ≤ j → j + n = 4 → zZ X 10 [some (zr 2 s 0), some (zr 16 s 0), some (zi 4), some (zi j), none] [] (zempty mem s j) := by
    intro n
    induction n with
    | zero =>
      intro j hj0 hj
      refine z_iload_n (i := 3) hG dX7_emptyMenu_10 rfl rfl ?_
      refine z_iload_n (i := 2) hG dX7_emptyMenu_11 rfl rfl ?_
      refine z_icmp_ge hG dX7_emptyMenu_12 (tgt := 32) rfl (fun c12 => ?_) (fun c12 => ?_)
      · refine z_vret hG hE dX7_emptyMenu_32 ?_
        exact ⟨rfl, by rw [show j = 4 by omega]⟩
      · exact absurd c12 (by omega)
    | succ n ih =>
      intro j hj0 hj
      refine z_iload_n (i := 3) hG dX7_emptyMenu_10 rfl rfl ?_
      refine z_iload_n (i := 2) hG dX7_emptyMenu_11 rfl rfl ?_
      refine z_icmp_ge hG dX7_emptyMenu_12 (tgt := 32) rfl (fun c12 => ?_) (fun c12 => ?_)
      · exact absurd c12 (by omega)
      · refine z_aload_n (i := 1) hG dX7_emptyMenu_15 rfl rfl ?_
        refine z_iload_n (i := 3) hG dX7_emptyMenu_16 rfl rfl ?_
        refine z_aa_16 hG dX7_emptyMenu_17 (by omega) (by omega) ?_
        refine z_astore hG dX7_emptyMenu_18 (by decide) (ls2 := [_, _, _, _, _]) rfl ?_
        refine z_aload hG dX7_emptyMenu_20 rfl ?_
        refine z_iconst hG dX7_emptyMenu_22 rfl ?_
        refine z_put hG dX7_emptyMenu_23 FP_X7_51 rfl rfl (kk := 1) rfl ?_
        refine z_iinc hG dX7_emptyMenu_26 (by decide) rfl (by omega) (by omega) (ls2 := [_, _, _, _, _]) rfl ?_
        refine z_goto hG dX7_emptyMenu_29 (tgt := 10) rfl ?_
        refine z_forget [true, true, true, true, false] rfl (z_mem ?_ (ih (j + 1) (by omega) (by omega)))
        funext t' s' i' k'
        simp only [zset, zempty]
        grind
  refine z_aload_n (i := 0) hG dX7_emptyMenu_0 rfl rfl ?_
  refine z_get_7_7 hG dX7_emptyMenu_1 FL_X7_23 ?_
  refine z_astore_n (i := 1) hG dX7_emptyMenu_4 rfl (by decide) (ls2 := [_, _, _, _, _]) rfl ?_
  refine z_aload_n (i := 1) hG dX7_emptyMenu_5 rfl rfl ?_
  refine z_alen (n := 4) hG dX7_emptyMenu_6 rfl rfl (by decide) rfl rfl ?_
  refine z_istore_n (i := 2) hG dX7_emptyMenu_7 rfl (by decide) (ls2 := [_, _, _, _, _]) rfl ?_
  refine z_iconst hG dX7_emptyMenu_8 rfl ?_
  refine z_istore_n (i := 3) hG dX7_emptyMenu_9 rfl (by decide) (ls2 := [_, _, _, _, _]) rfl ?_
  refine z_mem ?_ (loop 4 0 (by decide) rfl)
  funext t' s' i' k'
  simp only [zempty]
  rw [if_neg (by omega)]
set_option maxRecDepth 20000 in
theorem ct_X7_letPass (l : Launch) (g : zG) {mem : zM} {s d : Int} (hd : 0 ≤ d ∧ d ≤ 60) (h0 : 0 ≤ mem 2 s 0 0 ∧ mem 2 s 0 0 + d ≤ 3000) : zMet l g Y_X7_letPass [zr 2 s 0, zi d] mem (fun v m' => v = some (zi (zpass s d.toNat 0 mem).1) ∧ m' = (zpass s d.toNat 0 mem).2) := by
  refine zMet_introF (by decide +kernel) (Nat.le_of_ble_eq_true rfl) (ls0 := [some (zr 2 s 0), some (zi d), none, none, none, none, none, none]) rfl fun X hG hE => ?_
  have hG : zGood X l g RX7 cX7_letPass 3 8 := hG
  have hE : zEnd X (some .int) _ := hE
  have inner : ∀ (n : Nat) (i acc k : Int) (m0 : zM) (F : Int × zM), 0 ≤ i → i + n = 8 → 0 ≤ m0 2 s 0 0 → zthrow s (m0 2 s 0 0) n i acc m0 = F → (zZ X 65 [some (zr 2 s 0), some (zi d), some (zi F.1), some (zi k), none, none, none, none] [] F.2) → zZ X 33 [some (zr 2 s 0), some (zi d), some (zi acc), some (zi k), some (zr 15 s 0), some (zi 8), some (zi i), none] [] m0 := by
    intro n
    induction n with
    | zero =>
      intro i acc k m0 F hi0 hi hd0 hF K
      refine z_iload hG dX7_letPass_33 rfl ?_
      refine z_iload hG dX7_letPass_35 rfl ?_
      refine z_icmp_ge hG dX7_letPass_37 (tgt := 65) rfl (fun c37 => ?_) (fun c37 => ?_)
      · subst hF
        exact z_forget [true, true, true, true, false, false, false, false] rfl K
      · exact absurd c37 (by omega)
    | succ n ih =>
      intro i acc k m0 F hi0 hi hd0 hF K
      refine z_iload hG dX7_letPass_33 rfl ?_
      refine z_iload hG dX7_letPass_35 rfl ?_
      refine z_icmp_ge hG dX7_letPass_37 (tgt := 65) rfl (fun c37 => ?_) (fun c37 => ?_)
      · exact absurd c37 (by omega)
      · refine z_aload hG dX7_letPass_40 rfl ?_
        refine z_iload hG dX7_letPass_42 rfl ?_
        refine z_aa_15 hG dX7_letPass_44 (by omega) (by omega) ?_
        refine z_astore hG dX7_letPass_45 (by decide) (ls2 := [_, _, _, _, _, _, _, _]) rfl ?_
        refine z_iload_n (i := 2) hG dX7_letPass_47 rfl rfl ?_
        refine z_aload hG dX7_letPass_48 rfl ?_
        refine z_aload_n (i := 0) hG dX7_letPass_50 rfl rfl ?_
        refine z_getI hG dX7_letPass_51 FL_X7_29 rfl rfl (kk := 0) rfl ?_
        refine z_callV hG dX7_letPass_54 LV_X7_66 (ct_X1_throwAway l g hd0) (by decide) rfl rfl rfl (Nat.le_of_ble_eq_true rfl) ?_
        intro v9 m9 h9
        rw [h9.1, h9.2]
        clear h9 m9 v9
        refine z_iaddw hG dX7_letPass_57 ?_
        refine z_istore_n (i := 2) hG dX7_letPass_58 rfl (by decide) (ls2 := [_, _, _, _, _, _, _, _]) rfl ?_
        refine z_iinc hG dX7_letPass_59 (by decide) rfl (by omega) (by omega) (ls2 := [_, _, _, _, _, _, _, _]) rfl ?_
        refine z_goto hG dX7_letPass_62 (tgt := 33) rfl ?_
        refine z_forget [true, true, true, true, true, true, true, false] rfl (ih (i + 1) _ k _ F (by omega) (by omega) (by simpa [zset] using hd0) ?_ K)
        rw [← hF]
        simp only [zthrow]
        rw [show ∀ a b c, zset (zset m0 14 s i a b) 3 s i 10 c 2 s 0 0 = m0 2 s 0 0 from fun a b c => by simp [zset]]
  have outer : ∀ (n : Nat) (k acc : Int) (m0 : zM), 0 ≤ k → k + n = d → 0 ≤ m0 2 s 0 0 → m0 2 s 0 0 + n ≤ 3000 → zpass s d.toNat 0 mem = zpass s n acc m0 → zZ X 4 [some (zr 2 s 0), some (zi d), some (zi acc), some (zi k), none, none, none, none] [] m0 := by
    intro n
    induction n with
    | zero =>
      intro k acc m0 hk0 hk hd0 hd1 he
      refine z_iload_n (i := 3) hG dX7_letPass_4 rfl rfl ?_
      refine z_iload_n (i := 1) hG dX7_letPass_5 rfl rfl ?_
      refine z_icmp_ge hG dX7_letPass_6 (tgt := 71) rfl (fun c6 => ?_) (fun c6 => ?_)
      · refine z_iload_n (i := 2) hG dX7_letPass_71 rfl rfl ?_
        refine z_iret hG hE dX7_letPass_72 trivial ?_
        rw [he]
        exact ⟨rfl, rfl⟩
      · exact absurd c6 (by omega)
    | succ n ih =>
      intro k acc m0 hk0 hk hd0 hd1 he
      have hday := zthrow_day (s := s) (d := m0 2 s 0 0 + 1) 8 0 acc (zset m0 2 s 0 0 (m0 2 s 0 0 + 1)) s 0 0
      have hz : zset m0 2 s 0 0 (m0 2 s 0 0 + 1) 2 s 0 0 = m0 2 s 0 0 + 1 := by simp [zset]
      rw [hz] at hday
      refine z_iload_n (i := 3) hG dX7_letPass_4 rfl rfl ?_
      refine z_iload_n (i := 1) hG dX7_letPass_5 rfl rfl ?_
      refine z_icmp_ge hG dX7_letPass_6 (tgt := 71) rfl (fun c6 => ?_) (fun c6 => ?_)
      · exact absurd c6 (by omega)
      · refine z_aload_n (i := 0) hG dX7_letPass_9 rfl rfl ?_
        first | refine z_dup_r hG dX7_letPass_10 ?_ | refine z_dup_i hG dX7_letPass_10 ?_
        refine z_getI hG dX7_letPass_11 FL_X7_29 rfl rfl (kk := 0) rfl ?_
        refine z_iconst hG dX7_letPass_14 rfl ?_
        refine z_iadd hG dX7_letPass_15 (by omega) (by omega) ?_
        refine z_put hG dX7_letPass_16 FP_X7_29 rfl rfl (kk := 0) rfl ?_
        refine z_aload_n (i := 0) hG dX7_letPass_19 rfl rfl ?_
        refine z_get_7_6 hG dX7_letPass_20 FL_X7_17 ?_
        refine z_astore hG dX7_letPass_23 (by decide) (ls2 := [_, _, _, _, _, _, _, _]) rfl ?_
        refine z_aload hG dX7_letPass_25 rfl ?_
        refine z_alen (n := 8) hG dX7_letPass_27 rfl rfl (by decide) rfl rfl ?_
        refine z_istore hG dX7_letPass_28 (by decide) (ls2 := [_, _, _, _, _, _, _, _]) rfl ?_
        refine z_iconst hG dX7_letPass_30 rfl ?_
        refine z_istore hG dX7_letPass_31 (by decide) (ls2 := [_, _, _, _, _, _, _, _]) rfl ?_
        refine inner 8 0 acc k _ _ (by decide) rfl (by rw [hz]; omega) rfl ?_
        rw [hz]
        refine z_iinc hG dX7_letPass_65 (by decide) rfl (by omega) (by omega) (ls2 := [_, _, _, _, _, _, _, _]) rfl ?_
        refine z_goto hG dX7_letPass_68 (tgt := 4) rfl ?_
        refine ih (k + 1) _ _ (by omega) (by omega) (by omega) (by omega) ?_
        rw [he]
        rfl
  refine z_iconst hG dX7_letPass_0 rfl ?_
  refine z_istore_n (i := 2) hG dX7_letPass_1 rfl (by decide) (ls2 := [_, _, _, _, _, _, _, _]) rfl ?_
  refine z_iconst hG dX7_letPass_2 rfl ?_
  refine z_istore_n (i := 3) hG dX7_letPass_3 rfl (by decide) (ls2 := [_, _, _, _, _, _, _, _]) rfl ?_
  exact outer d.toNat 0 0 mem (by decide) (by omega) h0.1 (by omega) rfl
theorem zneg1 : Int32.ofInt (-1) - Int32.ofInt (-1) / Int32.ofInt 6 * Int32.ofInt 6 = Int32.ofInt (-1) := by decide
theorem ct_floorMod_m1 (l : Launch) (g : zG) {mem : zM} : zMet l g Y_J9_floorMod_7cf53 [zi (-1), zi 6] mem (fun v m' => v = some (zi 5) ∧ m' = mem) := by
  refine zMet_introF (by decide +kernel) (Nat.le_of_ble_eq_true rfl) (ls0 := [some (zi (-1)), some (zi 6), none]) rfl fun X hG hE => ?_
  have hG : zGood X l g RJ9 cJ9_floorMod_7cf53 0 3 := hG
  have hE : zEnd X (some .int) _ := hE
  have hx : zxor (-1) 6 < 0 := by decide
  refine z_iload_n (i := 0) hG dJ9_floorMod_7cf53_0 rfl rfl ?_
  refine z_iload_n (i := 1) hG dJ9_floorMod_7cf53_1 rfl rfl ?_
  refine z_iremV hG dJ9_floorMod_7cf53_2 (by decide) zneg1 rfl ?_
  refine z_istore_n (i := 2) hG dJ9_floorMod_7cf53_3 rfl (by decide) (ls2 := [_, _, _]) rfl ?_
  refine z_iload_n (i := 0) hG dJ9_floorMod_7cf53_4 rfl rfl ?_
  refine z_iload_n (i := 1) hG dJ9_floorMod_7cf53_5 rfl rfl ?_
  refine z_ixor hG dJ9_floorMod_7cf53_6 ?_
  refine z_if_ge hG dJ9_floorMod_7cf53_7 (tgt := 18) rfl (fun c7 => ?_) (fun c7 => ?_)
  · exact absurd c7 (by omega)
  · refine z_iload_n (i := 2) hG dJ9_floorMod_7cf53_10 rfl rfl ?_
    refine z_if_eq hG dJ9_floorMod_7cf53_11 (tgt := 18) rfl (fun c11 => ?_) (fun c11 => ?_)
    · try simp only [zite_eq0, ne_eq, Classical.not_not] at c11
      exact absurd c11 (by decide)
    · try simp only [zite_eq0, ne_eq, Classical.not_not] at c11
      refine z_iload_n (i := 2) hG dJ9_floorMod_7cf53_14 rfl rfl ?_
      refine z_iload_n (i := 1) hG dJ9_floorMod_7cf53_15 rfl rfl ?_
      refine z_iadd hG dJ9_floorMod_7cf53_16 (by omega) (by omega) ?_
      refine z_iret hG hE dJ9_floorMod_7cf53_17 trivial ?_
      exact ⟨rfl, rfl⟩
theorem ct_floorMod6 (l : Launch) (g : zG) {mem : zM} {x : Int} (h : -1 ≤ x) : zMet l g Y_J9_floorMod_7cf53 [zi x, zi 6] mem (fun v m' => v = some (zi (x % 6)) ∧ m' = mem) := by
  rcases (show x = -1 ∨ 0 ≤ x by omega) with rfl | h0
  · exact ct_floorMod_m1 l g
  · exact ct_J9_floorMod_7cf53 l g h0 (by decide)
/-- what the history holds behind a change, and behind undoing one -/
def zrecd (m : zM) : zM := zset (zcS (zset m 1 0 0 1 ((m 1 0 0 1 + 1) % 6)) (1 + (m 1 0 0 1 + 1) % 6) 0 8 4) 1 0 0 0 (if 6 < m 1 0 0 0 + 1 then 6 else m 1 0 0 0 + 1)
def zback (m : zM) : zM := zset (zset (zcS m 0 (1 + m 1 0 0 1 % 6) 8 4) 1 0 0 1 ((m 1 0 0 1 - 1) % 6)) 1 0 0 0 (m 1 0 0 0 - 1)
set_option maxRecDepth 20000 in
theorem ct_X0_record (l : Launch) (g : zG) {mem : zM} (hL : 0 ≤ mem 1 0 0 1 ∧ mem 1 0 0 1 < 6) (hk : 0 ≤ mem 1 0 0 0 ∧ mem 1 0 0 0 ≤ 6) (hb : zbool mem 0) : zMet l g Y_X0_record [zr 1 0 0, zr 2 0 0] mem (fun v m' => v = none ∧ m' = zrecd mem) := by
  refine zMet_introF (by decide +kernel) (Nat.le_of_ble_eq_true rfl) (ls0 := [some (zr 1 0 0), some (zr 2 0 0)]) rfl fun X hG hE => ?_
  have hG : zGood X l g RX0 cX0_record 3 2 := hG
  have hE : zEnd X (none) _ := hE
  have hz : zset mem 1 0 0 1 ((mem 1 0 0 1 + 1) % 6) 1 0 0 1 = (mem 1 0 0 1 + 1) % 6 := by simp [zset]
  have hb2 : zbool (zset mem 1 0 0 1 ((mem 1 0 0 1 + 1) % 6)) 0 := ⟨fun i h0 h1 => by simpa [zset] using hb.1 i h0 h1, fun i h0 h1 => by simpa [zset] using hb.2 i h0 h1⟩
  have hk2 : zcS (zset mem 1 0 0 1 ((mem 1 0 0 1 + 1) % 6)) (1 + (mem 1 0 0 1 + 1) % 6) 0 8 4 1 0 0 0 = mem 1 0 0 0 := by
    simp only [zcS]
    rw [if_neg (by omega)]
    simp [zset]
  refine z_aload_n (i := 0) hG dX0_record_0 rfl rfl ?_
  refine z_aload_n (i := 0) hG dX0_record_1 rfl rfl ?_
  refine z_getI hG dX0_record_2 FL_X0_9 rfl rfl (kk := 1) rfl ?_
  refine z_iconst hG dX0_record_5 rfl ?_
  refine z_iadd hG dX0_record_6 (by omega) (by omega) ?_
  refine z_bipush hG dX0_record_7 rfl ?_
  refine z_callS hG dX0_record_9 LS_X0_22 (ct_floorMod6 l g (by omega)) (by decide) rfl rfl (Nat.le_of_ble_eq_true rfl) ?_
  intro v9 m9 h9
  rw [h9.1, h9.2]
  clear h9 m9 v9
  refine z_put hG dX0_record_12 FP_X0_9 rfl rfl (kk := 1) rfl ?_
  refine z_aload_n (i := 0) hG dX0_record_15 rfl rfl ?_
  refine z_get_0_2 hG dX0_record_16 FL_X0_17 ?_
  refine z_aload_n (i := 0) hG dX0_record_19 rfl rfl ?_
  refine z_getI hG dX0_record_20 FL_X0_9 rfl rfl (kk := 1) rfl ?_
  rw [hz]
  refine z_aa_19 hG dX0_record_23 (by omega) (by omega) ?_
  refine z_aload_n (i := 1) hG dX0_record_24 rfl rfl ?_
  refine z_callV hG dX0_record_25 LV_X0_28 (ct_X7_copyFrom l g (by omega) hb2) (by decide) rfl rfl rfl (Nat.le_of_ble_eq_true rfl) ?_
  intro v9 m9 h9
  rw [h9.1, h9.2]
  clear h9 m9 v9
  refine z_aload_n (i := 0) hG dX0_record_28 rfl rfl ?_
  refine z_aload_n (i := 0) hG dX0_record_29 rfl rfl ?_
  refine z_getI hG dX0_record_30 FL_X0_32 rfl rfl (kk := 0) rfl ?_
  rw [hk2]
  refine z_iconst hG dX0_record_33 rfl ?_
  refine z_iadd hG dX0_record_34 (by omega) (by omega) ?_
  refine z_bipush hG dX0_record_35 rfl ?_
  refine z_min hG dX0_record_37 LM_X0_35 (by decide) (Nat.le_of_ble_eq_true rfl) ?_
  refine z_put hG dX0_record_40 FP_X0_32 rfl rfl (kk := 0) rfl ?_
  refine z_vret hG hE dX0_record_43 ?_
  exact ⟨rfl, rfl⟩
set_option maxRecDepth 20000 in
theorem ct_X0_giveBack (l : Launch) (g : zG) {mem : zM} (hL : 0 ≤ mem 1 0 0 1 ∧ mem 1 0 0 1 < 6) (hk : 0 < mem 1 0 0 0 ∧ mem 1 0 0 0 ≤ 6) (hb : zbool mem (1 + mem 1 0 0 1 % 6)) : zMet l g Y_X0_giveBack [zr 1 0 0, zr 2 0 0] mem (fun v m' => v = none ∧ m' = zback mem) := by
  refine zMet_introF (by decide +kernel) (Nat.le_of_ble_eq_true rfl) (ls0 := [some (zr 1 0 0), some (zr 2 0 0)]) rfl fun X hG hE => ?_
  have hG : zGood X l g RX0 cX0_giveBack 3 2 := hG
  have hE : zEnd X (none) _ := hE
  have hz : ∀ k : Int, zcS mem 0 (1 + mem 1 0 0 1 % 6) 8 4 1 0 0 k = mem 1 0 0 k := by
    intro k
    simp [zcS, zSt]
  have hz2 : ∀ v : Int, zset (zcS mem 0 (1 + mem 1 0 0 1 % 6) 8 4) 1 0 0 1 v 1 0 0 0 = mem 1 0 0 0 := by
    intro v
    rw [← hz 0]
    simp [zset]
  refine z_aload_n (i := 0) hG dX0_giveBack_0 rfl rfl ?_
  refine z_getI hG dX0_giveBack_1 FL_X0_32 rfl rfl (kk := 0) rfl ?_
  refine z_if_ne hG dX0_giveBack_4 (tgt := 8) rfl (fun c4 => ?_) (fun c4 => ?_)
  · try simp only [zite_eq0, ne_eq, Classical.not_not] at c4
    refine z_aload_n (i := 1) hG dX0_giveBack_8 rfl rfl ?_
    refine z_aload_n (i := 0) hG dX0_giveBack_9 rfl rfl ?_
    refine z_get_0_2 hG dX0_giveBack_10 FL_X0_17 ?_
    refine z_aload_n (i := 0) hG dX0_giveBack_13 rfl rfl ?_
    refine z_getI hG dX0_giveBack_14 FL_X0_9 rfl rfl (kk := 1) rfl ?_
    refine z_bipush hG dX0_giveBack_17 rfl ?_
    refine z_callS hG dX0_giveBack_19 LS_X0_22 (ct_floorMod6 l g (by omega)) (by decide) rfl rfl (Nat.le_of_ble_eq_true rfl) ?_
    intro v9 m9 h9
    rw [h9.1, h9.2]
    clear h9 m9 v9
    refine z_aa_19 hG dX0_giveBack_22 (by omega) (by omega) ?_
    refine z_callV hG dX0_giveBack_23 LV_X0_28 (ct_X7_copyFrom l g (by omega) hb) (by decide) rfl rfl rfl (Nat.le_of_ble_eq_true rfl) ?_
    intro v9 m9 h9
    rw [h9.1, h9.2]
    clear h9 m9 v9
    refine z_aload_n (i := 0) hG dX0_giveBack_26 rfl rfl ?_
    refine z_aload_n (i := 0) hG dX0_giveBack_27 rfl rfl ?_
    refine z_getI hG dX0_giveBack_28 FL_X0_9 rfl rfl (kk := 1) rfl ?_
    rw [hz]
    refine z_iconst hG dX0_giveBack_31 rfl ?_
    refine z_isub hG dX0_giveBack_32 (by omega) (by omega) ?_
    refine z_bipush hG dX0_giveBack_33 rfl ?_
    refine z_callS hG dX0_giveBack_35 LS_X0_22 (ct_floorMod6 l g (by omega)) (by decide) rfl rfl (Nat.le_of_ble_eq_true rfl) ?_
    intro v9 m9 h9
    rw [h9.1, h9.2]
    clear h9 m9 v9
    refine z_put hG dX0_giveBack_38 FP_X0_9 rfl rfl (kk := 1) rfl ?_
    refine z_aload_n (i := 0) hG dX0_giveBack_41 rfl rfl ?_
    first | refine z_dup_r hG dX0_giveBack_42 ?_ | refine z_dup_i hG dX0_giveBack_42 ?_
    refine z_getI hG dX0_giveBack_43 FL_X0_32 rfl rfl (kk := 0) rfl ?_
    rw [hz2]
    refine z_iconst hG dX0_giveBack_46 rfl ?_
    refine z_isub hG dX0_giveBack_47 (by omega) (by omega) ?_
    refine z_put hG dX0_giveBack_48 FP_X0_32 rfl rfl (kk := 0) rfl ?_
    refine z_vret hG hE dX0_giveBack_51 ?_
    exact ⟨rfl, rfl⟩
  · try simp only [zite_eq0, ne_eq, Classical.not_not] at c4
    exact absurd c4 (by omega)
