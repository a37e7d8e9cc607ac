/-- what the schedule's arrays hold: tails, begins, durations, hands -/
def zsch (m : zM) : Prop := ∀ j : Int, 0 ≤ j → j < 32 → (0 ≤ m 39 0 0 j ∧ m 39 0 0 j ≤ 50000) ∧ (0 ≤ m 41 0 0 j ∧ m 41 0 0 j ≤ 5000) ∧ (0 ≤ m 42 0 0 j ∧ m 42 0 0 j ≤ 3)
def zbgn (m : zM) : Prop := ∀ j : Int, 0 ≤ j → j < 32 → -6 ≤ m 40 0 0 j ∧ m 40 0 0 j ≤ 300000
def zodr (m : zM) : Prop := (0 ≤ m 10 0 0 7 ∧ m 10 0 0 7 ≤ 32) ∧ ∀ j : Int, 0 ≤ j → j < m 10 0 0 7 → 0 ≤ m 44 0 0 j ∧ m 44 0 0 j < 32
abbrev zbit (x k : Int) : Prop := zand (zshr x k) 1 = 1
def zmxs (f : Int → Int) : Nat → Int
  | 0 => 0
  | n + 1 => if zmxs f n < f n then f n else zmxs f n
theorem zmxs_bd {f : Int → Int} {B : Int} (hB : 0 ≤ B) : ∀ n : Nat, (∀ j : Int, 0 ≤ j → j < n → f j ≤ B) → 0 ≤ zmxs f n ∧ zmxs f n ≤ B
  | 0, _ => ⟨Int.le_refl _, hB⟩
  | n + 1, h => by
    have h1 := zmxs_bd hB n (fun j h0 h1 => h j h0 (by omega))
    have h2 := h n (by omega) (by omega)
    rw [zmxs]
    split <;> omega
def znx (m : zM) (t : Int) : Nat → Int
  | 0 => -6
  | n + 1 => if m 40 0 0 (m 44 0 0 n) ≠ -6 ∧ t < m 40 0 0 (m 44 0 0 n) + m 41 0 0 (m 44 0 0 n) ∧ (znx m t n = -6 ∨ m 40 0 0 (m 44 0 0 n) + m 41 0 0 (m 44 0 0 n) < znx m t n) then m 40 0 0 (m 44 0 0 n) + m 41 0 0 (m 44 0 0 n) else znx m t n
def zbsy (m : zM) (t : Int) (j : Int) : Int := if m 40 0 0 (m 44 0 0 j) ≠ -6 ∧ t < m 40 0 0 (m 44 0 0 j) + m 41 0 0 (m 44 0 0 j) then m 42 0 0 (m 44 0 0 j) else 0
set_option maxRecDepth 20000 in
theorem ct_X5_hasEnded (l : Launch) (g : zG) {m : zM} {p t : Int} (hs : zsch m) (hb : zbgn m) (hp : 0 ≤ p ∧ p < 32) : zMet l g Y_X5_hasEnded [zr 10 0 0, zi p, zi t] m (fun v m' => v = some (zi (if m 40 0 0 p ≠ -6 ∧ m 40 0 0 p + m 41 0 0 p ≤ t then 1 else 0)) ∧ m' = m) := by
  refine zMet_introF (by decide +kernel) (Nat.le_of_ble_eq_true rfl) (ls0 := [some (zr 10 0 0), some (zi p), some (zi t)]) rfl fun X hG hE => ?_
  have hG : zGood X l g RX5 cX5_hasEnded 0 3 := hG
  have hE : zEnd X (some .boolean) _ := hE
  have h1 := hs p hp.1 hp.2
  have h2 := hb p hp.1 hp.2
  refine z_aload_n (i := 0) hG dX5_hasEnded_0 rfl rfl ?_
  refine z_get_5_1 hG dX5_hasEnded_1 FL_X5_15 ?_
  refine z_iload_n (i := 1) hG dX5_hasEnded_4 rfl rfl ?_
  refine z_iald hG dX5_hasEnded_5 rfl rfl (by omega) (by omega) ?_
  refine z_bipush hG dX5_hasEnded_6 rfl ?_
  refine z_icmp_eq hG dX5_hasEnded_8 (tgt := 32) rfl (fun c8 => ?_) (fun c8 => ?_)
  · refine z_iconst hG dX5_hasEnded_32 rfl ?_
    refine z_iret hG hE dX5_hasEnded_33 (by first | exact Or.inl rfl | exact Or.inr rfl | (show _ ∨ _; omega)) ?_
    refine ⟨?_, rfl⟩
    first | rw [if_pos (by omega)] | rw [if_neg (by omega)]
  · refine z_aload_n (i := 0) hG dX5_hasEnded_11 rfl rfl ?_
    refine z_get_5_1 hG dX5_hasEnded_12 FL_X5_15 ?_
    refine z_iload_n (i := 1) hG dX5_hasEnded_15 rfl rfl ?_
    refine z_iald hG dX5_hasEnded_16 rfl rfl (by omega) (by omega) ?_
    refine z_aload_n (i := 0) hG dX5_hasEnded_17 rfl rfl ?_
    refine z_get_5_3 hG dX5_hasEnded_18 FL_X5_18 ?_
    refine z_iload_n (i := 1) hG dX5_hasEnded_21 rfl rfl ?_
    refine z_iald hG dX5_hasEnded_22 rfl rfl (by omega) (by omega) ?_
    refine z_iadd hG dX5_hasEnded_23 (by omega) (by omega) ?_
    refine z_iload_n (i := 2) hG dX5_hasEnded_24 rfl rfl ?_
    refine z_icmp_gt hG dX5_hasEnded_25 (tgt := 32) rfl (fun c25 => ?_) (fun c25 => ?_)
    · refine z_iconst hG dX5_hasEnded_32 rfl ?_
      refine z_iret hG hE dX5_hasEnded_33 (by first | exact Or.inl rfl | exact Or.inr rfl | (show _ ∨ _; omega)) ?_
      refine ⟨?_, rfl⟩
      first | rw [if_pos (by omega)] | rw [if_neg (by omega)]
    · refine z_iconst hG dX5_hasEnded_28 rfl ?_
      refine z_goto hG dX5_hasEnded_29 (tgt := 33) rfl ?_
      refine z_iret hG hE dX5_hasEnded_33 (by first | exact Or.inl rfl | exact Or.inr rfl | (show _ ∨ _; omega)) ?_
      refine ⟨?_, rfl⟩
      first | rw [if_pos (by omega)] | rw [if_neg (by omega)]
set_option maxRecDepth 20000 in
theorem ct_X5_isReady (l : Launch) (g : zG) {m : zM} {p t : Int} (hs : zsch m) (hb : zbgn m) (hp : 0 ≤ p ∧ p < 32) : zMet l g Y_X5_isReady [zr 10 0 0, zi p, zi t] m (fun v m' => ∃ r : Int, v = some (zi r) ∧ m' = m ∧ (r = 0 ∨ r = 1) ∧ (r = 1 ↔ ∀ k : Int, 0 ≤ k → k < 8 → zbit (m 43 0 0 p) k → m 40 0 0 (p - p % 8 + k) ≠ -6 ∧ m 40 0 0 (p - p % 8 + k) + m 41 0 0 (p - p % 8 + k) ≤ t)) := by
  refine zMet_introF (by decide +kernel) (Nat.le_of_ble_eq_true rfl) (ls0 := [some (zr 10 0 0), some (zi p), some (zi t), none, none]) rfl fun X hG hE => ?_
  have hG : zGood X l g RX5 cX5_isReady 1 5 := hG
  have hE : zEnd X (some .boolean) _ := hE
  have loop : ∀ (n : Nat) (k : Int), 0 ≤ k ∧ k + n = 8 → (∀ k' : Int, 0 ≤ k' → k' < k → zbit (m 43 0 0 p) k' → m 40 0 0 (p - p % 8 + k') ≠ -6 ∧ m 40 0 0 (p - p % 8 + k') + m 41 0 0 (p - p % 8 + k') ≤ t) → zZ X 12 [some (zr 10 0 0), some (zi p), some (zi t), some (zi (p - p % 8)), some (zi k)] [] m := by
    intro n
    induction n with
    | zero =>
      intro k hk hJ
      refine z_iload hG dX5_isReady_12 rfl ?_
      refine z_bipush hG dX5_isReady_14 rfl ?_
      refine z_icmp_ge hG dX5_isReady_16 (tgt := 54) rfl (fun c16 => ?_) (fun c16 => ?_)
      · refine z_iconst hG dX5_isReady_54 rfl ?_
        refine z_iret hG hE dX5_isReady_55 (by first | exact Or.inl rfl | exact Or.inr rfl | (show _ ∨ _; omega)) ?_
        exact ⟨1, rfl, rfl, Or.inr rfl, fun _ k' h0 h1 h2 => hJ k' h0 (by omega) h2, fun _ => rfl⟩
      · exact absurd c16 (by omega)
    | succ n ih =>
      intro k hk hJ
      refine z_iload hG dX5_isReady_12 rfl ?_
      refine z_bipush hG dX5_isReady_14 rfl ?_
      refine z_icmp_ge hG dX5_isReady_16 (tgt := 54) rfl (fun c16 => ?_) (fun c16 => ?_)
      · exact absurd c16 (by omega)
      · refine z_aload_n (i := 0) hG dX5_isReady_19 rfl rfl ?_
        refine z_get_5_5 hG dX5_isReady_20 FL_X5_24 ?_
        refine z_iload_n (i := 1) hG dX5_isReady_23 rfl rfl ?_
        refine z_iald hG dX5_isReady_24 rfl rfl (by omega) (by omega) ?_
        refine z_iload hG dX5_isReady_25 rfl ?_
        refine z_ishr hG dX5_isReady_27 ?_
        refine z_iconst hG dX5_isReady_28 rfl ?_
        refine z_iand hG dX5_isReady_29 ?_
        refine z_iconst hG dX5_isReady_30 rfl ?_
        refine z_icmp_ne hG dX5_isReady_31 (tgt := 48) rfl (fun c31 => ?_) (fun c31 => ?_)
        · refine z_iinc hG dX5_isReady_48 (by decide) rfl (by omega) (by omega) (ls2 := [_, _, _, _, _]) rfl ?_
          refine z_goto hG dX5_isReady_51 (tgt := 12) rfl ?_
          refine ih (k + 1) ⟨by omega, by omega⟩ (fun k' h0 h1 h2 => ?_)
          rcases (show k' < k ∨ k' = k by omega) with q | rfl
          · exact hJ k' h0 q h2
          · first | exact absurd h2 c31 | exact c43
        · refine z_aload_n (i := 0) hG dX5_isReady_34 rfl rfl ?_
          refine z_iload_n (i := 3) hG dX5_isReady_35 rfl rfl ?_
          refine z_iload hG dX5_isReady_36 rfl ?_
          refine z_iadd hG dX5_isReady_38 (by omega) (by omega) ?_
          refine z_iload_n (i := 2) hG dX5_isReady_39 rfl rfl ?_
          refine z_callV hG dX5_isReady_40 LV_X5_105 (ct_X5_hasEnded l g hs hb ⟨by omega, by omega⟩) (by decide) rfl rfl rfl (Nat.le_of_ble_eq_true rfl) ?_
          intro v9 m9 h9
          rw [h9.1, h9.2]
          clear h9 m9 v9
          refine z_if_ne hG dX5_isReady_43 (tgt := 48) rfl (fun c43 => ?_) (fun c43 => ?_)
          · try simp only [zite_eq0, ne_eq, Classical.not_not] at c43
            refine z_iinc hG dX5_isReady_48 (by decide) rfl (by omega) (by omega) (ls2 := [_, _, _, _, _]) rfl ?_
            refine z_goto hG dX5_isReady_51 (tgt := 12) rfl ?_
            refine ih (k + 1) ⟨by omega, by omega⟩ (fun k' h0 h1 h2 => ?_)
            rcases (show k' < k ∨ k' = k by omega) with q | rfl
            · exact hJ k' h0 q h2
            · first | exact absurd h2 c31 | exact c43
          · try simp only [zite_eq0, ne_eq, Classical.not_not] at c43
            refine z_iconst hG dX5_isReady_46 rfl ?_
            refine z_iret hG hE dX5_isReady_47 (by first | exact Or.inl rfl | exact Or.inr rfl | (show _ ∨ _; omega)) ?_
            exact ⟨0, rfl, rfl, Or.inl rfl, fun q => absurd q (by decide), fun q => absurd (q k hk.1 (by omega) c31) c43⟩
  refine z_iload_n (i := 1) hG dX5_isReady_0 rfl rfl ?_
  refine z_iload_n (i := 1) hG dX5_isReady_1 rfl rfl ?_
  refine z_bipush hG dX5_isReady_2 rfl ?_
  refine z_callS hG dX5_isReady_4 LS_X5_102 (ct_J9_floorMod_7cf53 l g hp.1 (by decide)) (by decide) rfl rfl (Nat.le_of_ble_eq_true rfl) ?_
  intro v9 m9 h9
  rw [h9.1, h9.2]
  clear h9 m9 v9
  refine z_isub hG dX5_isReady_7 (by omega) (by omega) ?_
  refine z_istore_n (i := 3) hG dX5_isReady_8 rfl (by decide) (ls2 := [_, _, _, _, _]) rfl ?_
  refine z_iconst hG dX5_isReady_9 rfl ?_
  refine z_istore hG dX5_isReady_10 (by decide) (ls2 := [_, _, _, _, _]) rfl ?_
  exact loop 8 0 (by decide) (fun k h0 h1 => absurd h0 (by omega))
set_option maxRecDepth 20000 in
theorem ct_X5_busyHands (l : Launch) (g : zG) {m : zM} {t : Int} (hs : zsch m) (hb : zbgn m) (ho : zodr m) : zMet l g Y_X5_busyHands [zr 10 0 0, zi t] m (fun v m' => v = some (zi (zsum (m 10 0 0 7).toNat (zbsy m t))) ∧ m' = m) := by
  refine zMet_introF (by decide +kernel) (Nat.le_of_ble_eq_true rfl) (ls0 := [some (zr 10 0 0), some (zi t), none, none, none]) rfl fun X hG hE => ?_
  have hG : zGood X l g RX5 cX5_busyHands 0 5 := hG
  have hE : zEnd X (some .int) _ := hE
  have loop : ∀ (n k : Nat), k + n = (m 10 0 0 7).toNat → zZ X 4 [some (zr 10 0 0), some (zi t), some (zi (zsum k (zbsy m t))), some (zi k), none] [] m := by
    intro n
    induction n with
    | zero =>
      intro k hk
      have h7 := ho.1
      refine z_iload_n (i := 3) hG dX5_busyHands_4 rfl rfl ?_
      refine z_aload_n (i := 0) hG dX5_busyHands_5 rfl rfl ?_
      refine z_getI hG dX5_busyHands_6 FL_X5_30 rfl rfl (kk := 7) rfl ?_
      refine z_icmp_ge hG dX5_busyHands_9 (tgt := 73) rfl (fun c9 => ?_) (fun c9 => ?_)
      · refine z_iload_n (i := 2) hG dX5_busyHands_73 rfl rfl ?_
        refine z_iret hG hE dX5_busyHands_74 trivial ?_
        exact ⟨by rw [show k = (m 10 0 0 7).toNat by omega], rfl⟩
      · exact absurd c9 (by omega)
    | succ n ih =>
      intro k hk
      have h7 := ho.1
      have ho1 := ho.2 k (by omega) (by omega)
      have h1 := hs _ ho1.1 ho1.2
      have h2 := hb _ ho1.1 ho1.2
      have h3 := zsum_le (f := zbsy m t) (B := 3) k (fun j j0 j1 => by
        have q := ho.2 j j0 (by omega)
        have := hs _ q.1 q.2
        simp only [zbsy]
        split <;> omega)
      refine z_iload_n (i := 3) hG dX5_busyHands_4 rfl rfl ?_
      refine z_aload_n (i := 0) hG dX5_busyHands_5 rfl rfl ?_
      refine z_getI hG dX5_busyHands_6 FL_X5_30 rfl rfl (kk := 7) rfl ?_
      refine z_icmp_ge hG dX5_busyHands_9 (tgt := 73) rfl (fun c9 => ?_) (fun c9 => ?_)
      · exact absurd c9 (by omega)
      · refine z_iload_n (i := 3) hG dX5_busyHands_12 rfl rfl ?_
        refine z_bipush hG dX5_busyHands_13 rfl ?_
        refine z_icmp_ge hG dX5_busyHands_15 (tgt := 73) rfl (fun c15 => ?_) (fun c15 => ?_)
        · exact absurd c15 (by omega)
        · refine z_aload_n (i := 0) hG dX5_busyHands_18 rfl rfl ?_
          refine z_get_5_6 hG dX5_busyHands_19 FL_X5_27 ?_
          refine z_iload_n (i := 3) hG dX5_busyHands_22 rfl rfl ?_
          refine z_iald hG dX5_busyHands_23 rfl rfl (by omega) (by omega) ?_
          refine z_istore hG dX5_busyHands_24 (by decide) (ls2 := [_, _, _, _, _]) rfl ?_
          refine z_aload_n (i := 0) hG dX5_busyHands_26 rfl rfl ?_
          refine z_get_5_1 hG dX5_busyHands_27 FL_X5_15 ?_
          refine z_iload hG dX5_busyHands_30 rfl ?_
          refine z_iald hG dX5_busyHands_32 rfl rfl (by omega) (by omega) ?_
          refine z_bipush hG dX5_busyHands_33 rfl ?_
          refine z_icmp_eq hG dX5_busyHands_35 (tgt := 67) rfl (fun c35 => ?_) (fun c35 => ?_)
          · refine z_iinc hG dX5_busyHands_67 (by decide) rfl (by omega) (by omega) (ls2 := [_, _, _, _, _]) rfl ?_
            refine z_goto hG dX5_busyHands_70 (tgt := 4) rfl ?_
            refine z_forget [true, true, true, true, false] (ls2 := [some (zr 10 0 0), some (zi t), some (zi (zsum (k + 1) (zbsy m t))), some (zi ((k + 1 : Nat) : Int)), none]) ?_ (ih (k + 1) (by omega))
            first | (simp only [zfor, zsum, zbsy, if_pos (show m 40 0 0 (m 44 0 0 k) ≠ -6 ∧ t < m 40 0 0 (m 44 0 0 k) + m 41 0 0 (m 44 0 0 k) from ⟨c35, c54⟩)]; rfl) | (simp only [zfor, zsum, zbsy, if_neg (show ¬ (m 40 0 0 (m 44 0 0 k) ≠ -6 ∧ t < m 40 0 0 (m 44 0 0 k) + m 41 0 0 (m 44 0 0 k)) by omega), Int.add_zero]; rfl)
          · refine z_aload_n (i := 0) hG dX5_busyHands_38 rfl rfl ?_
            refine z_get_5_1 hG dX5_busyHands_39 FL_X5_15 ?_
            refine z_iload hG dX5_busyHands_42 rfl ?_
            refine z_iald hG dX5_busyHands_44 rfl rfl (by omega) (by omega) ?_
            refine z_aload_n (i := 0) hG dX5_busyHands_45 rfl rfl ?_
            refine z_get_5_3 hG dX5_busyHands_46 FL_X5_18 ?_
            refine z_iload hG dX5_busyHands_49 rfl ?_
            refine z_iald hG dX5_busyHands_51 rfl rfl (by omega) (by omega) ?_
            refine z_iadd hG dX5_busyHands_52 (by omega) (by omega) ?_
            refine z_iload_n (i := 1) hG dX5_busyHands_53 rfl rfl ?_
            refine z_icmp_le hG dX5_busyHands_54 (tgt := 67) rfl (fun c54 => ?_) (fun c54 => ?_)
            · refine z_iinc hG dX5_busyHands_67 (by decide) rfl (by omega) (by omega) (ls2 := [_, _, _, _, _]) rfl ?_
              refine z_goto hG dX5_busyHands_70 (tgt := 4) rfl ?_
              refine z_forget [true, true, true, true, false] (ls2 := [some (zr 10 0 0), some (zi t), some (zi (zsum (k + 1) (zbsy m t))), some (zi ((k + 1 : Nat) : Int)), none]) ?_ (ih (k + 1) (by omega))
              first | (simp only [zfor, zsum, zbsy, if_pos (show m 40 0 0 (m 44 0 0 k) ≠ -6 ∧ t < m 40 0 0 (m 44 0 0 k) + m 41 0 0 (m 44 0 0 k) from ⟨c35, c54⟩)]; rfl) | (simp only [zfor, zsum, zbsy, if_neg (show ¬ (m 40 0 0 (m 44 0 0 k) ≠ -6 ∧ t < m 40 0 0 (m 44 0 0 k) + m 41 0 0 (m 44 0 0 k)) by omega), Int.add_zero]; rfl)
            · refine z_iload_n (i := 2) hG dX5_busyHands_57 rfl rfl ?_
              refine z_aload_n (i := 0) hG dX5_busyHands_58 rfl rfl ?_
              refine z_get_5_4 hG dX5_busyHands_59 FL_X5_21 ?_
              refine z_iload hG dX5_busyHands_62 rfl ?_
              refine z_iald hG dX5_busyHands_64 rfl rfl (by omega) (by omega) ?_
              refine z_iadd hG dX5_busyHands_65 (by omega) (by omega) ?_
              refine z_istore_n (i := 2) hG dX5_busyHands_66 rfl (by decide) (ls2 := [_, _, _, _, _]) rfl ?_
              refine z_iinc hG dX5_busyHands_67 (by decide) rfl (by omega) (by omega) (ls2 := [_, _, _, _, _]) rfl ?_
              refine z_goto hG dX5_busyHands_70 (tgt := 4) rfl ?_
              refine z_forget [true, true, true, true, false] (ls2 := [some (zr 10 0 0), some (zi t), some (zi (zsum (k + 1) (zbsy m t))), some (zi ((k + 1 : Nat) : Int)), none]) ?_ (ih (k + 1) (by omega))
              first | (simp only [zfor, zsum, zbsy, if_pos (show m 40 0 0 (m 44 0 0 k) ≠ -6 ∧ t < m 40 0 0 (m 44 0 0 k) + m 41 0 0 (m 44 0 0 k) from ⟨c35, c54⟩)]; rfl) | (simp only [zfor, zsum, zbsy, if_neg (show ¬ (m 40 0 0 (m 44 0 0 k) ≠ -6 ∧ t < m 40 0 0 (m 44 0 0 k) + m 41 0 0 (m 44 0 0 k)) by omega), Int.add_zero]; rfl)
  refine z_iconst hG dX5_busyHands_0 rfl ?_
  refine z_istore_n (i := 2) hG dX5_busyHands_1 rfl (by decide) (ls2 := [_, _, _, _, _]) rfl ?_
  refine z_iconst hG dX5_busyHands_2 rfl ?_
  refine z_istore_n (i := 3) hG dX5_busyHands_3 rfl (by decide) (ls2 := [_, _, _, _, _]) rfl ?_
  exact loop (m 10 0 0 7).toNat 0 (by omega)
/-- the end of the last step of the first n, all begun -/
def zed (m : zM) (j : Int) : Int := m 40 0 0 (m 44 0 0 j) + m 41 0 0 (m 44 0 0 j)
theorem znx_bd {m : zM} {t : Int} (hs : zsch m) (hb : zbgn m) (ho : zodr m) : ∀ n : Nat, (n : Int) ≤ m 10 0 0 7 → -6 ≤ znx m t n ∧ znx m t n ≤ 305000
  | 0, _ => by simp [znx]
  | n + 1, hn => by
    have h1 := znx_bd (t := t) hs hb ho n (by omega)
    have ho1 := ho.2 n (by omega) (by omega)
    have h2 := hs _ ho1.1 ho1.2
    have h3 := hb _ ho1.1 ho1.2
    rw [znx]
    split <;> omega
set_option maxRecDepth 20000 in
theorem ct_X5_nextEnd (l : Launch) (g : zG) {m : zM} {t : Int} (hs : zsch m) (hb : zbgn m) (ho : zodr m) : zMet l g Y_X5_nextEnd [zr 10 0 0, zi t] m (fun v m' => v = some (zi (znx m t (m 10 0 0 7).toNat)) ∧ m' = m) := by
  refine zMet_introF (by decide +kernel) (Nat.le_of_ble_eq_true rfl) (ls0 := [some (zr 10 0 0), some (zi t), none, none, none, none]) rfl fun X hG hE => ?_
  have hG : zGood X l g RX5 cX5_nextEnd 0 6 := hG
  have hE : zEnd X (some .int) _ := hE
  have loop : ∀ (n k : Nat), k + n = (m 10 0 0 7).toNat → zZ X 5 [some (zr 10 0 0), some (zi t), some (zi (znx m t k)), some (zi k), none, none] [] m := by
    intro n
    induction n with
    | zero =>
      intro k hk
      have h7 := ho.1
      refine z_iload_n (i := 3) hG dX5_nextEnd_5 rfl rfl ?_
      refine z_aload_n (i := 0) hG dX5_nextEnd_6 rfl rfl ?_
      refine z_getI hG dX5_nextEnd_7 FL_X5_30 rfl rfl (kk := 7) rfl ?_
      refine z_icmp_ge hG dX5_nextEnd_10 (tgt := 83) rfl (fun c10 => ?_) (fun c10 => ?_)
      · refine z_iload_n (i := 2) hG dX5_nextEnd_83 rfl rfl ?_
        refine z_iret hG hE dX5_nextEnd_84 trivial ?_
        exact ⟨by rw [show k = (m 10 0 0 7).toNat by omega], rfl⟩
      · exact absurd c10 (by omega)
    | succ n ih =>
      intro k hk
      have h7 := ho.1
      have ho1 := ho.2 k (by omega) (by omega)
      have h1 := hs _ ho1.1 ho1.2
      have h2 := hb _ ho1.1 ho1.2
      refine z_iload_n (i := 3) hG dX5_nextEnd_5 rfl rfl ?_
      refine z_aload_n (i := 0) hG dX5_nextEnd_6 rfl rfl ?_
      refine z_getI hG dX5_nextEnd_7 FL_X5_30 rfl rfl (kk := 7) rfl ?_
      refine z_icmp_ge hG dX5_nextEnd_10 (tgt := 83) rfl (fun c10 => ?_) (fun c10 => ?_)
      · exact absurd c10 (by omega)
      · refine z_iload_n (i := 3) hG dX5_nextEnd_13 rfl rfl ?_
        refine z_bipush hG dX5_nextEnd_14 rfl ?_
        refine z_icmp_ge hG dX5_nextEnd_16 (tgt := 83) rfl (fun c16 => ?_) (fun c16 => ?_)
        · exact absurd c16 (by omega)
        · refine z_aload_n (i := 0) hG dX5_nextEnd_19 rfl rfl ?_
          refine z_get_5_6 hG dX5_nextEnd_20 FL_X5_27 ?_
          refine z_iload_n (i := 3) hG dX5_nextEnd_23 rfl rfl ?_
          refine z_iald hG dX5_nextEnd_24 rfl rfl (by omega) (by omega) ?_
          refine z_istore hG dX5_nextEnd_25 (by decide) (ls2 := [_, _, _, _, _, _]) rfl ?_
          refine z_aload_n (i := 0) hG dX5_nextEnd_27 rfl rfl ?_
          refine z_get_5_1 hG dX5_nextEnd_28 FL_X5_15 ?_
          refine z_iload hG dX5_nextEnd_31 rfl ?_
          refine z_iald hG dX5_nextEnd_33 rfl rfl (by omega) (by omega) ?_
          refine z_aload_n (i := 0) hG dX5_nextEnd_34 rfl rfl ?_
          refine z_get_5_3 hG dX5_nextEnd_35 FL_X5_18 ?_
          refine z_iload hG dX5_nextEnd_38 rfl ?_
          refine z_iald hG dX5_nextEnd_40 rfl rfl (by omega) (by omega) ?_
          refine z_iadd hG dX5_nextEnd_41 (by omega) (by omega) ?_
          refine z_istore hG dX5_nextEnd_42 (by decide) (ls2 := [_, _, _, _, _, _]) rfl ?_
          refine z_aload_n (i := 0) hG dX5_nextEnd_44 rfl rfl ?_
          refine z_get_5_1 hG dX5_nextEnd_45 FL_X5_15 ?_
          refine z_iload hG dX5_nextEnd_48 rfl ?_
          refine z_iald hG dX5_nextEnd_50 rfl rfl (by omega) (by omega) ?_
          refine z_bipush hG dX5_nextEnd_51 rfl ?_
          refine z_icmp_eq hG dX5_nextEnd_53 (tgt := 77) rfl (fun c53 => ?_) (fun c53 => ?_)
          · refine z_iinc hG dX5_nextEnd_77 (by decide) rfl (by omega) (by omega) (ls2 := [_, _, _, _, _, _]) rfl ?_
            refine z_goto hG dX5_nextEnd_80 (tgt := 5) rfl ?_
            refine z_forget [true, true, true, true, false, false] (ls2 := [some (zr 10 0 0), some (zi t), some (zi (znx m t (k + 1))), some (zi ((k + 1 : Nat) : Int)), none, none]) ?_ (ih (k + 1) (by omega))
            rw [znx]
            first | (rw [if_pos (by omega)]; rfl) | (rw [if_neg (by omega)]; rfl)
          · refine z_iload hG dX5_nextEnd_56 rfl ?_
            refine z_iload_n (i := 1) hG dX5_nextEnd_58 rfl rfl ?_
            refine z_icmp_le hG dX5_nextEnd_59 (tgt := 77) rfl (fun c59 => ?_) (fun c59 => ?_)
            · refine z_iinc hG dX5_nextEnd_77 (by decide) rfl (by omega) (by omega) (ls2 := [_, _, _, _, _, _]) rfl ?_
              refine z_goto hG dX5_nextEnd_80 (tgt := 5) rfl ?_
              refine z_forget [true, true, true, true, false, false] (ls2 := [some (zr 10 0 0), some (zi t), some (zi (znx m t (k + 1))), some (zi ((k + 1 : Nat) : Int)), none, none]) ?_ (ih (k + 1) (by omega))
              rw [znx]
              first | (rw [if_pos (by omega)]; rfl) | (rw [if_neg (by omega)]; rfl)
            · refine z_iload_n (i := 2) hG dX5_nextEnd_62 rfl rfl ?_
              refine z_bipush hG dX5_nextEnd_63 rfl ?_
              refine z_icmp_eq hG dX5_nextEnd_65 (tgt := 74) rfl (fun c65 => ?_) (fun c65 => ?_)
              · refine z_iload hG dX5_nextEnd_74 rfl ?_
                refine z_istore_n (i := 2) hG dX5_nextEnd_76 rfl (by decide) (ls2 := [_, _, _, _, _, _]) rfl ?_
                refine z_iinc hG dX5_nextEnd_77 (by decide) rfl (by omega) (by omega) (ls2 := [_, _, _, _, _, _]) rfl ?_
                refine z_goto hG dX5_nextEnd_80 (tgt := 5) rfl ?_
                refine z_forget [true, true, true, true, false, false] (ls2 := [some (zr 10 0 0), some (zi t), some (zi (znx m t (k + 1))), some (zi ((k + 1 : Nat) : Int)), none, none]) ?_ (ih (k + 1) (by omega))
                rw [znx]
                first | (rw [if_pos (by omega)]; rfl) | (rw [if_neg (by omega)]; rfl)
              · refine z_iload hG dX5_nextEnd_68 rfl ?_
                refine z_iload_n (i := 2) hG dX5_nextEnd_70 rfl rfl ?_
                refine z_icmp_ge hG dX5_nextEnd_71 (tgt := 77) rfl (fun c71 => ?_) (fun c71 => ?_)
                · refine z_iinc hG dX5_nextEnd_77 (by decide) rfl (by omega) (by omega) (ls2 := [_, _, _, _, _, _]) rfl ?_
                  refine z_goto hG dX5_nextEnd_80 (tgt := 5) rfl ?_
                  refine z_forget [true, true, true, true, false, false] (ls2 := [some (zr 10 0 0), some (zi t), some (zi (znx m t (k + 1))), some (zi ((k + 1 : Nat) : Int)), none, none]) ?_ (ih (k + 1) (by omega))
                  rw [znx]
                  first | (rw [if_pos (by omega)]; rfl) | (rw [if_neg (by omega)]; rfl)
                · refine z_iload hG dX5_nextEnd_74 rfl ?_
                  refine z_istore_n (i := 2) hG dX5_nextEnd_76 rfl (by decide) (ls2 := [_, _, _, _, _, _]) rfl ?_
                  refine z_iinc hG dX5_nextEnd_77 (by decide) rfl (by omega) (by omega) (ls2 := [_, _, _, _, _, _]) rfl ?_
                  refine z_goto hG dX5_nextEnd_80 (tgt := 5) rfl ?_
                  refine z_forget [true, true, true, true, false, false] (ls2 := [some (zr 10 0 0), some (zi t), some (zi (znx m t (k + 1))), some (zi ((k + 1 : Nat) : Int)), none, none]) ?_ (ih (k + 1) (by omega))
                  rw [znx]
                  first | (rw [if_pos (by omega)]; rfl) | (rw [if_neg (by omega)]; rfl)
  refine z_bipush hG dX5_nextEnd_0 rfl ?_
  refine z_istore_n (i := 2) hG dX5_nextEnd_2 rfl (by decide) (ls2 := [_, _, _, _, _, _]) rfl ?_
  refine z_iconst hG dX5_nextEnd_3 rfl ?_
  refine z_istore_n (i := 3) hG dX5_nextEnd_4 rfl (by decide) (ls2 := [_, _, _, _, _, _]) rfl ?_
  exact loop (m 10 0 0 7).toNat 0 (by omega)
set_option maxRecDepth 20000 in
theorem ct_X5_end (l : Launch) (g : zG) {m : zM} (hs : zsch m) (hb : zbgn m) (ho : zodr m) : zMet l g Y_X5_end [zr 10 0 0] m (fun v m' => ∃ r : Int, v = some (zi r) ∧ m' = m ∧ ((r = -6 ∧ ∃ j : Int, 0 ≤ j ∧ j < m 10 0 0 7 ∧ m 40 0 0 (m 44 0 0 j) = -6) ∨ (r = zmxs (zed m) (m 10 0 0 7).toNat ∧ ∀ j : Int, 0 ≤ j → j < m 10 0 0 7 → m 40 0 0 (m 44 0 0 j) ≠ -6))) := by
  refine zMet_introF (by decide +kernel) (Nat.le_of_ble_eq_true rfl) (ls0 := [some (zr 10 0 0), none, none, none]) rfl fun X hG hE => ?_
  have hG : zGood X l g RX5 cX5_end 1 4 := hG
  have hE : zEnd X (some .int) _ := hE
  have loop : ∀ (n k : Nat), k + n = (m 10 0 0 7).toNat → (∀ j : Int, 0 ≤ j → j < k → m 40 0 0 (m 44 0 0 j) ≠ -6) → zZ X 4 [some (zr 10 0 0), some (zi (zmxs (zed m) k)), some (zi k), none] [] m := by
    intro n
    induction n with
    | zero =>
      intro k hk hJ
      have h7 := ho.1
      refine z_iload_n (i := 2) hG dX5_end_4 rfl rfl ?_
      refine z_aload_n (i := 0) hG dX5_end_5 rfl rfl ?_
      refine z_getI hG dX5_end_6 FL_X5_30 rfl rfl (kk := 7) rfl ?_
      refine z_icmp_ge hG dX5_end_9 (tgt := 63) rfl (fun c9 => ?_) (fun c9 => ?_)
      · refine z_iload_n (i := 1) hG dX5_end_63 rfl rfl ?_
        refine z_iret hG hE dX5_end_64 trivial ?_
        exact ⟨_, rfl, rfl, Or.inr ⟨by rw [show k = (m 10 0 0 7).toNat by omega], fun j h0 h1 => hJ j h0 (by omega)⟩⟩
      · exact absurd c9 (by omega)
    | succ n ih =>
      intro k hk hJ
      have h7 := ho.1
      have ho1 := ho.2 k (by omega) (by omega)
      have h1 := hs _ ho1.1 ho1.2
      have h2 := hb _ ho1.1 ho1.2
      refine z_iload_n (i := 2) hG dX5_end_4 rfl rfl ?_
      refine z_aload_n (i := 0) hG dX5_end_5 rfl rfl ?_
      refine z_getI hG dX5_end_6 FL_X5_30 rfl rfl (kk := 7) rfl ?_
      refine z_icmp_ge hG dX5_end_9 (tgt := 63) rfl (fun c9 => ?_) (fun c9 => ?_)
      · exact absurd c9 (by omega)
      · refine z_iload_n (i := 2) hG dX5_end_12 rfl rfl ?_
        refine z_bipush hG dX5_end_13 rfl ?_
        refine z_icmp_ge hG dX5_end_15 (tgt := 63) rfl (fun c15 => ?_) (fun c15 => ?_)
        · exact absurd c15 (by omega)
        · refine z_aload_n (i := 0) hG dX5_end_18 rfl rfl ?_
          refine z_get_5_6 hG dX5_end_19 FL_X5_27 ?_
          refine z_iload_n (i := 2) hG dX5_end_22 rfl rfl ?_
          refine z_iald hG dX5_end_23 rfl rfl (by omega) (by omega) ?_
          refine z_istore_n (i := 3) hG dX5_end_24 rfl (by decide) (ls2 := [_, _, _, _]) rfl ?_
          refine z_aload_n (i := 0) hG dX5_end_25 rfl rfl ?_
          refine z_get_5_1 hG dX5_end_26 FL_X5_15 ?_
          refine z_iload_n (i := 3) hG dX5_end_29 rfl rfl ?_
          refine z_iald hG dX5_end_30 rfl rfl (by omega) (by omega) ?_
          refine z_bipush hG dX5_end_31 rfl ?_
          refine z_icmp_ne hG dX5_end_33 (tgt := 39) rfl (fun c33 => ?_) (fun c33 => ?_)
          · refine z_iload_n (i := 1) hG dX5_end_39 rfl rfl ?_
            refine z_aload_n (i := 0) hG dX5_end_40 rfl rfl ?_
            refine z_get_5_1 hG dX5_end_41 FL_X5_15 ?_
            refine z_iload_n (i := 3) hG dX5_end_44 rfl rfl ?_
            refine z_iald hG dX5_end_45 rfl rfl (by omega) (by omega) ?_
            refine z_aload_n (i := 0) hG dX5_end_46 rfl rfl ?_
            refine z_get_5_3 hG dX5_end_47 FL_X5_18 ?_
            refine z_iload_n (i := 3) hG dX5_end_50 rfl rfl ?_
            refine z_iald hG dX5_end_51 rfl rfl (by omega) (by omega) ?_
            refine z_iadd hG dX5_end_52 (by omega) (by omega) ?_
            refine z_max hG dX5_end_53 LM_X5_81 (by decide) (Nat.le_of_ble_eq_true rfl) ?_
            refine z_istore_n (i := 1) hG dX5_end_56 rfl (by decide) (ls2 := [_, _, _, _]) rfl ?_
            refine z_iinc hG dX5_end_57 (by decide) rfl (by omega) (by omega) (ls2 := [_, _, _, _]) rfl ?_
            refine z_goto hG dX5_end_60 (tgt := 4) rfl ?_
            refine z_forget [true, true, true, false] (ls2 := [some (zr 10 0 0), some (zi (zmxs (zed m) (k + 1))), some (zi ((k + 1 : Nat) : Int)), none]) ?_ (ih (k + 1) (by omega) (fun j h0 h1 => ?_))
            · rw [zmxs]
              simp only [zed]
              rfl
            · rcases (show j < k ∨ j = k by omega) with q | rfl
              · exact hJ j h0 q
              · exact c33
          · refine z_bipush hG dX5_end_36 rfl ?_
            refine z_iret hG hE dX5_end_38 trivial ?_
            exact ⟨_, rfl, rfl, Or.inl ⟨rfl, k, by omega, by omega, c33⟩⟩
  refine z_iconst hG dX5_end_0 rfl ?_
  refine z_istore_n (i := 1) hG dX5_end_1 rfl (by decide) (ls2 := [_, _, _, _]) rfl ?_
  refine z_iconst hG dX5_end_2 rfl ?_
  refine z_istore_n (i := 2) hG dX5_end_3 rfl (by decide) (ls2 := [_, _, _, _]) rfl ?_
  exact loop (m 10 0 0 7).toNat 0 (by omega) (fun j h0 h1 => absurd h0 (by omega))
set_option maxRecDepth 20000 in
theorem ct_X5_bound (l : Launch) (g : zG) {m : zM} {h : Int} (hw : 0 ≤ m 10 0 0 2 ∧ m 10 0 0 2 ≤ 1000000) (hh : 1 ≤ h ∧ h ≤ 6) : zMet l g Y_X5_bound [zr 10 0 0, zi h] m (fun v m' => v = some (zi (if m 10 0 0 8 < (m 10 0 0 2 + h - 1) / h then (m 10 0 0 2 + h - 1) / h else m 10 0 0 8)) ∧ m' = m) := by
  refine zMet_introF (by decide +kernel) (Nat.le_of_ble_eq_true rfl) (ls0 := [some (zr 10 0 0), some (zi h)]) rfl fun X hG hE => ?_
  have hG : zGood X l g RX5 cX5_bound 1 2 := hG
  have hE : zEnd X (some .int) _ := hE
  refine z_aload_n (i := 0) hG dX5_bound_0 rfl rfl ?_
  refine z_getI hG dX5_bound_1 FL_X5_37 rfl rfl (kk := 8) rfl ?_
  refine z_aload_n (i := 0) hG dX5_bound_4 rfl rfl ?_
  refine z_getI hG dX5_bound_5 FL_X5_34 rfl rfl (kk := 2) rfl ?_
  refine z_iload_n (i := 1) hG dX5_bound_8 rfl rfl ?_
  refine z_callN hG dX5_bound_9 LN_X5_108 (ct_X10_roundedUp l g hw.1 (by omega) (by omega)) (by decide) rfl rfl (Nat.le_of_ble_eq_true rfl) ?_
  intro v9 m9 h9
  rw [h9.1, h9.2]
  clear h9 m9 v9
  refine z_max hG dX5_bound_12 LM_X5_81 (by decide) (Nat.le_of_ble_eq_true rfl) ?_
  refine z_iret hG hE dX5_bound_15 trivial ?_
  exact ⟨rfl, rfl⟩
/-- the longest tail behind step s of the recipe whose places begin at a -/
def zlb (m : zM) (a s : Int) (j : Int) : Int := if zbit (m 43 0 0 (a + (s + 1 + j))) s then m 39 0 0 (a + (s + 1 + j)) else 0
set_option maxRecDepth 20000 in
theorem ct_X5_longestBehind (l : Launch) (g : zG) {m : zM} {a s c : Int} (hs : zsch m) (ha : 0 ≤ a ∧ a ≤ 24) (hs0 : 0 ≤ s) (hc : s < c ∧ c ≤ 8) : zMet l g Y_X5_longestBehind [zr 10 0 0, zi a, zi s, zi c] m (fun v m' => v = some (zi (zmxs (zlb m a s) (c - s - 1).toNat)) ∧ m' = m) := by
  refine zMet_introF (by decide +kernel) (Nat.le_of_ble_eq_true rfl) (ls0 := [some (zr 10 0 0), some (zi a), some (zi s), some (zi c), none, none]) rfl fun X hG hE => ?_
  have hG : zGood X l g RX5 cX5_longestBehind 1 6 := hG
  have hE : zEnd X (some .int) _ := hE
  have loop : ∀ (n k : Nat), k + n = (c - s - 1).toNat → zZ X 8 [some (zr 10 0 0), some (zi a), some (zi s), some (zi c), some (zi (zmxs (zlb m a s) k)), some (zi (s + 1 + k))] [] m := by
    intro n
    induction n with
    | zero =>
      intro k hk
      refine z_iload hG dX5_longestBehind_8 rfl ?_
      refine z_iload_n (i := 3) hG dX5_longestBehind_10 rfl rfl ?_
      refine z_icmp_ge hG dX5_longestBehind_11 (tgt := 53) rfl (fun c11 => ?_) (fun c11 => ?_)
      · refine z_iload hG dX5_longestBehind_53 rfl ?_
        refine z_iret hG hE dX5_longestBehind_55 trivial ?_
        exact ⟨by rw [show k = (c - s - 1).toNat by omega], rfl⟩
      · exact absurd c11 (by omega)
    | succ n ih =>
      intro k hk
      have h1 := hs (a + (s + 1 + k)) (by omega) (by omega)
      have hb0 := (zmxs_bd (f := zlb m a s) (B := 50000) (by decide) k (fun j j0 j1 => by
        have := hs (a + (s + 1 + j)) (by omega) (by omega)
        simp only [zlb]
        split <;> omega))
      refine z_iload hG dX5_longestBehind_8 rfl ?_
      refine z_iload_n (i := 3) hG dX5_longestBehind_10 rfl rfl ?_
      refine z_icmp_ge hG dX5_longestBehind_11 (tgt := 53) rfl (fun c11 => ?_) (fun c11 => ?_)
      · exact absurd c11 (by omega)
      · refine z_aload_n (i := 0) hG dX5_longestBehind_14 rfl rfl ?_
        refine z_get_5_5 hG dX5_longestBehind_15 FL_X5_24 ?_
        refine z_iload_n (i := 1) hG dX5_longestBehind_18 rfl rfl ?_
        refine z_iload hG dX5_longestBehind_19 rfl ?_
        refine z_iadd hG dX5_longestBehind_21 (by omega) (by omega) ?_
        refine z_iald hG dX5_longestBehind_22 rfl rfl (by omega) (by omega) ?_
        refine z_iload_n (i := 2) hG dX5_longestBehind_23 rfl rfl ?_
        refine z_ishr hG dX5_longestBehind_24 ?_
        refine z_iconst hG dX5_longestBehind_25 rfl ?_
        refine z_iand hG dX5_longestBehind_26 ?_
        refine z_iconst hG dX5_longestBehind_27 rfl ?_
        refine z_icmp_ne hG dX5_longestBehind_28 (tgt := 47) rfl (fun c28 => ?_) (fun c28 => ?_)
        · have e : zmxs (zlb m a s) (k + 1) = zmxs (zlb m a s) k := by rw [zmxs, show zlb m a s k = 0 from if_neg c28, if_neg (by omega)]
          refine z_iinc hG dX5_longestBehind_47 (by decide) rfl (by omega) (by omega) (ls2 := [_, _, _, _, _, _]) rfl ?_
          refine z_goto hG dX5_longestBehind_50 (tgt := 8) rfl ?_
          refine z_forget [true, true, true, true, true, true] (ls2 := [some (zr 10 0 0), some (zi a), some (zi s), some (zi c), some (zi (zmxs (zlb m a s) (k + 1))), some (zi (s + 1 + ((k + 1 : Nat) : Int)))]) ?_ (ih (k + 1) (by omega))
          rw [e]
          simp only [zfor]
          rw [show s + 1 + ((k + 1 : Nat) : Int) = s + 1 + k + 1 by omega]
        · have e : zmxs (zlb m a s) (k + 1) = if zmxs (zlb m a s) k < m 39 0 0 (a + (s + 1 + k)) then m 39 0 0 (a + (s + 1 + k)) else zmxs (zlb m a s) k := by rw [zmxs, show zlb m a s k = m 39 0 0 (a + (s + 1 + k)) from if_pos c28]
          refine z_iload hG dX5_longestBehind_31 rfl ?_
          refine z_aload_n (i := 0) hG dX5_longestBehind_33 rfl rfl ?_
          refine z_get_5_0 hG dX5_longestBehind_34 FL_X5_9 ?_
          refine z_iload_n (i := 1) hG dX5_longestBehind_37 rfl rfl ?_
          refine z_iload hG dX5_longestBehind_38 rfl ?_
          refine z_iadd hG dX5_longestBehind_40 (by omega) (by omega) ?_
          refine z_iald hG dX5_longestBehind_41 rfl rfl (by omega) (by omega) ?_
          refine z_max hG dX5_longestBehind_42 LM_X5_81 (by decide) (Nat.le_of_ble_eq_true rfl) ?_
          refine z_istore hG dX5_longestBehind_45 (by decide) (ls2 := [_, _, _, _, _, _]) rfl ?_
          refine z_iinc hG dX5_longestBehind_47 (by decide) rfl (by omega) (by omega) (ls2 := [_, _, _, _, _, _]) rfl ?_
          refine z_goto hG dX5_longestBehind_50 (tgt := 8) rfl ?_
          refine z_forget [true, true, true, true, true, true] (ls2 := [some (zr 10 0 0), some (zi a), some (zi s), some (zi c), some (zi (zmxs (zlb m a s) (k + 1))), some (zi (s + 1 + ((k + 1 : Nat) : Int)))]) ?_ (ih (k + 1) (by omega))
          rw [e]
          simp only [zfor]
          rw [show s + 1 + ((k + 1 : Nat) : Int) = s + 1 + k + 1 by omega]
  refine z_iconst hG dX5_longestBehind_0 rfl ?_
  refine z_istore hG dX5_longestBehind_1 (by decide) (ls2 := [_, _, _, _, _, _]) rfl ?_
  refine z_iload_n (i := 2) hG dX5_longestBehind_3 rfl rfl ?_
  refine z_iconst hG dX5_longestBehind_4 rfl ?_
  refine z_iadd hG dX5_longestBehind_5 (by omega) (by omega) ?_
  refine z_istore hG dX5_longestBehind_6 (by decide) (ls2 := [_, _, _, _, _, _]) rfl ?_
  refine z_forget [true, true, true, true, true, true] (ls2 := [some (zr 10 0 0), some (zi a), some (zi s), some (zi c), some (zi (zmxs (zlb m a s) 0)), some (zi (s + 1 + ((0 : Nat) : Int)))]) ?_ (loop (c - s - 1).toNat 0 (by omega))
  simp [zfor, zmxs]
