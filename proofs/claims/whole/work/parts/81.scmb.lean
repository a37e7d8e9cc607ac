/-- the model's rows stand for a menu's steps, begun as b says -/
def zSb (a : zM) (E : zE) (M : zM) (b : Int → Int) : Prop := zRel a 0 (M 45 0 0) ∧ (∀ p : Int, 0 ≤ p → p < 32 → E 0 p = 1 → M 59 0 0 p = E 1 p ∧ M 60 0 0 p = E 4 p) ∧ (∀ p : Int, 0 ≤ p → p < 32 → M 61 0 0 p = b p) ∧ (∀ p : Int, 0 ≤ p → p < 32 → b p = -6 ∨ (0 ≤ b p ∧ b p ≤ 300000))
theorem zand_1 (x : Int) : zand x 1 = 0 ∨ zand x 1 = 1 := by
  unfold zand
  generalize Int32.ofInt x = v
  have h : (v &&& Int32.ofInt 1).toBitVec.toNat = v.toBitVec.toNat % 2 := by
    show (v.toBitVec &&& 1#32).toNat = _
    rw [BitVec.toNat_and]
    exact Nat.and_one_is_mod _
  have h2 : (v &&& Int32.ofInt 1).toInt = ((v &&& Int32.ofInt 1).toBitVec.toNat : Int) := BitVec.toInt_eq_toNat_of_lt (by rw [h]; omega)
  rw [h2, h]
  omega
set_option maxRecDepth 20000 in
theorem ct_X11_hasEnded (l : Launch) (g : zG) {a M : zM} {B : Int} {E : zE} {b : Int → Int} {s t : Int} (hI : zIS B a 0) (hEz : E = zEc a) (hEE : zEok E) (hS : zSb a E M b) (hs : 0 ≤ s ∧ s < 32) (hon : E 0 s = 1) : zMet l g Y_X11_hasEnded [zr 11 0 0, zi s, zi t] M (fun v m' => v = some (zi (if b s ≠ -6 ∧ b s + E 1 s ≤ t then 1 else 0)) ∧ m' = M) := by
  refine zMet_introF (by decide +kernel) (Nat.le_of_ble_eq_true rfl) (ls0 := [some (zr 11 0 0), some (zi s), some (zi t)]) rfl fun X hG hE => ?_
  have hG : zGood X l g RX11 cX11_hasEnded 0 3 := hG
  have hE : zEnd X (some .boolean) _ := hE
  have hb := hS.2.2.2 s hs.1 hs.2
  have h61 := hS.2.2.1 s hs.1 hs.2
  have h59 := (hS.2.1 s hs.1 hs.2 hon).1
  have hk := hEE s hs.1 hs.2 hon
  refine z_aload_n (i := 0) hG dX11_hasEnded_0 rfl rfl ?_
  refine z_get_11_21 hG dX11_hasEnded_1 FL_X11_59 ?_
  refine z_iload_n (i := 1) hG dX11_hasEnded_4 rfl rfl ?_
  refine z_iald hG dX11_hasEnded_5 rfl rfl (by omega) (by omega) ?_
  rw [h61]
  refine z_if_lt hG dX11_hasEnded_6 (tgt := 30) rfl (fun zcq6 => ?_) (fun zcq6 => ?_)
  · refine z_iconst hG dX11_hasEnded_30 rfl ?_
    refine z_iret hG hE dX11_hasEnded_31 (by first | exact Or.inl rfl | exact Or.inr rfl | (show _ ∨ _; omega)) ?_
    refine ⟨?_, rfl⟩
    first
    | (rw [if_pos (by omega)]; done)
    | (rw [if_neg (by omega)]; done)
  · refine z_aload_n (i := 0) hG dX11_hasEnded_9 rfl rfl ?_
    refine z_get_11_21 hG dX11_hasEnded_10 FL_X11_59 ?_
    refine z_iload_n (i := 1) hG dX11_hasEnded_13 rfl rfl ?_
    refine z_iald hG dX11_hasEnded_14 rfl rfl (by omega) (by omega) ?_
    rw [h61]
    refine z_aload_n (i := 0) hG dX11_hasEnded_15 rfl rfl ?_
    refine z_get_11_19 hG dX11_hasEnded_16 FL_X11_53 ?_
    refine z_iload_n (i := 1) hG dX11_hasEnded_19 rfl rfl ?_
    refine z_iald hG dX11_hasEnded_20 rfl rfl (by omega) (by omega) ?_
    rw [h59]
    refine z_iadd hG dX11_hasEnded_21 (by omega) (by omega) ?_
    refine z_iload_n (i := 2) hG dX11_hasEnded_22 rfl rfl ?_
    refine z_icmp_gt hG dX11_hasEnded_23 (tgt := 30) rfl (fun zcq23 => ?_) (fun zcq23 => ?_)
    · refine z_iconst hG dX11_hasEnded_30 rfl ?_
      refine z_iret hG hE dX11_hasEnded_31 (by first | exact Or.inl rfl | exact Or.inr rfl | (show _ ∨ _; omega)) ?_
      refine ⟨?_, rfl⟩
      first
      | (rw [if_pos (by omega)]; done)
      | (rw [if_neg (by omega)]; done)
    · refine z_iconst hG dX11_hasEnded_26 rfl ?_
      refine z_goto hG dX11_hasEnded_27 (tgt := 31) rfl ?_
      refine z_iret hG hE dX11_hasEnded_31 (by first | exact Or.inl rfl | exact Or.inr rfl | (show _ ∨ _; omega)) ?_
      refine ⟨?_, rfl⟩
      first
      | (rw [if_pos (by omega)]; done)
      | (rw [if_neg (by omega)]; done)
set_option maxRecDepth 20000 in
theorem ct_X11_isReady (l : Launch) (g : zG) {a M : zM} {B : Int} {E : zE} {b : Int → Int} {s t : Int} (hI : zIS B a 0) (hEz : E = zEc a) (hEE : zEok E) (hS : zSb a E M b) (hs : 0 ≤ s ∧ s < 32) : zMet l g Y_X11_isReady [zr 11 0 0, zi s, zi t] M (fun v m' => ∃ r : Int, v = some (zi r) ∧ m' = M ∧ (r = 0 ∨ r = 1) ∧ (r = 1 ↔ E 0 s = 1 ∧ b s = -6 ∧ zrdy E b s t)) := by
  refine zMet_introF (by decide +kernel) (Nat.le_of_ble_eq_true rfl) (ls0 := [some (zr 11 0 0), some (zi s), some (zi t), none, none]) rfl fun X hG hE => ?_
  have hG : zGood X l g RX11 cX11_isReady 3 5 := hG
  have hE : zEnd X (some .boolean) _ := hE
  have hR1 := hS.1
  have hE01 : ∀ p : Int, E 0 p = 0 ∨ E 0 p = 1 := fun p => by rw [hEz]; exact zEc_01

  have hb := hS.2.2.2 s hs.1 hs.2
  have h61 := hS.2.2.1 s hs.1 hs.2
  have fin : ∀ r : Int, (r = 0 ∨ r = 1) → ∀ k : Int, (r = 1 ↔ E 0 s = 1 ∧ b s = -6 ∧ ∀ j : Int, 0 ≤ j → j < k → zbit (E 3 s) j → b (s - s % 8 + j) ≠ -6 ∧ b (s - s % 8 + j) + E 1 (s - s % 8 + j) ≤ t) → (r = 1 → s % 8 ≤ k) → k ≤ s % 8 → (some (zi r) : Option zV) = some (zi r) ∧ M = M ∧ (r = 0 ∨ r = 1) ∧ (r = 1 ↔ E 0 s = 1 ∧ b s = -6 ∧ zrdy E b s t) := by
    intro r hr k hk hrk hk8
    refine ⟨rfl, rfl, hr, ⟨fun z => ?_, fun z => ?_⟩⟩
    · obtain ⟨z1, z2, z3⟩ := hk.mp z
      refine ⟨z1, z2, fun j j0 j1 jb => z3 j j0 ?_ jb⟩
      have := (hEE s hs.1 hs.2 z1).2.2.1 j j0 j1 jb
      have := hrk z
      omega
    · exact hk.mpr ⟨z.1, z.2.1, fun j j0 j1 jb => z.2.2 j j0 (by omega) jb⟩
  have loop : ∀ (N : Nat) (k r : Int), 0 ≤ k → k + N = s % 8 → (r = 0 ∨ r = 1) → (r = 1 ↔ E 0 s = 1 ∧ b s = -6 ∧ ∀ j : Int, 0 ≤ j → j < k → zbit (E 3 s) j → b (s - s % 8 + j) ≠ -6 ∧ b (s - s % 8 + j) + E 1 (s - s % 8 + j) ≤ t) → zZ X 26 [some (zr 11 0 0), some (zi s), some (zi t), some (zi r), some (zi k)] [] M := by
    intro N
    induction N with
    | zero =>
      intro k r hk0 hk hr hre
      refine z_iload hG dX11_isReady_26 rfl ?_
      refine z_iload_n (i := 1) hG dX11_isReady_28 rfl rfl ?_
      refine z_bipush hG dX11_isReady_29 rfl ?_
      refine z_irem hG dX11_isReady_31 (by omega) (by omega) ?_
      refine z_icmp_ge hG dX11_isReady_32 (tgt := 81) rfl (fun zcq32 => ?_) (fun zcq32 => ?_)
      · refine z_iload_n (i := 3) hG dX11_isReady_81 rfl rfl ?_
        refine z_iret hG hE dX11_isReady_82 hr ?_
        exact ⟨r, fin r hr k hre (fun _ => by omega) (by omega)⟩
      · exact absurd zcq32 (by omega)
    | succ N ih =>
      intro k r hk0 hk hr hre
      refine z_iload hG dX11_isReady_26 rfl ?_
      refine z_iload_n (i := 1) hG dX11_isReady_28 rfl rfl ?_
      refine z_bipush hG dX11_isReady_29 rfl ?_
      refine z_irem hG dX11_isReady_31 (by omega) (by omega) ?_
      refine z_icmp_ge hG dX11_isReady_32 (tgt := 81) rfl (fun zcq32 => ?_) (fun zcq32 => ?_)
      · exact absurd zcq32 (by omega)
      · refine z_iload_n (i := 3) hG dX11_isReady_35 rfl rfl ?_
        refine z_if_eq hG dX11_isReady_36 (tgt := 81) rfl (fun zcq36 => ?_) (fun zcq36 => ?_)
        · try simp only [zite_eq0, ne_eq, Classical.not_not] at zcq36
          refine z_iload_n (i := 3) hG dX11_isReady_81 rfl rfl ?_
          refine z_iret hG hE dX11_isReady_82 hr ?_
          exact ⟨r, fin r hr k hre (fun z => by omega) (by omega)⟩
        · try simp only [zite_eq0, ne_eq, Classical.not_not] at zcq36
          have hr1 : r = 1 := by omega
          have hon : E 0 s = 1 := (hre.mp hr1).1
          have hz1 := zand_1 (zshr (E 3 s) k)
          refine z_aload_n (i := 0) hG dX11_isReady_39 rfl rfl ?_
          refine z_iload_n (i := 1) hG dX11_isReady_40 rfl rfl ?_
          refine z_callV hG dX11_isReady_41 LV_X11_187 (ct_X11_aheadOf l g hI hR1 hs (by rw [← hEz]; exact hon)) (by decide) rfl rfl rfl (Nat.le_of_ble_eq_true rfl) ?_
          intro v9 m9 h9
          rw [h9.1, h9.2, ← hEz]
          clear h9 m9 v9
          refine z_iload hG dX11_isReady_44 rfl ?_
          refine z_ishr hG dX11_isReady_46 ?_
          refine z_iconst hG dX11_isReady_47 rfl ?_
          refine z_iand hG dX11_isReady_48 ?_
          refine z_if_eq hG dX11_isReady_49 (tgt := 69) rfl (fun zcq49 => ?_) (fun zcq49 => ?_)
          · try simp only [zite_eq0, ne_eq, Classical.not_not] at zcq49
            refine z_iconst hG dX11_isReady_69 rfl ?_
            refine z_goto hG dX11_isReady_70 (tgt := 74) rfl ?_
            refine z_istore_n (i := 3) hG dX11_isReady_74 rfl (by decide) (ls2 := [_, _, _, _, _]) rfl ?_
            refine z_iinc hG dX11_isReady_75 (by decide) rfl (by omega) (by omega) (ls2 := [_, _, _, _, _]) rfl ?_
            refine z_goto hG dX11_isReady_78 (tgt := 26) rfl ?_
            refine ih (k + 1) _ (by omega) (by omega) (by decide) ?_
            obtain ⟨q1, q2, q3⟩ := hre.mp hr1
            first
            | (refine ⟨fun _ => ⟨q1, q2, fun j j0 j1 jb => ?_⟩, fun _ => rfl⟩
               by_cases e : j = k
               · subst e
                 first
                 | (exfalso; omega; done)
                 | (refine (by assumption : _ ∧ _))
               · exact q3 j j0 (by omega) jb)
            | (refine ⟨fun z => absurd z (by decide), fun z => ?_⟩
               exfalso
               have := z.2.2 k hk0 (by omega) hbk
               exact absurd this (by assumption))
          · try simp only [zite_eq0, ne_eq, Classical.not_not] at zcq49
            have hbk : zbit (E 3 s) k := by omega
            have hk1 := (hEE s hs.1 hs.2 hon).2.2.1 k hk0 (by omega) hbk
            refine z_aload_n (i := 0) hG dX11_isReady_52 rfl rfl ?_
            refine z_iload_n (i := 1) hG dX11_isReady_53 rfl rfl ?_
            refine z_iload_n (i := 1) hG dX11_isReady_54 rfl rfl ?_
            refine z_bipush hG dX11_isReady_55 rfl ?_
            refine z_irem hG dX11_isReady_57 (by omega) (by omega) ?_
            refine z_isub hG dX11_isReady_58 (by omega) (by omega) ?_
            refine z_iload hG dX11_isReady_59 rfl ?_
            refine z_iadd hG dX11_isReady_61 (by omega) (by omega) ?_
            refine z_iload_n (i := 2) hG dX11_isReady_62 rfl rfl ?_
            refine z_callV hG dX11_isReady_63 LV_X11_193 (ct_X11_hasEnded l g hI hEz hEE hS ⟨by omega, by omega⟩ hk1.2) (by decide) rfl rfl rfl (Nat.le_of_ble_eq_true rfl) ?_
            intro v9 m9 h9
            rw [h9.1, h9.2]
            clear h9 m9 v9
            refine z_if_eq hG dX11_isReady_66 (tgt := 73) rfl (fun zcq66 => ?_) (fun zcq66 => ?_)
            · try simp only [zite_eq0, ne_eq, Classical.not_not] at zcq66
              refine z_iconst hG dX11_isReady_73 rfl ?_
              refine z_istore_n (i := 3) hG dX11_isReady_74 rfl (by decide) (ls2 := [_, _, _, _, _]) rfl ?_
              refine z_iinc hG dX11_isReady_75 (by decide) rfl (by omega) (by omega) (ls2 := [_, _, _, _, _]) rfl ?_
              refine z_goto hG dX11_isReady_78 (tgt := 26) rfl ?_
              refine ih (k + 1) _ (by omega) (by omega) (by decide) ?_
              obtain ⟨q1, q2, q3⟩ := hre.mp hr1
              first
              | (refine ⟨fun _ => ⟨q1, q2, fun j j0 j1 jb => ?_⟩, fun _ => rfl⟩
                 by_cases e : j = k
                 · subst e
                   first
                   | (exfalso; omega; done)
                   | (refine (by assumption : _ ∧ _))
                 · exact q3 j j0 (by omega) jb)
              | (refine ⟨fun z => absurd z (by decide), fun z => ?_⟩
                 exfalso
                 have := z.2.2 k hk0 (by omega) hbk
                 exact absurd this (by assumption))
            · try simp only [zite_eq0, ne_eq, Classical.not_not] at zcq66
              refine z_iconst hG dX11_isReady_69 rfl ?_
              refine z_goto hG dX11_isReady_70 (tgt := 74) rfl ?_
              refine z_istore_n (i := 3) hG dX11_isReady_74 rfl (by decide) (ls2 := [_, _, _, _, _]) rfl ?_
              refine z_iinc hG dX11_isReady_75 (by decide) rfl (by omega) (by omega) (ls2 := [_, _, _, _, _]) rfl ?_
              refine z_goto hG dX11_isReady_78 (tgt := 26) rfl ?_
              refine ih (k + 1) _ (by omega) (by omega) (by decide) ?_
              obtain ⟨q1, q2, q3⟩ := hre.mp hr1
              first
              | (refine ⟨fun _ => ⟨q1, q2, fun j j0 j1 jb => ?_⟩, fun _ => rfl⟩
                 by_cases e : j = k
                 · subst e
                   first
                   | (exfalso; omega; done)
                   | (refine (by assumption : _ ∧ _))
                 · exact q3 j j0 (by omega) jb)
              | (refine ⟨fun z => absurd z (by decide), fun z => ?_⟩
                 exfalso
                 have := z.2.2 k hk0 (by omega) hbk
                 exact absurd this (by assumption))
  refine z_aload_n (i := 0) hG dX11_isReady_0 rfl rfl ?_
  refine z_iload_n (i := 1) hG dX11_isReady_1 rfl rfl ?_
  refine z_callV hG dX11_isReady_2 LV_X11_181 (ct_X11_isOn l g hI hR1 ⟨by omega, by omega⟩) (by decide) rfl rfl rfl (Nat.le_of_ble_eq_true rfl) ?_
  intro v9 m9 h9
  rw [h9.1, h9.2, ← hEz]
  clear h9 m9 v9
  refine z_if_eq hG dX11_isReady_5 (tgt := 21) rfl (fun zcq5 => ?_) (fun zcq5 => ?_)
  · try simp only [zite_eq0, ne_eq, Classical.not_not] at zcq5
    refine z_iconst hG dX11_isReady_21 rfl ?_
    refine z_istore_n (i := 3) hG dX11_isReady_22 rfl (by decide) (ls2 := [_, _, _, _, _]) rfl ?_
    refine z_iconst hG dX11_isReady_23 rfl ?_
    refine z_istore hG dX11_isReady_24 (by decide) (ls2 := [_, _, _, _, _]) rfl ?_
    refine loop (s % 8).toNat 0 _ (by decide) (by omega) (by decide) ?_
    have := hE01 s
    first
    | exact ⟨fun _ => ⟨by omega, by omega, fun j j0 j1 => by omega⟩, fun _ => rfl⟩
    | exact ⟨fun z => absurd z (by decide), fun z => by have := z.1; have := z.2.1; omega⟩
  · try simp only [zite_eq0, ne_eq, Classical.not_not] at zcq5
    refine z_aload_n (i := 0) hG dX11_isReady_8 rfl rfl ?_
    refine z_get_11_21 hG dX11_isReady_9 FL_X11_59 ?_
    refine z_iload_n (i := 1) hG dX11_isReady_12 rfl rfl ?_
    refine z_iald hG dX11_isReady_13 rfl rfl (by omega) (by omega) ?_
    rw [h61]
    refine z_if_ge hG dX11_isReady_14 (tgt := 21) rfl (fun zcq14 => ?_) (fun zcq14 => ?_)
    · refine z_iconst hG dX11_isReady_21 rfl ?_
      refine z_istore_n (i := 3) hG dX11_isReady_22 rfl (by decide) (ls2 := [_, _, _, _, _]) rfl ?_
      refine z_iconst hG dX11_isReady_23 rfl ?_
      refine z_istore hG dX11_isReady_24 (by decide) (ls2 := [_, _, _, _, _]) rfl ?_
      refine loop (s % 8).toNat 0 _ (by decide) (by omega) (by decide) ?_
      have := hE01 s
      first
      | exact ⟨fun _ => ⟨by omega, by omega, fun j j0 j1 => by omega⟩, fun _ => rfl⟩
      | exact ⟨fun z => absurd z (by decide), fun z => by have := z.1; have := z.2.1; omega⟩
    · refine z_iconst hG dX11_isReady_17 rfl ?_
      refine z_goto hG dX11_isReady_18 (tgt := 22) rfl ?_
      refine z_istore_n (i := 3) hG dX11_isReady_22 rfl (by decide) (ls2 := [_, _, _, _, _]) rfl ?_
      refine z_iconst hG dX11_isReady_23 rfl ?_
      refine z_istore hG dX11_isReady_24 (by decide) (ls2 := [_, _, _, _, _]) rfl ?_
      refine loop (s % 8).toNat 0 _ (by decide) (by omega) (by decide) ?_
      have := hE01 s
      first
      | exact ⟨fun _ => ⟨by omega, by omega, fun j j0 j1 => by omega⟩, fun _ => rfl⟩
      | exact ⟨fun z => absurd z (by decide), fun z => by have := z.1; have := z.2.1; omega⟩
set_option maxRecDepth 20000 in
theorem ct_X11_freeAt (l : Launch) (g : zG) {a M : zM} {B : Int} {E : zE} {b : Int → Int} {t h : Int} (hI : zIS B a 0) (hEz : E = zEc a) (hEE : zEok E) (hS : zSb a E M b) (hh : 0 ≤ h ∧ h ≤ 6) : zMet l g Y_X11_freeAt [zr 11 0 0, zi t, zi h] M (fun v m' => v = some (zi (h - zbz E b t)) ∧ m' = M) := by
  refine zMet_introF (by decide +kernel) (Nat.le_of_ble_eq_true rfl) (ls0 := [some (zr 11 0 0), some (zi t), some (zi h), none, none]) rfl fun X hG hE => ?_
  have hG : zGood X l g RX11 cX11_freeAt 3 5 := hG
  have hE : zEnd X (some .int) _ := hE
  have hR1 := hS.1
  have hE01 : ∀ p : Int, E 0 p = 0 ∨ E 0 p = 1 := fun p => by rw [hEz]; exact zEc_01

  have hfb : ∀ k : Nat, k ≤ 32 → 0 ≤ zsum k (fun p => if E 0 p = 1 then (if b p ≠ -6 ∧ t < b p + E 1 p then E 2 p else 0) else 0) ∧ zsum k (fun p => if E 0 p = 1 then (if b p ≠ -6 ∧ t < b p + E 1 p then E 2 p else 0) else 0) ≤ 3 * k := fun k hk => zsum_le (B := 3) k (fun j j0 j1 => by
    show 0 ≤ (if E 0 j = 1 then (if b j ≠ -6 ∧ t < b j + E 1 j then E 2 j else 0) else 0) ∧ (if E 0 j = 1 then (if b j ≠ -6 ∧ t < b j + E 1 j then E 2 j else 0) else 0) ≤ 3
    split
    · next q =>
      have := (hEE j j0 (by omega) q).2.1
      split <;> omega
    · omega)
  have loop : ∀ (N k : Nat), (k : Int) + N = 32 → zZ X 5 [some (zr 11 0 0), some (zi t), some (zi h), some (zi (h - zsum k (fun p => if E 0 p = 1 then (if b p ≠ -6 ∧ t < b p + E 1 p then E 2 p else 0) else 0))), some (zi k)] [] M := by
    intro N
    induction N with
    | zero =>
      intro k hk
      refine z_iload hG dX11_freeAt_5 rfl ?_
      refine z_bipush hG dX11_freeAt_7 rfl ?_
      refine z_icmp_ge hG dX11_freeAt_9 (tgt := 60) rfl (fun zcq9 => ?_) (fun zcq9 => ?_)
      · refine z_iload_n (i := 3) hG dX11_freeAt_60 rfl rfl ?_
        refine z_iret hG hE dX11_freeAt_61 trivial ?_
        exact ⟨by rw [show k = 32 by omega]; rfl, rfl⟩
      · exact absurd zcq9 (by omega)
    | succ N ih =>
      intro k hk
      have hb := hS.2.2.2 k (by omega) (by omega)
      have h61 := hS.2.2.1 k (by omega) (by omega)
      have hf := hfb k (by omega)
      have hok := hEE k (by omega) (by omega)
      have hEk := hE01 k
      refine z_iload hG dX11_freeAt_5 rfl ?_
      refine z_bipush hG dX11_freeAt_7 rfl ?_
      refine z_icmp_ge hG dX11_freeAt_9 (tgt := 60) rfl (fun zcq9 => ?_) (fun zcq9 => ?_)
      · exact absurd zcq9 (by omega)
      · refine z_iload_n (i := 3) hG dX11_freeAt_12 rfl rfl ?_
        refine z_aload_n (i := 0) hG dX11_freeAt_13 rfl rfl ?_
        refine z_iload hG dX11_freeAt_14 rfl ?_
        refine z_callV hG dX11_freeAt_16 LV_X11_181 (ct_X11_isOn l g hI hR1 ⟨by omega, by omega⟩) (by decide) rfl rfl rfl (Nat.le_of_ble_eq_true rfl) ?_
        intro v9 m9 h9
        rw [h9.1, h9.2, ← hEz]
        clear h9 m9 v9
        refine z_if_eq hG dX11_freeAt_19 (tgt := 51) rfl (fun zcq19 => ?_) (fun zcq19 => ?_)
        · try simp only [zite_eq0, ne_eq, Classical.not_not] at zcq19
          refine z_iconst hG dX11_freeAt_51 rfl ?_
          refine z_isub hG dX11_freeAt_52 (by omega) (by omega) ?_
          refine z_istore_n (i := 3) hG dX11_freeAt_53 rfl (by decide) (ls2 := [_, _, _, _, _]) rfl ?_
          refine z_iinc hG dX11_freeAt_54 (by decide) rfl (by omega) (by omega) (ls2 := [_, _, _, _, _]) rfl ?_
          refine z_goto hG dX11_freeAt_57 (tgt := 5) rfl ?_
          have hst := ih (k + 1) (by omega)
          rw [zsum] at hst
          refine z_forget [true, true, true, true, true] ?_ hst
          have h59 : True := trivial
          first
          | (rw [if_neg (show ¬ E 0 (k : Int) = 1 by omega), Int.add_zero, Int.sub_zero]; rfl)
          | (rw [if_pos (show E 0 (k : Int) = 1 by omega), if_pos (by omega), ← Int.sub_sub]; rfl)
          | (rw [if_pos (show E 0 (k : Int) = 1 by omega), if_neg (by omega), Int.add_zero, Int.sub_zero]; rfl)
        · try simp only [zite_eq0, ne_eq, Classical.not_not] at zcq19
          refine z_aload_n (i := 0) hG dX11_freeAt_22 rfl rfl ?_
          refine z_get_11_21 hG dX11_freeAt_23 FL_X11_59 ?_
          refine z_iload hG dX11_freeAt_26 rfl ?_
          refine z_iald hG dX11_freeAt_28 rfl rfl (by omega) (by omega) ?_
          rw [h61]
          refine z_if_lt hG dX11_freeAt_29 (tgt := 51) rfl (fun zcq29 => ?_) (fun zcq29 => ?_)
          · refine z_iconst hG dX11_freeAt_51 rfl ?_
            refine z_isub hG dX11_freeAt_52 (by omega) (by omega) ?_
            refine z_istore_n (i := 3) hG dX11_freeAt_53 rfl (by decide) (ls2 := [_, _, _, _, _]) rfl ?_
            refine z_iinc hG dX11_freeAt_54 (by decide) rfl (by omega) (by omega) (ls2 := [_, _, _, _, _]) rfl ?_
            refine z_goto hG dX11_freeAt_57 (tgt := 5) rfl ?_
            have hst := ih (k + 1) (by omega)
            rw [zsum] at hst
            refine z_forget [true, true, true, true, true] ?_ hst
            have h59 : True := trivial
            first
            | (rw [if_neg (show ¬ E 0 (k : Int) = 1 by omega), Int.add_zero, Int.sub_zero]; rfl)
            | (rw [if_pos (show E 0 (k : Int) = 1 by omega), if_pos (by omega), ← Int.sub_sub]; rfl)
            | (rw [if_pos (show E 0 (k : Int) = 1 by omega), if_neg (by omega), Int.add_zero, Int.sub_zero]; rfl)
          · refine z_aload_n (i := 0) hG dX11_freeAt_32 rfl rfl ?_
            refine z_iload hG dX11_freeAt_33 rfl ?_
            refine z_iload_n (i := 1) hG dX11_freeAt_35 rfl rfl ?_
            refine z_callV hG dX11_freeAt_36 LV_X11_193 (ct_X11_hasEnded l g hI hEz hEE hS ⟨by omega, by omega⟩ (by omega)) (by decide) rfl rfl rfl (Nat.le_of_ble_eq_true rfl) ?_
            intro v9 m9 h9
            rw [h9.1, h9.2]
            clear h9 m9 v9
            refine z_if_ne hG dX11_freeAt_39 (tgt := 51) rfl (fun zcq39 => ?_) (fun zcq39 => ?_)
            · try simp only [zite_eq0, ne_eq, Classical.not_not] at zcq39
              refine z_iconst hG dX11_freeAt_51 rfl ?_
              refine z_isub hG dX11_freeAt_52 (by omega) (by omega) ?_
              refine z_istore_n (i := 3) hG dX11_freeAt_53 rfl (by decide) (ls2 := [_, _, _, _, _]) rfl ?_
              refine z_iinc hG dX11_freeAt_54 (by decide) rfl (by omega) (by omega) (ls2 := [_, _, _, _, _]) rfl ?_
              refine z_goto hG dX11_freeAt_57 (tgt := 5) rfl ?_
              have hst := ih (k + 1) (by omega)
              rw [zsum] at hst
              refine z_forget [true, true, true, true, true] ?_ hst
              have h59 : True := trivial
              first
              | (rw [if_neg (show ¬ E 0 (k : Int) = 1 by omega), Int.add_zero, Int.sub_zero]; rfl)
              | (rw [if_pos (show E 0 (k : Int) = 1 by omega), if_pos (by omega), ← Int.sub_sub]; rfl)
              | (rw [if_pos (show E 0 (k : Int) = 1 by omega), if_neg (by omega), Int.add_zero, Int.sub_zero]; rfl)
            · try simp only [zite_eq0, ne_eq, Classical.not_not] at zcq39
              refine z_aload_n (i := 0) hG dX11_freeAt_42 rfl rfl ?_
              refine z_iload hG dX11_freeAt_43 rfl ?_
              refine z_callV hG dX11_freeAt_45 LV_X11_190 (ct_X11_handsOf l g hI hR1 ⟨by omega, by omega⟩ (by rw [← hEz]; omega)) (by decide) rfl rfl rfl (Nat.le_of_ble_eq_true rfl) ?_
              intro v9 m9 h9
              rw [h9.1, h9.2, ← hEz]
              clear h9 m9 v9
              have hok1 := hok (by omega)
              refine z_goto hG dX11_freeAt_48 (tgt := 52) rfl ?_
              refine z_isub hG dX11_freeAt_52 (by omega) (by omega) ?_
              refine z_istore_n (i := 3) hG dX11_freeAt_53 rfl (by decide) (ls2 := [_, _, _, _, _]) rfl ?_
              refine z_iinc hG dX11_freeAt_54 (by decide) rfl (by omega) (by omega) (ls2 := [_, _, _, _, _]) rfl ?_
              refine z_goto hG dX11_freeAt_57 (tgt := 5) rfl ?_
              have hst := ih (k + 1) (by omega)
              rw [zsum] at hst
              refine z_forget [true, true, true, true, true] ?_ hst
              have h59 : True := trivial
              first
              | (rw [if_neg (show ¬ E 0 (k : Int) = 1 by omega), Int.add_zero, Int.sub_zero]; rfl)
              | (rw [if_pos (show E 0 (k : Int) = 1 by omega), if_pos (by omega), ← Int.sub_sub]; rfl)
              | (rw [if_pos (show E 0 (k : Int) = 1 by omega), if_neg (by omega), Int.add_zero, Int.sub_zero]; rfl)
  refine z_iload_n (i := 2) hG dX11_freeAt_0 rfl rfl ?_
  refine z_istore_n (i := 3) hG dX11_freeAt_1 rfl (by decide) (ls2 := [_, _, _, _, _]) rfl ?_
  refine z_iconst hG dX11_freeAt_2 rfl ?_
  refine z_istore hG dX11_freeAt_3 (by decide) (ls2 := [_, _, _, _, _]) rfl ?_
  have h0 := loop 32 0 rfl
  rw [zsum, Int.sub_zero] at h0
  exact h0
set_option maxRecDepth 20000 in
theorem ct_X11_nextAt (l : Launch) (g : zG) {a M : zM} {B : Int} {E : zE} {b : Int → Int} {t f : Int} (hI : zIS B a 0) (hEz : E = zEc a) (hEE : zEok E) (hS : zSb a E M b) : zMet l g Y_X11_nextAt [zr 11 0 0, zi t, zi f] M (fun v m' => ∃ r : Int, v = some (zi r) ∧ m' = M ∧ ((r = -6 ∧ ∀ q : Int, ¬ zcnd E t f b q) ∨ (zcnd E t f b r ∧ ∀ q : Int, zcnd E t f b q → q ≠ r → zahd E r q))) := by
  refine zMet_introF (by decide +kernel) (Nat.le_of_ble_eq_true rfl) (ls0 := [some (zr 11 0 0), some (zi t), some (zi f), none, none]) rfl fun X hG hE => ?_
  have hG : zGood X l g RX11 cX11_nextAt 4 5 := hG
  have hE : zEnd X (some .int) _ := hE
  have hR1 := hS.1
  have hE01 : ∀ p : Int, E 0 p = 0 ∨ E 0 p = 1 := fun p => by rw [hEz]; exact zEc_01

  have loop : ∀ (N : Nat) (s r : Int), 0 ≤ s → s + N = 32 → ((r = -6 ∧ ∀ q : Int, q < s → ¬ zcnd E t f b q) ∨ ((0 ≤ r ∧ r < s) ∧ zcnd E t f b r ∧ ∀ q : Int, q < s → zcnd E t f b q → q ≠ r → zahd E r q)) → zZ X 6 [some (zr 11 0 0), some (zi t), some (zi f), some (zi r), some (zi s)] [] M := by
    intro N
    induction N with
    | zero =>
      intro s r hs0 hs hr
      refine z_iload hG dX11_nextAt_6 rfl ?_
      refine z_bipush hG dX11_nextAt_8 rfl ?_
      refine z_icmp_ge hG dX11_nextAt_10 (tgt := 66) rfl (fun zcq10 => ?_) (fun zcq10 => ?_)
      · refine z_iload_n (i := 3) hG dX11_nextAt_66 rfl rfl ?_
        refine z_iret hG hE dX11_nextAt_67 trivial ?_
        refine ⟨r, rfl, rfl, ?_⟩
        rcases hr with ⟨h1, h2⟩ | ⟨h1, h2, h3⟩
        · exact Or.inl ⟨h1, fun q hq => h2 q (by have := hq.1; omega) hq⟩
        · exact Or.inr ⟨h2, fun q hq => h3 q (by have := hq.1; omega) hq⟩
      · exact absurd zcq10 (by omega)
    | succ N ih =>
      intro s r hs0 hs hr
      have hs32 : s < 32 := by omega
      have keep : ¬ zcnd E t f b s → ((r = -6 ∧ ∀ q : Int, q < s + 1 → ¬ zcnd E t f b q) ∨ ((0 ≤ r ∧ r < s + 1) ∧ zcnd E t f b r ∧ ∀ q : Int, q < s + 1 → zcnd E t f b q → q ≠ r → zahd E r q)) := fun hn => by
        rcases hr with ⟨h1, h2⟩ | ⟨h1, h2, h3⟩
        · refine Or.inl ⟨h1, fun q hq => ?_⟩
          by_cases e : q = s
          · rw [e]; exact hn
          · exact h2 q (by omega)
        · refine Or.inr ⟨by omega, h2, fun q hq hc hne => ?_⟩
          by_cases e : q = s
          · rw [e] at hc; exact absurd hc hn
          · exact h3 q (by omega) hc hne
      refine z_iload hG dX11_nextAt_6 rfl ?_
      refine z_bipush hG dX11_nextAt_8 rfl ?_
      refine z_icmp_ge hG dX11_nextAt_10 (tgt := 66) rfl (fun zcq10 => ?_) (fun zcq10 => ?_)
      · exact absurd zcq10 (by omega)
      · refine z_aload_n (i := 0) hG dX11_nextAt_13 rfl rfl ?_
        refine z_iload hG dX11_nextAt_14 rfl ?_
        refine z_iload_n (i := 1) hG dX11_nextAt_16 rfl rfl ?_
        refine z_callV hG dX11_nextAt_17 LV_X11_197 (ct_X11_isReady l g hI hEz hEE hS ⟨hs0, hs32⟩) (by decide) rfl rfl rfl (Nat.le_of_ble_eq_true rfl) ?_
        intro v9 m9 h9
        obtain ⟨rd, h9a, h9b, hrd, hre⟩ := h9
        rw [h9a, h9b]
        clear h9a h9b m9 v9
        refine z_if_eq hG dX11_nextAt_20 (tgt := 60) rfl (fun zcq20 => ?_) (fun zcq20 => ?_)
        · try simp only [zite_eq0, ne_eq, Classical.not_not] at zcq20
          refine z_iinc hG dX11_nextAt_60 (by decide) rfl (by omega) (by omega) (ls2 := [_, _, _, _, _]) rfl ?_
          refine z_goto hG dX11_nextAt_63 (tgt := 6) rfl ?_
          first
          | exact ih (s + 1) r (by omega) (by omega) (keep (fun z => by have := hre.mpr ⟨z.2.1, z.2.2.1, z.2.2.2.2⟩; omega))
          | exact ih (s + 1) r (by omega) (by omega) (keep (fun z => by have := z.2.2.2.1; omega))
          | (have hcs : zcnd E t f b s := ⟨⟨hs0, hs32⟩, hrr.1, hrr.2.1, by omega, hrr.2.2⟩
             refine ih (s + 1) s (by omega) (by omega) (Or.inr ⟨by omega, hcs, fun q hq hc hne => ?_⟩)
             first
             | (have hqr : q = r ∨ zahd E r q := Classical.byCases Or.inl (fun z => Or.inr (hrc.2.2 q (by omega) hc z))
                left
                rcases hqr with rfl | hqr
                · omega
                · unfold zahd at hqr
                  omega)
             | (obtain ⟨h1, h2⟩ := hr.resolve_right (fun z => by have := z.1; omega)
                exact absurd hc (h2 q (by omega))))
          | (have hcs : zcnd E t f b s := ⟨⟨hs0, hs32⟩, hrr.1, hrr.2.1, by omega, hrr.2.2⟩
             refine ih (s + 1) r (by omega) (by omega) (Or.inr ⟨by omega, hrc.2.1, fun q hq hc hne => ?_⟩)
             by_cases e : q = s
             · subst e
               unfold zahd
               omega
             · exact hrc.2.2 q (by omega) hc hne)
        · try simp only [zite_eq0, ne_eq, Classical.not_not] at zcq20
          have hrr := hre.mp (by omega)
          have h60 := (hS.2.1 s hs0 hs32 hrr.1).2
          refine z_aload_n (i := 0) hG dX11_nextAt_23 rfl rfl ?_
          refine z_iload hG dX11_nextAt_24 rfl ?_
          refine z_callV hG dX11_nextAt_26 LV_X11_190 (ct_X11_handsOf l g hI hR1 ⟨hs0, hs32⟩ (by rw [← hEz]; exact hrr.1)) (by decide) rfl rfl rfl (Nat.le_of_ble_eq_true rfl) ?_
          intro v9 m9 h9
          rw [h9.1, h9.2, ← hEz]
          clear h9 m9 v9
          refine z_iload_n (i := 2) hG dX11_nextAt_29 rfl rfl ?_
          refine z_icmp_gt hG dX11_nextAt_30 (tgt := 60) rfl (fun zcq30 => ?_) (fun zcq30 => ?_)
          · refine z_iinc hG dX11_nextAt_60 (by decide) rfl (by omega) (by omega) (ls2 := [_, _, _, _, _]) rfl ?_
            refine z_goto hG dX11_nextAt_63 (tgt := 6) rfl ?_
            first
            | exact ih (s + 1) r (by omega) (by omega) (keep (fun z => by have := hre.mpr ⟨z.2.1, z.2.2.1, z.2.2.2.2⟩; omega))
            | exact ih (s + 1) r (by omega) (by omega) (keep (fun z => by have := z.2.2.2.1; omega))
            | (have hcs : zcnd E t f b s := ⟨⟨hs0, hs32⟩, hrr.1, hrr.2.1, by omega, hrr.2.2⟩
               refine ih (s + 1) s (by omega) (by omega) (Or.inr ⟨by omega, hcs, fun q hq hc hne => ?_⟩)
               first
               | (have hqr : q = r ∨ zahd E r q := Classical.byCases Or.inl (fun z => Or.inr (hrc.2.2 q (by omega) hc z))
                  left
                  rcases hqr with rfl | hqr
                  · omega
                  · unfold zahd at hqr
                    omega)
               | (obtain ⟨h1, h2⟩ := hr.resolve_right (fun z => by have := z.1; omega)
                  exact absurd hc (h2 q (by omega))))
            | (have hcs : zcnd E t f b s := ⟨⟨hs0, hs32⟩, hrr.1, hrr.2.1, by omega, hrr.2.2⟩
               refine ih (s + 1) r (by omega) (by omega) (Or.inr ⟨by omega, hrc.2.1, fun q hq hc hne => ?_⟩)
               by_cases e : q = s
               · subst e
                 unfold zahd
                 omega
               · exact hrc.2.2 q (by omega) hc hne)
          · refine z_iload_n (i := 3) hG dX11_nextAt_33 rfl rfl ?_
            refine z_if_lt hG dX11_nextAt_34 (tgt := 53) rfl (fun zcq34 => ?_) (fun zcq34 => ?_)
            · refine z_iload hG dX11_nextAt_53 rfl ?_
              refine z_goto hG dX11_nextAt_55 (tgt := 59) rfl ?_
              refine z_istore_n (i := 3) hG dX11_nextAt_59 rfl (by decide) (ls2 := [_, _, _, _, _]) rfl ?_
              refine z_iinc hG dX11_nextAt_60 (by decide) rfl (by omega) (by omega) (ls2 := [_, _, _, _, _]) rfl ?_
              refine z_goto hG dX11_nextAt_63 (tgt := 6) rfl ?_
              first
              | exact ih (s + 1) r (by omega) (by omega) (keep (fun z => by have := hre.mpr ⟨z.2.1, z.2.2.1, z.2.2.2.2⟩; omega))
              | exact ih (s + 1) r (by omega) (by omega) (keep (fun z => by have := z.2.2.2.1; omega))
              | (have hcs : zcnd E t f b s := ⟨⟨hs0, hs32⟩, hrr.1, hrr.2.1, by omega, hrr.2.2⟩
                 refine ih (s + 1) s (by omega) (by omega) (Or.inr ⟨by omega, hcs, fun q hq hc hne => ?_⟩)
                 first
                 | (have hqr : q = r ∨ zahd E r q := Classical.byCases Or.inl (fun z => Or.inr (hrc.2.2 q (by omega) hc z))
                    left
                    rcases hqr with rfl | hqr
                    · omega
                    · unfold zahd at hqr
                      omega)
                 | (obtain ⟨h1, h2⟩ := hr.resolve_right (fun z => by have := z.1; omega)
                    exact absurd hc (h2 q (by omega))))
              | (have hcs : zcnd E t f b s := ⟨⟨hs0, hs32⟩, hrr.1, hrr.2.1, by omega, hrr.2.2⟩
                 refine ih (s + 1) r (by omega) (by omega) (Or.inr ⟨by omega, hrc.2.1, fun q hq hc hne => ?_⟩)
                 by_cases e : q = s
                 · subst e
                   unfold zahd
                   omega
                 · exact hrc.2.2 q (by omega) hc hne)
            · have hrc := hr.resolve_left (fun z => by have := z.1; omega)
              have h60r := (hS.2.1 r hrc.1.1 (by omega) hrc.2.1.2.1).2
              refine z_aload_n (i := 0) hG dX11_nextAt_37 rfl rfl ?_
              refine z_get_11_20 hG dX11_nextAt_38 FL_X11_56 ?_
              refine z_iload hG dX11_nextAt_41 rfl ?_
              refine z_iald hG dX11_nextAt_43 rfl rfl (by omega) (by omega) ?_
              rw [h60]
              refine z_aload_n (i := 0) hG dX11_nextAt_44 rfl rfl ?_
              refine z_get_11_20 hG dX11_nextAt_45 FL_X11_56 ?_
              refine z_iload_n (i := 3) hG dX11_nextAt_48 rfl rfl ?_
              refine z_iald hG dX11_nextAt_49 rfl rfl (by omega) (by omega) ?_
              rw [h60r]
              refine z_icmp_le hG dX11_nextAt_50 (tgt := 58) rfl (fun zcq50 => ?_) (fun zcq50 => ?_)
              · refine z_iload_n (i := 3) hG dX11_nextAt_58 rfl rfl ?_
                refine z_istore_n (i := 3) hG dX11_nextAt_59 rfl (by decide) (ls2 := [_, _, _, _, _]) rfl ?_
                refine z_iinc hG dX11_nextAt_60 (by decide) rfl (by omega) (by omega) (ls2 := [_, _, _, _, _]) rfl ?_
                refine z_goto hG dX11_nextAt_63 (tgt := 6) rfl ?_
                first
                | exact ih (s + 1) r (by omega) (by omega) (keep (fun z => by have := hre.mpr ⟨z.2.1, z.2.2.1, z.2.2.2.2⟩; omega))
                | exact ih (s + 1) r (by omega) (by omega) (keep (fun z => by have := z.2.2.2.1; omega))
                | (have hcs : zcnd E t f b s := ⟨⟨hs0, hs32⟩, hrr.1, hrr.2.1, by omega, hrr.2.2⟩
                   refine ih (s + 1) s (by omega) (by omega) (Or.inr ⟨by omega, hcs, fun q hq hc hne => ?_⟩)
                   first
                   | (have hqr : q = r ∨ zahd E r q := Classical.byCases Or.inl (fun z => Or.inr (hrc.2.2 q (by omega) hc z))
                      left
                      rcases hqr with rfl | hqr
                      · omega
                      · unfold zahd at hqr
                        omega)
                   | (obtain ⟨h1, h2⟩ := hr.resolve_right (fun z => by have := z.1; omega)
                      exact absurd hc (h2 q (by omega))))
                | (have hcs : zcnd E t f b s := ⟨⟨hs0, hs32⟩, hrr.1, hrr.2.1, by omega, hrr.2.2⟩
                   refine ih (s + 1) r (by omega) (by omega) (Or.inr ⟨by omega, hrc.2.1, fun q hq hc hne => ?_⟩)
                   by_cases e : q = s
                   · subst e
                     unfold zahd
                     omega
                   · exact hrc.2.2 q (by omega) hc hne)
              · refine z_iload hG dX11_nextAt_53 rfl ?_
                refine z_goto hG dX11_nextAt_55 (tgt := 59) rfl ?_
                refine z_istore_n (i := 3) hG dX11_nextAt_59 rfl (by decide) (ls2 := [_, _, _, _, _]) rfl ?_
                refine z_iinc hG dX11_nextAt_60 (by decide) rfl (by omega) (by omega) (ls2 := [_, _, _, _, _]) rfl ?_
                refine z_goto hG dX11_nextAt_63 (tgt := 6) rfl ?_
                first
                | exact ih (s + 1) r (by omega) (by omega) (keep (fun z => by have := hre.mpr ⟨z.2.1, z.2.2.1, z.2.2.2.2⟩; omega))
                | exact ih (s + 1) r (by omega) (by omega) (keep (fun z => by have := z.2.2.2.1; omega))
                | (have hcs : zcnd E t f b s := ⟨⟨hs0, hs32⟩, hrr.1, hrr.2.1, by omega, hrr.2.2⟩
                   refine ih (s + 1) s (by omega) (by omega) (Or.inr ⟨by omega, hcs, fun q hq hc hne => ?_⟩)
                   first
                   | (have hqr : q = r ∨ zahd E r q := Classical.byCases Or.inl (fun z => Or.inr (hrc.2.2 q (by omega) hc z))
                      left
                      rcases hqr with rfl | hqr
                      · omega
                      · unfold zahd at hqr
                        omega)
                   | (obtain ⟨h1, h2⟩ := hr.resolve_right (fun z => by have := z.1; omega)
                      exact absurd hc (h2 q (by omega))))
                | (have hcs : zcnd E t f b s := ⟨⟨hs0, hs32⟩, hrr.1, hrr.2.1, by omega, hrr.2.2⟩
                   refine ih (s + 1) r (by omega) (by omega) (Or.inr ⟨by omega, hrc.2.1, fun q hq hc hne => ?_⟩)
                   by_cases e : q = s
                   · subst e
                     unfold zahd
                     omega
                   · exact hrc.2.2 q (by omega) hc hne)
  refine z_bipush hG dX11_nextAt_0 rfl ?_
  refine z_istore_n (i := 3) hG dX11_nextAt_2 rfl (by decide) (ls2 := [_, _, _, _, _]) rfl ?_
  refine z_iconst hG dX11_nextAt_3 rfl ?_
  refine z_istore hG dX11_nextAt_4 (by decide) (ls2 := [_, _, _, _, _]) rfl ?_
  exact loop 32 0 (-6) (by decide) rfl (Or.inl ⟨rfl, fun q hq hc => by have := hc.1; omega⟩)
set_option maxRecDepth 20000 in
theorem ct_X11_nextEnd (l : Launch) (g : zG) {a M : zM} {B : Int} {E : zE} {b : Int → Int} {t : Int} (hI : zIS B a 0) (hEz : E = zEc a) (hEE : zEok E) (hS : zSb a E M b) (ht : 0 ≤ t ∧ t ≤ 300000) : zMet l g Y_X11_nextEnd [zr 11 0 0, zi t] M (fun v m' => ∃ r : Int, v = some (zi (if r = -6 then 1000000000 else r)) ∧ m' = M ∧ znE E b t r) := by
  refine zMet_introF (by decide +kernel) (Nat.le_of_ble_eq_true rfl) (ls0 := [some (zr 11 0 0), some (zi t), none, none, none]) rfl fun X hG hE => ?_
  have hG : zGood X l g RX11 cX11_nextEnd 2 5 := hG
  have hE : zEnd X (some .int) _ := hE
  have hR1 := hS.1
  have hE01 : ∀ p : Int, E 0 p = 0 ∨ E 0 p = 1 := fun p => by rw [hEz]; exact zEc_01

  have loop : ∀ (N : Nat) (s r : Int) (e : Option zV), 0 ≤ s → s + N = 32 → ((r = 1000000000 ∧ ∀ p : Int, 0 ≤ p → p < s → E 0 p = 1 → b p ≠ -6 → b p + E 1 p ≤ t) ∨ ((t < r ∧ r ≤ 305000) ∧ (∃ p : Int, 0 ≤ p ∧ p < s ∧ E 0 p = 1 ∧ b p ≠ -6 ∧ b p + E 1 p = r) ∧ ∀ p : Int, 0 ≤ p → p < s → E 0 p = 1 → b p ≠ -6 → t < b p + E 1 p → r ≤ b p + E 1 p)) → zZ X 5 [some (zr 11 0 0), some (zi t), some (zi r), some (zi s), e] [] M := by
    intro N
    induction N with
    | zero =>
      intro s r e hs0 hs hr
      refine z_iload_n (i := 3) hG dX11_nextEnd_5 rfl rfl ?_
      refine z_bipush hG dX11_nextEnd_6 rfl ?_
      refine z_icmp_ge hG dX11_nextEnd_8 (tgt := 71) rfl (fun zcq8 => ?_) (fun zcq8 => ?_)
      · refine z_iload_n (i := 2) hG dX11_nextEnd_71 rfl rfl ?_
        refine z_iret hG hE dX11_nextEnd_72 trivial ?_
        obtain rfl : s = 32 := by omega
        rcases hr with ⟨h1, h2⟩ | ⟨h1, h2, h3⟩
        · exact ⟨-6, by rw [if_pos rfl, h1], rfl, Or.inl ⟨rfl, h2⟩⟩
        · exact ⟨r, by rw [if_neg (by omega)], rfl, Or.inr ⟨h1.1, h2, h3⟩⟩
      · exact absurd zcq8 (by omega)
    | succ N ih =>
      intro s r e hs0 hs hr
      have hs32 : s < 32 := by omega
      have hb := hS.2.2.2 s hs0 hs32
      have h61 := hS.2.2.1 s hs0 hs32
      have hok := hEE s hs0 hs32
      have hEs := hE01 s
      have keep : ¬ (E 0 s = 1 ∧ b s ≠ -6 ∧ t < b s + E 1 s) → ((r = 1000000000 ∧ ∀ p : Int, 0 ≤ p → p < s + 1 → E 0 p = 1 → b p ≠ -6 → b p + E 1 p ≤ t) ∨ ((t < r ∧ r ≤ 305000) ∧ (∃ p : Int, 0 ≤ p ∧ p < s + 1 ∧ E 0 p = 1 ∧ b p ≠ -6 ∧ b p + E 1 p = r) ∧ ∀ p : Int, 0 ≤ p → p < s + 1 → E 0 p = 1 → b p ≠ -6 → t < b p + E 1 p → r ≤ b p + E 1 p)) := fun hn => by
        rcases hr with ⟨h1, h2⟩ | ⟨h1, ⟨p, p0, p1, p2, p3, p4⟩, h3⟩
        · refine Or.inl ⟨h1, fun p p0 p1 p2 p3 => ?_⟩
          by_cases e : p = s
          · subst e; omega
          · exact h2 p p0 (by omega) p2 p3
        · refine Or.inr ⟨h1, ⟨p, p0, by omega, p2, p3, p4⟩, fun q q0 q1 q2 q3 q4 => ?_⟩
          by_cases e : q = s
          · subst e; exact absurd ⟨q2, q3, q4⟩ hn
          · exact h3 q q0 (by omega) q2 q3 q4
      refine z_iload_n (i := 3) hG dX11_nextEnd_5 rfl rfl ?_
      refine z_bipush hG dX11_nextEnd_6 rfl ?_
      refine z_icmp_ge hG dX11_nextEnd_8 (tgt := 71) rfl (fun zcq8 => ?_) (fun zcq8 => ?_)
      · exact absurd zcq8 (by omega)
      · refine z_aload_n (i := 0) hG dX11_nextEnd_11 rfl rfl ?_
        refine z_iload_n (i := 3) hG dX11_nextEnd_12 rfl rfl ?_
        refine z_callV hG dX11_nextEnd_13 LV_X11_181 (ct_X11_isOn l g hI hR1 ⟨by omega, by omega⟩) (by decide) rfl rfl rfl (Nat.le_of_ble_eq_true rfl) ?_
        intro v9 m9 h9
        rw [h9.1, h9.2, ← hEz]
        clear h9 m9 v9
        refine z_if_eq hG dX11_nextEnd_16 (tgt := 65) rfl (fun zcq16 => ?_) (fun zcq16 => ?_)
        · try simp only [zite_eq0, ne_eq, Classical.not_not] at zcq16
          refine z_iinc hG dX11_nextEnd_65 (by decide) rfl (by omega) (by omega) (ls2 := [_, _, _, _, _]) rfl ?_
          refine z_goto hG dX11_nextEnd_68 (tgt := 5) rfl ?_
          first
          | exact ih (s + 1) r _ (by omega) (by omega) (keep (fun z => by clear hr keep ih; omega))
          | (refine ih (s + 1) (b s + E 1 s) _ (by omega) (by omega) (Or.inr ⟨by omega, ⟨s, hs0, by omega, hon, by omega, rfl⟩, fun p p0 p1 p2 p3 p4 => ?_⟩)
             by_cases e : p = s
             · subst e; exact Int.le_refl _
             · rcases hr with ⟨h1, h2⟩ | ⟨h1, h2, h3⟩
               · have := h2 p p0 (by omega) p2 p3
                 omega
               · have := h3 p p0 (by omega) p2 p3 p4
                 omega)
          | (refine ih (s + 1) r _ (by omega) (by omega) (Or.inr ?_)
             rcases hr with ⟨h1, h2⟩ | ⟨h1, ⟨p, p0, p1, p2, p3, p4⟩, h3⟩
             · exfalso
               omega
             · refine ⟨h1, ⟨p, p0, by omega, p2, p3, p4⟩, fun q q0 q1 q2 q3 q4 => ?_⟩
               by_cases e : q = s
               · subst e; omega
               · exact h3 q q0 (by omega) q2 q3 q4)
        · try simp only [zite_eq0, ne_eq, Classical.not_not] at zcq16
          refine z_aload_n (i := 0) hG dX11_nextEnd_19 rfl rfl ?_
          refine z_get_11_21 hG dX11_nextEnd_20 FL_X11_59 ?_
          refine z_iload_n (i := 3) hG dX11_nextEnd_23 rfl rfl ?_
          refine z_iald hG dX11_nextEnd_24 rfl rfl (by omega) (by omega) ?_
          rw [h61]
          refine z_if_lt hG dX11_nextEnd_25 (tgt := 65) rfl (fun zcq25 => ?_) (fun zcq25 => ?_)
          · refine z_iinc hG dX11_nextEnd_65 (by decide) rfl (by omega) (by omega) (ls2 := [_, _, _, _, _]) rfl ?_
            refine z_goto hG dX11_nextEnd_68 (tgt := 5) rfl ?_
            first
            | exact ih (s + 1) r _ (by omega) (by omega) (keep (fun z => by clear hr keep ih; omega))
            | (refine ih (s + 1) (b s + E 1 s) _ (by omega) (by omega) (Or.inr ⟨by omega, ⟨s, hs0, by omega, hon, by omega, rfl⟩, fun p p0 p1 p2 p3 p4 => ?_⟩)
               by_cases e : p = s
               · subst e; exact Int.le_refl _
               · rcases hr with ⟨h1, h2⟩ | ⟨h1, h2, h3⟩
                 · have := h2 p p0 (by omega) p2 p3
                   omega
                 · have := h3 p p0 (by omega) p2 p3 p4
                   omega)
            | (refine ih (s + 1) r _ (by omega) (by omega) (Or.inr ?_)
               rcases hr with ⟨h1, h2⟩ | ⟨h1, ⟨p, p0, p1, p2, p3, p4⟩, h3⟩
               · exfalso
                 omega
               · refine ⟨h1, ⟨p, p0, by omega, p2, p3, p4⟩, fun q q0 q1 q2 q3 q4 => ?_⟩
                 by_cases e : q = s
                 · subst e; omega
                 · exact h3 q q0 (by omega) q2 q3 q4)
          · refine z_aload_n (i := 0) hG dX11_nextEnd_28 rfl rfl ?_
            refine z_iload_n (i := 3) hG dX11_nextEnd_29 rfl rfl ?_
            refine z_iload_n (i := 1) hG dX11_nextEnd_30 rfl rfl ?_
            refine z_callV hG dX11_nextEnd_31 LV_X11_193 (ct_X11_hasEnded l g hI hEz hEE hS ⟨hs0, hs32⟩ (by clear hr keep ih; omega)) (by decide) rfl rfl rfl (Nat.le_of_ble_eq_true rfl) ?_
            intro v9 m9 h9
            rw [h9.1, h9.2]
            clear h9 m9 v9
            have hon : E 0 s = 1 := by clear hr keep ih; omega
            have h59 := (hS.2.1 s hs0 hs32 hon).1
            have hok1 := hok hon
            refine z_if_ne hG dX11_nextEnd_34 (tgt := 65) rfl (fun zcq34 => ?_) (fun zcq34 => ?_)
            · try simp only [zite_eq0, ne_eq, Classical.not_not] at zcq34
              refine z_iinc hG dX11_nextEnd_65 (by decide) rfl (by omega) (by omega) (ls2 := [_, _, _, _, _]) rfl ?_
              refine z_goto hG dX11_nextEnd_68 (tgt := 5) rfl ?_
              first
              | exact ih (s + 1) r _ (by omega) (by omega) (keep (fun z => by clear hr keep ih; omega))
              | (refine ih (s + 1) (b s + E 1 s) _ (by omega) (by omega) (Or.inr ⟨by omega, ⟨s, hs0, by omega, hon, by omega, rfl⟩, fun p p0 p1 p2 p3 p4 => ?_⟩)
                 by_cases e : p = s
                 · subst e; exact Int.le_refl _
                 · rcases hr with ⟨h1, h2⟩ | ⟨h1, h2, h3⟩
                   · have := h2 p p0 (by omega) p2 p3
                     omega
                   · have := h3 p p0 (by omega) p2 p3 p4
                     omega)
              | (refine ih (s + 1) r _ (by omega) (by omega) (Or.inr ?_)
                 rcases hr with ⟨h1, h2⟩ | ⟨h1, ⟨p, p0, p1, p2, p3, p4⟩, h3⟩
                 · exfalso
                   omega
                 · refine ⟨h1, ⟨p, p0, by omega, p2, p3, p4⟩, fun q q0 q1 q2 q3 q4 => ?_⟩
                   by_cases e : q = s
                   · subst e; omega
                   · exact h3 q q0 (by omega) q2 q3 q4)
            · try simp only [zite_eq0, ne_eq, Classical.not_not] at zcq34
              refine z_aload_n (i := 0) hG dX11_nextEnd_37 rfl rfl ?_
              refine z_get_11_21 hG dX11_nextEnd_38 FL_X11_59 ?_
              refine z_iload_n (i := 3) hG dX11_nextEnd_41 rfl rfl ?_
              refine z_iald hG dX11_nextEnd_42 rfl rfl (by omega) (by omega) ?_
              rw [h61]
              refine z_aload_n (i := 0) hG dX11_nextEnd_43 rfl rfl ?_
              refine z_get_11_19 hG dX11_nextEnd_44 FL_X11_53 ?_
              refine z_iload_n (i := 3) hG dX11_nextEnd_47 rfl rfl ?_
              refine z_iald hG dX11_nextEnd_48 rfl rfl (by omega) (by omega) ?_
              rw [h59]
              refine z_iadd hG dX11_nextEnd_49 (by omega) (by omega) ?_
              refine z_istore hG dX11_nextEnd_50 (by decide) (ls2 := [_, _, _, _, _]) rfl ?_
              refine z_iload hG dX11_nextEnd_52 rfl ?_
              refine z_iload_n (i := 2) hG dX11_nextEnd_54 rfl rfl ?_
              refine z_icmp_ge hG dX11_nextEnd_55 (tgt := 63) rfl (fun zcq55 => ?_) (fun zcq55 => ?_)
              · refine z_iload_n (i := 2) hG dX11_nextEnd_63 rfl rfl ?_
                refine z_istore_n (i := 2) hG dX11_nextEnd_64 rfl (by decide) (ls2 := [_, _, _, _, _]) rfl ?_
                refine z_iinc hG dX11_nextEnd_65 (by decide) rfl (by omega) (by omega) (ls2 := [_, _, _, _, _]) rfl ?_
                refine z_goto hG dX11_nextEnd_68 (tgt := 5) rfl ?_
                first
                | exact ih (s + 1) r _ (by omega) (by omega) (keep (fun z => by clear hr keep ih; omega))
                | (refine ih (s + 1) (b s + E 1 s) _ (by omega) (by omega) (Or.inr ⟨by omega, ⟨s, hs0, by omega, hon, by omega, rfl⟩, fun p p0 p1 p2 p3 p4 => ?_⟩)
                   by_cases e : p = s
                   · subst e; exact Int.le_refl _
                   · rcases hr with ⟨h1, h2⟩ | ⟨h1, h2, h3⟩
                     · have := h2 p p0 (by omega) p2 p3
                       omega
                     · have := h3 p p0 (by omega) p2 p3 p4
                       omega)
                | (refine ih (s + 1) r _ (by omega) (by omega) (Or.inr ?_)
                   rcases hr with ⟨h1, h2⟩ | ⟨h1, ⟨p, p0, p1, p2, p3, p4⟩, h3⟩
                   · exfalso
                     omega
                   · refine ⟨h1, ⟨p, p0, by omega, p2, p3, p4⟩, fun q q0 q1 q2 q3 q4 => ?_⟩
                     by_cases e : q = s
                     · subst e; omega
                     · exact h3 q q0 (by omega) q2 q3 q4)
              · refine z_iload hG dX11_nextEnd_58 rfl ?_
                refine z_goto hG dX11_nextEnd_60 (tgt := 64) rfl ?_
                refine z_istore_n (i := 2) hG dX11_nextEnd_64 rfl (by decide) (ls2 := [_, _, _, _, _]) rfl ?_
                refine z_iinc hG dX11_nextEnd_65 (by decide) rfl (by omega) (by omega) (ls2 := [_, _, _, _, _]) rfl ?_
                refine z_goto hG dX11_nextEnd_68 (tgt := 5) rfl ?_
                first
                | exact ih (s + 1) r _ (by omega) (by omega) (keep (fun z => by clear hr keep ih; omega))
                | (refine ih (s + 1) (b s + E 1 s) _ (by omega) (by omega) (Or.inr ⟨by omega, ⟨s, hs0, by omega, hon, by omega, rfl⟩, fun p p0 p1 p2 p3 p4 => ?_⟩)
                   by_cases e : p = s
                   · subst e; exact Int.le_refl _
                   · rcases hr with ⟨h1, h2⟩ | ⟨h1, h2, h3⟩
                     · have := h2 p p0 (by omega) p2 p3
                       omega
                     · have := h3 p p0 (by omega) p2 p3 p4
                       omega)
                | (refine ih (s + 1) r _ (by omega) (by omega) (Or.inr ?_)
                   rcases hr with ⟨h1, h2⟩ | ⟨h1, ⟨p, p0, p1, p2, p3, p4⟩, h3⟩
                   · exfalso
                     omega
                   · refine ⟨h1, ⟨p, p0, by omega, p2, p3, p4⟩, fun q q0 q1 q2 q3 q4 => ?_⟩
                     by_cases e : q = s
                     · subst e; omega
                     · exact h3 q q0 (by omega) q2 q3 q4)
  refine z_ldc hG dX11_nextEnd_0 KC_X11_127 rfl ?_
  refine z_istore_n (i := 2) hG dX11_nextEnd_2 rfl (by decide) (ls2 := [_, _, _, _, _]) rfl ?_
  refine z_iconst hG dX11_nextEnd_3 rfl ?_
  refine z_istore_n (i := 3) hG dX11_nextEnd_4 rfl (by decide) (ls2 := [_, _, _, _, _]) rfl ?_
  exact loop 32 0 1000000000 none (by decide) rfl (Or.inl ⟨rfl, fun p p0 p1 => by omega⟩)
