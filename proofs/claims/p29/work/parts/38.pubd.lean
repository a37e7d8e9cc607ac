noncomputable def zbp (m : zM) (r : Int) : Nat → Int → Int → Int → Int
  | 0, _, b, _ => b
  | n + 1, p, b, l => if zmss (zPl0 (zset m 4 0 r 1 p) 6) 8 = 0 ∧ (b = -6 ∨ zsum 8 (zPl0 (zset m 4 0 r 1 p) 4) ≤ l) then zbp m r n (p + 1) p (zsum 8 (zPl0 (zset m 4 0 r 1 p) 4)) else zbp m r n (p + 1) b l
noncomputable def zk_bestPortions (r a z : Int) (m : zM) : Int := if ¬ (0 ≤ r ∧ r < m 2 0 0 5 ∧ r < 4) then -1 else if ¬ ((1 ≤ a ∧ a ≤ 20) ∧ (a ≤ z ∧ z ≤ 20)) then -2 else zbp m r (z + 1 - a).toNat a (-6) 0
noncomputable def zk_ifBuyable (i b : Int) (m : zM) : Int := if ¬ (0 ≤ i ∧ i < m 2 0 0 4 ∧ i < 8) then -1 else if ¬ (0 ≤ b ∧ b ≤ 1) then -2 else if zmss (zPl0 (zset m 3 0 i 1 b) 6) 8 = 0 then zsum 8 (zPl0 (zset m 3 0 i 1 b) 7) else -6
theorem zpc_setp {m : zM} (h : zpc m) {r p : Int} (hp : 0 ≤ p ∧ p ≤ 20) : zpc (zset m 4 0 r 1 p) := by
  refine ⟨fun q h0 h1 => ?_, by simpa [zset] using h.2.1, fun i h0 h1 => ?_⟩
  · have := h.1 q h0 h1
    refine ⟨?_, by simpa [zset] using this.2.1, by simpa [zset] using this.2.2.1, fun k k0 k1 => by simpa [zset] using this.2.2.2 k k0 k1⟩
    simp only [zset]
    split
    · exact hp
    · exact this.1
  · have := h.2.2 i h0 h1
    simpa [zset, zkin] using this
theorem zpc_setb {m : zM} (h : zpc m) {r p : Int} : zpc (zset m 3 0 r 1 p) := by
  refine ⟨fun q h0 h1 => by simpa [zset] using h.1 q h0 h1, by simpa [zset] using h.2.1, fun i h0 h1 => ?_⟩
  have := h.2.2 i h0 h1
  simpa [zset, zkin] using this
theorem zset_same {m : zM} {t : Nat} {s i k : Int} : zset m t s i k (m t s i k) = m := by
  funext t' s' i' k'
  simp only [zset]
  split
  · next h => rw [h.1, h.2.1, h.2.2.1, h.2.2.2]
  · rfl
theorem zset_set {m : zM} {t : Nat} {s i k v w : Int} : zset (zset m t s i k v) t s i k w = zset m t s i k w := by
  funext t' s' i' k'
  simp only [zset]
  split <;> rfl
theorem zPl0_congr {m2 m : zM} (h : zEq m2 m) : zPl0 m2 = zPl0 m := by rw [zPl0, zPl0, zDc_congr h]
set_option maxRecDepth 20000 in
theorem ct_X10_ifBuyable (l : Launch) (g : zG) {mem : zM} {B : Int} {i b : Int} (hI : zInv B mem) (hB : B ≤ 11900000) : zMet l g Y_X10_ifBuyable [zr 0 0 0, zi i, zi b] mem (fun v m' => v = some (zi (zk_ifBuyable i b mem)) ∧ zEq m' mem ∧ zsea m') := by
  refine zMet_introF (by decide +kernel) (Nat.le_of_ble_eq_true rfl) (ls0 := [some (zr 0 0 0), some (zi i), some (zi b), none, none]) rfl fun X hG hE => ?_
  have hG : zGood X l g RX10 cX10_ifBuyable 6 5 := hG
  have hE : zEnd X (some .int) _ := hE
  have hI0 := zInv0 hI
  obtain ⟨hday, hhan, hing, hrcp, hrec, hboo, hrow, hrow2, hstp⟩ := id hI0
  have hr0 : ∀ (t : Nat) (i k : Int), t ≠ 1 → zrecd mem t 0 i k = mem t 0 i k := fun t i k ht => zrecd_0 hI.1.1.1 ht
  refine z_aload_n (i := 0) hG dX10_ifBuyable_0 rfl rfl ?_
  refine z_get_10_0 hG dX10_ifBuyable_1 FL_X10_12 ?_
  refine z_iload_n (i := 1) hG dX10_ifBuyable_4 rfl rfl ?_
  refine z_callV hG dX10_ifBuyable_5 LV_X10_79 (ct_X7_hasIngredient l g) (by decide) rfl rfl rfl (Nat.le_of_ble_eq_true rfl) ?_
  intro v9 m9 h9
  rw [h9.1, h9.2]
  clear h9 m9 v9
  refine z_if_ne hG dX10_ifBuyable_8 (tgt := 13) rfl (fun c8 => ?_) (fun c8 => ?_)
  · try simp only [zite_eq0, ne_eq, Classical.not_not] at c8
    refine z_iload_n (i := 2) hG dX10_ifBuyable_13 rfl rfl ?_
    refine z_iconst hG dX10_ifBuyable_14 rfl ?_
    refine z_iconst hG dX10_ifBuyable_15 rfl ?_
    refine z_callS hG dX10_ifBuyable_16 LS_X10_57 (ct_X10_isWithin l g) (by decide) rfl rfl (Nat.le_of_ble_eq_true rfl) ?_
    intro v9 m9 h9
    rw [h9.1, h9.2]
    clear h9 m9 v9
    refine z_if_ne hG dX10_ifBuyable_19 (tgt := 25) rfl (fun c19 => ?_) (fun c19 => ?_)
    · try simp only [zite_eq0, ne_eq, Classical.not_not] at c19
      refine z_aload_n (i := 0) hG dX10_ifBuyable_25 rfl rfl ?_
      refine z_get_10_0 hG dX10_ifBuyable_26 FL_X10_12 ?_
      refine z_get_7_6 hG dX10_ifBuyable_29 FL_X10_69 ?_
      refine z_iload_n (i := 1) hG dX10_ifBuyable_32 rfl rfl ?_
      refine z_aa_15 hG dX10_ifBuyable_33 (by omega) (by omega) ?_
      refine z_astore_n (i := 3) hG dX10_ifBuyable_34 rfl (by decide) (ls2 := [_, _, _, _, _]) rfl ?_
      refine z_aload_n (i := 3) hG dX10_ifBuyable_35 rfl rfl ?_
      refine z_getI hG dX10_ifBuyable_36 FL_X10_93 rfl rfl (kk := 1) rfl ?_
      refine z_istore hG dX10_ifBuyable_39 (by decide) (ls2 := [_, _, _, _, _]) rfl ?_
      refine z_aload_n (i := 3) hG dX10_ifBuyable_41 rfl rfl ?_
      refine z_iload_n (i := 2) hG dX10_ifBuyable_42 rfl rfl ?_
      refine z_iconst hG dX10_ifBuyable_43 rfl ?_
      refine z_icmp_ne hG dX10_ifBuyable_44 (tgt := 51) rfl (fun c44 => ?_) (fun c44 => ?_)
      · obtain rfl : b = 0 := by omega
        have hsb : zsea (zset mem 3 0 i 1 0) := zsea_congr (fun t k h1 h2 => by simp [zset, show t ≠ 3 by omega]) hI.2.1
        refine z_iconst hG dX10_ifBuyable_51 rfl ?_
        refine z_putB hG dX10_ifBuyable_52 FP_X10_93 rfl rfl (kk := 1) rfl (by first | exact Or.inl rfl | exact Or.inr rfl) ?_
        refine z_aload_n (i := 0) hG dX10_ifBuyable_55 rfl rfl ?_
        refine z_get_10_6 hG dX10_ifBuyable_56 FL_X10_46 ?_
        refine z_aload_n (i := 0) hG dX10_ifBuyable_59 rfl rfl ?_
        refine z_get_10_0 hG dX10_ifBuyable_60 FL_X10_12 ?_
        refine z_callV hG dX10_ifBuyable_63 LV_X10_162 (ct_X6_plan l g (zpc_setb (zIS_pc hI0 (by omega))) hsb) (by decide) rfl rfl rfl (Nat.le_of_ble_eq_true rfl) ?_
        intro v9 m1 h9
        obtain ⟨h9a, hO, hsea1, hW, hb⟩ := h9
        rw [h9a]
        clear h9a v9
        change zShop m1 (zPl0 _) at hW
        change zplb (zPl0 _) at hb
        have hO : zEq m1 _ := hO
        refine z_aload_n (i := 3) hG dX10_ifBuyable_66 rfl rfl ?_
        refine z_iload hG dX10_ifBuyable_67 rfl ?_
        refine z_putB hG dX10_ifBuyable_69 FP_X10_93 rfl rfl (kk := 1) rfl (by exact hboo.1 i (by omega) (by omega)) ?_
        have hW2 := zShop_congr (m2 := zset m1 3 0 i 1 (mem 3 0 i 1)) (fun t i' k h1 h2 => by simp [zset, show t ≠ 3 by omega]) hW
        have hs2 : zsea (zset m1 3 0 i 1 (mem 3 0 i 1)) := zsea_congr (fun t k h1 h2 => by simp [zset, show t ≠ 3 by omega]) hsea1
        have hE2 : zEq (zset m1 3 0 i 1 (mem 3 0 i 1)) mem := by
          have := zEq_set (t := 3) (s := 0) (i := i) (k := 1) (v := mem 3 0 i 1) hO
          rwa [zset_set, zset_same] at this
        generalize zset m1 3 0 i 1 (mem 3 0 i 1) = m2 at *
        refine z_aload_n (i := 0) hG dX10_ifBuyable_72 rfl rfl ?_
        refine z_get_10_6 hG dX10_ifBuyable_73 FL_X10_46 ?_
        refine z_callV hG dX10_ifBuyable_76 LV_X10_294 (ct_X6_missingSet l g) (by decide) rfl rfl rfl (Nat.le_of_ble_eq_true rfl) ?_
        intro v9 m9 h9
        rw [h9.1, h9.2]
        clear h9 m9 v9
        rw [zShop_mss hW2]
        refine z_if_ne hG dX10_ifBuyable_79 (tgt := 92) rfl (fun c79 => ?_) (fun c79 => ?_)
        · try simp only [zite_eq0, ne_eq, Classical.not_not] at c79
          refine z_bipush hG dX10_ifBuyable_92 rfl ?_
          refine z_iret hG hE dX10_ifBuyable_94 trivial ?_
          refine ⟨?_, hE2, hs2⟩
          rw [zk_ifBuyable, if_neg (fun z => z c8), if_neg (fun z => z c19)]
          first | rw [if_pos c79] | rw [if_neg c79]
        · try simp only [zite_eq0, ne_eq, Classical.not_not] at c79
          refine z_aload_n (i := 0) hG dX10_ifBuyable_82 rfl rfl ?_
          refine z_get_10_6 hG dX10_ifBuyable_83 FL_X10_46 ?_
          refine z_callV hG dX10_ifBuyable_86 LV_X10_172 (ct_X6_allPrices l g hW2 hb) (by decide) rfl rfl rfl (Nat.le_of_ble_eq_true rfl) ?_
          intro v9 m9 h9
          rw [h9.1, h9.2]
          clear h9 m9 v9
          refine z_goto hG dX10_ifBuyable_89 (tgt := 94) rfl ?_
          refine z_iret hG hE dX10_ifBuyable_94 trivial ?_
          refine ⟨?_, hE2, hs2⟩
          rw [zk_ifBuyable, if_neg (fun z => z c8), if_neg (fun z => z c19)]
          first | rw [if_pos c79] | rw [if_neg c79]
      · obtain rfl : b = 1 := by omega
        have hsb : zsea (zset mem 3 0 i 1 1) := zsea_congr (fun t k h1 h2 => by simp [zset, show t ≠ 3 by omega]) hI.2.1
        refine z_iconst hG dX10_ifBuyable_47 rfl ?_
        refine z_goto hG dX10_ifBuyable_48 (tgt := 52) rfl ?_
        refine z_putB hG dX10_ifBuyable_52 FP_X10_93 rfl rfl (kk := 1) rfl (by first | exact Or.inl rfl | exact Or.inr rfl) ?_
        refine z_aload_n (i := 0) hG dX10_ifBuyable_55 rfl rfl ?_
        refine z_get_10_6 hG dX10_ifBuyable_56 FL_X10_46 ?_
        refine z_aload_n (i := 0) hG dX10_ifBuyable_59 rfl rfl ?_
        refine z_get_10_0 hG dX10_ifBuyable_60 FL_X10_12 ?_
        refine z_callV hG dX10_ifBuyable_63 LV_X10_162 (ct_X6_plan l g (zpc_setb (zIS_pc hI0 (by omega))) hsb) (by decide) rfl rfl rfl (Nat.le_of_ble_eq_true rfl) ?_
        intro v9 m1 h9
        obtain ⟨h9a, hO, hsea1, hW, hb⟩ := h9
        rw [h9a]
        clear h9a v9
        change zShop m1 (zPl0 _) at hW
        change zplb (zPl0 _) at hb
        have hO : zEq m1 _ := hO
        refine z_aload_n (i := 3) hG dX10_ifBuyable_66 rfl rfl ?_
        refine z_iload hG dX10_ifBuyable_67 rfl ?_
        refine z_putB hG dX10_ifBuyable_69 FP_X10_93 rfl rfl (kk := 1) rfl (by exact hboo.1 i (by omega) (by omega)) ?_
        have hW2 := zShop_congr (m2 := zset m1 3 0 i 1 (mem 3 0 i 1)) (fun t i' k h1 h2 => by simp [zset, show t ≠ 3 by omega]) hW
        have hs2 : zsea (zset m1 3 0 i 1 (mem 3 0 i 1)) := zsea_congr (fun t k h1 h2 => by simp [zset, show t ≠ 3 by omega]) hsea1
        have hE2 : zEq (zset m1 3 0 i 1 (mem 3 0 i 1)) mem := by
          have := zEq_set (t := 3) (s := 0) (i := i) (k := 1) (v := mem 3 0 i 1) hO
          rwa [zset_set, zset_same] at this
        generalize zset m1 3 0 i 1 (mem 3 0 i 1) = m2 at *
        refine z_aload_n (i := 0) hG dX10_ifBuyable_72 rfl rfl ?_
        refine z_get_10_6 hG dX10_ifBuyable_73 FL_X10_46 ?_
        refine z_callV hG dX10_ifBuyable_76 LV_X10_294 (ct_X6_missingSet l g) (by decide) rfl rfl rfl (Nat.le_of_ble_eq_true rfl) ?_
        intro v9 m9 h9
        rw [h9.1, h9.2]
        clear h9 m9 v9
        rw [zShop_mss hW2]
        refine z_if_ne hG dX10_ifBuyable_79 (tgt := 92) rfl (fun c79 => ?_) (fun c79 => ?_)
        · try simp only [zite_eq0, ne_eq, Classical.not_not] at c79
          refine z_bipush hG dX10_ifBuyable_92 rfl ?_
          refine z_iret hG hE dX10_ifBuyable_94 trivial ?_
          refine ⟨?_, hE2, hs2⟩
          rw [zk_ifBuyable, if_neg (fun z => z c8), if_neg (fun z => z c19)]
          first | rw [if_pos c79] | rw [if_neg c79]
        · try simp only [zite_eq0, ne_eq, Classical.not_not] at c79
          refine z_aload_n (i := 0) hG dX10_ifBuyable_82 rfl rfl ?_
          refine z_get_10_6 hG dX10_ifBuyable_83 FL_X10_46 ?_
          refine z_callV hG dX10_ifBuyable_86 LV_X10_172 (ct_X6_allPrices l g hW2 hb) (by decide) rfl rfl rfl (Nat.le_of_ble_eq_true rfl) ?_
          intro v9 m9 h9
          rw [h9.1, h9.2]
          clear h9 m9 v9
          refine z_goto hG dX10_ifBuyable_89 (tgt := 94) rfl ?_
          refine z_iret hG hE dX10_ifBuyable_94 trivial ?_
          refine ⟨?_, hE2, hs2⟩
          rw [zk_ifBuyable, if_neg (fun z => z c8), if_neg (fun z => z c19)]
          first | rw [if_pos c79] | rw [if_neg c79]
    · try simp only [zite_eq0, ne_eq, Classical.not_not] at c19
      refine z_bipush hG dX10_ifBuyable_22 rfl ?_
      refine z_iret hG hE dX10_ifBuyable_24 trivial ?_
      exact ⟨by rw [zk_ifBuyable, if_neg (fun z => z c8), if_pos c19], zEq_rf, hI.2.1⟩
  · try simp only [zite_eq0, ne_eq, Classical.not_not] at c8
    refine z_iconst hG dX10_ifBuyable_11 rfl ?_
    refine z_iret hG hE dX10_ifBuyable_12 trivial ?_
    exact ⟨by rw [zk_ifBuyable, if_pos c8], zEq_rf, hI.2.1⟩
set_option maxRecDepth 20000 in
theorem ct_X10_bestPortions (l : Launch) (g : zG) {mem : zM} {B : Int} {r a z : Int} (hI : zInv B mem) (hB : B ≤ 11900000) : zMet l g Y_X10_bestPortions [zr 0 0 0, zi r, zi a, zi z] mem (fun v m' => v = some (zi (zk_bestPortions r a z mem)) ∧ zEq m' mem ∧ zsea m') := by
  refine zMet_introF (by decide +kernel) (Nat.le_of_ble_eq_true rfl) (ls0 := [some (zr 0 0 0), some (zi r), some (zi a), some (zi z), none, none, none, none, none, none]) rfl fun X hG hE => ?_
  have hG : zGood X l g RX10 cX10_bestPortions 6 10 := hG
  have hE : zEnd X (some .int) _ := hE
  have hI0 := zInv0 hI
  obtain ⟨hday, hhan, hing, hrcp, hrec, hboo, hrow, hrow2, hstp⟩ := id hI0
  have hr0 : ∀ (t : Nat) (i k : Int), t ≠ 1 → zrecd mem t 0 i k = mem t 0 i k := fun t i k ht => zrecd_0 hI.1.1.1 ht

  have hpc := zIS_pc hI0 (by omega)
  have loop : ∀ (n : Nat) (p b l' q : Int) (m0 : zM), 0 ≤ r → r < 4 → p + n = z + 1 → 1 ≤ p → z ≤ 20 → zEq m0 (zset mem 4 0 r 1 q) → zsea m0 → zk_bestPortions r a z mem = zbp mem r n p b l' → zZ X 64 [some (zr 0 0 0), some (zi r), some (zi a), some (zi z), some (zr 4 0 r), some (zi (mem 4 0 r 1)), some (zi b), some (zi l'), some (zi p), none] [] m0 := by
    intro n
    induction n with
    | zero =>
      intro p b l' q m0 hr0' hr4 hp hp1 hz hE0 hs0 hk
      refine z_iload hG dX10_bestPortions_64 rfl ?_
      refine z_iload_n (i := 3) hG dX10_bestPortions_66 rfl rfl ?_
      refine z_icmp_gt hG dX10_bestPortions_67 (tgt := 135) rfl (fun c67 => ?_) (fun c67 => ?_)
      · refine z_aload hG dX10_bestPortions_135 rfl ?_
        refine z_iload hG dX10_bestPortions_137 rfl ?_
        refine z_put hG dX10_bestPortions_139 FP_X10_156 rfl rfl (kk := 1) rfl ?_
        refine z_iload hG dX10_bestPortions_142 rfl ?_
        refine z_iret hG hE dX10_bestPortions_144 trivial ?_
        refine ⟨by rw [hk]; rfl, ?_, zsea_congr (fun t k h1 h2 => by simp [zset, show t ≠ 4 by omega]) hs0⟩
        have := zEq_set (t := 4) (s := 0) (i := r) (k := 1) (v := mem 4 0 r 1) hE0
        rwa [zset_set, zset_same] at this
      · exact absurd c67 (by omega)
    | succ n ih =>
      intro p b l' q m0 hr0' hr4 hp hp1 hz hE0 hs0 hk
      have hE1 : zEq (zset m0 4 0 r 1 p) (zset mem 4 0 r 1 p) := by
        have := zEq_set (t := 4) (s := 0) (i := r) (k := 1) (v := p) hE0
        rwa [zset_set] at this
      have hs1 : zsea (zset m0 4 0 r 1 p) := zsea_congr (fun t k h1 h2 => by simp [zset, show t ≠ 4 by omega]) hs0
      refine z_iload hG dX10_bestPortions_64 rfl ?_
      refine z_iload_n (i := 3) hG dX10_bestPortions_66 rfl rfl ?_
      refine z_icmp_gt hG dX10_bestPortions_67 (tgt := 135) rfl (fun c67 => ?_) (fun c67 => ?_)
      · exact absurd c67 (by omega)
      · refine z_aload hG dX10_bestPortions_70 rfl ?_
        refine z_iload hG dX10_bestPortions_72 rfl ?_
        refine z_put hG dX10_bestPortions_74 FP_X10_156 rfl rfl (kk := 1) rfl ?_
        refine z_aload_n (i := 0) hG dX10_bestPortions_77 rfl rfl ?_
        refine z_get_10_6 hG dX10_bestPortions_78 FL_X10_46 ?_
        refine z_aload_n (i := 0) hG dX10_bestPortions_81 rfl rfl ?_
        refine z_get_10_0 hG dX10_bestPortions_82 FL_X10_12 ?_
        refine z_callV hG dX10_bestPortions_85 LV_X10_162 (ct_X6_plan l g (zpc_congr hE1 (zpc_setp hpc ⟨by omega, by omega⟩)) hs1) (by decide) rfl rfl rfl (Nat.le_of_ble_eq_true rfl) ?_
        intro v9 m1 h9
        obtain ⟨h9a, hO, hsea1, hW, hb⟩ := h9
        rw [h9a]
        clear h9a v9
        change zShop m1 (zPl0 _) at hW
        change zplb (zPl0 _) at hb
        have hO : zEq m1 _ := hO
        have hO := zEq_tr hO hE1
        have hW : zShop m1 (zPl0 (zset m0 4 0 r 1 p)) := hW
        have hb : zplb (zPl0 (zset m0 4 0 r 1 p)) := hb
        rw [zPl0_congr hE1] at hW hb
        refine z_aload_n (i := 0) hG dX10_bestPortions_88 rfl rfl ?_
        refine z_get_10_6 hG dX10_bestPortions_89 FL_X10_46 ?_
        refine z_callV hG dX10_bestPortions_92 LV_X10_291 (ct_X6_allLeftOver l g hW hb) (by decide) rfl rfl rfl (Nat.le_of_ble_eq_true rfl) ?_
        intro v9 m9 h9
        rw [h9.1, h9.2]
        clear h9 m9 v9
        refine z_istore hG dX10_bestPortions_95 (by decide) (ls2 := [_, _, _, _, _, _, _, _, _, _]) rfl ?_
        refine z_aload_n (i := 0) hG dX10_bestPortions_97 rfl rfl ?_
        refine z_get_10_6 hG dX10_bestPortions_98 FL_X10_46 ?_
        refine z_callV hG dX10_bestPortions_101 LV_X10_294 (ct_X6_missingSet l g) (by decide) rfl rfl rfl (Nat.le_of_ble_eq_true rfl) ?_
        intro v9 m9 h9
        rw [h9.1, h9.2]
        clear h9 m9 v9
        rw [zShop_mss hW]
        refine z_if_ne hG dX10_bestPortions_104 (tgt := 129) rfl (fun c104 => ?_) (fun c104 => ?_)
        · try simp only [zite_eq0, ne_eq, Classical.not_not] at c104
          refine z_iinc hG dX10_bestPortions_129 (by decide) rfl (by omega) (by omega) (ls2 := [_, _, _, _, _, _, _, _, _, _]) rfl ?_
          refine z_goto hG dX10_bestPortions_132 (tgt := 64) rfl ?_
          first | refine z_forget [true, true, true, true, true, true, true, true, true, false] rfl (ih (p + 1) p _ p m1 hr0' hr4 (by omega) (by omega) hz hO hsea1 ?_)  | refine z_forget [true, true, true, true, true, true, true, true, true, false] rfl (ih (p + 1) b l' p m1 hr0' hr4 (by omega) (by omega) hz hO hsea1 ?_)
          rw [hk, zbp]
          first | (rw [if_pos ⟨c104, by omega⟩]; done) | (rw [if_neg (fun h => absurd h.2 (by omega))]; done) | (rw [if_neg (fun h => absurd h.1 c104)]; done)
        · try simp only [zite_eq0, ne_eq, Classical.not_not] at c104
          refine z_iload hG dX10_bestPortions_107 rfl ?_
          refine z_bipush hG dX10_bestPortions_109 rfl ?_
          refine z_icmp_eq hG dX10_bestPortions_111 (tgt := 121) rfl (fun c111 => ?_) (fun c111 => ?_)
          · refine z_iload hG dX10_bestPortions_121 rfl ?_
            refine z_istore hG dX10_bestPortions_123 (by decide) (ls2 := [_, _, _, _, _, _, _, _, _, _]) rfl ?_
            refine z_iload hG dX10_bestPortions_125 rfl ?_
            refine z_istore hG dX10_bestPortions_127 (by decide) (ls2 := [_, _, _, _, _, _, _, _, _, _]) rfl ?_
            refine z_iinc hG dX10_bestPortions_129 (by decide) rfl (by omega) (by omega) (ls2 := [_, _, _, _, _, _, _, _, _, _]) rfl ?_
            refine z_goto hG dX10_bestPortions_132 (tgt := 64) rfl ?_
            first | refine z_forget [true, true, true, true, true, true, true, true, true, false] rfl (ih (p + 1) p _ p m1 hr0' hr4 (by omega) (by omega) hz hO hsea1 ?_)  | refine z_forget [true, true, true, true, true, true, true, true, true, false] rfl (ih (p + 1) b l' p m1 hr0' hr4 (by omega) (by omega) hz hO hsea1 ?_)
            rw [hk, zbp]
            first | (rw [if_pos ⟨c104, by omega⟩]; done) | (rw [if_neg (fun h => absurd h.2 (by omega))]; done) | (rw [if_neg (fun h => absurd h.1 c104)]; done)
          · refine z_iload hG dX10_bestPortions_114 rfl ?_
            refine z_iload hG dX10_bestPortions_116 rfl ?_
            refine z_icmp_gt hG dX10_bestPortions_118 (tgt := 129) rfl (fun c118 => ?_) (fun c118 => ?_)
            · refine z_iinc hG dX10_bestPortions_129 (by decide) rfl (by omega) (by omega) (ls2 := [_, _, _, _, _, _, _, _, _, _]) rfl ?_
              refine z_goto hG dX10_bestPortions_132 (tgt := 64) rfl ?_
              first | refine z_forget [true, true, true, true, true, true, true, true, true, false] rfl (ih (p + 1) p _ p m1 hr0' hr4 (by omega) (by omega) hz hO hsea1 ?_)  | refine z_forget [true, true, true, true, true, true, true, true, true, false] rfl (ih (p + 1) b l' p m1 hr0' hr4 (by omega) (by omega) hz hO hsea1 ?_)
              rw [hk, zbp]
              first | (rw [if_pos ⟨c104, by omega⟩]; done) | (rw [if_neg (fun h => absurd h.2 (by omega))]; done) | (rw [if_neg (fun h => absurd h.1 c104)]; done)
            · refine z_iload hG dX10_bestPortions_121 rfl ?_
              refine z_istore hG dX10_bestPortions_123 (by decide) (ls2 := [_, _, _, _, _, _, _, _, _, _]) rfl ?_
              refine z_iload hG dX10_bestPortions_125 rfl ?_
              refine z_istore hG dX10_bestPortions_127 (by decide) (ls2 := [_, _, _, _, _, _, _, _, _, _]) rfl ?_
              refine z_iinc hG dX10_bestPortions_129 (by decide) rfl (by omega) (by omega) (ls2 := [_, _, _, _, _, _, _, _, _, _]) rfl ?_
              refine z_goto hG dX10_bestPortions_132 (tgt := 64) rfl ?_
              first | refine z_forget [true, true, true, true, true, true, true, true, true, false] rfl (ih (p + 1) p _ p m1 hr0' hr4 (by omega) (by omega) hz hO hsea1 ?_)  | refine z_forget [true, true, true, true, true, true, true, true, true, false] rfl (ih (p + 1) b l' p m1 hr0' hr4 (by omega) (by omega) hz hO hsea1 ?_)
              rw [hk, zbp]
              first | (rw [if_pos ⟨c104, by omega⟩]; done) | (rw [if_neg (fun h => absurd h.2 (by omega))]; done) | (rw [if_neg (fun h => absurd h.1 c104)]; done)
  refine z_aload_n (i := 0) hG dX10_bestPortions_0 rfl rfl ?_
  refine z_get_10_0 hG dX10_bestPortions_1 FL_X10_12 ?_
  refine z_iload_n (i := 1) hG dX10_bestPortions_4 rfl rfl ?_
  refine z_callV hG dX10_bestPortions_5 LV_X10_149 (ct_X7_hasRecipe l g) (by decide) rfl rfl rfl (Nat.le_of_ble_eq_true rfl) ?_
  intro v9 m9 h9
  rw [h9.1, h9.2]
  clear h9 m9 v9
  refine z_if_ne hG dX10_bestPortions_8 (tgt := 13) rfl (fun c8 => ?_) (fun c8 => ?_)
  · try simp only [zite_eq0, ne_eq, Classical.not_not] at c8
    refine z_iload_n (i := 2) hG dX10_bestPortions_13 rfl rfl ?_
    refine z_iconst hG dX10_bestPortions_14 rfl ?_
    refine z_bipush hG dX10_bestPortions_15 rfl ?_
    refine z_callS hG dX10_bestPortions_17 LS_X10_57 (ct_X10_isWithin l g) (by decide) rfl rfl (Nat.le_of_ble_eq_true rfl) ?_
    intro v9 m9 h9
    rw [h9.1, h9.2]
    clear h9 m9 v9
    refine z_if_eq hG dX10_bestPortions_20 (tgt := 33) rfl (fun c20 => ?_) (fun c20 => ?_)
    · try simp only [zite_eq0, ne_eq, Classical.not_not] at c20
      refine z_bipush hG dX10_bestPortions_33 rfl ?_
      refine z_iret hG hE dX10_bestPortions_35 trivial ?_
      exact ⟨by rw [zk_bestPortions, if_neg (fun z => z c8), if_pos (by omega)], zEq_rf, hI.2.1⟩
    · try simp only [zite_eq0, ne_eq, Classical.not_not] at c20
      refine z_iload_n (i := 3) hG dX10_bestPortions_23 rfl rfl ?_
      refine z_iload_n (i := 2) hG dX10_bestPortions_24 rfl rfl ?_
      refine z_bipush hG dX10_bestPortions_25 rfl ?_
      refine z_callS hG dX10_bestPortions_27 LS_X10_57 (ct_X10_isWithin l g) (by decide) rfl rfl (Nat.le_of_ble_eq_true rfl) ?_
      intro v9 m9 h9
      rw [h9.1, h9.2]
      clear h9 m9 v9
      refine z_if_ne hG dX10_bestPortions_30 (tgt := 36) rfl (fun c30 => ?_) (fun c30 => ?_)
      · try simp only [zite_eq0, ne_eq, Classical.not_not] at c30
        refine z_aload_n (i := 0) hG dX10_bestPortions_36 rfl rfl ?_
        refine z_get_10_0 hG dX10_bestPortions_37 FL_X10_12 ?_
        refine z_get_7_7 hG dX10_bestPortions_40 FL_X10_136 ?_
        refine z_iload_n (i := 1) hG dX10_bestPortions_43 rfl rfl ?_
        refine z_aa_16 hG dX10_bestPortions_44 (by omega) (by omega) ?_
        refine z_astore hG dX10_bestPortions_45 (by decide) (ls2 := [_, _, _, _, _, _, _, _, _, _]) rfl ?_
        refine z_aload hG dX10_bestPortions_47 rfl ?_
        refine z_getI hG dX10_bestPortions_49 FL_X10_156 rfl rfl (kk := 1) rfl ?_
        refine z_istore hG dX10_bestPortions_52 (by decide) (ls2 := [_, _, _, _, _, _, _, _, _, _]) rfl ?_
        refine z_bipush hG dX10_bestPortions_54 rfl ?_
        refine z_istore hG dX10_bestPortions_56 (by decide) (ls2 := [_, _, _, _, _, _, _, _, _, _]) rfl ?_
        refine z_iconst hG dX10_bestPortions_58 rfl ?_
        refine z_istore hG dX10_bestPortions_59 (by decide) (ls2 := [_, _, _, _, _, _, _, _, _, _]) rfl ?_
        refine z_iload_n (i := 2) hG dX10_bestPortions_61 rfl rfl ?_
        refine z_istore hG dX10_bestPortions_62 (by decide) (ls2 := [_, _, _, _, _, _, _, _, _, _]) rfl ?_
        refine loop (z + 1 - a).toNat a (-6) 0 (mem 4 0 r 1) mem (by omega) (by omega) (by omega) (by omega) (by omega) (by rw [zset_same]; exact zEq_rf) hI.2.1 ?_
        rw [zk_bestPortions, if_neg (fun h => h c8), if_neg (by omega)]
      · try simp only [zite_eq0, ne_eq, Classical.not_not] at c30
        refine z_bipush hG dX10_bestPortions_33 rfl ?_
        refine z_iret hG hE dX10_bestPortions_35 trivial ?_
        exact ⟨by rw [zk_bestPortions, if_neg (fun z => z c8), if_pos (by omega)], zEq_rf, hI.2.1⟩
  · try simp only [zite_eq0, ne_eq, Classical.not_not] at c8
    refine z_iconst hG dX10_bestPortions_11 rfl ?_
    refine z_iret hG hE dX10_bestPortions_12 trivial ?_
    exact ⟨by rw [zk_bestPortions, if_pos c8], zEq_rf, hI.2.1⟩
