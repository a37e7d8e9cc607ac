theorem zDc_0 {m1 m2 : zM} (h : ∀ (t : Nat) (i k : Int), (t = 2 ∨ t = 3 ∨ t = 4 ∨ t = 12 ∨ t = 13 ∨ t = 14 ∨ t = 17) → m1 t 0 i k = m2 t 0 i k) : zDc m1 = zDc m2 := by
  have f : ∀ (t : Nat) (i : Int), (t = 2 ∨ t = 3 ∨ t = 4 ∨ t = 12 ∨ t = 13 ∨ t = 14 ∨ t = 17) → m1 t 0 i = m2 t 0 i := fun t i ht => by funext k; exact h t i k ht
  funext a i k
  unfold zDc
  split
  · simp only [zscal, h 2 _ _ (by omega), h 4 _ _ (by omega), h 17 _ _ (by omega)]
  · rw [f 14 i (by omega)]
  · exact h 3 i 1 (by omega)
  · exact h 3 i 2 (by omega)
  · exact h 12 i k (by omega)
  · exact h 13 i k (by omega)
  · exact h 3 i 5 (by omega)
  · exact h 3 i 6 (by omega)
  · rfl
theorem zPl0_0 {m1 m2 : zM} (h : ∀ (t : Nat) (i k : Int), (t = 2 ∨ t = 3 ∨ t = 4 ∨ t = 12 ∨ t = 13 ∨ t = 14 ∨ t = 17) → m1 t 0 i k = m2 t 0 i k) : zPl0 m1 = zPl0 m2 := by rw [zPl0, zPl0, zDc_0 h]
theorem lz_stock {B : Int} {m : zM} {i x : Int} (hI : zInv B m) (hA : zAc m) (hi : 0 ≤ i ∧ i < m 2 0 0 4) (hx : 1 ≤ x ∧ x ≤ 3000) : zKeep (B + 22000) m (zk_stock i x m).2 ∧ (((zk_stock i x m).1 = -5 ∧ 97000 < zsum 30 (m 14 0 i) ∧ zsum 30 ((zk_stock i x m).2 14 0 i) = zsum 30 (m 14 0 i)) ∨ ((zk_stock i x m).1 = zsum 30 (m 14 0 i) + x ∧ 0 ≤ zsum 30 (m 14 0 i) ∧ zsum 30 ((zk_stock i x m).2 14 0 i) = zsum 30 (m 14 0 i) + x)) := by
  have hL := hI.1.1.1
  have hk := (zki_stock (i := i) (x := x) hI).1
  have hA2 := zAc_stock (i := i) (x := x) hI hA
  have hI0 := zInv0 hI
  have h8 := hI0.2.2.1
  have hS := (zsum_le (f := m 14 0 i) (B := B) 30 (fun j j0 j1 => (hI0.2.2.2.2.2.2.1 i (by omega) (by omega)).2.1 j j0 (by omega))).1
  by_cases c : 100000 < zsum 30 (m 14 0 i) + x
  · have e : zk_stock i x m = (-5, m) := by
      unfold zk_stock
      rw [if_neg (by omega), if_neg (by omega), if_pos c]
    rw [e] at hk hA2 ⊢
    exact ⟨⟨hk, hA2, rfl, rfl, by show m 2 0 0 0 ≤ _; omega, rfl⟩, Or.inl ⟨rfl, by omega, rfl⟩⟩
  · have e : zk_stock i x m = (zsum 30 (m 14 0 i) + x, zset (zset (zrecd m) 14 0 i ((m 2 0 0 0 + m 3 0 i 0) % 30) (m 14 0 i ((m 2 0 0 0 + m 3 0 i 0) % 30) + x)) 3 0 i 11 (zwr (m 3 0 i 11 + x))) := by
      unfold zk_stock
      rw [if_neg (by omega), if_neg (by omega), if_neg c]
    rw [e] at hk hA2 ⊢
    refine ⟨⟨hk, hA2, ?_, ?_, ?_, ?_⟩, Or.inr ⟨rfl, hS, ?_⟩⟩
    · simp only [zset]
      rw [if_neg (by simp), if_neg (by simp), zrecd_0 hL (by decide)]
    · simp only [zset]
      rw [if_neg (by simp), if_neg (by simp), zrecd_0 hL (by decide)]
    · simp only [zset]
      rw [if_neg (by simp), if_neg (by simp), zrecd_0 hL (by decide)]
      omega
    · simp only [zset]
      rw [if_neg (by simp), if_neg (by simp), zrecd_o (by omega) (by omega)]
    · have e2 : (zset (zset (zrecd m) 14 0 i ((m 2 0 0 0 + m 3 0 i 0) % 30) (m 14 0 i ((m 2 0 0 0 + m 3 0 i 0) % 30) + x)) 3 0 i 11 (zwr (m 3 0 i 11 + x))) 14 0 i = fun k => if k = (m 2 0 0 0 + m 3 0 i 0) % 30 then m 14 0 i k + x else m 14 0 i k := by
        funext k
        simp only [zset]
        rw [if_neg (by simp)]
        by_cases q : k = (m 2 0 0 0 + m 3 0 i 0) % 30
        · rw [if_pos q, if_pos (by first | exact ⟨rfl, rfl, rfl, q⟩ | exact ⟨trivial, trivial, trivial, q⟩ | simpa using q), q]
        · rw [if_neg q, if_neg (by simpa using q), zrecd_0 hL (by decide)]
      refine (congrArg (zsum 30) e2).trans ?_
      exact zsum_upd (n := 30) (by omega) (by omega)
theorem lz_tot0 {B : Int} {m : zM} {n : Nat} (hI : zInv B m) (hn : m 2 0 0 4 = n) : zsum n (fun k => zsum 30 (m 14 0 k)) = zTot m := by
  have hI0 := zInv0 hI
  exact lz_ext0 8 (by have := hI0.2.2.1; omega) (fun _ _ _ => rfl) (fun j j0 j1 => (zsum_congr (f' := fun _ => 0) 30 (fun k k0 k1 => ((hI0.2.2.2.2.2.2.1 j (by omega) (by omega)).2.2.2.2.1 (by omega)).2 k k0 (by omega))).trans (lz_zsum0 30))
theorem lz_totb {B : Int} {m : zM} (hI : zInv B m) : 0 ≤ zTot m ∧ zTot m ≤ B * 240 := by
  have h := zsum_le (f := fun k => zsum 30 (m 14 0 k)) (B := B * 30) 8 (fun k k0 k1 => by
    have := zsum_le (f := m 14 0 k) (B := B) 30 (fun j j0 j1 => ((zInv0 hI).2.2.2.2.2.2.1 k k0 (by omega)).2.1 j j0 (by omega))
    exact ⟨this.1, this.2⟩)
  unfold zTot
  refine ⟨h.1, ?_⟩
  have := h.2
  omega
theorem lz_pass {B : Int} {m : zM} {d : Int} (hI : zInv B m) (hA : zAc m) (hB : B ≤ 2000000) (hd : 1 ≤ d ∧ d ≤ 4) (hday : m 2 0 0 0 ≤ 2000) : zKeep B m (zk_pass d m).2 ∧ 0 ≤ (zk_pass d m).1 ∧ (zk_pass d m).1 + zTot (zk_pass d m).2 = zTot m ∧ (zk_pass d m).2 2 0 0 0 = m 2 0 0 0 + d := by
  have hL := hI.1.1.1
  have hk := zkj_pass (d := d) hI
  have hI0 := zInv0 hI
  have htb := lz_totb hI
  have e : zk_pass d m = zpass 0 d.toNat 0 (zrecd m) := by
    unfold zk_pass
    rw [if_neg (by omega), if_neg (by omega)]
  rw [e] at hk ⊢
  have eT : zTot (zrecd m) = zTot m := by
    unfold zTot
    exact zsum_congr 8 (fun i _ _ => zsum_congr 30 (fun j _ _ => zrecd_0 hL (by decide)))
  obtain ⟨a1, a2, a3, a4, a5, a6, a7, a8⟩ := zpass_at d.toNat 0 (zrecd m) (by rw [zrecd_0 hL (by decide)]; exact hI0.1.1) (by rw [zrecd_0 hL (by decide)]; exact hI0.2.2.1.2) (zAc_F (zF_recd hL) hA) (fun i j i0 i1 j0 j1 => by rw [zrecd_0 hL (by decide)]; exact ((hI0.2.2.2.2.2.2.1 i i0 i1).2.1 j j0 j1).1) (Int.le_refl 0) (by rw [eT]; omega) (fun i i0 i1 => by
    rw [zrecd_0 hL (by decide)] at i1 ⊢
    have := hI0.2.2.1
    exact (hI0.2.2.2.2.2.2.1 i i0 (by omega)).2.2.1.2)
  rw [eT] at a4
  rw [zrecd_0 hL (by decide)] at a5
  exact ⟨⟨hk, a1, by rw [a6 4 (by decide), zrecd_0 hL (by decide)], by rw [a6 5 (by decide), zrecd_0 hL (by decide)], by rw [a5]; omega, by rw [a8 6 0 0 0 (by decide) (by decide) (by decide), zrecd_o (by omega) (by omega)]⟩, a3, by omega, by rw [a5]; omega⟩
theorem zKeep_B {B : Int} {m0 m1 : zM} (h : zKeep B m0 m1) : zKeep (B + 22000) m0 m1 := ⟨zInv_B (by omega) h.1, h.2⟩
set_option maxRecDepth 20000 in
theorem ct_L_act (l : Launch) (g : zG) {m0 m : zM} {B v w z : Int} (hI : zInv B m0) (hB2 : B ≤ 2000000) (hQ : zQ m0 m) (hA : zAc m0) (hg0 : g.2.1 (999, 0, 0) = 0) (h41 : 1 ≤ m0 2 0 0 4) (h51 : 1 ≤ m0 2 0 0 5) (hday2 : m0 2 0 0 0 ≤ 2000) : zMetA l g Y_L_act [zr 0 0 0, zi v, zi w, zi z] m (fun x m' => x = some (zi 1) ∧ ∃ m1, zKeep (B + 22000) m0 m1 ∧ zQ m1 m') 1 32 := by
  refine zMetA_intro (by decide +kernel) (Nat.le_of_ble_eq_true rfl) (ls0 := [some (zr 0 0 0), some (zi v), some (zi w), some (zi z), none, none, none, none, none, none, none, none]) rfl fun X hG hE hbud => ?_
  have hG : zGood X l g RL cL_act 8 12 := hG
  have hE : zEndA X g (some .boolean) _ := hE
  have hB : B ≤ 11900000 := by omega
  have hB0 := zInv_B0 hI
  have hI0 := zInv0 hI
  obtain ⟨hday, hhan, hing, hrcp, hrec, hboo, hrow, hrow2, hstp⟩ := id hI0
  obtain ⟨n, hn⟩ := Int.eq_ofNat_of_zero_le hing.1
  obtain ⟨i, hi⟩ : ∃ i : Int, i = zUp w (m0 2 0 0 4) := ⟨_, rfl⟩
  have hib : 0 ≤ i ∧ i < m0 2 0 0 4 := by rw [hi]; exact zUp_bd (by omega)
  obtain ⟨r, hr⟩ : ∃ r : Int, r = zUp (zshr w 3) (m0 2 0 0 5) := ⟨_, rfl⟩
  have hrb : 0 ≤ r ∧ r < m0 2 0 0 5 := by rw [hr]; exact zUp_bd (by omega)
  obtain ⟨cs, hcs⟩ : ∃ cs : Int, cs = zUp v 8 := ⟨_, rfl⟩
  have hcb : 0 ≤ cs ∧ cs < 8 := by rw [hcs]; exact zUp_bd (by decide)
  refine z_iload_n (i := 2) hG dL_act_0 rfl rfl ?_
  refine z_aload_n (i := 0) hG dL_act_1 rfl rfl ?_
  refine z_iconst hG dL_act_2 rfl ?_
  refine z_callV hG dL_act_3 LV_L_68 (cqc_1 l g hI hB hQ) (by decide) rfl rfl rfl (Nat.le_of_ble_eq_true rfl) ?_
  intro v9 mm h9
  rw [h9.1]
  replace hQ := h9.2
  clear h9 v9
  refine z_callS hG dL_act_6 LS_L_22 (ct_L_up l g (by omega)) (by decide) rfl rfl (Nat.le_of_ble_eq_true rfl) ?_
  intro v9 m9 h9
  rw [h9.1, h9.2, ← hi]
  clear h9 m9 v9
  refine z_istore hG dL_act_9 (by decide) (ls2 := [_, _, _, _, _, _, _, _, _, _, _, _]) rfl ?_
  refine z_iload_n (i := 2) hG dL_act_11 rfl rfl ?_
  refine z_iconst hG dL_act_12 rfl ?_
  refine z_ishr hG dL_act_13 ?_
  refine z_aload_n (i := 0) hG dL_act_14 rfl rfl ?_
  refine z_iconst hG dL_act_15 rfl ?_
  refine z_callV hG dL_act_16 LV_L_68 (cqc_2 l g hI hB hQ) (by decide) rfl rfl rfl (Nat.le_of_ble_eq_true rfl) ?_
  intro v9 mm h9
  rw [h9.1]
  replace hQ := h9.2
  clear h9 v9
  refine z_callS hG dL_act_19 LS_L_22 (ct_L_up l g (by omega)) (by decide) rfl rfl (Nat.le_of_ble_eq_true rfl) ?_
  intro v9 m9 h9
  rw [h9.1, h9.2, ← hr]
  clear h9 m9 v9
  refine z_istore hG dL_act_22 (by decide) (ls2 := [_, _, _, _, _, _, _, _, _, _, _, _]) rfl ?_
  refine z_iload_n (i := 1) hG dL_act_24 rfl rfl ?_
  refine z_bipush hG dL_act_25 rfl ?_
  refine z_callS hG dL_act_27 LS_L_22 (ct_L_up l g (by decide)) (by decide) rfl rfl (Nat.le_of_ble_eq_true rfl) ?_
  intro v9 m9 h9
  rw [h9.1, h9.2, ← hcs]
  clear h9 m9 v9
  rcases (show (cs < 0 ∨ 4 < cs) ∨ (cs = 0 ∨ cs = 1 ∨ cs = 2 ∨ cs = 3 ∨ cs = 4) from by omega) with zcq30 | rfl | rfl | rfl | rfl | rfl
  · refine z_tabOut hG dL_act_30 (by omega) (tgt := 484) rfl ?_
    obtain ⟨x, hx⟩ : ∃ x : Int, x = zUp z 21 := ⟨_, rfl⟩
    have hu := zUp_bd (v := z) (m := 21) (by decide)
    rw [← hx] at hu
    have e : zk_menu r x m0 = (m0 4 0 r 1, zset (zrecd m0) 4 0 r 1 x) := by
      unfold zk_menu
      rw [if_neg (by omega), if_neg (by omega)]
    refine z_aload_n (i := 0) hG dL_act_484 rfl rfl ?_
    refine z_iload hG dL_act_485 rfl ?_
    refine z_iconst hG dL_act_487 rfl ?_
    refine z_callV hG dL_act_488 LV_L_90 (cqr_2 l g hI hB hQ (by omega)) (by decide) rfl rfl rfl (Nat.le_of_ble_eq_true rfl) ?_
    intro v9 mm h9
    rw [h9.1]
    replace hQ := h9.2
    clear h9 v9
    refine z_istore hG dL_act_491 (by decide) (ls2 := [_, _, _, _, _, _, _, _, _, _, _, _]) rfl ?_
    refine z_aload_n (i := 0) hG dL_act_493 rfl rfl ?_
    refine z_iload hG dL_act_494 rfl ?_
    refine z_iload_n (i := 3) hG dL_act_496 rfl rfl ?_
    refine z_bipush hG dL_act_497 rfl ?_
    refine z_callS hG dL_act_499 LS_L_22 (ct_L_up l g (by decide)) (by decide) rfl rfl (Nat.le_of_ble_eq_true rfl) ?_
    intro v9 m9 h9
    rw [h9.1, h9.2, ← hx]
    clear h9 m9 v9
    refine z_callV hG dL_act_502 LV_L_115 (cm_menu l g hI hB hQ) (by decide) rfl rfl rfl (Nat.le_of_ble_eq_true rfl) ?_
    intro v9 mm h9
    rw [h9.1]
    replace hQ := h9.2
    clear h9 v9
    have hF := zF_menu (r := r) (p := x) hI.1.1.1
    have hK := zKeep_F (zInv_B (B' := B + 22000) (by omega) (zkj_menu (r := r) (p := x) hI)) hA hF
    rw [e] at *
    have e5 := hK.2.2.2.1
    have e17 : (zset (zrecd m0) 4 0 r 1 x) 4 0 r 1 = x := by simp [zset]
    generalize zset (zrecd m0) 4 0 r 1 x = a at *
    replace hI := hK.1
    replace hB : B + 22000 ≤ 11900000 := by omega
    refine z_iload hG dL_act_505 rfl ?_
    refine z_icmp_ne hG dL_act_507 (tgt := 530) rfl (fun zcq507 => ?_) (fun zcq507 => ?_)
    · exact absurd rfl zcq507
    · refine z_aload_n (i := 0) hG dL_act_510 rfl rfl ?_
      refine z_iload hG dL_act_511 rfl ?_
      refine z_iconst hG dL_act_513 rfl ?_
      refine z_callV hG dL_act_514 LV_L_90 (cqr_2 l g hI hB hQ (by omega)) (by decide) rfl rfl rfl (Nat.le_of_ble_eq_true rfl) ?_
      intro v9 mm h9
      rw [h9.1]
      replace hQ := h9.2
      clear h9 v9
      refine z_iload_n (i := 3) hG dL_act_517 rfl rfl ?_
      refine z_bipush hG dL_act_518 rfl ?_
      refine z_callS hG dL_act_520 LS_L_22 (ct_L_up l g (by decide)) (by decide) rfl rfl (Nat.le_of_ble_eq_true rfl) ?_
      intro v9 m9 h9
      rw [h9.1, h9.2, ← hx]
      clear h9 m9 v9
      refine z_icmp_ne hG dL_act_523 (tgt := 530) rfl (fun zcq523 => ?_) (fun zcq523 => ?_)
      · exact absurd e17 zcq523
      · refine z_iconst hG dL_act_526 rfl ?_
        refine z_goto hG dL_act_527 (tgt := 531) rfl ?_
        refine z_iretA hG hE dL_act_531 (by first | exact Or.inl rfl | exact Or.inr rfl | (show _ ∨ _; omega)) ?_
        exact ⟨rfl, _, hK, hQ⟩
  · refine z_tabIn hG dL_act_30 (by decide) (by decide) (off := 34) rfl (tgt := 64) rfl ?_
    obtain ⟨x, hx⟩ : ∃ x : Int, x = 1 + zUp z 3000 := ⟨_, rfl⟩
    have hu := zUp_bd (v := z) (m := 3000) (by decide)
    have hSb := zsum_le (f := m0 14 0 i) (B := B) 30 (fun j j0 j1 => (hrow i (by omega) (by omega)).2.1 j j0 (by omega))
    refine z_aload_n (i := 0) hG dL_act_64 rfl rfl ?_
    refine z_iload hG dL_act_65 rfl ?_
    refine z_iconst hG dL_act_67 rfl ?_
    refine z_callV hG dL_act_68 LV_L_96 (cqa_5 l g hI hB hQ (by omega)) (by decide) rfl rfl rfl (Nat.le_of_ble_eq_true rfl) ?_
    intro v9 mm h9
    rw [h9.1]
    replace hQ := h9.2
    clear h9 v9
    refine z_istore hG dL_act_71 (by decide) (ls2 := [_, _, _, _, _, _, _, _, _, _, _, _]) rfl ?_
    refine z_aload_n (i := 0) hG dL_act_73 rfl rfl ?_
    refine z_iload hG dL_act_74 rfl ?_
    refine z_iconst hG dL_act_76 rfl ?_
    refine z_iload_n (i := 3) hG dL_act_77 rfl rfl ?_
    refine z_sipush hG dL_act_78 rfl ?_
    refine z_callS hG dL_act_81 LS_L_22 (ct_L_up l g (by decide)) (by decide) rfl rfl (Nat.le_of_ble_eq_true rfl) ?_
    intro v9 m9 h9
    rw [h9.1, h9.2]
    clear h9 m9 v9
    refine z_iadd hG dL_act_84 (by omega) (by omega) ?_
    rw [← hx]
    refine z_callV hG dL_act_85 LV_L_99 (cm_stock l g hI hB hQ) (by decide) rfl rfl rfl (Nat.le_of_ble_eq_true rfl) ?_
    intro v9 mm h9
    rw [h9.1]
    replace hQ := h9.2
    clear h9 v9
    obtain ⟨hK, hst⟩ := lz_stock hI hA (i := i) (x := x) (by omega) (by omega)
    generalize zk_stock i x m0 = y at *
    replace hI := hK.1
    replace hB : B + 22000 ≤ 11900000 := by omega
    have h4 := hK.2.2.1
    refine z_istore hG dL_act_88 (by decide) (ls2 := [_, _, _, _, _, _, _, _, _, _, _, _]) rfl ?_
    refine z_iload hG dL_act_90 rfl ?_
    refine z_bipush hG dL_act_92 rfl ?_
    refine z_icmp_ne hG dL_act_94 (tgt := 124) rfl (fun zcq94 => ?_) (fun zcq94 => ?_)
    · refine z_iload hG dL_act_124 rfl ?_
      refine z_iload hG dL_act_126 rfl ?_
      refine z_iconst hG dL_act_128 rfl ?_
      refine z_iadd hG dL_act_129 (by omega) (by omega) ?_
      refine z_iload_n (i := 3) hG dL_act_130 rfl rfl ?_
      refine z_sipush hG dL_act_131 rfl ?_
      refine z_callS hG dL_act_134 LS_L_22 (ct_L_up l g (by decide)) (by decide) rfl rfl (Nat.le_of_ble_eq_true rfl) ?_
      intro v9 m9 h9
      rw [h9.1, h9.2]
      clear h9 m9 v9
      refine z_iadd hG dL_act_137 (by omega) (by omega) ?_
      refine z_icmp_ne hG dL_act_138 (tgt := 157) rfl (fun zcq138 => ?_) (fun zcq138 => ?_)
      · exfalso
        rcases hst with h | h <;> omega
      · refine z_aload_n (i := 0) hG dL_act_141 rfl rfl ?_
        refine z_iload hG dL_act_142 rfl ?_
        refine z_iconst hG dL_act_144 rfl ?_
        refine z_callV hG dL_act_145 LV_L_96 (cqa_5 l g hI hB hQ (by omega)) (by decide) rfl rfl rfl (Nat.le_of_ble_eq_true rfl) ?_
        intro v9 mm h9
        rw [h9.1]
        replace hQ := h9.2
        clear h9 v9
        refine z_iload hG dL_act_148 rfl ?_
        refine z_icmp_ne hG dL_act_150 (tgt := 157) rfl (fun zcq150 => ?_) (fun zcq150 => ?_)
        · exfalso
          rcases hst with h | h <;> omega
        · refine z_iconst hG dL_act_153 rfl ?_
          refine z_goto hG dL_act_154 (tgt := 158) rfl ?_
          refine z_iretA hG hE dL_act_158 (by first | exact Or.inl rfl | exact Or.inr rfl | (show _ ∨ _; omega)) ?_
          exact ⟨rfl, y.2, hK, hQ⟩
    · refine z_iload hG dL_act_97 rfl ?_
      refine z_ldc hG dL_act_99 KC_L_102 rfl ?_
      refine z_icmp_le hG dL_act_101 (tgt := 120) rfl (fun zcq101 => ?_) (fun zcq101 => ?_)
      · exfalso
        rcases hst with h | h <;> omega
      · refine z_aload_n (i := 0) hG dL_act_104 rfl rfl ?_
        refine z_iload hG dL_act_105 rfl ?_
        refine z_iconst hG dL_act_107 rfl ?_
        refine z_callV hG dL_act_108 LV_L_96 (cqa_5 l g hI hB hQ (by omega)) (by decide) rfl rfl rfl (Nat.le_of_ble_eq_true rfl) ?_
        intro v9 mm h9
        rw [h9.1]
        replace hQ := h9.2
        clear h9 v9
        refine z_iload hG dL_act_111 rfl ?_
        refine z_icmp_ne hG dL_act_113 (tgt := 120) rfl (fun zcq113 => ?_) (fun zcq113 => ?_)
        · exfalso
          rcases hst with h | h <;> omega
        · refine z_iconst hG dL_act_116 rfl ?_
          refine z_goto hG dL_act_117 (tgt := 158) rfl ?_
          refine z_iretA hG hE dL_act_158 (by first | exact Or.inl rfl | exact Or.inr rfl | (show _ ∨ _; omega)) ?_
          exact ⟨rfl, y.2, hK, hQ⟩
  · refine z_tabIn hG dL_act_30 (by decide) (by decide) (off := 129) rfl (tgt := 159) rfl ?_
    refine z_aload_n (i := 0) hG dL_act_159 rfl rfl ?_
    refine z_callA hG dL_act_160 LS_L_103 (ct_L_cooks l g hI hB2 hQ hA hg0) hbud (by decide) rfl rfl (Nat.le_of_ble_eq_true rfl) ?_
    intro v9 mm h9
    obtain ⟨h91, m1, hK, hQ⟩ := h9
    rw [h91]
    have hG := zGood_add hG hbud
    have hE := zEndA_add hE hbud
    refine z_iretA hG hE dL_act_163 (by first | exact Or.inl rfl | exact Or.inr rfl | (show _ ∨ _; omega)) ?_
    exact ⟨rfl, _, hK, hQ⟩
  · refine z_tabIn hG dL_act_30 (by decide) (by decide) (off := 134) rfl (tgt := 164) rfl ?_
    obtain ⟨x, hx⟩ : ∃ x : Int, x = 1 + zUp z 4 := ⟨_, rfl⟩
    have hu := zUp_bd (v := z) (m := 4) (by decide)
    have htn := lz_tot0 (n := n) hI hn
    have htb := lz_totb hI
    have loop1 : ∀ (N k : Nat) (mm : zM) (v10 v11 : Option zV), k + N = n → zQ m0 mm → zZ X 186 [some (zr 0 0 0), some (zi v), some (zi w), some (zi z), some (zi i), some (zi r), some (zi x), some (zi (m0 2 0 0 0)), some (zi (zsum k (fun k => zsum 30 (m0 14 0 k)))), some (zi k), v10, v11] [] mm := by
      intro N
      induction N with
      | zero =>
        intro k mm v10 v11 hk hQ
        have e3 : k = n := by omega
        rw [e3]
        refine z_iload hG dL_act_186 rfl ?_
        refine z_aload_n (i := 0) hG dL_act_188 rfl rfl ?_
        refine z_iconst hG dL_act_189 rfl ?_
        refine z_callV hG dL_act_190 LV_L_68 (cqc_1 l g hI hB hQ) (by decide) rfl rfl rfl (Nat.le_of_ble_eq_true rfl) ?_
        intro v9 mm h9
        rw [h9.1]
        replace hQ := h9.2
        clear h9 v9
        refine z_icmp_ge hG dL_act_193 (tgt := 214) rfl (fun zcq193 => ?_) (fun zcq193 => ?_)
        · refine z_aload_n (i := 0) hG dL_act_214 rfl rfl ?_
          refine z_iload hG dL_act_215 rfl ?_
          refine z_callV hG dL_act_217 LV_L_106 (cm_pass l g hI hB hQ) (by decide) rfl rfl rfl (Nat.le_of_ble_eq_true rfl) ?_
          intro v9 mm h9
          rw [h9.1]
          replace hQ := h9.2
          clear h9 v9
          rw [htn]
          obtain ⟨hK, hp0, hp1, hp2⟩ := lz_pass (d := x) hI hA hB2 (by omega) hday2
          generalize zk_pass x m0 = y at *
          have hI := hK.1
          have h4 := hK.2.2.1
          have hro := (zInv0 hI).2.2.2.2.2.2.1
          have htn2 := lz_tot0 (n := n) hI (by omega)
          have loop2 : ∀ (N k : Nat) (mm : zM), k + N = n → zQ y.2 mm → zZ X 228 [some (zr 0 0 0), some (zi v), some (zi w), some (zi z), some (zi i), some (zi r), some (zi x), some (zi (m0 2 0 0 0)), some (zi (zTot m0)), some (zi y.1), some (zi (zsum k (fun k => zsum 30 (y.2 14 0 k)))), some (zi k)] [] mm := by
            intro N
            induction N with
            | zero =>
              intro k mm hk hQ
              have e3 : k = n := by omega
              rw [e3]
              refine z_iload hG dL_act_228 rfl ?_
              refine z_aload_n (i := 0) hG dL_act_230 rfl rfl ?_
              refine z_iconst hG dL_act_231 rfl ?_
              refine z_callV hG dL_act_232 LV_L_68 (cqc_1 l g hI hB hQ) (by decide) rfl rfl rfl (Nat.le_of_ble_eq_true rfl) ?_
              intro v9 mm h9
              rw [h9.1]
              replace hQ := h9.2
              clear h9 v9
              refine z_icmp_ge hG dL_act_235 (tgt := 309) rfl (fun zcq235 => ?_) (fun zcq235 => ?_)
              · refine z_aload_n (i := 0) hG dL_act_309 rfl rfl ?_
                refine z_iconst hG dL_act_310 rfl ?_
                refine z_callV hG dL_act_311 LV_L_68 (cqc_0 l g hI hB hQ) (by decide) rfl rfl rfl (Nat.le_of_ble_eq_true rfl) ?_
                intro v9 mm h9
                rw [h9.1]
                replace hQ := h9.2
                clear h9 v9
                refine z_iload hG dL_act_314 rfl ?_
                refine z_iload hG dL_act_316 rfl ?_
                refine z_iadd hG dL_act_318 (by omega) (by omega) ?_
                refine z_icmp_ne hG dL_act_319 (tgt := 341) rfl (fun zcq319 => ?_) (fun zcq319 => ?_)
                · exfalso; omega
                · refine z_iload hG dL_act_322 rfl ?_
                  refine z_if_lt hG dL_act_324 (tgt := 341) rfl (fun zcq324 => ?_) (fun zcq324 => ?_)
                  · exfalso; omega
                  · refine z_iload hG dL_act_327 rfl ?_
                    refine z_iload hG dL_act_329 rfl ?_
                    refine z_iload hG dL_act_331 rfl ?_
                    refine z_iadd hG dL_act_333 (by omega) (by omega) ?_
                    refine z_icmp_ne hG dL_act_334 (tgt := 341) rfl (fun zcq334 => ?_) (fun zcq334 => ?_)
                    · exfalso; omega
                    · refine z_iconst hG dL_act_337 rfl ?_
                      refine z_goto hG dL_act_338 (tgt := 342) rfl ?_
                      refine z_iretA hG hE dL_act_342 (by first | exact Or.inl rfl | exact Or.inr rfl | (show _ ∨ _; omega)) ?_
                      exact ⟨rfl, y.2, zKeep_B hK, hQ⟩
              · exact absurd zcq235 (by omega)
            | succ N ih =>
              intro k mm hk hQ
              have hb := (zsum_le (f := fun i => zsum 30 (y.2 14 0 i)) (B := B * 30) k (fun j j0 j1 => zsum_le (f := y.2 14 0 j) (B := B) 30 (fun q q0 q1 => (hro j j0 (by omega)).2.1 q q0 (by omega))))
              have hb2 := zsum_le (f := y.2 14 0 k) (B := B) 30 (fun q q0 q1 => (hro k (by omega) (by omega)).2.1 q q0 (by omega))
              have hbm : B * 30 * (k : Int) ≤ B * 30 * 8 := Int.mul_le_mul_of_nonneg_left (by omega) (by omega)
              have hkb := (hro k (by omega) (by omega)).2.2.1
              have hlots := lz_lots (f := y.2 14 0 k) (t := y.2 2 0 0 0) (kept := y.2 3 0 k 0) (fun j j0 j1 => ((hro k (by omega) (by omega)).2.1 j j0 j1).1) (by omega) ⟨(hro k (by omega) (by omega)).2.2.2.2.2 (by omega), (hro k (by omega) (by omega)).2.2.1.2⟩ ((hK.2.1 k (by omega) (by omega)).2)
              refine z_iload hG dL_act_228 rfl ?_
              refine z_aload_n (i := 0) hG dL_act_230 rfl rfl ?_
              refine z_iconst hG dL_act_231 rfl ?_
              refine z_callV hG dL_act_232 LV_L_68 (cqc_1 l g hI hB hQ) (by decide) rfl rfl rfl (Nat.le_of_ble_eq_true rfl) ?_
              intro v9 mm h9
              rw [h9.1]
              replace hQ := h9.2
              clear h9 v9
              refine z_icmp_ge hG dL_act_235 (tgt := 309) rfl (fun zcq235 => ?_) (fun zcq235 => ?_)
              · exact absurd zcq235 (by omega)
              · refine z_iload hG dL_act_238 rfl ?_
                refine z_aload_n (i := 0) hG dL_act_240 rfl rfl ?_
                refine z_iload hG dL_act_241 rfl ?_
                refine z_iconst hG dL_act_243 rfl ?_
                refine z_callV hG dL_act_244 LV_L_96 (cqa_5 l g hI hB hQ (by omega)) (by decide) rfl rfl rfl (Nat.le_of_ble_eq_true rfl) ?_
                intro v9 mm h9
                rw [h9.1]
                replace hQ := h9.2
                clear h9 v9
                refine z_iadd hG dL_act_247 (by omega) (by omega) ?_
                refine z_istore hG dL_act_248 (by decide) (ls2 := [_, _, _, _, _, _, _, _, _, _, _, _]) rfl ?_
                refine z_aload_n (i := 0) hG dL_act_250 rfl rfl ?_
                refine z_iload hG dL_act_251 rfl ?_
                refine z_bipush hG dL_act_253 rfl ?_
                refine z_callV hG dL_act_255 LV_L_96 (cqa_6 l g hI hB hQ (by omega)) (by decide) rfl rfl rfl (Nat.le_of_ble_eq_true rfl) ?_
                intro v9 mm h9
                rw [h9.1]
                replace hQ := h9.2
                clear h9 v9
                refine z_if_le hG dL_act_258 (tgt := 303) rfl (fun zcq258 => ?_) (fun zcq258 => ?_)
                · refine z_iinc hG dL_act_303 (by decide) rfl (by omega) (by omega) (ls2 := [_, _, _, _, _, _, _, _, _, _, _, _]) rfl ?_
                  refine z_goto hG dL_act_306 (tgt := 228) rfl ?_
                  exact ih (k + 1) mm (by omega) hQ
                · refine z_aload_n (i := 0) hG dL_act_261 rfl rfl ?_
                  refine z_iload hG dL_act_262 rfl ?_
                  refine z_bipush hG dL_act_264 rfl ?_
                  refine z_callV hG dL_act_266 LV_L_96 (cqa_7 l g hI hB hQ (by omega)) (by decide) rfl rfl rfl (Nat.le_of_ble_eq_true rfl) ?_
                  intro v9 mm h9
                  rw [h9.1]
                  replace hQ := h9.2
                  clear h9 v9
                  refine z_aload_n (i := 0) hG dL_act_269 rfl rfl ?_
                  refine z_iconst hG dL_act_270 rfl ?_
                  refine z_callV hG dL_act_271 LV_L_68 (cqc_0 l g hI hB hQ) (by decide) rfl rfl rfl (Nat.le_of_ble_eq_true rfl) ?_
                  intro v9 mm h9
                  rw [h9.1]
                  replace hQ := h9.2
                  clear h9 v9
                  refine z_icmp_le hG dL_act_274 (tgt := 301) rfl (fun zcq274 => ?_) (fun zcq274 => ?_)
                  · exfalso
                    rcases hlots.2.2.2 with q | q <;> omega
                  · refine z_aload_n (i := 0) hG dL_act_277 rfl rfl ?_
                    refine z_iload hG dL_act_278 rfl ?_
                    refine z_bipush hG dL_act_280 rfl ?_
                    refine z_callV hG dL_act_282 LV_L_96 (cqa_7 l g hI hB hQ (by omega)) (by decide) rfl rfl rfl (Nat.le_of_ble_eq_true rfl) ?_
                    intro v9 mm h9
                    rw [h9.1]
                    replace hQ := h9.2
                    clear h9 v9
                    refine z_aload_n (i := 0) hG dL_act_285 rfl rfl ?_
                    refine z_iconst hG dL_act_286 rfl ?_
                    refine z_callV hG dL_act_287 LV_L_68 (cqc_0 l g hI hB hQ) (by decide) rfl rfl rfl (Nat.le_of_ble_eq_true rfl) ?_
                    intro v9 mm h9
                    rw [h9.1]
                    replace hQ := h9.2
                    clear h9 v9
                    refine z_aload_n (i := 0) hG dL_act_290 rfl rfl ?_
                    refine z_iload hG dL_act_291 rfl ?_
                    refine z_iconst hG dL_act_293 rfl ?_
                    refine z_callV hG dL_act_294 LV_L_96 (cqa_0 l g hI hB hQ (by omega)) (by decide) rfl rfl rfl (Nat.le_of_ble_eq_true rfl) ?_
                    intro v9 mm h9
                    rw [h9.1]
                    replace hQ := h9.2
                    clear h9 v9
                    refine z_iadd hG dL_act_297 (by omega) (by omega) ?_
                    refine z_icmp_le hG dL_act_298 (tgt := 303) rfl (fun zcq298 => ?_) (fun zcq298 => ?_)
                    · refine z_iinc hG dL_act_303 (by decide) rfl (by omega) (by omega) (ls2 := [_, _, _, _, _, _, _, _, _, _, _, _]) rfl ?_
                      refine z_goto hG dL_act_306 (tgt := 228) rfl ?_
                      exact ih (k + 1) mm (by omega) hQ
                    · exfalso
                      rcases hlots.2.2.2 with q | q <;> omega
          refine z_istore hG dL_act_220 (by decide) (ls2 := [_, _, _, _, _, _, _, _, _, _, _, _]) rfl ?_
          refine z_iconst hG dL_act_222 rfl ?_
          refine z_istore hG dL_act_223 (by decide) (ls2 := [_, _, _, _, _, _, _, _, _, _, _, _]) rfl ?_
          refine z_iconst hG dL_act_225 rfl ?_
          refine z_istore hG dL_act_226 (by decide) (ls2 := [_, _, _, _, _, _, _, _, _, _, _, _]) rfl ?_
          exact loop2 n 0 mm (by omega) hQ
        · exact absurd zcq193 (by omega)
      | succ N ih =>
        intro k mm v10 v11 hk hQ
        have hb := (zsum_le (f := fun i => zsum 30 (m0 14 0 i)) (B := B * 30) k (fun j j0 j1 => zsum_le (f := m0 14 0 j) (B := B) 30 (fun q q0 q1 => (hrow j j0 (by omega)).2.1 q q0 (by omega))))
        have hb2 := zsum_le (f := m0 14 0 k) (B := B) 30 (fun q q0 q1 => (hrow k (by omega) (by omega)).2.1 q q0 (by omega))
        have hbm : B * 30 * (k : Int) ≤ B * 30 * 8 := Int.mul_le_mul_of_nonneg_left (by omega) (by omega)
        refine z_iload hG dL_act_186 rfl ?_
        refine z_aload_n (i := 0) hG dL_act_188 rfl rfl ?_
        refine z_iconst hG dL_act_189 rfl ?_
        refine z_callV hG dL_act_190 LV_L_68 (cqc_1 l g hI hB hQ) (by decide) rfl rfl rfl (Nat.le_of_ble_eq_true rfl) ?_
        intro v9 mm h9
        rw [h9.1]
        replace hQ := h9.2
        clear h9 v9
        refine z_icmp_ge hG dL_act_193 (tgt := 214) rfl (fun zcq193 => ?_) (fun zcq193 => ?_)
        · exact absurd zcq193 (by omega)
        · refine z_iload hG dL_act_196 rfl ?_
          refine z_aload_n (i := 0) hG dL_act_198 rfl rfl ?_
          refine z_iload hG dL_act_199 rfl ?_
          refine z_iconst hG dL_act_201 rfl ?_
          refine z_callV hG dL_act_202 LV_L_96 (cqa_5 l g hI hB hQ (by omega)) (by decide) rfl rfl rfl (Nat.le_of_ble_eq_true rfl) ?_
          intro v9 mm h9
          rw [h9.1]
          replace hQ := h9.2
          clear h9 v9
          refine z_iadd hG dL_act_205 (by omega) (by omega) ?_
          refine z_istore hG dL_act_206 (by decide) (ls2 := [_, _, _, _, _, _, _, _, _, _, _, _]) rfl ?_
          refine z_iinc hG dL_act_208 (by decide) rfl (by omega) (by omega) (ls2 := [_, _, _, _, _, _, _, _, _, _, _, _]) rfl ?_
          refine z_goto hG dL_act_211 (tgt := 186) rfl ?_
          exact ih (k + 1) mm v10 v11 (by omega) hQ
    refine z_iconst hG dL_act_164 rfl ?_
    refine z_iload_n (i := 3) hG dL_act_165 rfl rfl ?_
    refine z_iconst hG dL_act_166 rfl ?_
    refine z_callS hG dL_act_167 LS_L_22 (ct_L_up l g (by decide)) (by decide) rfl rfl (Nat.le_of_ble_eq_true rfl) ?_
    intro v9 m9 h9
    rw [h9.1, h9.2]
    clear h9 m9 v9
    refine z_iadd hG dL_act_170 (by omega) (by omega) ?_
    rw [← hx]
    refine z_istore hG dL_act_171 (by decide) (ls2 := [_, _, _, _, _, _, _, _, _, _, _, _]) rfl ?_
    refine z_aload_n (i := 0) hG dL_act_173 rfl rfl ?_
    refine z_iconst hG dL_act_174 rfl ?_
    refine z_callV hG dL_act_175 LV_L_68 (cqc_0 l g hI hB hQ) (by decide) rfl rfl rfl (Nat.le_of_ble_eq_true rfl) ?_
    intro v9 mm h9
    rw [h9.1]
    replace hQ := h9.2
    clear h9 v9
    refine z_istore hG dL_act_178 (by decide) (ls2 := [_, _, _, _, _, _, _, _, _, _, _, _]) rfl ?_
    refine z_iconst hG dL_act_180 rfl ?_
    refine z_istore hG dL_act_181 (by decide) (ls2 := [_, _, _, _, _, _, _, _, _, _, _, _]) rfl ?_
    refine z_iconst hG dL_act_183 rfl ?_
    refine z_istore hG dL_act_184 (by decide) (ls2 := [_, _, _, _, _, _, _, _, _, _, _, _]) rfl ?_
    exact loop1 n 0 mm _ _ (by omega) hQ
  · refine z_tabIn hG dL_act_30 (by decide) (by decide) (off := 313) rfl (tgt := 343) rfl ?_
    obtain ⟨x, hx⟩ : ∃ x : Int, x = zUp z 501 := ⟨_, rfl⟩
    have hu := zUp_bd (v := z) (m := 501) (by decide)
    rw [← hx] at hu
    have e : zk_amount r i x m0 = (m0 17 0 r i, zset (zrecd m0) 17 0 r i x) := by
      unfold zk_amount
      rw [if_neg (by omega), if_neg (by omega)]
    refine z_aload_n (i := 0) hG dL_act_343 rfl rfl ?_
    refine z_iload hG dL_act_344 rfl ?_
    refine z_iconst hG dL_act_346 rfl ?_
    refine z_iload hG dL_act_347 rfl ?_
    refine z_iadd hG dL_act_349 (by omega) (by omega) ?_
    refine z_callV hG dL_act_350 LV_L_90 (cqr_i l g hI hB hQ (by omega) (by omega)) (by decide) rfl rfl rfl (Nat.le_of_ble_eq_true rfl) ?_
    intro v9 mm h9
    rw [h9.1]
    replace hQ := h9.2
    clear h9 v9
    refine z_istore hG dL_act_353 (by decide) (ls2 := [_, _, _, _, _, _, _, _, _, _, _, _]) rfl ?_
    refine z_aload_n (i := 0) hG dL_act_355 rfl rfl ?_
    refine z_iload hG dL_act_356 rfl ?_
    refine z_iload hG dL_act_358 rfl ?_
    refine z_iload_n (i := 3) hG dL_act_360 rfl rfl ?_
    refine z_sipush hG dL_act_361 rfl ?_
    refine z_callS hG dL_act_364 LS_L_22 (ct_L_up l g (by decide)) (by decide) rfl rfl (Nat.le_of_ble_eq_true rfl) ?_
    intro v9 m9 h9
    rw [h9.1, h9.2, ← hx]
    clear h9 m9 v9
    refine z_callV hG dL_act_367 LV_L_109 (cm_amount l g hI hB hQ) (by decide) rfl rfl rfl (Nat.le_of_ble_eq_true rfl) ?_
    intro v9 mm h9
    rw [h9.1]
    replace hQ := h9.2
    clear h9 v9
    have hF := zF_amount (r := r) (i := i) (x := x) hI.1.1.1
    have hK := zKeep_F (zInv_B (B' := B + 22000) (by omega) (zkj_amount (r := r) (i := i) (x := x) hI)) hA hF
    rw [e] at *
    have e5 := hK.2.2.2.1
    have e17 : (zset (zrecd m0) 17 0 r i x) 17 0 r i = x := by simp [zset]
    generalize zset (zrecd m0) 17 0 r i x = a at *
    replace hI := hK.1
    replace hB : B + 22000 ≤ 11900000 := by omega
    refine z_iload hG dL_act_370 rfl ?_
    refine z_icmp_ne hG dL_act_372 (tgt := 399) rfl (fun zcq372 => ?_) (fun zcq372 => ?_)
    · exact absurd rfl zcq372
    · refine z_aload_n (i := 0) hG dL_act_375 rfl rfl ?_
      refine z_iload hG dL_act_376 rfl ?_
      refine z_iconst hG dL_act_378 rfl ?_
      refine z_iload hG dL_act_379 rfl ?_
      refine z_iadd hG dL_act_381 (by omega) (by omega) ?_
      refine z_callV hG dL_act_382 LV_L_90 (cqr_i l g hI hB hQ (by omega) (by omega)) (by decide) rfl rfl rfl (Nat.le_of_ble_eq_true rfl) ?_
      intro v9 mm h9
      rw [h9.1]
      replace hQ := h9.2
      clear h9 v9
      refine z_iload_n (i := 3) hG dL_act_385 rfl rfl ?_
      refine z_sipush hG dL_act_386 rfl ?_
      refine z_callS hG dL_act_389 LS_L_22 (ct_L_up l g (by decide)) (by decide) rfl rfl (Nat.le_of_ble_eq_true rfl) ?_
      intro v9 m9 h9
      rw [h9.1, h9.2, ← hx]
      clear h9 m9 v9
      refine z_icmp_ne hG dL_act_392 (tgt := 399) rfl (fun zcq392 => ?_) (fun zcq392 => ?_)
      · exact absurd e17 zcq392
      · refine z_iconst hG dL_act_395 rfl ?_
        refine z_goto hG dL_act_396 (tgt := 400) rfl ?_
        refine z_iretA hG hE dL_act_400 (by first | exact Or.inl rfl | exact Or.inr rfl | (show _ ∨ _; omega)) ?_
        exact ⟨rfl, _, hK, hQ⟩
  · refine z_tabIn hG dL_act_30 (by decide) (by decide) (off := 371) rfl (tgt := 401) rfl ?_
    obtain ⟨x, hx⟩ : ∃ x : Int, x = zUp z 2 := ⟨_, rfl⟩
    have hu := zUp_bd (v := z) (m := 2) (by decide)
    rw [← hx] at hu
    have e : zk_buyable i x m0 = (m0 3 0 i 1, zset (zrecd m0) 3 0 i 1 x) := by
      unfold zk_buyable
      rw [if_neg (by omega), if_neg (by omega)]
    have e2 : zk_ifBuyable i x m0 = if zmss (zPl0 (zset (zrecd m0) 3 0 i 1 x) 6) 8 = 0 then zsum 8 (zPl0 (zset (zrecd m0) 3 0 i 1 x) 7) else -6 := by
      unfold zk_ifBuyable
      rw [if_neg (by omega), if_neg (by omega), zPl0_0 (m1 := zset m0 3 0 i 1 x) (m2 := zset (zrecd m0) 3 0 i 1 x)]
      intro t k j ht
      simp only [zset]
      rw [zrecd_0 hI.1.1.1 (by omega)]
    refine z_iload_n (i := 3) hG dL_act_401 rfl rfl ?_
    refine z_iconst hG dL_act_402 rfl ?_
    refine z_callS hG dL_act_403 LS_L_22 (ct_L_up l g (by decide)) (by decide) rfl rfl (Nat.le_of_ble_eq_true rfl) ?_
    intro v9 m9 h9
    rw [h9.1, h9.2, ← hx]
    clear h9 m9 v9
    refine z_istore hG dL_act_406 (by decide) (ls2 := [_, _, _, _, _, _, _, _, _, _, _, _]) rfl ?_
    refine z_aload_n (i := 0) hG dL_act_408 rfl rfl ?_
    refine z_iload hG dL_act_409 rfl ?_
    refine z_iload hG dL_act_411 rfl ?_
    refine z_callV hG dL_act_413 LV_L_112 (cq_ifBuyable l g hI hB hQ) (by decide) rfl rfl rfl (Nat.le_of_ble_eq_true rfl) ?_
    intro v9 mm h9
    rw [h9.1, e2]
    replace hQ := h9.2
    clear h9 v9
    refine z_istore hG dL_act_416 (by decide) (ls2 := [_, _, _, _, _, _, _, _, _, _, _, _]) rfl ?_
    refine z_aload_n (i := 0) hG dL_act_418 rfl rfl ?_
    refine z_iload hG dL_act_419 rfl ?_
    refine z_iconst hG dL_act_421 rfl ?_
    refine z_callV hG dL_act_422 LV_L_96 (cqa_1 l g hI hB hQ (by omega)) (by decide) rfl rfl rfl (Nat.le_of_ble_eq_true rfl) ?_
    intro v9 mm h9
    rw [h9.1]
    replace hQ := h9.2
    clear h9 v9
    refine z_istore hG dL_act_425 (by decide) (ls2 := [_, _, _, _, _, _, _, _, _, _, _, _]) rfl ?_
    refine z_aload_n (i := 0) hG dL_act_427 rfl rfl ?_
    refine z_iload hG dL_act_428 rfl ?_
    refine z_iload hG dL_act_430 rfl ?_
    refine z_callV hG dL_act_432 LV_L_37 (cm_buyable l g hI hB hQ) (by decide) rfl rfl rfl (Nat.le_of_ble_eq_true rfl) ?_
    intro v9 mm h9
    rw [h9.1]
    replace hQ := h9.2
    clear h9 v9
    have hF := zF_buyable (i := i) (b := x) hI.1.1.1
    have hK := zKeep_F (zInv_B (B' := B + 22000) (by omega) (zkj_buyable (i := i) (b := x) hI)) hA hF
    rw [e] at *
    have e4 := hK.2.2.1
    have e17 : (zset (zrecd m0) 3 0 i 1 x) 3 0 i 1 = x := by simp [zset]
    generalize zset (zrecd m0) 3 0 i 1 x = a at *
    replace hI := hK.1
    replace hB : B + 22000 ≤ 11900000 := by omega
    refine z_iload hG dL_act_435 rfl ?_
    refine z_icmp_ne hG dL_act_437 (tgt := 452) rfl (fun zcq437 => ?_) (fun zcq437 => ?_)
    · exact absurd rfl zcq437
    · refine z_aload_n (i := 0) hG dL_act_440 rfl rfl ?_
      refine z_iload hG dL_act_441 rfl ?_
      refine z_iconst hG dL_act_443 rfl ?_
      refine z_callV hG dL_act_444 LV_L_96 (cqa_1 l g hI hB hQ (by omega)) (by decide) rfl rfl rfl (Nat.le_of_ble_eq_true rfl) ?_
      intro v9 mm h9
      rw [h9.1]
      replace hQ := h9.2
      clear h9 v9
      refine z_iload hG dL_act_447 rfl ?_
      refine z_icmp_eq hG dL_act_449 (tgt := 454) rfl (fun zcq449 => ?_) (fun zcq449 => ?_)
      · refine z_iload hG dL_act_454 rfl ?_
        refine z_aload_n (i := 0) hG dL_act_456 rfl rfl ?_
        refine z_bipush hG dL_act_457 rfl ?_
        refine z_callV hG dL_act_459 LV_L_68 (cqc_6 l g hI hB hQ) (by decide) rfl rfl rfl (Nat.le_of_ble_eq_true rfl) ?_
        intro v9 mm h9
        rw [h9.1]
        replace hQ := h9.2
        clear h9 v9
        refine z_if_ne hG dL_act_462 (tgt := 473) rfl (fun zcq462 => ?_) (fun zcq462 => ?_)
        · try simp only [zite_eq0, ne_eq, Classical.not_not] at zcq462
          refine z_bipush hG dL_act_473 rfl ?_
          refine z_icmp_ne hG dL_act_475 (tgt := 482) rfl (fun zcq475 => ?_) (fun zcq475 => ?_)
          · first | exact absurd (if_neg zcq462) zcq475 | exact absurd (if_pos zcq462) zcq475
          · refine z_iconst hG dL_act_478 rfl ?_
            refine z_goto hG dL_act_479 (tgt := 483) rfl ?_
            refine z_iretA hG hE dL_act_483 (by first | exact Or.inl rfl | exact Or.inr rfl | (show _ ∨ _; omega)) ?_
            exact ⟨rfl, _, hK, hQ⟩
        · try simp only [zite_eq0, ne_eq, Classical.not_not] at zcq462
          refine z_aload_n (i := 0) hG dL_act_465 rfl rfl ?_
          refine z_iconst hG dL_act_466 rfl ?_
          refine z_callV hG dL_act_467 LV_L_68 (cqc_4 l g hI hB hQ) (by decide) rfl rfl rfl (Nat.le_of_ble_eq_true rfl) ?_
          intro v9 mm h9
          rw [h9.1]
          replace hQ := h9.2
          clear h9 v9
          refine z_goto hG dL_act_470 (tgt := 475) rfl ?_
          refine z_icmp_ne hG dL_act_475 (tgt := 482) rfl (fun zcq475 => ?_) (fun zcq475 => ?_)
          · first | exact absurd (if_neg zcq462) zcq475 | exact absurd (if_pos zcq462) zcq475
          · refine z_iconst hG dL_act_478 rfl ?_
            refine z_goto hG dL_act_479 (tgt := 483) rfl ?_
            refine z_iretA hG hE dL_act_483 (by first | exact Or.inl rfl | exact Or.inr rfl | (show _ ∨ _; omega)) ?_
            exact ⟨rfl, _, hK, hQ⟩
      · exact absurd e17 zcq449
