def ad_A (v w i : Int) : Int := if zUp (zshr v i) 3 = 0 then 0 else 1 + zUp (zshr w (2 * i)) 500
def ad_D (v e : Int) : Int := 1 + zUp (zshr v (3 * e)) 240
def ad_H (w e : Int) : Int := zUp (zshr w (4 * e)) 4
def ad_G (v e : Int) : Int := zUp (zshr v (2 * e + 5)) 2
def ad_B (w e a : Int) : Int := zand (zshr w (5 * e + a)) 1
def ad_S (v w : Int) (n e : Nat) : List Int := zTxS (ad_D v) (ad_H w) (ad_G v) (ad_B w) n e
def ad_T (v w base : Int) (n st : Nat) : List Int := zdig base ++ (zTxA (ad_A v w) n ++ ad_S v w st 0)
theorem ad_Ab {v w i : Int} : 0 ≤ ad_A v w i ∧ ad_A v w i ≤ 500 := by
  unfold ad_A
  have := zUp_bd (v := zshr w (2 * i)) (m := 500) (by decide)
  split <;> omega
theorem ad_Db {v e : Int} : 1 ≤ ad_D v e ∧ ad_D v e ≤ 240 := by
  unfold ad_D
  have := zUp_bd (v := zshr v (3 * e)) (m := 240) (by decide)
  omega
theorem ad_Hb {w e : Int} : 0 ≤ ad_H w e ∧ ad_H w e ≤ 3 := by
  unfold ad_H
  have := zUp_bd (v := zshr w (4 * e)) (m := 4) (by decide)
  omega
theorem ad_Gb {v e : Int} : ad_G v e = 0 ∨ ad_G v e = 1 := by
  unfold ad_G
  have := zUp_bd (v := zshr v (2 * e + 5)) (m := 2) (by decide)
  omega
theorem ad_Sl {v w : Int} {st : Nat} (h : st ≤ 4) : (ad_S v w st 0).length ≤ 40 := by
  unfold ad_S
  have h0 := zTxE_len (d := ad_D v (0 : Nat)) (h := ad_H w (0 : Nat)) (g := ad_G v (0 : Nat)) (b := ad_B w (0 : Nat)) (e := 0)
  have h1 := zTxE_len (d := ad_D v (0 + 1 : Nat)) (h := ad_H w (0 + 1 : Nat)) (g := ad_G v (0 + 1 : Nat)) (b := ad_B w (0 + 1 : Nat)) (e := 0 + 1)
  have h2 := zTxE_len (d := ad_D v (0 + 1 + 1 : Nat)) (h := ad_H w (0 + 1 + 1 : Nat)) (g := ad_G v (0 + 1 + 1 : Nat)) (b := ad_B w (0 + 1 + 1 : Nat)) (e := 0 + 1 + 1)
  have h3 := zTxE_len (d := ad_D v (0 + 1 + 1 + 1 : Nat)) (h := ad_H w (0 + 1 + 1 + 1 : Nat)) (g := ad_G v (0 + 1 + 1 + 1 : Nat)) (b := ad_B w (0 + 1 + 1 + 1 : Nat)) (e := 0 + 1 + 1 + 1)
  rcases (show st = 0 ∨ st = 1 ∨ st = 2 ∨ st = 3 ∨ st = 4 by omega) with rfl | rfl | rfl | rfl | rfl <;> simp only [zTxS, List.length_nil, List.length_cons, List.length_append] <;> omega
theorem ad_Tl {v w base : Int} {n st : Nat} (hn : n ≤ 8) (h : st ≤ 4) : (ad_T v w base n st).length ≤ 75 := by
  have h1 := ad_Sl (v := v) (w := w) h
  have h2 := zdig_len (v := base)
  have h3 := zTxA_len (A := ad_A v w) n
  unfold ad_T
  rw [List.length_append, List.length_append]
  omega
theorem lz_adds {B v w base : Int} {n st : Nat} {m0 m1 : zM} (hI : zInv B m0) (hA : zAc m0) (hn : m0 2 0 0 4 = n) (hst : st ≤ 4) (hb : 1 ≤ base ∧ base ≤ 20) (h5 : m0 2 0 0 5 < 4) (hT : zTp B m0 m1 (ad_T v w base n st)) :
    zFlt m1 = -6 ∧ zInv B (zRdm m1) ∧ ∃ a, zk_recipe (zRdm m1) = (m0 2 0 0 5, a) ∧ zInv B a ∧ zAc a ∧ a 2 0 0 5 = m0 2 0 0 5 + 1 ∧ a 2 0 0 4 = m0 2 0 0 4 ∧ a 2 0 0 0 = m0 2 0 0 0 ∧ a 6 0 0 0 = 0 ∧ a 4 0 (m0 2 0 0 5) 0 = base ∧ a 4 0 (m0 2 0 0 5) 1 = 0 ∧ a 4 0 (m0 2 0 0 5) 2 = st ∧ (∀ k : Int, 0 ≤ k → k < 8 → a 17 0 (m0 2 0 0 5) k = if k < n then ad_A v w k else 0) ∧ (∀ k : Nat, k < st → a 5 0 (8 * m0 2 0 0 5 + k) 0 = ad_D v k ∧ a 5 0 (8 * m0 2 0 0 5 + k) 1 = ad_H w k ∧ a 5 0 (8 * m0 2 0 0 5 + k) 2 = zMk (ad_B w k) k 0 ∧ a 5 0 (8 * m0 2 0 0 5 + k) 3 = ad_G v k) := by
  have hI0 := zInv0 hI
  have h4 := hI0.2.2.1
  have h50 := hI0.2.2.2.1
  have hX : ∀ m : zM, zPt m (ad_T v w base n st) → _ := fun m h => zRead_at (m := m) (base := base) (A := ad_A v w) (dD := ad_D v) (dH := ad_H w) (dG := ad_G v) (dB := ad_B w) (n := n) (st := st) hb (by omega) hst (fun k _ _ => ad_Ab) (fun e => ad_Db) (fun e => ad_Hb) (fun e => ad_Gb) h
  have hf := (hX m1 hT.2.1).1
  have hI2 : zInv B (zRdm m1) := zkj_fault hT.1
  have hP2 : zPt (zRdm m1) (ad_T v w base n st) := by
    obtain ⟨p1, p2, p3⟩ := hT.2.1
    exact ⟨by rw [zRdm_o (by decide) (Or.inl (by decide))]; exact p1, p2, fun j hj => by rw [zRdm_o (by decide) (Or.inl (by decide))]; exact p3 j hj⟩
  obtain ⟨f0, f1, f2, f3, f4, f5⟩ := hX _ hP2
  have hI3 := zkj_recipe hI2
  have o2 : ∀ (t : Nat) (s i k : Int), t ≠ 7 → t ≠ 6 → t ≠ 22 → s ≠ 9 → zRdm (zRdm m1) t s i k = m0 t s i k := fun t s i k t7 t6 t22 hs => by
    rw [zRdm_o t7 (Or.inr hs), zRdm_o t7 (Or.inr hs)]
    exact hT.2.2 t s i k t6 t22
  have e5 : zRdm m1 2 0 0 5 = m0 2 0 0 5 := by
    rw [zRdm_o (by decide) (Or.inr (by decide))]
    exact hT.2.2 2 0 0 5 (by decide) (by decide)
  have e4 : zRdm m1 2 0 0 4 = m0 2 0 0 4 := by
    rw [zRdm_o (by decide) (Or.inr (by decide))]
    exact hT.2.2 2 0 0 4 (by decide) (by decide)
  have hg : ¬ zgt (zRdm (zRdm m1) 17 9 0) (zRdm m1 2 0 0 4) 8 = true := fun z => by
    obtain ⟨k, k0, k1, k2⟩ := (zgt_iff (by rw [e4]; omega) 8).mp z
    rw [e4] at k0
    have := f4 k (by omega) (by omega)
    rw [if_neg (by omega)] at this
    omega
  have e : zk_recipe (zRdm m1) = (zRdm m1 2 0 0 5, zset (zset (zcR (zrecd (zRdm (zRdm m1))) 0 (zRdm m1 2 0 0 5) 9 0 8) 2 0 0 5 (zRdm m1 2 0 0 5 + 1)) 6 0 0 0 0) := by
    unfold zk_recipe
    rw [if_neg (by omega), if_neg (by omega), if_neg hg]
  rw [e5] at e
  rw [e] at hI3
  have hL0 : 0 ≤ zRdm (zRdm m1) 1 0 0 1 := by
    rw [o2 1 0 0 1 (by decide) (by decide) (by decide) (by decide)]
    exact hI.1.1.1
  obtain ⟨r, hr⟩ : ∃ r : Int, r = m0 2 0 0 5 := ⟨_, rfl⟩
  have q9 : ∀ (t : Nat) (i k : Int), t ≠ 1 → zrecd (zRdm (zRdm m1)) t 9 i k = zRdm (zRdm m1) t 9 i k := fun t i k t1 => zrecd_7 hL0 (by decide)
  have q0 : ∀ (t : Nat) (i k : Int), t ≠ 1 → t ≠ 7 → t ≠ 6 → t ≠ 22 → zrecd (zRdm (zRdm m1)) t 0 i k = m0 t 0 i k := fun t i k t1 t7 t6 t22 => by
    rw [zrecd_0 hL0 t1]
    exact o2 t 0 i k t7 t6 t22 (by decide)
  rw [← hr] at e hI3 ⊢
  refine ⟨hf, hI2, _, e, hI3, zAc_G ⟨fun i k _ => ?_, fun i k => ?_, ?_, ?_⟩ hA, ?_, ?_, ?_, ?_, ?_, ?_, ?_, fun k k0 k1 => ?_, fun k hk => ?_⟩
  · simp only [zset, zcR]
    rw [if_neg (by omega), if_neg (by omega), if_neg (by omega), if_neg (by omega)]
    exact q0 3 i k (by decide) (by decide) (by decide) (by decide)
  · simp only [zset, zcR]
    rw [if_neg (by omega), if_neg (by omega), if_neg (by omega), if_neg (by omega)]
    exact q0 14 i k (by decide) (by decide) (by decide) (by decide)
  · simp only [zset, zcR]
    rw [if_neg (by omega), if_neg (by omega), if_neg (by omega), if_neg (by omega)]
    exact q0 2 0 0 (by decide) (by decide) (by decide) (by decide)
  · simp only [zset, zcR]
    rw [if_neg (by omega), if_neg (by omega), if_neg (by omega), if_neg (by omega)]
    exact q0 2 0 4 (by decide) (by decide) (by decide) (by decide)
  · simp [zset]
  · simp only [zset, zcR]
    rw [if_neg (by omega), if_neg (by omega), if_neg (by omega), if_neg (by omega)]
    exact q0 2 0 4 (by decide) (by decide) (by decide) (by decide)
  · simp only [zset, zcR]
    rw [if_neg (by omega), if_neg (by omega), if_neg (by omega), if_neg (by omega)]
    exact q0 2 0 0 (by decide) (by decide) (by decide) (by decide)
  · simp [zset]
  · simp only [zset, zcR]
    rw [if_neg (by omega), if_neg (by omega), if_pos (by simp), q9 _ _ _ (by decide)]
    exact f1
  · simp only [zset, zcR]
    rw [if_neg (by omega), if_neg (by omega), if_pos (by simp), q9 _ _ _ (by decide)]
    exact f2
  · simp only [zset, zcR]
    rw [if_neg (by omega), if_neg (by omega), if_pos (by simp), q9 _ _ _ (by decide)]
    exact f3
  · simp only [zset, zcR]
    rw [if_neg (by omega), if_neg (by omega), if_pos (by simp; omega), q9 _ _ _ (by decide)]
    exact f4 k k0 k1
  · obtain ⟨g0, g1, g2, g3⟩ := f5 k hk
    have ee : 8 * r + (k : Int) - 8 * r + 8 * 0 = k := by omega
    refine ⟨?_, ?_, ?_, ?_⟩ <;> simp only [zset, zcR] <;> rw [if_neg (by omega), if_neg (by omega), if_neg (by omega), if_pos (by simp; omega), q9 _ _ _ (by decide), ee] <;> assumption
theorem cqs_kr (l : Launch) (g : zG) {m0 m : zM} {B : Int} {n : Nat} {D : Int → Int} {r k w : Int} (hI : zInv B m0) (hB : B ≤ 11900000) (hn : 1 ≤ n) (hQ : zQ (zRow m0 n D) m) (hr : 0 ≤ r ∧ r < m0 2 0 0 5) (hk : 0 ≤ k ∧ k < m0 4 0 r 2) (hw : 0 ≤ w ∧ w < 4) (hp : m0 4 0 r 1 = 0) : zMet l g Y_X10_step [zr 0 0 0, zi r, zi k, zi w] m (fun v m' => v = some (zi (m0 5 0 (8 * r + k) w)) ∧ zQ (zRow m0 n D) m') := by
  have h := cq_step l g (r := r) (k := k) (w := w) (zInv_row (D := D) hn hI) hB hQ
  have hI0 := zInv0 hI
  have h8 := (hI0.2.2.2.2.1 r hr.1 (by have := hI0.2.2.2.1; omega)).2.2.1
  have h4 := hI0.2.2.2.1
  have e : zk_step r k w (zRow m0 n D) = m0 5 0 (8 * r + k) w := by
    unfold zk_step
    rw [zRow_o (t := 2) (by omega), zRow_o (t := 4) (by omega), zRow_o (t := 5) (by omega), if_neg (by omega), hp]
    rcases (show w = 0 ∨ w = 1 ∨ w = 2 ∨ w = 3 by omega) with rfl | rfl | rfl | rfl
    · rw [if_pos rfl, if_pos rfl]
    · rw [if_neg (by decide), if_pos rfl]
    · rw [if_neg (by decide), if_neg (by decide), if_pos rfl]
    · rw [if_neg (by decide), if_neg (by decide), if_neg (by decide), if_pos rfl]
  rw [e] at h
  exact h
set_option maxRecDepth 20000 in
theorem ct_L_adds (l : Launch) (g : zG) {m0 m : zM} {B v w : Int} (hI : zInv B m0) (hB : B ≤ 11900000) (hQ : zQ m0 m) (hA : zAc m0) (hg0 : g.2.1 (999, 0, 0) = 0) (h5 : m0 2 0 0 5 < 4) (h6 : m0 6 0 0 0 = 0) : zMetA l g Y_L_adds [zr 0 0 0, zi v, zi w] m (fun x m' => x = some (zi 1) ∧ ∃ m1, zInv B m1 ∧ zAc m1 ∧ m1 2 0 0 4 = m0 2 0 0 4 ∧ m1 2 0 0 5 = m0 2 0 0 5 + 1 ∧ m1 2 0 0 0 = m0 2 0 0 0 ∧ m1 6 0 0 0 = 0 ∧ zQ m1 m') 1 64 := by
  refine zMetA_intro (by decide +kernel) (Nat.le_of_ble_eq_true rfl) (ls0 := [some (zr 0 0 0), some (zi v), some (zi w), none, none, none, none, none, none, none]) rfl fun X hG hE hbud => ?_
  have hG : zGood X l g RL cL_adds 7 10 := hG
  have hE : zEndA X g (some .boolean) _ := hE
  obtain ⟨n, hn⟩ := Int.eq_ofNat_of_zero_le (zInv0 hI).2.2.1.1
  have hn8 := (zInv0 hI).2.2.1.2
  have hr05 := (zInv0 hI).2.2.2.1
  have hu20 := zUp_bd (v := v) (m := 20) (by decide)
  have hu5 := zUp_bd (v := w) (m := 5) (by decide)
  obtain ⟨st, hst'⟩ := Int.eq_ofNat_of_zero_le hu5.1
  have hst : st ≤ 4 := by omega
  obtain ⟨base, hba⟩ : ∃ base : Int, base = 1 + zUp v 20 := ⟨_, rfl⟩
  have hbase : 1 ≤ base ∧ base ≤ 20 := by omega
  have hT0 : zTp B m0 m0 [] := ⟨hI, ⟨h6, by simp, fun j hj => absurd hj (by simp)⟩, fun _ _ _ _ _ _ => rfl⟩
  have hq0 : ([] ++ zdig base) ++ (zTxA (ad_A v w) n ++ ad_S v w st 0) = ad_T v w base n st := rfl
  refine z_aload_n (i := 0) hG dL_adds_0 rfl rfl ?_
  refine z_iconst hG dL_adds_1 rfl ?_
  refine z_callV hG dL_adds_2 LV_L_68 (cqc_2 l g hI hB hQ) (by decide) rfl rfl rfl (Nat.le_of_ble_eq_true rfl) ?_
  intro v9 mm h9
  rw [h9.1]
  replace hQ := h9.2
  clear h9 v9
  refine z_istore_n (i := 3) hG dL_adds_5 rfl (by decide) (ls2 := [_, _, _, _, _, _, _, _, _, _]) rfl ?_
  refine z_iconst hG dL_adds_6 rfl ?_
  refine z_iload_n (i := 1) hG dL_adds_7 rfl rfl ?_
  refine z_bipush hG dL_adds_8 rfl ?_
  refine z_callS hG dL_adds_10 LS_L_22 (ct_L_up l g (by decide)) (by decide) rfl rfl (Nat.le_of_ble_eq_true rfl) ?_
  intro v9 m9 h9
  rw [h9.1, h9.2]
  clear h9 m9 v9
  refine z_iadd hG dL_adds_13 (by omega) (by omega) ?_
  rw [← hba]
  refine z_istore hG dL_adds_14 (by decide) (ls2 := [_, _, _, _, _, _, _, _, _, _]) rfl ?_
  refine z_iload_n (i := 2) hG dL_adds_16 rfl rfl ?_
  refine z_iconst hG dL_adds_17 rfl ?_
  refine z_callS hG dL_adds_18 LS_L_22 (ct_L_up l g (by decide)) (by decide) rfl rfl (Nat.le_of_ble_eq_true rfl) ?_
  intro v9 m9 h9
  rw [h9.1, h9.2]
  clear h9 m9 v9
  rw [hst']
  refine z_istore hG dL_adds_21 (by decide) (ls2 := [_, _, _, _, _, _, _, _, _, _]) rfl ?_
  refine z_bipush hG dL_adds_23 rfl ?_
  refine z_newa hG 1 64 (Or.inl rfl) rfl dL_adds_25 KA_int rfl (by decide) hg0 hbud (fun X g hG hg2 hE2 => ?_)
  replace hE := hE2 _ _ hE
  replace hQ := zQ_new (k := 1) (by decide) hQ
  generalize (fun (t : Nat) (s i j : Int) => if t = 44 + 1 then (0 : Int) else mm t s i j) = mm at *
  have h317 : ∀ (D : Int → Int) (m1 mm : zM) (v7 v8 v9 : Option zV), zTp B m0 m1 (ad_T v w base n st) → (∀ k : Int, 0 ≤ k → k < 8 → D k = if k < n then ad_A v w k else 0) → (∀ k : Nat, k < st → D (10 + 4 * (k : Int)) = ad_D v k ∧ D (10 + 4 * (k : Int) + 1) = ad_H w k ∧ D (10 + 4 * (k : Int) + 2) = zMk (ad_B w k) k 0 ∧ D (10 + 4 * (k : Int) + 3) = ad_G v k) → zQ (zRow m1 1 D) mm → zZ X 317 [some (zr 0 0 0), some (zi v), some (zi w), some (zi (m0 2 0 0 5)), some (zi base), some (zi (st : Int)), some (zr 45 0 0), v7, v8, v9] [] mm := by
    intro D m1 mm v7 v8 v9' hT hD1 hD2 hQ
    obtain ⟨hf, hI2, a, hrc, hIa, hAa, a5, a4, a0, a6, b0, b1, b2, b17, b5⟩ := lz_adds hI hA hn hst hbase h5 hT
    have loopC : ∀ (N k : Nat) (mm : zM) (v8 v9 : Option zV), k + N = 8 → zQ (zRow a 1 D) mm → zZ X 390 [some (zr 0 0 0), some (zi v), some (zi w), some (zi (m0 2 0 0 5)), some (zi base), some (zi (st : Int)), some (zr 45 0 0), some (zi (k : Int)), v8, v9] [] mm := by
      intro N
      induction N with
      | zero =>
        intro k mm v8 v9' hk hQ
        have loopE : ∀ (N e : Nat) (mm : zM) (v8 v9 : Option zV), e + N = st → zQ (zRow a 1 D) mm → zZ X 425 [some (zr 0 0 0), some (zi v), some (zi w), some (zi (m0 2 0 0 5)), some (zi base), some (zi (st : Int)), some (zr 45 0 0), some (zi (e : Int)), v8, v9] [] mm := by
          intro N
          induction N with
          | zero =>
            intro e mm v8 v9' he hQ
            refine z_iload hG dL_adds_425 rfl ?_
            refine z_iload hG dL_adds_427 rfl ?_
            refine z_icmp_ge hG dL_adds_429 (tgt := 480) rfl (fun zcq429 => ?_) (fun zcq429 => ?_)
            · refine z_iconst hG dL_adds_480 rfl ?_
              refine z_iretA hG hE dL_adds_481 (by first | exact Or.inl rfl | exact Or.inr rfl | (show _ ∨ _; omega)) ?_
              refine ⟨rfl, _, zInv_row (k := 1) (D := D) (by decide) hIa, zAc_G ⟨fun i q _ => by rw [zRow_o (by omega)], fun i q => by rw [zRow_o (by omega)], by rw [zRow_o (by omega)], by rw [zRow_o (by omega)]⟩ hAa, ?_, ?_, ?_, ?_, hQ⟩ <;> rw [zRow_o (by omega)] <;> assumption
            · exact absurd zcq429 (by omega)
          | succ N ih =>
            intro e mm v8 v9' he hQ
            have loopF : ∀ (M k : Nat) (mm : zM), k + M = 4 → zQ (zRow a 1 D) mm → zZ X 435 [some (zr 0 0 0), some (zi v), some (zi w), some (zi (m0 2 0 0 5)), some (zi base), some (zi (st : Int)), some (zr 45 0 0), some (zi (e : Int)), some (zi (k : Int)), v9'] [] mm := by
              intro M
              induction M with
              | zero =>
                intro k mm hk hQ
                refine z_iload hG dL_adds_435 rfl ?_
                refine z_iconst hG dL_adds_437 rfl ?_
                refine z_icmp_ge hG dL_adds_438 (tgt := 474) rfl (fun zcq438 => ?_) (fun zcq438 => ?_)
                · refine z_iinc hG dL_adds_474 (by decide) rfl (by omega) (by omega) (ls2 := [_, _, _, _, _, _, _, _, _, _]) rfl ?_
                  refine z_goto hG dL_adds_477 (tgt := 425) rfl ?_
                  exact ih (e + 1) mm _ _ (by omega) hQ
                · exact absurd zcq438 (by omega)
              | succ M ih2 =>
                intro k mm hk hQ
                have hbd := hD2 e (by omega)
                have hbe := b5 e (by omega)
                have hDe : a 5 0 (8 * m0 2 0 0 5 + e) k = D (10 + 4 * (e : Int) + k) := by
                  rcases (show k = 0 ∨ k = 1 ∨ k = 2 ∨ k = 3 by omega) with rfl | rfl | rfl | rfl
                  · exact hbe.1.trans (hbd.1.symm.trans (congrArg D (by omega)))
                  · exact hbe.2.1.trans hbd.2.1.symm
                  · exact hbe.2.2.1.trans hbd.2.2.1.symm
                  · exact hbe.2.2.2.trans hbd.2.2.2.symm
                refine z_iload hG dL_adds_435 rfl ?_
                refine z_iconst hG dL_adds_437 rfl ?_
                refine z_icmp_ge hG dL_adds_438 (tgt := 474) rfl (fun zcq438 => ?_) (fun zcq438 => ?_)
                · exact absurd zcq438 (by omega)
                · refine z_aload_n (i := 0) hG dL_adds_441 rfl rfl ?_
                  refine z_iload_n (i := 3) hG dL_adds_442 rfl rfl ?_
                  refine z_iload hG dL_adds_443 rfl ?_
                  refine z_iload hG dL_adds_445 rfl ?_
                  refine z_callV hG dL_adds_447 LV_L_93 (cqs_kr l g hIa hB (by decide) hQ (by omega) (by omega) (by omega) b1) (by decide) rfl rfl rfl (Nat.le_of_ble_eq_true rfl) ?_
                  intro v9 mm h9
                  rw [h9.1]
                  replace hQ := h9.2
                  clear h9 v9
                  refine z_aload hG dL_adds_450 rfl ?_
                  refine z_bipush hG dL_adds_452 rfl ?_
                  refine z_iconst hG dL_adds_454 rfl ?_
                  refine z_iload hG dL_adds_455 rfl ?_
                  refine z_imul hG dL_adds_457 (by omega) (by omega) ?_
                  refine z_iadd hG dL_adds_458 (by omega) (by omega) ?_
                  refine z_iload hG dL_adds_459 rfl ?_
                  refine z_iadd hG dL_adds_461 (by omega) (by omega) ?_
                  refine z_iald hG dL_adds_462 rfl rfl (by omega) (by omega) ?_
                  rw [show mm 45 0 0 (10 + 4 * (e : Int) + k) = D (10 + 4 * (e : Int) + k) from zQ_ald (k := 1) (by decide) hQ]
                  refine z_icmp_eq hG dL_adds_463 (tgt := 468) rfl (fun zcq463 => ?_) (fun zcq463 => ?_)
                  · refine z_iinc hG dL_adds_468 (by decide) rfl (by omega) (by omega) (ls2 := [_, _, _, _, _, _, _, _, _, _]) rfl ?_
                    refine z_goto hG dL_adds_471 (tgt := 435) rfl ?_
                    exact ih2 (k + 1) mm (by omega) hQ
                  · exact absurd hDe zcq463
            refine z_iload hG dL_adds_425 rfl ?_
            refine z_iload hG dL_adds_427 rfl ?_
            refine z_icmp_ge hG dL_adds_429 (tgt := 480) rfl (fun zcq429 => ?_) (fun zcq429 => ?_)
            · exact absurd zcq429 (by omega)
            · refine z_iconst hG dL_adds_432 rfl ?_
              refine z_istore hG dL_adds_433 (by decide) (ls2 := [_, _, _, _, _, _, _, _, _, _]) rfl ?_
              exact loopF 4 0 mm (by omega) hQ
        refine z_iload hG dL_adds_390 rfl ?_
        refine z_bipush hG dL_adds_392 rfl ?_
        refine z_icmp_ge hG dL_adds_394 (tgt := 422) rfl (fun zcq394 => ?_) (fun zcq394 => ?_)
        · refine z_iconst hG dL_adds_422 rfl ?_
          refine z_istore hG dL_adds_423 (by decide) (ls2 := [_, _, _, _, _, _, _, _, _, _]) rfl ?_
          exact loopE st 0 mm _ _ (by omega) hQ
        · exact absurd zcq394 (by omega)
      | succ N ih =>
        intro k mm v8 v9' hk hQ
        have hDk : a 17 0 (m0 2 0 0 5) k = D k := (b17 k (by omega) (by omega)).trans (hD1 k (by omega) (by omega)).symm
        refine z_iload hG dL_adds_390 rfl ?_
        refine z_bipush hG dL_adds_392 rfl ?_
        refine z_icmp_ge hG dL_adds_394 (tgt := 422) rfl (fun zcq394 => ?_) (fun zcq394 => ?_)
        · exact absurd zcq394 (by omega)
        · refine z_aload_n (i := 0) hG dL_adds_397 rfl rfl ?_
          refine z_iload_n (i := 3) hG dL_adds_398 rfl rfl ?_
          refine z_iconst hG dL_adds_399 rfl ?_
          refine z_iload hG dL_adds_400 rfl ?_
          refine z_iadd hG dL_adds_402 (by omega) (by omega) ?_
          refine z_callV hG dL_adds_403 LV_L_90 (cqr_ir l g hIa hB (by decide) hQ (by omega) (by omega)) (by decide) rfl rfl rfl (Nat.le_of_ble_eq_true rfl) ?_
          intro v9 mm h9
          rw [h9.1]
          replace hQ := h9.2
          clear h9 v9
          refine z_aload hG dL_adds_406 rfl ?_
          refine z_iload hG dL_adds_408 rfl ?_
          refine z_iald hG dL_adds_410 rfl rfl (by omega) (by omega) ?_
          rw [show mm 45 0 0 (k : Int) = D k from zQ_ald (k := 1) (by decide) hQ]
          refine z_icmp_eq hG dL_adds_411 (tgt := 416) rfl (fun zcq411 => ?_) (fun zcq411 => ?_)
          · refine z_iinc hG dL_adds_416 (by decide) rfl (by omega) (by omega) (ls2 := [_, _, _, _, _, _, _, _, _, _]) rfl ?_
            refine z_goto hG dL_adds_419 (tgt := 390) rfl ?_
            exact ih (k + 1) mm v8 v9' (by omega) hQ
          · exact absurd hDk zcq411
    refine z_aload_n (i := 0) hG dL_adds_317 rfl rfl ?_
    refine z_callV hG dL_adds_318 LV_L_83 (cmr_fault l g (by decide) hT.1 hB hQ) (by decide) rfl rfl rfl (Nat.le_of_ble_eq_true rfl) ?_
    intro v9 mm h9
    rw [h9.1]
    replace hQ : zQ (zRow (zRdm m1) 1 D) mm := h9.2
    clear h9 v9
    refine z_bipush hG dL_adds_321 rfl ?_
    refine z_icmp_ne hG dL_adds_323 (tgt := 385) rfl (fun zcq323 => ?_) (fun zcq323 => ?_)
    · exact absurd hf zcq323
    · refine z_aload_n (i := 0) hG dL_adds_326 rfl rfl ?_
      refine z_callV hG dL_adds_327 LV_L_87 (cmr_recipe l g (by decide) hI2 hB hQ) (by decide) rfl rfl rfl (Nat.le_of_ble_eq_true rfl) ?_
      intro v9 mm h9
      rw [hrc] at h9
      rw [h9.1]
      replace hQ : zQ (zRow a 1 D) mm := h9.2
      clear h9 v9
      have hr05 := (zInv0 hI).2.2.2.1
      refine z_iload_n (i := 3) hG dL_adds_330 rfl rfl ?_
      refine z_icmp_ne hG dL_adds_331 (tgt := 385) rfl (fun zcq331 => ?_) (fun zcq331 => ?_)
      · exact absurd rfl zcq331
      · refine z_aload_n (i := 0) hG dL_adds_334 rfl rfl ?_
        refine z_iconst hG dL_adds_335 rfl ?_
        refine z_callV hG dL_adds_336 LV_L_68 (cqc_2r l g hIa hB (by decide) hQ) (by decide) rfl rfl rfl (Nat.le_of_ble_eq_true rfl) ?_
        intro v9 mm h9
        rw [h9.1]
        replace hQ := h9.2
        clear h9 v9
        refine z_iload_n (i := 3) hG dL_adds_339 rfl rfl ?_
        refine z_iconst hG dL_adds_340 rfl ?_
        refine z_iadd hG dL_adds_341 (by omega) (by omega) ?_
        refine z_icmp_ne hG dL_adds_342 (tgt := 385) rfl (fun zcq342 => ?_) (fun zcq342 => ?_)
        · exact absurd a5 zcq342
        · refine z_aload_n (i := 0) hG dL_adds_345 rfl rfl ?_
          refine z_bipush hG dL_adds_346 rfl ?_
          refine z_callV hG dL_adds_348 LV_L_68 (cqc_13r l g hIa hB (by decide) hQ) (by decide) rfl rfl rfl (Nat.le_of_ble_eq_true rfl) ?_
          intro v9 mm h9
          rw [h9.1]
          replace hQ := h9.2
          clear h9 v9
          refine z_if_ne hG dL_adds_351 (tgt := 385) rfl (fun zcq351 => ?_) (fun zcq351 => ?_)
          · try simp only [zite_eq0, ne_eq, Classical.not_not] at zcq351
            exact absurd a6 zcq351
          · try simp only [zite_eq0, ne_eq, Classical.not_not] at zcq351
            refine z_aload_n (i := 0) hG dL_adds_354 rfl rfl ?_
            refine z_iload_n (i := 3) hG dL_adds_355 rfl rfl ?_
            refine z_iconst hG dL_adds_356 rfl ?_
            refine z_callV hG dL_adds_357 LV_L_90 (cqr_0r l g hIa hB (by decide) hQ (by omega)) (by decide) rfl rfl rfl (Nat.le_of_ble_eq_true rfl) ?_
            intro v9 mm h9
            rw [h9.1]
            replace hQ := h9.2
            clear h9 v9
            refine z_iload hG dL_adds_360 rfl ?_
            refine z_icmp_ne hG dL_adds_362 (tgt := 385) rfl (fun zcq362 => ?_) (fun zcq362 => ?_)
            · exact absurd b0 zcq362
            · refine z_aload_n (i := 0) hG dL_adds_365 rfl rfl ?_
              refine z_iload_n (i := 3) hG dL_adds_366 rfl rfl ?_
              refine z_iconst hG dL_adds_367 rfl ?_
              refine z_callV hG dL_adds_368 LV_L_90 (cqr_1r l g hIa hB (by decide) hQ (by omega)) (by decide) rfl rfl rfl (Nat.le_of_ble_eq_true rfl) ?_
              intro v9 mm h9
              rw [h9.1]
              replace hQ := h9.2
              clear h9 v9
              refine z_iload hG dL_adds_371 rfl ?_
              refine z_icmp_ne hG dL_adds_373 (tgt := 385) rfl (fun zcq373 => ?_) (fun zcq373 => ?_)
              · exact absurd b2 zcq373
              · refine z_aload_n (i := 0) hG dL_adds_376 rfl rfl ?_
                refine z_iload_n (i := 3) hG dL_adds_377 rfl rfl ?_
                refine z_iconst hG dL_adds_378 rfl ?_
                refine z_callV hG dL_adds_379 LV_L_90 (cqr_2r l g hIa hB (by decide) hQ (by omega)) (by decide) rfl rfl rfl (Nat.le_of_ble_eq_true rfl) ?_
                intro v9 mm h9
                rw [h9.1]
                replace hQ := h9.2
                clear h9 v9
                refine z_if_eq hG dL_adds_382 (tgt := 387) rfl (fun zcq382 => ?_) (fun zcq382 => ?_)
                · try simp only [zite_eq0, ne_eq, Classical.not_not] at zcq382
                  refine z_iconst hG dL_adds_387 rfl ?_
                  refine z_istore hG dL_adds_388 (by decide) (ls2 := [_, _, _, _, _, _, _, _, _, _]) rfl ?_
                  exact loopC 8 0 mm _ _ (by omega) hQ
                · try simp only [zite_eq0, ne_eq, Classical.not_not] at zcq382
                  first | exact absurd b1 zcq382 | exact zcq382 b1
  have loopS : ∀ (N e : Nat) (P : List Int) (D : Int → Int) (m1 mm : zM) (v8 v9 : Option zV), e + N = st → zTp B m0 m1 P → P ++ ad_S v w N e = ad_T v w base n st → (∀ k : Int, 0 ≤ k → k < 8 → D k = if k < n then ad_A v w k else 0) → (∀ k : Nat, k < e → D (10 + 4 * (k : Int)) = ad_D v k ∧ D (10 + 4 * (k : Int) + 1) = ad_H w k ∧ D (10 + 4 * (k : Int) + 2) = zMk (ad_B w k) k 0 ∧ D (10 + 4 * (k : Int) + 3) = ad_G v k) → (∀ k : Int, 10 + 4 * (e : Int) ≤ k → D k = 0) → zQ (zRow m1 1 D) mm → zZ X 123 [some (zr 0 0 0), some (zi v), some (zi w), some (zi (m0 2 0 0 5)), some (zi base), some (zi (st : Int)), some (zr 45 0 0), some (zi (e : Int)), v8, v9] [] mm := by
    intro N
    induction N with
    | zero =>
      intro e P D m1 mm v8 v9' he hT hq hD1 hD2 hD0 hQ
      have hq2 : P = ad_T v w base n st := by rw [← hq]; exact (List.append_nil P).symm
      rw [hq2] at hT
      have hes : e = st := by omega
      rw [hes] at hD2
      refine z_iload hG dL_adds_123 rfl ?_
      refine z_iload hG dL_adds_125 rfl ?_
      refine z_icmp_ge hG dL_adds_127 (tgt := 317) rfl (fun zcq127 => ?_) (fun zcq127 => ?_)
      · exact h317 D m1 mm _ _ _ hT hD1 hD2 hQ
      · exact absurd zcq127 (by omega)
    | succ N ih =>
      intro e P D m1 mm v8 v9' he hT hq hD1 hD2 hD0 hQ
      have hlen : (P ++ ad_S v w (N + 1) e).length ≤ 75 := by rw [hq]; exact ad_Tl (by omega) hst
      have hq3 : P ++ (59 :: (zTxE (ad_D v e) (ad_H w e) (ad_G v e) (ad_B w e) e ++ ad_S v w N (e + 1))) = ad_T v w base n st := hq
      have hb1 := ad_Db (v := v) (e := e)
      have hb2 := ad_Hb (w := w) (e := e)
      have hb3 := ad_Gb (v := v) (e := e)
      have hu240 := zUp_bd (v := zshr v (3 * (e : Int))) (m := 240) (by decide)
      have hlen : (P ++ (59 :: (zTxE (ad_D v e) (ad_H w e) (ad_G v e) (ad_B w e) e ++ ad_S v w N (e + 1)))).length ≤ 75 := hlen
      simp only [zTxE, List.length_append, List.length_cons] at hlen
      have hzl := zdig_len (v := ad_D v e)
      have loopB : ∀ (a : Nat) (Q : List Int) (D : Int → Int) (m1 mm : zM), a ≤ e → zTp B m0 m1 Q → Q ++ (zTxB (ad_B w e) a ++ ad_S v w N (e + 1)) = ad_T v w base n st → (∀ k : Int, 0 ≤ k → k < 8 → D k = if k < n then ad_A v w k else 0) → (∀ k : Nat, k < e → D (10 + 4 * (k : Int)) = ad_D v k ∧ D (10 + 4 * (k : Int) + 1) = ad_H w k ∧ D (10 + 4 * (k : Int) + 2) = zMk (ad_B w k) k 0 ∧ D (10 + 4 * (k : Int) + 3) = ad_G v k) → D (10 + 4 * (e : Int)) = ad_D v e → D (10 + 4 * (e : Int) + 1) = ad_H w e → zMk (ad_B w e) a (D (10 + 4 * (e : Int) + 2)) = zMk (ad_B w e) e 0 → D (10 + 4 * (e : Int) + 3) = ad_G v e → (∀ k : Int, 10 + 4 * (e : Int) + 4 ≤ k → D k = 0) → zQ (zRow m1 1 D) mm → zZ X 256 [some (zr 0 0 0), some (zi v), some (zi w), some (zi (m0 2 0 0 5)), some (zi base), some (zi (st : Int)), some (zr 45 0 0), some (zi (e : Int)), some (zi (10 + 4 * (e : Int))), some (zi ((a : Int) - 1))] [] mm := by
        intro a
        induction a with
        | zero =>
          intro Q D m1 mm ha hT hq hD1 hD2 d0 d1 d2 d3 hD0 hQ
          refine z_iload hG dL_adds_256 rfl ?_
          refine z_if_lt hG dL_adds_258 (tgt := 311) rfl (fun zcq258 => ?_) (fun zcq258 => ?_)
          · refine z_iinc hG dL_adds_311 (by decide) rfl (by omega) (by omega) (ls2 := [_, _, _, _, _, _, _, _, _, _]) rfl ?_
            refine z_goto hG dL_adds_314 (tgt := 123) rfl ?_
            refine ih (e + 1) Q D m1 mm _ _ (by omega) hT hq hD1 (fun k hk => ?_) (fun k hk => hD0 k (by omega)) hQ
            by_cases c : k = e
            · subst c
              exact ⟨d0, d1, d2, d3⟩
            · exact hD2 k (by omega)
          · exact absurd zcq258 (by omega)
        | succ a iha =>
          intro Q D m1 mm ha hT hq hD1 hD2 d0 d1 d2 d3 hD0 hQ
          have hlen : (Q ++ (zTxB (ad_B w e) (a + 1) ++ ad_S v w N (e + 1))).length ≤ 75 := by rw [hq]; exact ad_Tl (by omega) hst
          rw [List.length_append] at hlen
          rw [show ((a + 1 : Nat) : Int) - 1 = a by omega]
          refine z_iload hG dL_adds_256 rfl ?_
          refine z_if_lt hG dL_adds_258 (tgt := 311) rfl (fun zcq258 => ?_) (fun zcq258 => ?_)
          · exact absurd zcq258 (by omega)
          · refine z_iload_n (i := 2) hG dL_adds_261 rfl rfl ?_
            refine z_iconst hG dL_adds_262 rfl ?_
            refine z_iload hG dL_adds_263 rfl ?_
            refine z_imul hG dL_adds_265 (by omega) (by omega) ?_
            refine z_iload hG dL_adds_266 rfl ?_
            refine z_iadd hG dL_adds_268 (by omega) (by omega) ?_
            refine z_ishr hG dL_adds_269 ?_
            refine z_iconst hG dL_adds_270 rfl ?_
            refine z_iand hG dL_adds_271 ?_
            refine z_iconst hG dL_adds_272 rfl ?_
            refine z_icmp_ne hG dL_adds_273 (tgt := 305) rfl (fun zcq273 => ?_) (fun zcq273 => ?_)
            · refine z_iinc hG dL_adds_305 (by decide) rfl (by omega) (by omega) (ls2 := [_, _, _, _, _, _, _, _, _, _]) rfl ?_
              refine z_goto hG dL_adds_308 (tgt := 256) rfl ?_
              rw [show (a : Int) + -1 = (a : Int) - 1 by omega]
              have c : ¬ ad_B w e a = 1 := zcq273
              rw [zTxB, if_neg c] at hq
              rw [zMk, if_neg c] at d2
              exact iha Q D m1 mm (by omega) hT hq hD1 hD2 d0 d1 d2 d3 hD0 hQ
            · have c : ad_B w e a = 1 := zcq273
              rw [zTxB, if_pos c] at hq hlen
              rw [zMk, if_pos c] at d2
              simp only [List.length_append, List.length_cons, List.length_nil] at hlen
              refine z_aload hG dL_adds_276 rfl ?_
              refine z_iload hG dL_adds_278 rfl ?_
              refine z_iconst hG dL_adds_280 rfl ?_
              refine z_iadd hG dL_adds_281 (by omega) (by omega) ?_
              refine z_dup2 hG dL_adds_282 ?_
              refine z_iald hG dL_adds_283 rfl rfl (by omega) (by omega) ?_
              rw [show mm 45 0 0 (10 + 4 * (e : Int) + 2) = D (10 + 4 * (e : Int) + 2) from zQ_ald (k := 1) (by decide) hQ]
              refine z_iconst hG dL_adds_284 rfl ?_
              refine z_iload hG dL_adds_285 rfl ?_
              refine z_ishl hG dL_adds_287 ?_
              refine z_ior hG dL_adds_288 ?_
              refine z_iast hG dL_adds_289 rfl rfl (by omega) (by omega) ?_
              have hQ' := zQ_ast (k := 1) (j := 10 + 4 * (e : Int) + 2) (v := zor (D (10 + 4 * (e : Int) + 2)) (zshl 1 a)) (by decide) hQ
              obtain ⟨D', hDd⟩ : ∃ D' : Int → Int, D' = fun x => if x = 10 + 4 * (e : Int) + 2 then zor (D (10 + 4 * (e : Int) + 2)) (zshl 1 a) else D x := ⟨_, rfl⟩
              rw [← hDd] at hQ'
              have hDo : ∀ k : Int, k ≠ 10 + 4 * (e : Int) + 2 → D' k = D k := fun k hk => by rw [hDd]; exact if_neg hk
              have hDj : D' (10 + 4 * (e : Int) + 2) = zor (D (10 + 4 * (e : Int) + 2)) (zshl 1 a) := by rw [hDd]; exact if_pos rfl
              clear hDd
              replace hD1 : ∀ k : Int, 0 ≤ k → k < 8 → D' k = if k < n then ad_A v w k else 0 := fun k k0 k1 => (hDo k (by omega)).trans (hD1 k k0 k1)
              replace hD2 : ∀ k : Nat, k < e → D' (10 + 4 * (k : Int)) = ad_D v k ∧ D' (10 + 4 * (k : Int) + 1) = ad_H w k ∧ D' (10 + 4 * (k : Int) + 2) = zMk (ad_B w k) k 0 ∧ D' (10 + 4 * (k : Int) + 3) = ad_G v k := fun k hk => by
                obtain ⟨x0, x1, x2, x3⟩ := hD2 k hk
                exact ⟨(hDo _ (by omega)).trans x0, (hDo _ (by omega)).trans x1, (hDo _ (by omega)).trans x2, (hDo _ (by omega)).trans x3⟩
              replace d0 := (hDo (10 + 4 * (e : Int)) (by omega)).trans d0
              replace d1 := (hDo (10 + 4 * (e : Int) + 1) (by omega)).trans d1
              rw [← hDj] at d2
              replace d3 := (hDo (10 + 4 * (e : Int) + 3) (by omega)).trans d3
              replace hD0 : ∀ k : Int, 10 + 4 * (e : Int) + 4 ≤ k → D' k = 0 := fun k hk => (hDo k (by omega)).trans (hD0 k hk)
              replace hQ := hQ'
              clear hQ' hDo hDj
              refine z_aload_n (i := 0) hG dL_adds_290 rfl rfl ?_
              refine z_ldc2 hG dL_adds_291 KC_L_81 ?_
              refine z_bipush hG dL_adds_294 rfl ?_
              refine z_iload hG dL_adds_296 rfl ?_
              refine z_iadd hG dL_adds_298 (by omega) (by omega) ?_
              refine z_i2l hG dL_adds_299 ?_
              refine z_lor hG dL_adds_300 ?_
              refine z_callV hG dL_adds_301 LV_L_64 (cmr_put l g (by decide) hT.1 hB hQ) (by decide) rfl rfl rfl (Nat.le_of_ble_eq_true rfl) ?_
              intro v9 mm h9
              rw [h9.1]
              replace hQ := h9.2
              clear h9 v9
              obtain ⟨m1, hT, hQ⟩ : ∃ m2, zTp B m0 m2 (Q ++ [64, 48 + (a : Int)]) ∧ zQ (zRow m2 1 D') mm := ⟨_, zTp_put2 hT (by first | omega | (simp only [List.length_append, List.length_cons, List.length_nil]; omega)) (by omega) (by omega) (zu_64 (by omega)), hQ⟩
              rw [show Q ++ ([64, 48 + (a : Int)] ++ zTxB (ad_B w e) a ++ ad_S v w N (e + 1)) = (Q ++ [64, 48 + (a : Int)]) ++ (zTxB (ad_B w e) a ++ ad_S v w N (e + 1)) by simp] at hq
              refine z_pop hG dL_adds_304 ?_
              refine z_iinc hG dL_adds_305 (by decide) rfl (by omega) (by omega) (ls2 := [_, _, _, _, _, _, _, _, _, _]) rfl ?_
              refine z_goto hG dL_adds_308 (tgt := 256) rfl ?_
              rw [show (a : Int) + -1 = (a : Int) - 1 by omega]
              exact iha _ _ m1 mm (by omega) hT hq hD1 hD2 d0 d1 d2 d3 hD0 hQ
      refine z_iload hG dL_adds_123 rfl ?_
      refine z_iload hG dL_adds_125 rfl ?_
      refine z_icmp_ge hG dL_adds_127 (tgt := 317) rfl (fun zcq127 => ?_) (fun zcq127 => ?_)
      · exact absurd zcq127 (by omega)
      · refine z_bipush hG dL_adds_130 rfl ?_
        refine z_iconst hG dL_adds_132 rfl ?_
        refine z_iload hG dL_adds_133 rfl ?_
        refine z_imul hG dL_adds_135 (by omega) (by omega) ?_
        refine z_iadd hG dL_adds_136 (by omega) (by omega) ?_
        refine z_istore hG dL_adds_137 (by decide) (ls2 := [_, _, _, _, _, _, _, _, _, _]) rfl ?_
        refine z_aload hG dL_adds_139 rfl ?_
        refine z_iload hG dL_adds_141 rfl ?_
        refine z_iconst hG dL_adds_143 rfl ?_
        refine z_iload_n (i := 1) hG dL_adds_144 rfl rfl ?_
        refine z_iconst hG dL_adds_145 rfl ?_
        refine z_iload hG dL_adds_146 rfl ?_
        refine z_imul hG dL_adds_148 (by omega) (by omega) ?_
        refine z_ishr hG dL_adds_149 ?_
        refine z_sipush hG dL_adds_150 rfl ?_
        refine z_callS hG dL_adds_153 LS_L_22 (ct_L_up l g (by decide)) (by decide) rfl rfl (Nat.le_of_ble_eq_true rfl) ?_
        intro v9 m9 h9
        rw [h9.1, h9.2]
        clear h9 m9 v9
        refine z_iadd hG dL_adds_156 (by omega) (by omega) ?_
        refine z_iast hG dL_adds_157 rfl rfl (by omega) (by omega) ?_
        have hQ' := zQ_ast (k := 1) (j := 10 + 4 * (e : Int)) (v := 1 + zUp (zshr v (3 * (e : Int))) 240) (by decide) hQ
        obtain ⟨E1, hDd⟩ : ∃ D' : Int → Int, D' = fun x => if x = 10 + 4 * (e : Int) then 1 + zUp (zshr v (3 * (e : Int))) 240 else D x := ⟨_, rfl⟩
        rw [← hDd] at hQ'
        have hDo : ∀ k : Int, k ≠ 10 + 4 * (e : Int) → E1 k = D k := fun k hk => by rw [hDd]; exact if_neg hk
        have hDj : E1 (10 + 4 * (e : Int)) = 1 + zUp (zshr v (3 * (e : Int))) 240 := by rw [hDd]; exact if_pos rfl
        clear hDd
        replace hQ := hQ'
        clear hQ'
        replace hD1 : ∀ k : Int, 0 ≤ k → k < 8 → E1 k = if k < n then ad_A v w k else 0 := fun k k0 k1 => (hDo k (by omega)).trans (hD1 k k0 k1)
        replace hD2 : ∀ k : Nat, k < e → E1 (10 + 4 * (k : Int)) = ad_D v k ∧ E1 (10 + 4 * (k : Int) + 1) = ad_H w k ∧ E1 (10 + 4 * (k : Int) + 2) = zMk (ad_B w k) k 0 ∧ E1 (10 + 4 * (k : Int) + 3) = ad_G v k := fun k hk => by
          obtain ⟨x0, x1, x2, x3⟩ := hD2 k hk
          exact ⟨(hDo _ (by omega)).trans x0, (hDo _ (by omega)).trans x1, (hDo _ (by omega)).trans x2, (hDo _ (by omega)).trans x3⟩
        replace hD0 : ∀ k : Int, 10 + 4 * (e : Int) + 1 ≤ k → E1 k = 0 := fun k hk => (hDo k (by omega)).trans (hD0 k (by omega))
        have d0 : E1 (10 + 4 * (e : Int)) = ad_D v e := hDj
        clear hDo hDj
        refine z_aload hG dL_adds_158 rfl ?_
        refine z_iload hG dL_adds_160 rfl ?_
        refine z_iconst hG dL_adds_162 rfl ?_
        refine z_iadd hG dL_adds_163 (by omega) (by omega) ?_
        refine z_iload_n (i := 2) hG dL_adds_164 rfl rfl ?_
        refine z_iconst hG dL_adds_165 rfl ?_
        refine z_iload hG dL_adds_166 rfl ?_
        refine z_imul hG dL_adds_168 (by omega) (by omega) ?_
        refine z_ishr hG dL_adds_169 ?_
        refine z_iconst hG dL_adds_170 rfl ?_
        refine z_callS hG dL_adds_171 LS_L_22 (ct_L_up l g (by decide)) (by decide) rfl rfl (Nat.le_of_ble_eq_true rfl) ?_
        intro v9 m9 h9
        rw [h9.1, h9.2]
        clear h9 m9 v9
        refine z_iast hG dL_adds_174 rfl rfl (by omega) (by omega) ?_
        have hQ' := zQ_ast (k := 1) (j := 10 + 4 * (e : Int) + 1) (v := zUp (zshr w (4 * (e : Int))) 4) (by decide) hQ
        obtain ⟨E2, hDd⟩ : ∃ D' : Int → Int, D' = fun x => if x = 10 + 4 * (e : Int) + 1 then zUp (zshr w (4 * (e : Int))) 4 else E1 x := ⟨_, rfl⟩
        rw [← hDd] at hQ'
        have hDo : ∀ k : Int, k ≠ 10 + 4 * (e : Int) + 1 → E2 k = E1 k := fun k hk => by rw [hDd]; exact if_neg hk
        have hDj : E2 (10 + 4 * (e : Int) + 1) = zUp (zshr w (4 * (e : Int))) 4 := by rw [hDd]; exact if_pos rfl
        clear hDd
        replace hQ := hQ'
        clear hQ'
        replace hD1 : ∀ k : Int, 0 ≤ k → k < 8 → E2 k = if k < n then ad_A v w k else 0 := fun k k0 k1 => (hDo k (by omega)).trans (hD1 k k0 k1)
        replace hD2 : ∀ k : Nat, k < e → E2 (10 + 4 * (k : Int)) = ad_D v k ∧ E2 (10 + 4 * (k : Int) + 1) = ad_H w k ∧ E2 (10 + 4 * (k : Int) + 2) = zMk (ad_B w k) k 0 ∧ E2 (10 + 4 * (k : Int) + 3) = ad_G v k := fun k hk => by
          obtain ⟨x0, x1, x2, x3⟩ := hD2 k hk
          exact ⟨(hDo _ (by omega)).trans x0, (hDo _ (by omega)).trans x1, (hDo _ (by omega)).trans x2, (hDo _ (by omega)).trans x3⟩
        replace hD0 : ∀ k : Int, 10 + 4 * (e : Int) + 2 ≤ k → E2 k = 0 := fun k hk => (hDo k (by omega)).trans (hD0 k (by omega))
        replace d0 := (hDo (10 + 4 * (e : Int)) (by omega)).trans d0
        have d1 : E2 (10 + 4 * (e : Int) + 1) = ad_H w e := hDj
        clear hDo hDj
        refine z_aload_n (i := 0) hG dL_adds_175 rfl rfl ?_
        refine z_ldc2 hG dL_adds_176 KC_L_75 ?_
        refine z_callV hG dL_adds_179 LV_L_64 (cmr_put l g (by decide) hT.1 hB hQ) (by decide) rfl rfl rfl (Nat.le_of_ble_eq_true rfl) ?_
        intro v9 mm h9
        rw [h9.1]
        replace hQ := h9.2
        clear h9 v9
        obtain ⟨m1, hT, hQ⟩ : ∃ m2, zTp B m0 m2 (P ++ [59]) ∧ zQ (zRow m2 1 E2) mm := ⟨_, zTp_put1 hT (by first | omega | (simp only [List.length_append, List.length_cons, List.length_nil]; omega)) (by omega) zu_59, hQ⟩
        refine z_pop hG dL_adds_182 ?_
        refine z_aload_n (i := 0) hG dL_adds_183 rfl rfl ?_
        refine z_aload hG dL_adds_184 rfl ?_
        refine z_iload hG dL_adds_186 rfl ?_
        refine z_iald hG dL_adds_188 rfl rfl (by omega) (by omega) ?_
        rw [show mm 45 0 0 (10 + 4 * (e : Int)) = ad_D v e from (zQ_ald (k := 1) (by decide) hQ).trans d0]
        refine z_callS hG dL_adds_189 LS_L_71 (ct_L_number l g hT hB hQ (by omega) (by first | omega | (simp only [List.length_append, List.length_cons, List.length_nil]; omega))) (by decide) rfl rfl (Nat.le_of_ble_eq_true rfl) ?_
        intro v9 mm h9
        obtain ⟨q1, m1, hT, hQ⟩ := h9
        rw [q1]
        clear q1 v9
        refine z_aload_n (i := 0) hG dL_adds_192 rfl rfl ?_
        refine z_ldc2 hG dL_adds_193 KC_L_77 ?_
        refine z_bipush hG dL_adds_196 rfl ?_
        refine z_aload hG dL_adds_198 rfl ?_
        refine z_iload hG dL_adds_200 rfl ?_
        refine z_iconst hG dL_adds_202 rfl ?_
        refine z_iadd hG dL_adds_203 (by omega) (by omega) ?_
        refine z_iald hG dL_adds_204 rfl rfl (by omega) (by omega) ?_
        rw [show mm 45 0 0 (10 + 4 * (e : Int) + 1) = ad_H w e from (zQ_ald (k := 1) (by decide) hQ).trans d1]
        refine z_iadd hG dL_adds_205 (by omega) (by omega) ?_
        refine z_i2l hG dL_adds_206 ?_
        refine z_lor hG dL_adds_207 ?_
        refine z_callV hG dL_adds_208 LV_L_64 (cmr_put l g (by decide) hT.1 hB hQ) (by decide) rfl rfl rfl (Nat.le_of_ble_eq_true rfl) ?_
        intro v9 mm h9
        rw [h9.1]
        replace hQ := h9.2
        clear h9 v9
        obtain ⟨m1, hT, hQ⟩ : ∃ m2, zTp B m0 m2 ((P ++ [59] ++ zdig (ad_D v e)) ++ [47, 48 + ad_H w e]) ∧ zQ (zRow m2 1 E2) mm := ⟨_, zTp_put2 hT (by first | omega | (simp only [List.length_append, List.length_cons, List.length_nil]; omega)) (by omega) (by omega) (zu_47 (by omega)), hQ⟩
        refine z_pop hG dL_adds_211 ?_
        refine z_aload hG dL_adds_212 rfl ?_
        refine z_iload hG dL_adds_214 rfl ?_
        refine z_iconst hG dL_adds_216 rfl ?_
        refine z_iadd hG dL_adds_217 (by omega) (by omega) ?_
        refine z_iload_n (i := 1) hG dL_adds_218 rfl rfl ?_
        refine z_iconst hG dL_adds_219 rfl ?_
        refine z_iload hG dL_adds_220 rfl ?_
        refine z_imul hG dL_adds_222 (by omega) (by omega) ?_
        refine z_iconst hG dL_adds_223 rfl ?_
        refine z_iadd hG dL_adds_224 (by omega) (by omega) ?_
        refine z_ishr hG dL_adds_225 ?_
        refine z_iconst hG dL_adds_226 rfl ?_
        refine z_callS hG dL_adds_227 LS_L_22 (ct_L_up l g (by decide)) (by decide) rfl rfl (Nat.le_of_ble_eq_true rfl) ?_
        intro v9 m9 h9
        rw [h9.1, h9.2]
        clear h9 m9 v9
        refine z_iast hG dL_adds_230 rfl rfl (by omega) (by omega) ?_
        have hQ' := zQ_ast (k := 1) (j := 10 + 4 * (e : Int) + 3) (v := zUp (zshr v (2 * (e : Int) + 5)) 2) (by decide) hQ
        obtain ⟨E3, hDd⟩ : ∃ D' : Int → Int, D' = fun x => if x = 10 + 4 * (e : Int) + 3 then zUp (zshr v (2 * (e : Int) + 5)) 2 else E2 x := ⟨_, rfl⟩
        rw [← hDd] at hQ'
        have hDo : ∀ k : Int, k ≠ 10 + 4 * (e : Int) + 3 → E3 k = E2 k := fun k hk => by rw [hDd]; exact if_neg hk
        have hDj : E3 (10 + 4 * (e : Int) + 3) = zUp (zshr v (2 * (e : Int) + 5)) 2 := by rw [hDd]; exact if_pos rfl
        clear hDd
        replace hQ := hQ'
        clear hQ'
        replace hD1 : ∀ k : Int, 0 ≤ k → k < 8 → E3 k = if k < n then ad_A v w k else 0 := fun k k0 k1 => (hDo k (by omega)).trans (hD1 k k0 k1)
        replace hD2 : ∀ k : Nat, k < e → E3 (10 + 4 * (k : Int)) = ad_D v k ∧ E3 (10 + 4 * (k : Int) + 1) = ad_H w k ∧ E3 (10 + 4 * (k : Int) + 2) = zMk (ad_B w k) k 0 ∧ E3 (10 + 4 * (k : Int) + 3) = ad_G v k := fun k hk => by
          obtain ⟨x0, x1, x2, x3⟩ := hD2 k hk
          exact ⟨(hDo _ (by omega)).trans x0, (hDo _ (by omega)).trans x1, (hDo _ (by omega)).trans x2, (hDo _ (by omega)).trans x3⟩
        have d2 : E3 (10 + 4 * (e : Int) + 2) = 0 := (hDo _ (by omega)).trans (hD0 _ (by omega))
        replace hD0 : ∀ k : Int, 10 + 4 * (e : Int) + 4 ≤ k → E3 k = 0 := fun k hk => (hDo k (by omega)).trans (hD0 k (by omega))
        replace d0 := (hDo (10 + 4 * (e : Int)) (by omega)).trans d0
        replace d1 := (hDo (10 + 4 * (e : Int) + 1) (by omega)).trans d1
        have d3 : E3 (10 + 4 * (e : Int) + 3) = ad_G v e := hDj
        clear hDo hDj
        refine z_aload hG dL_adds_231 rfl ?_
        refine z_iload hG dL_adds_233 rfl ?_
        refine z_iconst hG dL_adds_235 rfl ?_
        refine z_iadd hG dL_adds_236 (by omega) (by omega) ?_
        refine z_iald hG dL_adds_237 rfl rfl (by omega) (by omega) ?_
        rw [show zset mm 45 0 0 (10 + 4 * (e : Int) + 3) (zUp (zshr v (2 * (e : Int) + 5)) 2) 45 0 0 (10 + 4 * (e : Int) + 3) = ad_G v e from (zQ_ald (k := 1) (by decide) hQ).trans d3]
        refine z_iconst hG dL_adds_238 rfl ?_
        refine z_icmp_ne hG dL_adds_239 (tgt := 250) rfl (fun zcq239 => ?_) (fun zcq239 => ?_)
        · refine z_iload hG dL_adds_250 rfl ?_
          refine z_iconst hG dL_adds_252 rfl ?_
          refine z_isub hG dL_adds_253 (by omega) (by omega) ?_
          refine z_istore hG dL_adds_254 (by decide) (ls2 := [_, _, _, _, _, _, _, _, _, _]) rfl ?_
          have hg0' : ad_G v e = 0 := by omega
          exact loopB e _ E3 m1 _ (Nat.le_refl e) hT (by rw [← hq3]; unfold zTxE; rw [if_neg (by omega)]; simp) hD1 hD2 d0 d1 (by rw [d2]) d3 hD0 hQ
        · refine z_aload_n (i := 0) hG dL_adds_242 rfl rfl ?_
          refine z_ldc2 hG dL_adds_243 KC_L_79 ?_
          refine z_callV hG dL_adds_246 LV_L_64 (cmr_put l g (by decide) hT.1 hB hQ) (by decide) rfl rfl rfl (Nat.le_of_ble_eq_true rfl) ?_
          intro v9 mm h9
          rw [h9.1]
          replace hQ := h9.2
          clear h9 v9
          obtain ⟨m1, hT, hQ⟩ : ∃ m2, zTp B m0 m2 ((P ++ [59] ++ zdig (ad_D v e) ++ [47, 48 + ad_H w e]) ++ [42]) ∧ zQ (zRow m2 1 E3) mm := ⟨_, zTp_put1 hT (by first | omega | (simp only [List.length_append, List.length_cons, List.length_nil]; omega)) (by omega) zu_42, hQ⟩
          refine z_pop hG dL_adds_249 ?_
          refine z_iload hG dL_adds_250 rfl ?_
          refine z_iconst hG dL_adds_252 rfl ?_
          refine z_isub hG dL_adds_253 (by omega) (by omega) ?_
          refine z_istore hG dL_adds_254 (by decide) (ls2 := [_, _, _, _, _, _, _, _, _, _]) rfl ?_
          have hg1 : ad_G v e = 1 := by omega
          exact loopB e _ E3 m1 _ (Nat.le_refl e) hT (by rw [← hq3]; unfold zTxE; rw [if_pos hg1]; simp) hD1 hD2 d0 d1 (by rw [d2]) d3 hD0 hQ
  have loopA : ∀ (c : Nat) (P : List Int) (D : Int → Int) (m1 mm : zM) (v8 v9 : Option zV), c ≤ n → zTp B m0 m1 P → P ++ (zTxA (ad_A v w) c ++ ad_S v w st 0) = ad_T v w base n st → (∀ k : Int, 0 ≤ k → k < 8 → D k = if (c : Int) ≤ k ∧ k < n then ad_A v w k else 0) → (∀ k : Int, 8 ≤ k → D k = 0) → zQ (zRow m1 1 D) mm → zZ X 44 [some (zr 0 0 0), some (zi v), some (zi w), some (zi (m0 2 0 0 5)), some (zi base), some (zi (st : Int)), some (zr 45 0 0), some (zi ((c : Int) - 1)), v8, v9] [] mm := by
    intro c
    induction c with
    | zero =>
      intro P D m1 mm v8 v9' hc hT hq hD1 hD0 hQ
      refine z_iload hG dL_adds_44 rfl ?_
      refine z_if_lt hG dL_adds_46 (tgt := 120) rfl (fun zcq46 => ?_) (fun zcq46 => ?_)
      · refine z_iconst hG dL_adds_120 rfl ?_
        refine z_istore hG dL_adds_121 (by decide) (ls2 := [_, _, _, _, _, _, _, _, _, _]) rfl ?_
        exact loopS st 0 P D m1 mm _ _ (by omega) hT hq (fun k k0 k1 => (hD1 k k0 k1).trans (by by_cases q : k < n; rw [if_pos ⟨by omega, q⟩, if_pos q]; rw [if_neg (by omega), if_neg q])) (fun k hk => by omega) (fun k hk => hD0 k (by omega)) hQ
      · exact absurd zcq46 (by omega)
    | succ c ih =>
      intro P D m1 mm v8 v9' hc hT hq hD1 hD0 hQ
      have hlen : (P ++ (zTxA (ad_A v w) (c + 1) ++ ad_S v w st 0)).length ≤ 75 := by rw [hq]; exact ad_Tl (by omega) hst
      rw [zTxA] at hq hlen
      have hab := ad_Ab (v := v) (w := w) (i := c)
      rw [show ((c + 1 : Nat) : Int) - 1 = c by omega]
      refine z_iload hG dL_adds_44 rfl ?_
      refine z_if_lt hG dL_adds_46 (tgt := 120) rfl (fun zcq46 => ?_) (fun zcq46 => ?_)
      · exact absurd zcq46 (by omega)
      · refine z_aload hG dL_adds_49 rfl ?_
        refine z_iload hG dL_adds_51 rfl ?_
        refine z_iload_n (i := 1) hG dL_adds_53 rfl rfl ?_
        refine z_iload hG dL_adds_54 rfl ?_
        refine z_ishr hG dL_adds_56 ?_
        refine z_iconst hG dL_adds_57 rfl ?_
        refine z_callS hG dL_adds_58 LS_L_22 (ct_L_up l g (by decide)) (by decide) rfl rfl (Nat.le_of_ble_eq_true rfl) ?_
        intro v9 m9 h9
        rw [h9.1, h9.2]
        clear h9 m9 v9
        refine z_if_ne hG dL_adds_61 (tgt := 68) rfl (fun zcq61 => ?_) (fun zcq61 => ?_)
        · try simp only [zite_eq0, ne_eq, Classical.not_not] at zcq61
          have ac : ad_A v w c = 1 + zUp (zshr w (2 * (c : Int))) 500 := if_neg zcq61
          have hu := zUp_bd (v := zshr w (2 * (c : Int))) (m := 500) (by decide)
          have ac0 : ¬ ad_A v w c = 0 := by omega
          rw [if_neg ac0] at hlen
          simp only [List.length_append, List.length_cons] at hlen
          have hzl := zdig_len (v := ad_A v w c)
          refine z_iconst hG dL_adds_68 rfl ?_
          refine z_iload_n (i := 2) hG dL_adds_69 rfl rfl ?_
          refine z_iconst hG dL_adds_70 rfl ?_
          refine z_iload hG dL_adds_71 rfl ?_
          refine z_imul hG dL_adds_73 (by omega) (by omega) ?_
          refine z_ishr hG dL_adds_74 ?_
          refine z_sipush hG dL_adds_75 rfl ?_
          refine z_callS hG dL_adds_78 LS_L_22 (ct_L_up l g (by decide)) (by decide) rfl rfl (Nat.le_of_ble_eq_true rfl) ?_
          intro v9 m9 h9
          rw [h9.1, h9.2]
          clear h9 m9 v9
          refine z_iadd hG dL_adds_81 (by omega) (by omega) ?_
          refine z_iast hG dL_adds_82 rfl rfl (by omega) (by omega) ?_
          have hQ' := zQ_ast (k := 1) (j := (c : Int)) (v := 1 + zUp (zshr w (2 * (c : Int))) 500) (by decide) hQ
          obtain ⟨E1, hDd⟩ : ∃ D' : Int → Int, D' = fun x => if x = (c : Int) then 1 + zUp (zshr w (2 * (c : Int))) 500 else D x := ⟨_, rfl⟩
          rw [← hDd] at hQ'
          have hDo : ∀ k : Int, k ≠ (c : Int) → E1 k = D k := fun k hk => by rw [hDd]; exact if_neg hk
          have hDj : E1 ((c : Int)) = 1 + zUp (zshr w (2 * (c : Int))) 500 := by rw [hDd]; exact if_pos rfl
          clear hDd
          replace hQ := hQ'
          clear hQ'
          replace hD0 : ∀ k : Int, 8 ≤ k → E1 k = 0 := fun k hk => (hDo k (by omega)).trans (hD0 k hk)
          replace hDj : E1 (c : Int) = ad_A v w c := hDj.trans ac.symm
          replace hD1 : ∀ k : Int, 0 ≤ k → k < 8 → E1 k = if (c : Int) ≤ k ∧ k < n then ad_A v w k else 0 := fun k k0 k1 => by
            by_cases q : k = c
            · rw [q, hDj, if_pos (by omega)]
            · rw [hDo k q, hD1 k k0 k1]
              by_cases q2 : (c : Int) + 1 ≤ k ∧ k < n
              · rw [if_pos (by omega), if_pos (by omega)]
              · rw [if_neg (by omega), if_neg (by omega)]
          clear hDo
          refine z_aload hG dL_adds_83 rfl ?_
          refine z_iload hG dL_adds_85 rfl ?_
          refine z_iald hG dL_adds_87 rfl rfl (by omega) (by omega) ?_
          rw [show zset mm 45 0 0 (c : Int) (1 + zUp (zshr w (2 * (c : Int))) 500) 45 0 0 (c : Int) = ad_A v w c from (zQ_ald (k := 1) (by decide) hQ).trans hDj]
          refine z_if_ne hG dL_adds_88 (tgt := 94) rfl (fun zcq88 => ?_) (fun zcq88 => ?_)
          · try simp only [zite_eq0, ne_eq, Classical.not_not] at zcq88
            refine z_aload_n (i := 0) hG dL_adds_94 rfl rfl ?_
            refine z_bipush hG dL_adds_95 rfl ?_
            refine z_iload hG dL_adds_97 rfl ?_
            refine z_iadd hG dL_adds_99 (by omega) (by omega) ?_
            refine z_i2l hG dL_adds_100 ?_
            refine z_callV hG dL_adds_101 LV_L_64 (cmr_put l g (by decide) hT.1 hB hQ) (by decide) rfl rfl rfl (Nat.le_of_ble_eq_true rfl) ?_
            intro v9 mm h9
            rw [h9.1]
            replace hQ := h9.2
            clear h9 v9
            obtain ⟨m1, hT, hQ⟩ : ∃ m2, zTp B m0 m2 (P ++ [97 + (c : Int)]) ∧ zQ (zRow m2 1 E1) mm := ⟨_, zTp_put1 hT (by first | omega | (simp only [List.length_append, List.length_cons, List.length_nil]; omega)) (by omega) (zu_i2l (by omega)), hQ⟩
            refine z_pop hG dL_adds_104 ?_
            refine z_aload_n (i := 0) hG dL_adds_105 rfl rfl ?_
            refine z_aload hG dL_adds_106 rfl ?_
            refine z_iload hG dL_adds_108 rfl ?_
            refine z_iald hG dL_adds_110 rfl rfl (by omega) (by omega) ?_
            rw [show mm 45 0 0 (c : Int) = ad_A v w c from (zQ_ald (k := 1) (by decide) hQ).trans hDj]
            refine z_callS hG dL_adds_111 LS_L_71 (ct_L_number l g hT hB hQ (by omega) (by first | omega | (simp only [List.length_append, List.length_cons, List.length_nil]; omega))) (by decide) rfl rfl (Nat.le_of_ble_eq_true rfl) ?_
            intro v9 mm h9
            obtain ⟨q1, m1, hT, hQ⟩ := h9
            rw [q1]
            clear q1 v9
            refine z_iinc hG dL_adds_114 (by decide) rfl (by omega) (by omega) (ls2 := [_, _, _, _, _, _, _, _, _, _]) rfl ?_
            refine z_goto hG dL_adds_117 (tgt := 44) rfl ?_
            rw [show (c : Int) + -1 = (c : Int) - 1 by omega]
            rw [if_neg ac0, show P ++ ((97 + (c : Int)) :: zdig (ad_A v w c) ++ zTxA (ad_A v w) c ++ ad_S v w st 0) = (P ++ [97 + (c : Int)] ++ zdig (ad_A v w c)) ++ (zTxA (ad_A v w) c ++ ad_S v w st 0) by simp] at hq
            exact ih _ E1 m1 _ v8 v9' (by omega) hT hq hD1 hD0 hQ
          · try simp only [zite_eq0, ne_eq, Classical.not_not] at zcq88
            first | exact absurd zcq88 ac0 | exact absurd ac0 zcq88
        · try simp only [zite_eq0, ne_eq, Classical.not_not] at zcq61
          have ac : ad_A v w c = 0 := if_pos zcq61
          refine z_iconst hG dL_adds_64 rfl ?_
          refine z_goto hG dL_adds_65 (tgt := 82) rfl ?_
          refine z_iast hG dL_adds_82 rfl rfl (by omega) (by omega) ?_
          have hQ' := zQ_ast (k := 1) (j := (c : Int)) (v := 0) (by decide) hQ
          obtain ⟨E1, hDd⟩ : ∃ D' : Int → Int, D' = fun x => if x = (c : Int) then 0 else D x := ⟨_, rfl⟩
          rw [← hDd] at hQ'
          have hDo : ∀ k : Int, k ≠ (c : Int) → E1 k = D k := fun k hk => by rw [hDd]; exact if_neg hk
          have hDj : E1 ((c : Int)) = 0 := by rw [hDd]; exact if_pos rfl
          clear hDd
          replace hQ := hQ'
          clear hQ'
          replace hD0 : ∀ k : Int, 8 ≤ k → E1 k = 0 := fun k hk => (hDo k (by omega)).trans (hD0 k hk)
          replace hDj : E1 (c : Int) = ad_A v w c := hDj.trans ac.symm
          replace hD1 : ∀ k : Int, 0 ≤ k → k < 8 → E1 k = if (c : Int) ≤ k ∧ k < n then ad_A v w k else 0 := fun k k0 k1 => by
            by_cases q : k = c
            · rw [q, hDj, if_pos (by omega)]
            · rw [hDo k q, hD1 k k0 k1]
              by_cases q2 : (c : Int) + 1 ≤ k ∧ k < n
              · rw [if_pos (by omega), if_pos (by omega)]
              · rw [if_neg (by omega), if_neg (by omega)]
          clear hDo
          refine z_aload hG dL_adds_83 rfl ?_
          refine z_iload hG dL_adds_85 rfl ?_
          refine z_iald hG dL_adds_87 rfl rfl (by omega) (by omega) ?_
          rw [show zset mm 45 0 0 (c : Int) (0) 45 0 0 (c : Int) = ad_A v w c from (zQ_ald (k := 1) (by decide) hQ).trans hDj]
          refine z_if_ne hG dL_adds_88 (tgt := 94) rfl (fun zcq88 => ?_) (fun zcq88 => ?_)
          · try simp only [zite_eq0, ne_eq, Classical.not_not] at zcq88
            first | exact absurd ac zcq88 | exact absurd zcq88 (by omega)
          · try simp only [zite_eq0, ne_eq, Classical.not_not] at zcq88
            refine z_goto hG dL_adds_91 (tgt := 114) rfl ?_
            refine z_iinc hG dL_adds_114 (by decide) rfl (by omega) (by omega) (ls2 := [_, _, _, _, _, _, _, _, _, _]) rfl ?_
            refine z_goto hG dL_adds_117 (tgt := 44) rfl ?_
            rw [show (c : Int) + -1 = (c : Int) - 1 by omega]
            rw [if_pos ac] at hq
            exact ih P E1 m1 _ v8 v9' (by omega) hT hq hD1 hD0 hQ
  refine z_astore hG dL_adds_27 (by decide) (ls2 := [_, _, _, _, _, _, _, _, _, _]) rfl ?_
  refine z_aload_n (i := 0) hG dL_adds_29 rfl rfl ?_
  refine z_iload hG dL_adds_30 rfl ?_
  refine z_callS hG dL_adds_32 LS_L_71 (ct_L_number l g hT0 hB hQ (by omega) (by simp)) (by decide) rfl rfl (Nat.le_of_ble_eq_true rfl) ?_
  intro v9 mm h9
  obtain ⟨q1, m1, hT, hQ⟩ := h9
  rw [q1]
  clear q1 v9
  refine z_aload_n (i := 0) hG dL_adds_35 rfl rfl ?_
  refine z_iconst hG dL_adds_36 rfl ?_
  refine z_callV hG dL_adds_37 LV_L_68 (cqc_1r l g hT.1 hB (by decide) hQ) (by decide) rfl rfl rfl (Nat.le_of_ble_eq_true rfl) ?_
  intro v9 mm h9
  rw [h9.1, hT.2.2 2 0 0 4 (by decide) (by decide)]
  replace hQ := h9.2
  clear h9 v9
  refine z_iconst hG dL_adds_40 rfl ?_
  refine z_isub hG dL_adds_41 (by omega) (by omega) ?_
  refine z_istore hG dL_adds_42 (by decide) (ls2 := [_, _, _, _, _, _, _, _, _, _]) rfl ?_
  rw [hn]
  exact loopA n _ _ m1 mm _ _ (Nat.le_refl n) hT hq0 (fun k k0 k1 => (if_neg (by omega)).symm) (fun k _ => rfl) hQ
