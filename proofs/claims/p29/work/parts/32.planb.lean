theorem zBest_over {n : Int} {sz pr : Int → Int} {w x0 x1 x2 : Int} (h : zBest n sz pr w x0 x1 x2) (hw : 1 ≤ w) (hs : ∀ k : Int, 0 ≤ k → k < n → 0 < sz k ∧ sz k ≤ 2000) (hp : ∀ k : Int, 0 ≤ k → k < n → 1 ≤ pr k) : 0 ≤ x0 * sz 0 + x1 * sz 1 + x2 * sz 2 - w ∧ x0 * sz 0 + x1 * sz 1 + x2 * sz 2 - w ≤ 2000 := by
  obtain ⟨⟨a0, a1, a2, b0, b1, b2, hle⟩, hall⟩ := h
  refine ⟨by omega, ?_⟩
  by_cases c0 : x0 = 0
  · by_cases c1 : x1 = 0
    · by_cases c2 : x2 = 0
      · subst c0 c1 c2
        simp at hle
        omega
      · have := hs 2 (by decide) (b2 c2)
        have hp2 := hp 2 (by decide) (b2 c2)
        by_cases q : w ≤ x0 * sz 0 + x1 * sz 1 + (x2 - 1) * sz 2
        · exfalso
          refine hall x0 x1 (x2 - 1) ⟨a0, a1, by omega, b0, b1, fun z => b2 c2, q⟩ ?_
          unfold zklt zky
          simp only [Int.sub_mul]
          omega
        · simp only [Int.sub_mul] at q
          omega
    · have := hs 1 (by decide) (b1 c1)
      have hp2 := hp 1 (by decide) (b1 c1)
      by_cases q : w ≤ x0 * sz 0 + (x1 - 1) * sz 1 + x2 * sz 2
      · exfalso
        refine hall x0 (x1 - 1) x2 ⟨a0, by omega, a2, b0, fun z => b1 c1, b2, q⟩ ?_
        unfold zklt zky
        simp only [Int.sub_mul]
        omega
      · simp only [Int.sub_mul] at q
        omega
  · have := hs 0 (by decide) (b0 c0)
    have hp2 := hp 0 (by decide) (b0 c0)
    by_cases q : w ≤ (x0 - 1) * sz 0 + x1 * sz 1 + x2 * sz 2
    · exfalso
      refine hall (x0 - 1) x1 x2 ⟨by omega, a1, a2, fun z => b0 c0, b1, b2, q⟩ ?_
      unfold zklt zky
      simp only [Int.sub_mul]
      omega
    · simp only [Int.sub_mul] at q
      omega
noncomputable def zbuyW (D : zD) (i left : Int) (W : zPl) : zPl := zps0 (zps0 (zps0 (zps0 (zps0 (zps0 W 3 i (zwt D i (zbt (D 3 i 0) (D 4 i) (D 5 i) left))) 4 i (zwt D i (zbt (D 3 i 0) (D 4 i) (D 5 i) left) - left)) 7 i (zct D i (zbt (D 3 i 0) (D 4 i) (D 5 i) left))) 8 i (zbt (D 3 i 0) (D 4 i) (D 5 i) left).1) 9 i (zbt (D 3 i 0) (D 4 i) (D 5 i) left).2.1) 10 i (zbt (D 3 i 0) (D 4 i) (D 5 i) left).2.2
def zput3 (m : zM) (i n : Int) : zM := fun t' s' i' k' => if t' = 32 ∧ s' = 0 ∧ i' = i ∧ 0 ≤ k' ∧ k' < n then m 33 0 0 k' else m t' s' i' k'
/-- within bounds -/
def zplb (W : zPl) : Prop := ∀ j : Int, 0 ≤ j → j < 8 → (0 ≤ W 0 j ∧ W 0 j ≤ 100000) ∧ (0 ≤ W 1 j ∧ W 1 j ≤ W 0 j) ∧ (0 ≤ W 2 j ∧ W 2 j ≤ 100000) ∧ (0 ≤ W 3 j ∧ W 3 j ≤ 200000) ∧ (0 ≤ W 4 j ∧ W 4 j ≤ 2000) ∧ 0 ≤ W 6 j ∧ (0 ≤ W 7 j ∧ W 7 j ≤ 200000000) ∧ (W 4 j ≤ W 3 j)
set_option maxRecDepth 20000 in
theorem ct_X6_buy (l : Launch) (g : zG) {mem : zM} {i w : Int} (hi : 0 ≤ i ∧ i < 8) (hk : zkin mem 0 i) (hn : 0 < mem 3 0 i 2) (hsea : zsea mem) (hw : 1 ≤ w ∧ w ≤ 100000) : zMet l g Y_X6_buy [zr 8 0 0, zr 3 0 i, zi i, zi w] mem (fun v m' => v = none ∧ (∀ (t : Nat) (s i' k : Int), ¬ zscr t → m' t s i' k = mem t s i' k) ∧ zsea m' ∧ (∀ W : zPl, zShop mem W → zShop m' (zbuyW (zDc mem) i w W)) ∧ (0 ≤ zwt (zDc mem) i (zbt (mem 3 0 i 2) (mem 12 0 i) (mem 13 0 i) w) - w ∧ zwt (zDc mem) i (zbt (mem 3 0 i 2) (mem 12 0 i) (mem 13 0 i) w) - w ≤ 2000) ∧ (0 ≤ zct (zDc mem) i (zbt (mem 3 0 i 2) (mem 12 0 i) (mem 13 0 i) w) ∧ zct (zDc mem) i (zbt (mem 3 0 i 2) (mem 12 0 i) (mem 13 0 i) w) ≤ 200000000)) := by
  refine zMet_introF (by decide +kernel) (Nat.le_of_ble_eq_true rfl) (ls0 := [some (zr 8 0 0), some (zr 3 0 i), some (zi i), some (zi w), none]) rfl fun X hG hE => ?_
  have hG : zGood X l g RX6 cX6_buy 3 5 := hG
  have hE : zEnd X (none) _ := hE
  refine z_aload_n (i := 0) hG dX6_buy_0 rfl rfl ?_
  refine z_get_6_9 hG dX6_buy_1 FL_X6_44 ?_
  refine z_aload_n (i := 1) hG dX6_buy_4 rfl rfl ?_
  refine z_callV hG dX6_buy_5 LV_X6_94 (ct_X9_rank l g hk hsea) (by decide) rfl rfl rfl (Nat.le_of_ble_eq_true rfl) ?_
  intro v9 m1 h9
  obtain ⟨h9a, hO1, hsea1, R0, R1, R2, hrk⟩ := h9
  rw [h9a]
  clear h9a v9
  have hpre := zrk_pre hk hn hrk hsea1 hw
  refine z_aload_n (i := 0) hG dX6_buy_8 rfl rfl ?_
  refine z_get_6_9 hG dX6_buy_9 FL_X6_44 ?_
  refine z_iload_n (i := 3) hG dX6_buy_12 rfl rfl ?_
  refine z_callV hG dX6_buy_13 LV_X6_98 (ct_X9_find l g hpre.1) (by decide) rfl rfl rfl (Nat.le_of_ble_eq_true rfl) ?_
  intro v9 m2 h9
  obtain ⟨h9a, hF⟩ := h9
  rw [h9a]
  clear h9a v9
  obtain ⟨x0, x1, x2, hbest, b0, b1, b2, bc, bw⟩ := zfind_best hk hn hrk hsea1 hw hF
  have hover := zBest_over hbest hw.1 (fun k k0 k1 => by have := hk.2.1 k k0 k1; omega) (fun k k0 k1 => (hk.2.2.1 k k0 k1).1)
  have hx := zbt_eq hbest
  have hcb : 0 ≤ m2 9 0 0 0 ∧ m2 9 0 0 0 ≤ 200000000 := by
    have hfo := zfil_ok (R0 := R0) (R1 := R1) (w := w) (f := 0) (S1 := m1 36 0 0 1) (S2 := m1 36 0 0 2) (P1 := m1 37 0 0 1) (P2 := m1 37 0 0 2) (s := 0) (t := 0) hpre.1.2.1 hpre.1.2.2.1 (by decide) (by decide) (fun q => absurd rfl q) (fun q => absurd rfl q)
    exact (hF.2.1 (hF.2.2 _ 0 0 hfo.1 ⟨hpre.1.2.2.2.2.2.1.1, hpre.1.2.2.2.2.2.2.1.1⟩).1).1
  refine z_okM fun hM2 => ?_
  have hwin := (hM2 9 0 0 1).2
  have z91 : ∀ (a : Nat) (v : Int), a ≠ 9 → zset m2 a 0 0 i v 9 0 0 1 = m2 9 0 0 1 := fun a v h => by simp [zset, Ne.symm h]
  have z90 : ∀ (a b : Nat) (v u : Int), a ≠ 9 → b ≠ 9 → zset (zset m2 a 0 0 i v) b 0 0 i u 9 0 0 0 = m2 9 0 0 0 := fun a b v u h h2 => by simp [zset, Ne.symm h, Ne.symm h2]
  refine z_aload_n (i := 0) hG dX6_buy_16 rfl rfl ?_
  refine z_get_6_3 hG dX6_buy_17 FL_X6_21 ?_
  refine z_iload_n (i := 2) hG dX6_buy_20 rfl rfl ?_
  refine z_aload_n (i := 0) hG dX6_buy_21 rfl rfl ?_
  refine z_get_6_9 hG dX6_buy_22 FL_X6_44 ?_
  refine z_getI hG dX6_buy_25 FL_X6_101 rfl rfl (kk := 1) rfl ?_
  refine z_iast hG dX6_buy_28 rfl rfl (by omega) (by omega) ?_
  refine z_aload_n (i := 0) hG dX6_buy_29 rfl rfl ?_
  refine z_get_6_4 hG dX6_buy_30 FL_X6_24 ?_
  refine z_iload_n (i := 2) hG dX6_buy_33 rfl rfl ?_
  refine z_aload_n (i := 0) hG dX6_buy_34 rfl rfl ?_
  refine z_get_6_9 hG dX6_buy_35 FL_X6_44 ?_
  refine z_getI hG dX6_buy_38 FL_X6_101 rfl rfl (kk := 1) rfl ?_
  rw [z91 26 _ (by decide)]
  refine z_iload_n (i := 3) hG dX6_buy_41 rfl rfl ?_
  refine z_isub hG dX6_buy_42 (by omega) (by omega) ?_
  refine z_iast hG dX6_buy_43 rfl rfl (by omega) (by omega) ?_
  refine z_aload_n (i := 0) hG dX6_buy_44 rfl rfl ?_
  refine z_get_6_7 hG dX6_buy_45 FL_X6_33 ?_
  refine z_iload_n (i := 2) hG dX6_buy_48 rfl rfl ?_
  refine z_aload_n (i := 0) hG dX6_buy_49 rfl rfl ?_
  refine z_get_6_9 hG dX6_buy_50 FL_X6_44 ?_
  refine z_getI hG dX6_buy_53 FL_X6_104 rfl rfl (kk := 0) rfl ?_
  rw [z90 26 27 _ _ (by decide) (by decide)]
  refine z_iast hG dX6_buy_56 rfl rfl (by omega) (by omega) ?_
  refine z_iconst hG dX6_buy_57 rfl ?_
  refine z_istore hG dX6_buy_58 (by decide) (ls2 := [_, _, _, _, _]) rfl ?_
  generalize hm3 : zset (zset (zset m2 26 0 0 i (m2 9 0 0 1)) 27 0 0 i (m2 9 0 0 1 - w)) 30 0 0 i (m2 9 0 0 0) = m3
  have loop : ∀ (n : Nat) (j : Int), 0 ≤ j → j + n = 3 → zZ X 60 [some (zr 8 0 0), some (zr 3 0 i), some (zi i), some (zi w), some (zi j)] [] (zput3 m3 i j) := by
    intro n
    induction n with
    | zero =>
      intro j hj0 hj
      refine z_iload hG dX6_buy_60 rfl ?_
      refine z_iconst hG dX6_buy_62 rfl ?_
      refine z_icmp_ge hG dX6_buy_63 (tgt := 91) rfl (fun c63 => ?_) (fun c63 => ?_)
      · refine z_vret hG hE dX6_buy_91 ?_
        obtain rfl : j = 3 := by omega
        have hO : ∀ (t : Nat) (s i' k : Int), ¬ zscr t → zput3 m3 i 3 t s i' k = mem t s i' k := fun t s i' k h => by
          unfold zscr at h
          have e1 : m2 t s i' k = m1 t s i' k := hF.1 t s i' k (by omega) (by omega) (by omega)
          have e2 : m1 t s i' k = mem t s i' k := hO1 t s i' k (by omega) (by omega) (by omega) (by omega)
          rw [← e2, ← e1, ← hm3]
          simp only [zput3, zset]
          grind
        have hDw : zwt (zDc mem) i (x0, x1, x2) = m2 9 0 0 1 := by rw [bw]; rfl
        have hDc : zct (zDc mem) i (x0, x1, x2) = m2 9 0 0 0 := by rw [bc]; rfl
        refine ⟨rfl, hO, fun j h0 h1 => ?_, fun W hW => ?_, ?_, ?_⟩
        · have := hsea1 j h0 h1
          rw [← hF.1 36 0 0 j (by decide) (by decide) (by decide), ← hF.1 37 0 0 j (by decide) (by decide) (by decide)] at this
          rw [← hm3]
          simpa [zput3, zset] using this
        · intro j h0 h1
          have hWj := hW j h0 h1
          have em : ∀ (t : Nat) (k q : Int), 23 ≤ t → t ≤ 32 → m2 t 0 q k = mem t 0 q k := fun t k q ht0 ht1 => by
            rw [hF.1 t 0 q k (by omega) (by omega) (by omega), hO1 t 0 q k (by omega) (by omega) (by omega) (by omega)]
          have hDD : zbt (zDc mem 3 i 0) (zDc mem 4 i) (zDc mem 5 i) w = (x0, x1, x2) := hx
          unfold zbuyW
          rw [hDD, hDw, hDc]
          have b0' : m3 33 0 0 0 = x0 := by rw [← hm3, ← b0]; simp [zset]
          have b1' : m3 33 0 0 1 = x1 := by rw [← hm3, ← b1]; simp [zset]
          have b2' : m3 33 0 0 2 = x2 := by rw [← hm3, ← b2]; simp [zset]
          by_cases q : j = i
          · subst q
            refine ⟨⟨?_, ?_, ?_, ?_, ?_, ?_, ?_, ?_⟩, ?_, ?_, ?_⟩
            · simp [zps0, zput3, ← hm3, zset, em, hWj]
            · simp [zps0, zput3, ← hm3, zset, em, hWj]
            · simp [zps0, zput3, ← hm3, zset, em, hWj]
            · simp [zps0, zput3, ← hm3, zset]
            · simp [zps0, zput3, ← hm3, zset]
            · simp [zps0, zput3, ← hm3, zset, em, hWj]
            · simp [zps0, zput3, ← hm3, zset, em, hWj]
            · simp [zps0, zput3, ← hm3, zset]
            · simp [zps0, zput3, b0']
            · simp [zps0, zput3, b1']
            · simp [zps0, zput3, b2']
          · refine ⟨⟨?_, ?_, ?_, ?_, ?_, ?_, ?_, ?_⟩, ?_, ?_, ?_⟩ <;> simp [zps0, zput3, ← hm3, zset, em, hWj, q]
        · rw [hx, hDw, bw]; exact hover
        · rw [hx, hDc]; exact hcb
      · exact absurd c63 (by omega)
    | succ n ih =>
      intro j hj0 hj
      refine z_iload hG dX6_buy_60 rfl ?_
      refine z_iconst hG dX6_buy_62 rfl ?_
      refine z_icmp_ge hG dX6_buy_63 (tgt := 91) rfl (fun c63 => ?_) (fun c63 => ?_)
      · exact absurd c63 (by omega)
      · refine z_aload_n (i := 0) hG dX6_buy_66 rfl rfl ?_
        refine z_get_6_8 hG dX6_buy_67 FL_X6_38 ?_
        refine z_iload_n (i := 2) hG dX6_buy_70 rfl rfl ?_
        refine z_aa_31 hG dX6_buy_71 (by omega) (by omega) ?_
        refine z_iload hG dX6_buy_72 rfl ?_
        refine z_aload_n (i := 0) hG dX6_buy_74 rfl rfl ?_
        refine z_get_6_9 hG dX6_buy_75 FL_X6_44 ?_
        refine z_get_9_2 hG dX6_buy_78 FL_X6_107 ?_
        refine z_iload hG dX6_buy_81 rfl ?_
        refine z_iald hG dX6_buy_83 rfl rfl (by omega) (by omega) ?_
        refine z_iast hG dX6_buy_84 rfl rfl (by omega) (by omega) ?_
        refine z_iinc hG dX6_buy_85 (by decide) rfl (by omega) (by omega) (ls2 := [_, _, _, _, _]) rfl ?_
        refine z_goto hG dX6_buy_88 (tgt := 60) rfl ?_
        refine z_mem ?_ (ih (j + 1) (by omega) (by omega))
        funext t' s' i' k'
        simp only [zset, zput3]
        grind
  refine z_mem ?_ (loop 3 0 (by decide) rfl)
  funext t' s' i' k'
  simp only [zput3]
  rw [if_neg (by omega)]
