/-- the sign of the pad at a place, 0 behind its end -/
def zN (m : zM) (p : Int) : Int := if 0 ≤ p ∧ p < m 6 0 0 0 ∧ p < 80 then m 22 0 0 p else 0
def zdg (N : Int → Int) (p : Int) : Int := if 48 ≤ N p ∧ N p ≤ 57 then N p - 48 else -6
/-- the reader's place and whether all is good -/
def zRd (m : zM) (p g : Int) : zM := zset (zset m 7 0 0 2 p) 7 0 0 3 g
theorem zRd_p {m : zM} {p g : Int} : zRd m p g 7 0 0 2 = p := by simp [zRd, zset]
theorem zRd_g {m : zM} {p g : Int} : zRd m p g 7 0 0 3 = g := by simp [zRd, zset]
theorem zRd_o {m : zM} {p g : Int} {t : Nat} {s i k : Int} (h : t ≠ 7) : zRd m p g t s i k = m t s i k := by simp [zRd, zset, h]
theorem zRd_sp {m : zM} {p g q : Int} : zset (zRd m p g) 7 0 0 2 q = zRd m q g := by
  funext t s i k
  simp only [zRd, zset]
  grind
theorem zRd_sg {m : zM} {p g q : Int} : zset (zRd m p g) 7 0 0 3 q = zRd m p q := zset_set
theorem zRd_so {m : zM} {p g : Int} {t : Nat} {s i k v : Int} (h : t ≠ 7) : zset (zRd m p g) t s i k v = zRd (zset m t s i k v) p g := by
  funext t' s' i' k'
  simp only [zRd, zset]
  grind
theorem zRd_eq {m : zM} : zRd m (m 7 0 0 2) (m 7 0 0 3) = m := by rw [zRd]; funext t s i k; simp only [zset]; grind
def zTx (m : zM) : Prop := (0 ≤ m 6 0 0 0 ∧ m 6 0 0 0 ≤ 80) ∧ ∀ j : Int, 0 ≤ j → j < 80 → 0 ≤ m 22 0 0 j ∧ m 22 0 0 j < 127
theorem zN_bd {m : zM} (h : zTx m) (p : Int) : 0 ≤ zN m p ∧ zN m p < 127 := by
  unfold zN
  split
  · exact h.2 p (by omega) (by omega)
  · decide
theorem zN_lt {m : zM} {p : Int} (h : zN m p ≠ 0) : 0 ≤ p ∧ p < 80 ∧ p < m 6 0 0 0 := by
  unfold zN at h
  split at h
  · omega
  · exact absurd rfl h
theorem zdg_bd {N : Int → Int} {p : Int} : -6 ≤ zdg N p ∧ zdg N p ≤ 9 := by unfold zdg; split <;> omega
theorem zdg_N {N : Int → Int} {p : Int} (h : 0 ≤ zdg N p) : N p ≠ 0 := by
  unfold zdg at h
  split at h <;> omega
theorem zdg_lt {m : zM} {p : Int} (h : 0 ≤ zdg (zN m) p) : 0 ≤ p ∧ p < 80 ∧ p < m 6 0 0 0 := zN_lt (zdg_N h)
theorem zN_set {m : zM} {t : Nat} {s i k v : Int} (h6 : t ≠ 6) (h22 : t ≠ 22) : zN (zset m t s i k v) = zN m := by
  funext p
  simp [zN, zset, Ne.symm h6, Ne.symm h22]
theorem zTx_set {m : zM} {t : Nat} {s i k v : Int} (h6 : t ≠ 6) (h22 : t ≠ 22) (h : zTx m) : zTx (zset m t s i k v) := by
  simpa [zTx, zset, Ne.symm h6, Ne.symm h22] using h
theorem ct_at (l : Launch) (g : zG) {m : zM} {p q gg : Int} (hT : zTx m) : zMet l g Y_X2_at [zr 6 0 0, zi q] (zRd m p gg) (fun v m' => v = some (zi (zN m q)) ∧ m' = zRd m p gg) := by
  have h := ct_X2_at l g (mem := zRd m p gg) (p := q) (fun j h0 h1 => by rw [zRd_o (by decide)]; have := hT.2 j h0 h1; omega)
  rw [zRd_o (by decide), zRd_o (by decide)] at h
  exact h
set_option maxRecDepth 20000 in
theorem ct_X3_digitHere (l : Launch) (g : zG) {m : zM} {p gg : Int} (hT : zTx m) : zMet l g Y_X3_digitHere [zr 7 0 0] (zRd m p gg) (fun v m' => v = some (zi (zdg (zN m) p)) ∧ m' = zRd m p gg) := by
  refine zMet_introF (by decide +kernel) (Nat.le_of_ble_eq_true rfl) (ls0 := [some (zr 7 0 0), none]) rfl fun X hG hE => ?_
  have hG : zGood X l g RX3 cX3_digitHere 1 2 := hG
  have hE : zEnd X (some .int) _ := hE
  have hb := zN_bd hT p
  refine z_aload_n (i := 0) hG dX3_digitHere_0 rfl rfl ?_
  refine z_get_3_1 hG dX3_digitHere_1 FL_X3_21 ?_
  refine z_aload_n (i := 0) hG dX3_digitHere_4 rfl rfl ?_
  refine z_getI hG dX3_digitHere_5 FL_X3_25 rfl rfl (kk := 2) rfl ?_
  rw [zRd_p]
  refine z_callV hG dX3_digitHere_8 LV_X3_51 (ct_at l g hT) (by decide) rfl rfl rfl (Nat.le_of_ble_eq_true rfl) ?_
  intro v9 m9 h9
  rw [h9.1, h9.2]
  clear h9 m9 v9
  refine z_istore_n (i := 1) hG dX3_digitHere_11 rfl (by decide) (ls2 := [_, _]) rfl ?_
  refine z_iload_n (i := 1) hG dX3_digitHere_12 rfl rfl ?_
  refine z_bipush hG dX3_digitHere_13 rfl ?_
  refine z_icmp_lt hG dX3_digitHere_15 (tgt := 31) rfl (fun c15 => ?_) (fun c15 => ?_)
  · refine z_bipush hG dX3_digitHere_31 rfl ?_
    refine z_iret hG hE dX3_digitHere_33 trivial ?_
    refine ⟨?_, rfl⟩
    rw [zdg]
    first | rw [if_pos (by omega)] | rw [if_neg (by omega)]
  · refine z_iload_n (i := 1) hG dX3_digitHere_18 rfl rfl ?_
    refine z_bipush hG dX3_digitHere_19 rfl ?_
    refine z_icmp_gt hG dX3_digitHere_21 (tgt := 31) rfl (fun c21 => ?_) (fun c21 => ?_)
    · refine z_bipush hG dX3_digitHere_31 rfl ?_
      refine z_iret hG hE dX3_digitHere_33 trivial ?_
      refine ⟨?_, rfl⟩
      rw [zdg]
      first | rw [if_pos (by omega)] | rw [if_neg (by omega)]
    · refine z_iload_n (i := 1) hG dX3_digitHere_24 rfl rfl ?_
      refine z_bipush hG dX3_digitHere_25 rfl ?_
      refine z_isub hG dX3_digitHere_27 (by omega) (by omega) ?_
      refine z_goto hG dX3_digitHere_28 (tgt := 33) rfl ?_
      refine z_iret hG hE dX3_digitHere_33 trivial ?_
      refine ⟨?_, rfl⟩
      rw [zdg]
      first | rw [if_pos (by omega)] | rw [if_neg (by omega)]
set_option maxRecDepth 20000 in
theorem ct_X3_readDigit (l : Launch) (g : zG) {m : zM} {p gg a b : Int} (hT : zTx m) (ha : 0 ≤ a) (hg : gg = 0 ∨ gg = 1) : zMet l g Y_X3_readDigit [zr 7 0 0, zi a, zi b] (zRd m p gg) (fun v m' => v = some (zi (if gg = 1 ∧ a ≤ zdg (zN m) p ∧ zdg (zN m) p ≤ b then zdg (zN m) p else 0)) ∧ m' = if gg = 1 ∧ a ≤ zdg (zN m) p ∧ zdg (zN m) p ≤ b then zRd m (p + 1) 1 else zRd m p 0) := by
  refine zMet_introF (by decide +kernel) (Nat.le_of_ble_eq_true rfl) (ls0 := [some (zr 7 0 0), some (zi a), some (zi b), none]) rfl fun X hG hE => ?_
  have hG : zGood X l g RX3 cX3_readDigit 2 4 := hG
  have hE : zEnd X (some .int) _ := hE
  have hb := zdg_bd (N := zN m) (p := p)
  refine z_aload_n (i := 0) hG dX3_readDigit_0 rfl rfl ?_
  refine z_callV hG dX3_readDigit_1 LV_X3_65 (ct_X3_digitHere l g hT) (by decide) rfl rfl rfl (Nat.le_of_ble_eq_true rfl) ?_
  intro v9 m9 h9
  rw [h9.1, h9.2]
  clear h9 m9 v9
  refine z_istore_n (i := 3) hG dX3_readDigit_4 rfl (by decide) (ls2 := [_, _, _, _]) rfl ?_
  refine z_aload_n (i := 0) hG dX3_readDigit_5 rfl rfl ?_
  refine z_getI hG dX3_readDigit_6 FL_X3_29 rfl rfl (kk := 3) rfl ?_
  rw [zRd_g]
  refine z_if_eq hG dX3_readDigit_9 (tgt := 22) rfl (fun c9 => ?_) (fun c9 => ?_)
  · try simp only [zite_eq0, ne_eq, Classical.not_not] at c9
    refine z_aload_n (i := 0) hG dX3_readDigit_22 rfl rfl ?_
    refine z_iconst hG dX3_readDigit_23 rfl ?_
    refine z_putB hG dX3_readDigit_24 FP_X3_29 rfl rfl (kk := 3) rfl (by first | exact Or.inl rfl | exact Or.inr rfl) ?_
    rw [zRd_sg]
    refine z_iconst hG dX3_readDigit_27 rfl ?_
    refine z_iret hG hE dX3_readDigit_28 trivial ?_
    first | (rw [if_pos (by omega), if_pos (by omega)]; exact ⟨rfl, rfl⟩) | (rw [if_neg (by omega), if_neg (by omega)]; exact ⟨rfl, rfl⟩)
  · try simp only [zite_eq0, ne_eq, Classical.not_not] at c9
    refine z_iload_n (i := 3) hG dX3_readDigit_12 rfl rfl ?_
    refine z_iload_n (i := 1) hG dX3_readDigit_13 rfl rfl ?_
    refine z_icmp_lt hG dX3_readDigit_14 (tgt := 22) rfl (fun c14 => ?_) (fun c14 => ?_)
    · refine z_aload_n (i := 0) hG dX3_readDigit_22 rfl rfl ?_
      refine z_iconst hG dX3_readDigit_23 rfl ?_
      refine z_putB hG dX3_readDigit_24 FP_X3_29 rfl rfl (kk := 3) rfl (by first | exact Or.inl rfl | exact Or.inr rfl) ?_
      rw [zRd_sg]
      refine z_iconst hG dX3_readDigit_27 rfl ?_
      refine z_iret hG hE dX3_readDigit_28 trivial ?_
      first | (rw [if_pos (by omega), if_pos (by omega)]; exact ⟨rfl, rfl⟩) | (rw [if_neg (by omega), if_neg (by omega)]; exact ⟨rfl, rfl⟩)
    · refine z_iload_n (i := 3) hG dX3_readDigit_17 rfl rfl ?_
      refine z_iload_n (i := 2) hG dX3_readDigit_18 rfl rfl ?_
      refine z_icmp_le hG dX3_readDigit_19 (tgt := 29) rfl (fun c19 => ?_) (fun c19 => ?_)
      · refine z_aload_n (i := 0) hG dX3_readDigit_29 rfl rfl ?_
        first | refine z_dup_r hG dX3_readDigit_30 ?_ | refine z_dup_i hG dX3_readDigit_30 ?_
        refine z_getI hG dX3_readDigit_31 FL_X3_25 rfl rfl (kk := 2) rfl ?_
        rw [zRd_p]
        have hlt := zdg_lt (m := m) (p := p) (by omega)
        refine z_iconst hG dX3_readDigit_34 rfl ?_
        refine z_iadd hG dX3_readDigit_35 (by omega) (by omega) ?_
        refine z_put hG dX3_readDigit_36 FP_X3_25 rfl rfl (kk := 2) rfl ?_
        rw [zRd_sp]
        obtain rfl : gg = 1 := by omega
        refine z_iload_n (i := 3) hG dX3_readDigit_39 rfl rfl ?_
        refine z_iret hG hE dX3_readDigit_40 trivial ?_
        first | (rw [if_pos (by omega), if_pos (by omega)]; exact ⟨rfl, rfl⟩) | (rw [if_neg (by omega), if_neg (by omega)]; exact ⟨rfl, rfl⟩)
      · refine z_aload_n (i := 0) hG dX3_readDigit_22 rfl rfl ?_
        refine z_iconst hG dX3_readDigit_23 rfl ?_
        refine z_putB hG dX3_readDigit_24 FP_X3_29 rfl rfl (kk := 3) rfl (by first | exact Or.inl rfl | exact Or.inr rfl) ?_
        rw [zRd_sg]
        refine z_iconst hG dX3_readDigit_27 rfl ?_
        refine z_iret hG hE dX3_readDigit_28 trivial ?_
        first | (rw [if_pos (by omega), if_pos (by omega)]; exact ⟨rfl, rfl⟩) | (rw [if_neg (by omega), if_neg (by omega)]; exact ⟨rfl, rfl⟩)
/-- a number that was begun: the place behind it, its value, whether all is good -/
def zNm (N : Int → Int) (most : Int) : Nat → Int → Int → Int × Int × Int
  | 0, p, v => (p, v, 1)
  | n + 1, p, v => if zdg N p < 0 then (p, v, 1) else if v * 10 + zdg N p ≤ most then zNm N most n (p + 1) (v * 10 + zdg N p) else (p, v * 10, 0)
def zNum (N : Int → Int) (most p : Int) : Int × Int × Int := if 1 ≤ zdg N p then zNm N most 79 (p + 1) (zdg N p) else (p, 0, 0)
theorem zNm_bd {m : zM} {most : Int} (hm : 9 ≤ most ∧ most ≤ 500) : ∀ (n : Nat) (p v : Int), 0 ≤ p ∧ p ≤ 80 → 1 ≤ v ∧ v ≤ most → (0 ≤ (zNm (zN m) most n p v).1 ∧ (zNm (zN m) most n p v).1 ≤ 80) ∧ (0 ≤ (zNm (zN m) most n p v).2.1 ∧ (zNm (zN m) most n p v).2.1 ≤ 5000) ∧ ((zNm (zN m) most n p v).2.2 = 0 ∨ ((zNm (zN m) most n p v).2.2 = 1 ∧ 1 ≤ (zNm (zN m) most n p v).2.1 ∧ (zNm (zN m) most n p v).2.1 ≤ most))
  | 0, p, v, hp, hv => ⟨hp, ⟨show (0 : Int) ≤ v by omega, show v ≤ 5000 by omega⟩, Or.inr ⟨rfl, hv⟩⟩
  | n + 1, p, v, hp, hv => by
    rw [zNm]
    have hb := zdg_bd (N := zN m) (p := p)
    split
    · exact ⟨hp, by simp only; omega, Or.inr ⟨rfl, hv⟩⟩
    · next h =>
      have hl := zdg_lt (m := m) (p := p) (by omega)
      split
      · exact zNm_bd hm n _ _ ⟨by omega, by omega⟩ ⟨by omega, by omega⟩
      · exact ⟨hp, by simp only; omega, Or.inl rfl⟩
theorem zNum_bd {m : zM} {most p : Int} (hm : 9 ≤ most ∧ most ≤ 500) (hp : 0 ≤ p ∧ p ≤ 80) : (0 ≤ (zNum (zN m) most p).1 ∧ (zNum (zN m) most p).1 ≤ 80) ∧ (0 ≤ (zNum (zN m) most p).2.1 ∧ (zNum (zN m) most p).2.1 ≤ 5000) ∧ ((zNum (zN m) most p).2.2 = 0 ∨ ((zNum (zN m) most p).2.2 = 1 ∧ 1 ≤ (zNum (zN m) most p).2.1 ∧ (zNum (zN m) most p).2.1 ≤ most)) := by
  unfold zNum
  split
  · next h =>
    have hl := zdg_lt (m := m) (p := p) (by omega)
    have hb := zdg_bd (N := zN m) (p := p)
    exact zNm_bd hm 79 _ _ ⟨by omega, by omega⟩ ⟨by omega, by omega⟩
  · exact ⟨hp, by simp only; omega, Or.inl rfl⟩
set_option maxRecDepth 20000 in
theorem ct_X3_readNumber (l : Launch) (g : zG) {m : zM} {p most : Int} (hT : zTx m) (hm : 9 ≤ most ∧ most ≤ 500) (hp : 0 ≤ p ∧ p ≤ 80) : zMet l g Y_X3_readNumber [zr 7 0 0, zi most] (zRd m p 1) (fun v m' => v = some (zi (zNum (zN m) most p).2.1) ∧ m' = zRd m (zNum (zN m) most p).1 (zNum (zN m) most p).2.2) := by
  refine zMet_introF (by decide +kernel) (Nat.le_of_ble_eq_true rfl) (ls0 := [some (zr 7 0 0), some (zi most), none, none]) rfl fun X hG hE => ?_
  have hG : zGood X l g RX3 cX3_readNumber 3 4 := hG
  have hE : zEnd X (some .int) _ := hE
  have done : ∀ (v d : Int) (q gg : Int), gg = 0 → zNum (zN m) most p = (q, v, gg) → zZ X 10 [some (zr 7 0 0), some (zi most), some (zi v), some (zi d)] [] (zRd m q gg) := by
    intro v d q gg hgg hq
    subst hgg
    refine z_iload_n (i := 3) hG dX3_readNumber_10 rfl rfl ?_
    refine z_bipush hG dX3_readNumber_11 rfl ?_
    refine z_icmp_ge hG dX3_readNumber_13 (tgt := 58) rfl (fun c13 => ?_) (fun c13 => ?_)
    · refine z_iload_n (i := 2) hG dX3_readNumber_58 rfl rfl ?_
      refine z_iret hG hE dX3_readNumber_59 trivial ?_
      rw [hq]
      exact ⟨rfl, rfl⟩
    · refine z_aload_n (i := 0) hG dX3_readNumber_16 rfl rfl ?_
      refine z_getI hG dX3_readNumber_17 FL_X3_29 rfl rfl (kk := 3) rfl ?_
      rw [zRd_g]
      refine z_if_eq hG dX3_readNumber_20 (tgt := 58) rfl (fun c20 => ?_) (fun c20 => ?_)
      · try simp only [zite_eq0, ne_eq, Classical.not_not] at c20
        refine z_iload_n (i := 2) hG dX3_readNumber_58 rfl rfl ?_
        refine z_iret hG hE dX3_readNumber_59 trivial ?_
        rw [hq]
        exact ⟨rfl, rfl⟩
      · try simp only [zite_eq0, ne_eq, Classical.not_not] at c20
        exact absurd trivial c20
  have loop : ∀ (n : Nat) (v d : Int) (q : Int), d + n = 80 → 1 ≤ d → (0 ≤ q ∧ q ≤ 80) → (1 ≤ v ∧ v ≤ most) → zNum (zN m) most p = zNm (zN m) most n q v → zZ X 10 [some (zr 7 0 0), some (zi most), some (zi v), some (zi d)] [] (zRd m q 1) := by
    intro n
    induction n with
    | zero =>
      intro v d q hd h1d hq hv hE1
      refine z_iload_n (i := 3) hG dX3_readNumber_10 rfl rfl ?_
      refine z_bipush hG dX3_readNumber_11 rfl ?_
      refine z_icmp_ge hG dX3_readNumber_13 (tgt := 58) rfl (fun c13 => ?_) (fun c13 => ?_)
      · refine z_iload_n (i := 2) hG dX3_readNumber_58 rfl rfl ?_
        refine z_iret hG hE dX3_readNumber_59 trivial ?_
        rw [hE1]
        constructor <;> rfl
      · exact absurd c13 (by omega)
    | succ n ih =>
      intro v d q hd h1d hq hv hE1
      rw [zNm] at hE1
      have hb := zdg_bd (N := zN m) (p := q)
      refine z_iload_n (i := 3) hG dX3_readNumber_10 rfl rfl ?_
      refine z_bipush hG dX3_readNumber_11 rfl ?_
      refine z_icmp_ge hG dX3_readNumber_13 (tgt := 58) rfl (fun c13 => ?_) (fun c13 => ?_)
      · exact absurd c13 (by omega)
      · refine z_aload_n (i := 0) hG dX3_readNumber_16 rfl rfl ?_
        refine z_getI hG dX3_readNumber_17 FL_X3_29 rfl rfl (kk := 3) rfl ?_
        rw [zRd_g]
        refine z_if_eq hG dX3_readNumber_20 (tgt := 58) rfl (fun c20 => ?_) (fun c20 => ?_)
        · try simp only [zite_eq0, ne_eq, Classical.not_not] at c20
          exact absurd c20 (by decide)
        · try simp only [zite_eq0, ne_eq, Classical.not_not] at c20
          refine z_aload_n (i := 0) hG dX3_readNumber_23 rfl rfl ?_
          refine z_callV hG dX3_readNumber_24 LV_X3_65 (ct_X3_digitHere l g hT) (by decide) rfl rfl rfl (Nat.le_of_ble_eq_true rfl) ?_
          intro v9 m9 h9
          rw [h9.1, h9.2]
          clear h9 m9 v9
          refine z_if_lt hG dX3_readNumber_27 (tgt := 58) rfl (fun c27 => ?_) (fun c27 => ?_)
          · refine z_iload_n (i := 2) hG dX3_readNumber_58 rfl rfl ?_
            refine z_iret hG hE dX3_readNumber_59 trivial ?_
            rw [if_pos (by omega)] at hE1
            rw [hE1]
            exact ⟨rfl, rfl⟩
          · refine z_iload_n (i := 2) hG dX3_readNumber_30 rfl rfl ?_
            refine z_bipush hG dX3_readNumber_31 rfl ?_
            refine z_imul hG dX3_readNumber_33 (by omega) (by omega) ?_
            refine z_aload_n (i := 0) hG dX3_readNumber_34 rfl rfl ?_
            refine z_iconst hG dX3_readNumber_35 rfl ?_
            refine z_bipush hG dX3_readNumber_36 rfl ?_
            refine z_iload_n (i := 1) hG dX3_readNumber_38 rfl rfl ?_
            refine z_iload_n (i := 2) hG dX3_readNumber_39 rfl rfl ?_
            refine z_bipush hG dX3_readNumber_40 rfl ?_
            refine z_imul hG dX3_readNumber_42 (by omega) (by omega) ?_
            refine z_isub hG dX3_readNumber_43 (by omega) (by omega) ?_
            refine z_min hG dX3_readNumber_44 LM_X3_68 (by decide) (Nat.le_of_ble_eq_true rfl) ?_
            refine z_callV hG dX3_readNumber_47 LV_X3_61 (ct_X3_readDigit l g hT (by decide) (Or.inr rfl)) (by decide) rfl rfl rfl (Nat.le_of_ble_eq_true rfl) ?_
            intro v9 m9 h9
            rw [h9.1, h9.2]
            clear h9 m9 v9
            have hv9 : 0 ≤ (if (1 : Int) = 1 ∧ 0 ≤ zdg (zN m) q ∧ zdg (zN m) q ≤ (if most - v * 10 < 9 then most - v * 10 else 9) then zdg (zN m) q else 0) ∧ (if (1 : Int) = 1 ∧ 0 ≤ zdg (zN m) q ∧ zdg (zN m) q ≤ (if most - v * 10 < 9 then most - v * 10 else 9) then zdg (zN m) q else 0) ≤ 9 := by split <;> omega
            refine z_iadd hG dX3_readNumber_50 (by omega) (by omega) ?_
            refine z_istore_n (i := 2) hG dX3_readNumber_51 rfl (by decide) (ls2 := [_, _, _, _]) rfl ?_
            refine z_iinc hG dX3_readNumber_52 (by decide) rfl (by omega) (by omega) (ls2 := [_, _, _, _]) rfl ?_
            refine z_goto hG dX3_readNumber_55 (tgt := 10) rfl ?_
            by_cases h : v * 10 + zdg (zN m) q ≤ most
            · have hl := zdg_lt (m := m) (p := q) (by omega)
              have hx : (1 : Int) = 1 ∧ 0 ≤ zdg (zN m) q ∧ zdg (zN m) q ≤ (if most - v * 10 < 9 then most - v * 10 else 9) := ⟨rfl, by omega, by split <;> omega⟩
              rw [if_neg (by omega), if_pos h] at hE1
              rw [if_pos hx, if_pos hx]
              exact ih _ _ _ (by omega) (by omega) ⟨by omega, by omega⟩ ⟨by omega, h⟩ hE1
            · rw [if_neg (by omega), if_neg h] at hE1
              have hx : ¬ ((1 : Int) = 1 ∧ 0 ≤ zdg (zN m) q ∧ zdg (zN m) q ≤ (if most - v * 10 < 9 then most - v * 10 else 9)) := by
                rintro ⟨-, -, h3⟩
                split at h3 <;> omega
              rw [if_neg hx, if_neg hx]
              exact done _ _ _ _ rfl (by rw [hE1, Int.add_zero])
  refine z_aload_n (i := 0) hG dX3_readNumber_0 rfl rfl ?_
  refine z_iconst hG dX3_readNumber_1 rfl ?_
  refine z_bipush hG dX3_readNumber_2 rfl ?_
  refine z_callV hG dX3_readNumber_4 LV_X3_61 (ct_X3_readDigit l g hT (by decide) (Or.inr rfl)) (by decide) rfl rfl rfl (Nat.le_of_ble_eq_true rfl) ?_
  intro v9 m9 h9
  rw [h9.1, h9.2]
  clear h9 m9 v9
  refine z_istore_n (i := 2) hG dX3_readNumber_7 rfl (by decide) (ls2 := [_, _, _, _]) rfl ?_
  refine z_iconst hG dX3_readNumber_8 rfl ?_
  refine z_istore_n (i := 3) hG dX3_readNumber_9 rfl (by decide) (ls2 := [_, _, _, _]) rfl ?_
  have hb := zdg_bd (N := zN m) (p := p)
  by_cases h : 1 ≤ zdg (zN m) p
  · have hl := zdg_lt (m := m) (p := p) (by omega)
    rw [if_pos ⟨rfl, h, hb.2⟩, if_pos ⟨rfl, h, hb.2⟩]
    exact loop 79 _ 1 _ rfl (by decide) ⟨by omega, by omega⟩ ⟨by omega, by omega⟩ (by rw [zNum, if_pos h])
  · rw [if_neg (fun q => h q.2.1), if_neg (fun q => h q.2.1)]
    exact done _ _ _ _ rfl (by rw [zNum, if_neg h])
