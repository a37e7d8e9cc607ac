theorem zRd_ite {m : zM} {c : Prop} [Decidable c] {a b : Int} : (if c then zRd m a 1 else zRd m b 0) = zRd m (if c then a else b) (if c then 1 else 0) := by split <;> rfl
def zname (N A : Int → Int) (p : Int) : Int := if 0 ≤ N p - 97 ∧ N p - 97 < 8 ∧ A (N p - 97) = 0 then N p - 97 else -6
def zs2 (N : Int → Int) (p g : Int) : Int × Int := (if g = 1 ∧ N p = 47 then p + 1 else p, if g = 1 ∧ N p = 47 then 1 else 0)
def zs3 (N : Int → Int) (p g : Int) : Int × Int × Int := (if g = 1 ∧ 0 ≤ zdg N p ∧ zdg N p ≤ 3 then p + 1 else p, if g = 1 ∧ 0 ≤ zdg N p ∧ zdg N p ≤ 3 then zdg N p else 0, if g = 1 ∧ 0 ≤ zdg N p ∧ zdg N p ≤ 3 then 1 else 0)
def zs4 (N : Int → Int) (p g : Int) : Int := if g = 1 ∧ N p = 42 then 1 else 0
def zBf (N : Int → Int) (k : Int) : Nat → Int → Int → Int × Int × Int
  | 0, p, b => (p, b, 1)
  | n + 1, p, b => if N p = 64 then (if 0 ≤ zdg N (p + 1) ∧ zdg N (p + 1) < k ∧ zand (zshr b (zdg N (p + 1))) 1 ≠ 1 then zBf N k n (p + 1 + 1) (zor b (zshl 1 (zdg N (p + 1)))) else (p + 1, zor b 0, 0)) else (p, b, 1)
def zs5 (N : Int → Int) (k p g : Int) : Int × Int × Int := if g = 1 then zBf N k 8 p 0 else (p, 0, 0)
/-- a step that is read: the place behind it, whether all is good, its duration, hands, growth, the steps before it -/
def zSp (N : Int → Int) (k p : Int) : Int × Int × Int × Int × Int × Int :=
  let a := zNum N 240 p
  let b := zs2 N a.1 a.2.2
  let c := zs3 N b.1 b.2
  let d := zs4 N c.1 c.2.2
  let e := zs5 N k (c.1 + d) c.2.2
  (e.1, e.2.2, a.2.1, c.2.1, d, e.2.1)
def zSm (m : zM) (k p : Int) : zM :=
  let t := zSp (zN m) k p
  zset (zset (zset (zset (zset m 5 9 k 0 t.2.2.1) 5 9 k 1 t.2.2.2.1) 5 9 k 3 t.2.2.2.2.1) 5 9 k 2 t.2.2.2.2.2) 4 9 0 2 (k + 1)
theorem zBf_bd {m : zM} {k : Int} : ∀ (n : Nat) (p b : Int), 0 ≤ p ∧ p ≤ 80 → (0 ≤ (zBf (zN m) k n p b).1 ∧ (zBf (zN m) k n p b).1 ≤ 80) ∧ ((zBf (zN m) k n p b).2.2 = 0 ∨ (zBf (zN m) k n p b).2.2 = 1)
  | 0, p, b, hp => ⟨hp, Or.inr rfl⟩
  | n + 1, p, b, hp => by
    rw [zBf]
    split
    · next h =>
      have h1 := zN_lt (m := m) (p := p) (by omega)
      split
      · next h2 =>
        have h3 := zdg_lt h2.1
        exact zBf_bd n _ _ ⟨by omega, by omega⟩
      · exact ⟨⟨show 0 ≤ p + 1 by omega, show p + 1 ≤ 80 by omega⟩, Or.inl rfl⟩
    · exact ⟨hp, Or.inr rfl⟩
theorem zSp_bd {m : zM} {k p : Int} (hp : 0 ≤ p ∧ p ≤ 80) : (0 ≤ (zSp (zN m) k p).1 ∧ (zSp (zN m) k p).1 ≤ 80) ∧ ((zSp (zN m) k p).2.1 = 0 ∨ (zSp (zN m) k p).2.1 = 1) := by
  have h1 := zNum_bd (m := m) (most := 240) (by decide) hp
  simp only [zSp]
  generalize zNum (zN m) 240 p = a at *
  have h2 : 0 ≤ (zs2 (zN m) a.1 a.2.2).1 ∧ (zs2 (zN m) a.1 a.2.2).1 ≤ 80 := by
    simp only [zs2]
    split
    · next h => have := zN_lt (m := m) (p := a.1) (by omega); omega
    · exact h1.1
  generalize zs2 (zN m) a.1 a.2.2 = b at *
  have h3 : 0 ≤ (zs3 (zN m) b.1 b.2).1 ∧ (zs3 (zN m) b.1 b.2).1 ≤ 80 := by
    simp only [zs3]
    split
    · next h => have := zdg_lt (m := m) (p := b.1) (by omega); omega
    · exact h2
  generalize zs3 (zN m) b.1 b.2 = c at *
  have h4 : 0 ≤ c.1 + zs4 (zN m) c.1 c.2.2 ∧ c.1 + zs4 (zN m) c.1 c.2.2 ≤ 80 := by
    simp only [zs4]
    split
    · next h => have := zN_lt (m := m) (p := c.1) (by omega); omega
    · omega
  rw [zs5]
  split
  · exact zBf_bd 8 _ _ h4
  · exact ⟨h4, Or.inl rfl⟩
theorem zSm_N {m : zM} {k p : Int} : zN (zSm m k p) = zN m := by
  simp only [zSm]
  rw [zN_set (by decide) (by decide), zN_set (by decide) (by decide), zN_set (by decide) (by decide), zN_set (by decide) (by decide), zN_set (by decide) (by decide)]
theorem zSm_T {m : zM} {k p : Int} (h : zTx m) : zTx (zSm m k p) := by
  simp only [zSm]
  exact zTx_set (by decide) (by decide) (zTx_set (by decide) (by decide) (zTx_set (by decide) (by decide) (zTx_set (by decide) (by decide) (zTx_set (by decide) (by decide) h))))
set_option maxRecDepth 20000 in
theorem ct_X3_nameHere (l : Launch) (g : zG) {m : zM} {p gg : Int} (hT : zTx m) : zMet l g Y_X3_nameHere [zr 7 0 0] (zRd m p gg) (fun v m' => v = some (zi (zname (zN m) (m 17 9 0) p)) ∧ m' = zRd m p gg) := by
  refine zMet_introF (by decide +kernel) (Nat.le_of_ble_eq_true rfl) (ls0 := [some (zr 7 0 0), none]) rfl fun X hG hE => ?_
  have hG : zGood X l g RX3 cX3_nameHere 1 2 := hG
  have hE : zEnd X (some .int) _ := hE
  have hb := zN_bd hT p
  refine z_aload_n (i := 0) hG dX3_nameHere_0 rfl rfl ?_
  refine z_get_3_1 hG dX3_nameHere_1 FL_X3_21 ?_
  refine z_aload_n (i := 0) hG dX3_nameHere_4 rfl rfl ?_
  refine z_getI hG dX3_nameHere_5 FL_X3_25 rfl rfl (kk := 2) rfl ?_
  rw [zRd_p]
  refine z_callV hG dX3_nameHere_8 LV_X3_51 (ct_at l g hT) (by decide) rfl rfl rfl (Nat.le_of_ble_eq_true rfl) ?_
  intro v9 m9 h9
  rw [h9.1, h9.2]
  clear h9 m9 v9
  refine z_bipush hG dX3_nameHere_11 rfl ?_
  refine z_isub hG dX3_nameHere_13 (by omega) (by omega) ?_
  refine z_istore_n (i := 1) hG dX3_nameHere_14 rfl (by decide) (ls2 := [_, _]) rfl ?_
  refine z_iload_n (i := 1) hG dX3_nameHere_15 rfl rfl ?_
  refine z_if_lt hG dX3_nameHere_16 (tgt := 41) rfl (fun c16 => ?_) (fun c16 => ?_)
  · refine z_bipush hG dX3_nameHere_41 rfl ?_
    refine z_iret hG hE dX3_nameHere_43 trivial ?_
    refine ⟨?_, rfl⟩
    rw [zname]
    first | rw [if_pos (by omega)] | rw [if_neg (by omega)]
  · refine z_iload_n (i := 1) hG dX3_nameHere_19 rfl rfl ?_
    refine z_bipush hG dX3_nameHere_20 rfl ?_
    refine z_icmp_ge hG dX3_nameHere_22 (tgt := 41) rfl (fun c22 => ?_) (fun c22 => ?_)
    · refine z_bipush hG dX3_nameHere_41 rfl ?_
      refine z_iret hG hE dX3_nameHere_43 trivial ?_
      refine ⟨?_, rfl⟩
      rw [zname]
      first | rw [if_pos (by omega)] | rw [if_neg (by omega)]
    · refine z_aload_n (i := 0) hG dX3_nameHere_25 rfl rfl ?_
      refine z_get_3_0 hG dX3_nameHere_26 FL_X3_12 ?_
      refine z_get_4_3 hG dX3_nameHere_29 FL_X3_73 ?_
      refine z_iload_n (i := 1) hG dX3_nameHere_32 rfl rfl ?_
      refine z_iald hG dX3_nameHere_33 rfl rfl (by omega) (by omega) ?_
      rw [zRd_o (by decide)]
      refine z_if_ne hG dX3_nameHere_34 (tgt := 41) rfl (fun c34 => ?_) (fun c34 => ?_)
      · try simp only [zite_eq0, ne_eq, Classical.not_not] at c34
        refine z_bipush hG dX3_nameHere_41 rfl ?_
        refine z_iret hG hE dX3_nameHere_43 trivial ?_
        refine ⟨?_, rfl⟩
        rw [zname]
        first | rw [if_pos (by omega)] | rw [if_neg (by omega)]
      · try simp only [zite_eq0, ne_eq, Classical.not_not] at c34
        refine z_iload_n (i := 1) hG dX3_nameHere_37 rfl rfl ?_
        refine z_goto hG dX3_nameHere_38 (tgt := 43) rfl ?_
        refine z_iret hG hE dX3_nameHere_43 trivial ?_
        refine ⟨?_, rfl⟩
        rw [zname]
        first | rw [if_pos (by omega)] | rw [if_neg (by omega)]
set_option maxRecDepth 20000 in
theorem ct_X3_readAmount (l : Launch) (g : zG) {m : zM} {p n : Int} (hT : zTx m) (hp : 0 ≤ p ∧ p < 80) (hn : 0 ≤ n ∧ n < 8) : zMet l g Y_X3_readAmount [zr 7 0 0, zi n] (zRd m p 1) (fun v m' => v = none ∧ m' = zRd (zset m 17 9 0 n (zNum (zN m) 500 (p + 1)).2.1) (zNum (zN m) 500 (p + 1)).1 (zNum (zN m) 500 (p + 1)).2.2) := by
  refine zMet_introF (by decide +kernel) (Nat.le_of_ble_eq_true rfl) (ls0 := [some (zr 7 0 0), some (zi n), none]) rfl fun X hG hE => ?_
  have hG : zGood X l g RX3 cX3_readAmount 4 3 := hG
  have hE : zEnd X (none) _ := hE
  refine z_aload_n (i := 0) hG dX3_readAmount_0 rfl rfl ?_
  first | refine z_dup_r hG dX3_readAmount_1 ?_ | refine z_dup_i hG dX3_readAmount_1 ?_
  refine z_getI hG dX3_readAmount_2 FL_X3_25 rfl rfl (kk := 2) rfl ?_
  rw [zRd_p]
  refine z_iconst hG dX3_readAmount_5 rfl ?_
  refine z_iadd hG dX3_readAmount_6 (by omega) (by omega) ?_
  refine z_put hG dX3_readAmount_7 FP_X3_25 rfl rfl (kk := 2) rfl ?_
  rw [zRd_sp]
  refine z_aload_n (i := 0) hG dX3_readAmount_10 rfl rfl ?_
  refine z_sipush hG dX3_readAmount_11 rfl ?_
  refine z_callV hG dX3_readAmount_14 LV_X3_36 (ct_X3_readNumber l g hT (by decide) ⟨by omega, by omega⟩) (by decide) rfl rfl rfl (Nat.le_of_ble_eq_true rfl) ?_
  intro v9 m9 h9
  rw [h9.1, h9.2]
  clear h9 m9 v9
  refine z_istore_n (i := 2) hG dX3_readAmount_17 rfl (by decide) (ls2 := [_, _, _]) rfl ?_
  refine z_iload_n (i := 1) hG dX3_readAmount_18 rfl rfl ?_
  refine z_if_lt hG dX3_readAmount_19 (tgt := 38) rfl (fun c19 => ?_) (fun c19 => ?_)
  · exact absurd c19 (by omega)
  · refine z_iload_n (i := 1) hG dX3_readAmount_22 rfl rfl ?_
    refine z_bipush hG dX3_readAmount_23 rfl ?_
    refine z_icmp_ge hG dX3_readAmount_25 (tgt := 38) rfl (fun c25 => ?_) (fun c25 => ?_)
    · exact absurd c25 (by omega)
    · refine z_aload_n (i := 0) hG dX3_readAmount_28 rfl rfl ?_
      refine z_get_3_0 hG dX3_readAmount_29 FL_X3_12 ?_
      refine z_get_4_3 hG dX3_readAmount_32 FL_X3_73 ?_
      refine z_iload_n (i := 1) hG dX3_readAmount_35 rfl rfl ?_
      refine z_iload_n (i := 2) hG dX3_readAmount_36 rfl rfl ?_
      refine z_iast hG dX3_readAmount_37 rfl rfl (by omega) (by omega) ?_
      refine z_vret hG hE dX3_readAmount_38 ?_
      exact ⟨rfl, zRd_so (by decide)⟩
set_option maxRecDepth 20000 in
theorem ct_X3_readSign (l : Launch) (g : zG) {m : zM} {p gg c : Int} (hT : zTx m) (hg : gg = 0 ∨ gg = 1) (hc : c ≠ 0) : zMet l g Y_X3_readSign [zr 7 0 0, zi c] (zRd m p gg) (fun v m' => v = none ∧ m' = zRd m (if gg = 1 ∧ zN m p = c then p + 1 else p) (if gg = 1 ∧ zN m p = c then 1 else 0)) := by
  refine zMet_introF (by decide +kernel) (Nat.le_of_ble_eq_true rfl) (ls0 := [some (zr 7 0 0), some (zi c)]) rfl fun X hG hE => ?_
  have hG : zGood X l g RX3 cX3_readSign 1 2 := hG
  have hE : zEnd X (none) _ := hE
  refine z_aload_n (i := 0) hG dX3_readSign_0 rfl rfl ?_
  refine z_getI hG dX3_readSign_1 FL_X3_29 rfl rfl (kk := 3) rfl ?_
  rw [zRd_g]
  refine z_if_eq hG dX3_readSign_4 (tgt := 35) rfl (fun c4 => ?_) (fun c4 => ?_)
  · try simp only [zite_eq0, ne_eq, Classical.not_not] at c4
    refine z_aload_n (i := 0) hG dX3_readSign_35 rfl rfl ?_
    refine z_iconst hG dX3_readSign_36 rfl ?_
    refine z_putB hG dX3_readSign_37 FP_X3_29 rfl rfl (kk := 3) rfl (by first | exact Or.inl rfl | exact Or.inr rfl) ?_
    try rw [zRd_sg]
    refine z_vret hG hE dX3_readSign_40 ?_
    refine ⟨rfl, ?_⟩
    first | rw [if_pos (by omega), if_pos (by omega)] | rw [if_neg (by omega), if_neg (by omega)]
  · try simp only [zite_eq0, ne_eq, Classical.not_not] at c4
    refine z_aload_n (i := 0) hG dX3_readSign_7 rfl rfl ?_
    refine z_get_3_1 hG dX3_readSign_8 FL_X3_21 ?_
    refine z_aload_n (i := 0) hG dX3_readSign_11 rfl rfl ?_
    refine z_getI hG dX3_readSign_12 FL_X3_25 rfl rfl (kk := 2) rfl ?_
    rw [zRd_p]
    refine z_callV hG dX3_readSign_15 LV_X3_51 (ct_at l g hT) (by decide) rfl rfl rfl (Nat.le_of_ble_eq_true rfl) ?_
    intro v9 m9 h9
    rw [h9.1, h9.2]
    clear h9 m9 v9
    refine z_iload_n (i := 1) hG dX3_readSign_18 rfl rfl ?_
    refine z_icmp_ne hG dX3_readSign_19 (tgt := 35) rfl (fun c19 => ?_) (fun c19 => ?_)
    · refine z_aload_n (i := 0) hG dX3_readSign_35 rfl rfl ?_
      refine z_iconst hG dX3_readSign_36 rfl ?_
      refine z_putB hG dX3_readSign_37 FP_X3_29 rfl rfl (kk := 3) rfl (by first | exact Or.inl rfl | exact Or.inr rfl) ?_
      try rw [zRd_sg]
      refine z_vret hG hE dX3_readSign_40 ?_
      refine ⟨rfl, ?_⟩
      first | rw [if_pos (by omega), if_pos (by omega)] | rw [if_neg (by omega), if_neg (by omega)]
    · refine z_aload_n (i := 0) hG dX3_readSign_22 rfl rfl ?_
      first | refine z_dup_r hG dX3_readSign_23 ?_ | refine z_dup_i hG dX3_readSign_23 ?_
      refine z_getI hG dX3_readSign_24 FL_X3_25 rfl rfl (kk := 2) rfl ?_
      rw [zRd_p]
      have hl := zN_lt (m := m) (p := p) (by omega)
      refine z_iconst hG dX3_readSign_27 rfl ?_
      refine z_iadd hG dX3_readSign_28 (by omega) (by omega) ?_
      refine z_put hG dX3_readSign_29 FP_X3_25 rfl rfl (kk := 2) rfl ?_
      rw [zRd_sp]
      obtain rfl : gg = 1 := by omega
      refine z_goto hG dX3_readSign_32 (tgt := 40) rfl ?_
      try rw [zRd_sg]
      refine z_vret hG hE dX3_readSign_40 ?_
      refine ⟨rfl, ?_⟩
      first | rw [if_pos (by omega), if_pos (by omega)] | rw [if_neg (by omega), if_neg (by omega)]
set_option maxRecDepth 20000 in
theorem ct_X3_readStepBefore (l : Launch) (g : zG) {m : zM} {p k b : Int} (hT : zTx m) : zMet l g Y_X3_readStepBefore [zr 7 0 0, zi k, zi b] (zRd m p 1) (fun v m' => v = some (zi (if 0 ≤ zdg (zN m) p ∧ zdg (zN m) p < k ∧ zand (zshr b (zdg (zN m) p)) 1 ≠ 1 then zshl 1 (zdg (zN m) p) else 0)) ∧ m' = zRd m (if 0 ≤ zdg (zN m) p ∧ zdg (zN m) p < k ∧ zand (zshr b (zdg (zN m) p)) 1 ≠ 1 then p + 1 else p) (if 0 ≤ zdg (zN m) p ∧ zdg (zN m) p < k ∧ zand (zshr b (zdg (zN m) p)) 1 ≠ 1 then 1 else 0)) := by
  refine zMet_introF (by decide +kernel) (Nat.le_of_ble_eq_true rfl) (ls0 := [some (zr 7 0 0), some (zi k), some (zi b), none]) rfl fun X hG hE => ?_
  have hG : zGood X l g RX3 cX3_readStepBefore 2 4 := hG
  have hE : zEnd X (some .int) _ := hE
  refine z_aload_n (i := 0) hG dX3_readStepBefore_0 rfl rfl ?_
  refine z_callV hG dX3_readStepBefore_1 LV_X3_65 (ct_X3_digitHere l g hT) (by decide) rfl rfl rfl (Nat.le_of_ble_eq_true rfl) ?_
  intro v9 m9 h9
  rw [h9.1, h9.2]
  clear h9 m9 v9
  refine z_istore_n (i := 3) hG dX3_readStepBefore_4 rfl (by decide) (ls2 := [_, _, _, _]) rfl ?_
  refine z_iload_n (i := 3) hG dX3_readStepBefore_5 rfl rfl ?_
  refine z_if_lt hG dX3_readStepBefore_6 (tgt := 23) rfl (fun c6 => ?_) (fun c6 => ?_)
  · refine z_aload_n (i := 0) hG dX3_readStepBefore_23 rfl rfl ?_
    refine z_iconst hG dX3_readStepBefore_24 rfl ?_
    refine z_putB hG dX3_readStepBefore_25 FP_X3_29 rfl rfl (kk := 3) rfl (by first | exact Or.inl rfl | exact Or.inr rfl) ?_
    rw [zRd_sg]
    refine z_iconst hG dX3_readStepBefore_28 rfl ?_
    refine z_iret hG hE dX3_readStepBefore_29 trivial ?_
    first | (rw [if_pos (by omega), if_pos (by omega), if_pos (by omega)]; exact ⟨rfl, rfl⟩) | (rw [if_neg (by omega), if_neg (by omega), if_neg (by omega)]; exact ⟨rfl, rfl⟩)
  · refine z_iload_n (i := 3) hG dX3_readStepBefore_9 rfl rfl ?_
    refine z_iload_n (i := 1) hG dX3_readStepBefore_10 rfl rfl ?_
    refine z_icmp_ge hG dX3_readStepBefore_11 (tgt := 23) rfl (fun c11 => ?_) (fun c11 => ?_)
    · refine z_aload_n (i := 0) hG dX3_readStepBefore_23 rfl rfl ?_
      refine z_iconst hG dX3_readStepBefore_24 rfl ?_
      refine z_putB hG dX3_readStepBefore_25 FP_X3_29 rfl rfl (kk := 3) rfl (by first | exact Or.inl rfl | exact Or.inr rfl) ?_
      rw [zRd_sg]
      refine z_iconst hG dX3_readStepBefore_28 rfl ?_
      refine z_iret hG hE dX3_readStepBefore_29 trivial ?_
      first | (rw [if_pos (by omega), if_pos (by omega), if_pos (by omega)]; exact ⟨rfl, rfl⟩) | (rw [if_neg (by omega), if_neg (by omega), if_neg (by omega)]; exact ⟨rfl, rfl⟩)
    · refine z_iload_n (i := 2) hG dX3_readStepBefore_14 rfl rfl ?_
      refine z_iload_n (i := 3) hG dX3_readStepBefore_15 rfl rfl ?_
      refine z_ishr hG dX3_readStepBefore_16 ?_
      refine z_iconst hG dX3_readStepBefore_17 rfl ?_
      refine z_iand hG dX3_readStepBefore_18 ?_
      refine z_iconst hG dX3_readStepBefore_19 rfl ?_
      refine z_icmp_ne hG dX3_readStepBefore_20 (tgt := 30) rfl (fun c20 => ?_) (fun c20 => ?_)
      · refine z_aload_n (i := 0) hG dX3_readStepBefore_30 rfl rfl ?_
        first | refine z_dup_r hG dX3_readStepBefore_31 ?_ | refine z_dup_i hG dX3_readStepBefore_31 ?_
        refine z_getI hG dX3_readStepBefore_32 FL_X3_25 rfl rfl (kk := 2) rfl ?_
        rw [zRd_p]
        have hl := zdg_lt (m := m) (p := p) (by omega)
        refine z_iconst hG dX3_readStepBefore_35 rfl ?_
        refine z_iadd hG dX3_readStepBefore_36 (by omega) (by omega) ?_
        refine z_put hG dX3_readStepBefore_37 FP_X3_25 rfl rfl (kk := 2) rfl ?_
        rw [zRd_sp]
        refine z_iconst hG dX3_readStepBefore_40 rfl ?_
        refine z_iload_n (i := 3) hG dX3_readStepBefore_41 rfl rfl ?_
        refine z_ishl hG dX3_readStepBefore_42 ?_
        refine z_iret hG hE dX3_readStepBefore_43 trivial ?_
        first | (rw [if_pos (by omega), if_pos (by omega), if_pos (by omega)]; exact ⟨rfl, rfl⟩) | (rw [if_neg (by omega), if_neg (by omega), if_neg (by omega)]; exact ⟨rfl, rfl⟩)
      · refine z_aload_n (i := 0) hG dX3_readStepBefore_23 rfl rfl ?_
        refine z_iconst hG dX3_readStepBefore_24 rfl ?_
        refine z_putB hG dX3_readStepBefore_25 FP_X3_29 rfl rfl (kk := 3) rfl (by first | exact Or.inl rfl | exact Or.inr rfl) ?_
        rw [zRd_sg]
        refine z_iconst hG dX3_readStepBefore_28 rfl ?_
        refine z_iret hG hE dX3_readStepBefore_29 trivial ?_
        first | (rw [if_pos (by omega), if_pos (by omega), if_pos (by omega)]; exact ⟨rfl, rfl⟩) | (rw [if_neg (by omega), if_neg (by omega), if_neg (by omega)]; exact ⟨rfl, rfl⟩)
set_option maxRecDepth 20000 in
theorem ct_X3_readStep (l : Launch) (g : zG) {m : zM} {p k : Int} (hT : zTx m) (hp : 0 ≤ p ∧ p ≤ 80) (hk : 0 ≤ k ∧ k < 8) : zMet l g Y_X3_readStep [zr 7 0 0, zi k] (zRd m p 1) (fun v m' => v = none ∧ m' = zRd (zSm m k p) (zSp (zN m) k p).1 (zSp (zN m) k p).2.1) := by
  refine zMet_introF (by decide +kernel) (Nat.le_of_ble_eq_true rfl) (ls0 := [some (zr 7 0 0), some (zi k), none, none]) rfl fun X hG hE => ?_
  have hG : zGood X l g RX3 cX3_readStep 4 4 := hG
  have hE : zEnd X (none) _ := hE
  refine z_aload_n (i := 0) hG dX3_readStep_0 rfl rfl ?_
  refine z_get_3_0 hG dX3_readStep_1 FL_X3_12 ?_
  refine z_get_4_4 hG dX3_readStep_4 FL_X3_77 ?_
  refine z_iload_n (i := 1) hG dX3_readStep_7 rfl rfl ?_
  refine z_aa_18 hG dX3_readStep_8 (by omega) (by omega) ?_
  rw [show (8 * 0 + k : Int) = k by omega]
  refine z_astore_n (i := 2) hG dX3_readStep_9 rfl (by decide) (ls2 := [_, _, _, _]) rfl ?_
  refine z_aload_n (i := 2) hG dX3_readStep_10 rfl rfl ?_
  refine z_aload_n (i := 0) hG dX3_readStep_11 rfl rfl ?_
  refine z_sipush hG dX3_readStep_12 rfl ?_
  refine z_callV hG dX3_readStep_15 LV_X3_36 (ct_X3_readNumber l g hT (by decide) hp) (by decide) rfl rfl rfl (Nat.le_of_ble_eq_true rfl) ?_
  intro v9 m9 h9
  rw [h9.1, h9.2]
  clear h9 m9 v9
  refine z_put hG dX3_readStep_18 FP_X3_81 rfl rfl (kk := 0) rfl ?_
  rw [zRd_so (by decide)]
  have hb1 := zNum_bd (m := m) (p := p) (most := 240) (by decide) hp
  generalize ha : zNum (zN m) 240 p = a at *
  have hT1 : zTx (zset m 5 9 k 0 a.2.1) := zTx_set (by decide) (by decide) hT
  have hN1 : zN (zset m 5 9 k 0 a.2.1) = zN m := zN_set (by decide) (by decide)
  generalize hm1 : zset m 5 9 k 0 a.2.1 = m1 at *
  refine z_aload_n (i := 0) hG dX3_readStep_21 rfl rfl ?_
  refine z_bipush hG dX3_readStep_22 rfl ?_
  refine z_callV hG dX3_readStep_24 LV_X3_86 (ct_X3_readSign l g hT1 (by omega) (by decide)) (by decide) rfl rfl rfl (Nat.le_of_ble_eq_true rfl) ?_
  intro v9 m9 h9
  rw [h9.1, h9.2]
  clear h9 m9 v9
  rw [hN1]
  change zZ X _ _ _ (zRd m1 (zs2 (zN m) a.1 a.2.2).1 (zs2 (zN m) a.1 a.2.2).2)
  have hb2 : (0 ≤ (zs2 (zN m) a.1 a.2.2).1 ∧ (zs2 (zN m) a.1 a.2.2).1 ≤ 80) ∧ ((zs2 (zN m) a.1 a.2.2).2 = 0 ∨ (zs2 (zN m) a.1 a.2.2).2 = 1) := by
    simp only [zs2]
    split
    · next h => have := zN_lt (m := m) (p := a.1) (by omega); exact ⟨⟨by omega, by omega⟩, Or.inr rfl⟩
    · exact ⟨hb1.1, Or.inl rfl⟩
  generalize hbb : zs2 (zN m) a.1 a.2.2 = b at *
  refine z_aload_n (i := 2) hG dX3_readStep_27 rfl rfl ?_
  refine z_aload_n (i := 0) hG dX3_readStep_28 rfl rfl ?_
  refine z_iconst hG dX3_readStep_29 rfl ?_
  refine z_iconst hG dX3_readStep_30 rfl ?_
  refine z_callV hG dX3_readStep_31 LV_X3_61 (ct_X3_readDigit l g hT1 (by decide) hb2.2) (by decide) rfl rfl rfl (Nat.le_of_ble_eq_true rfl) ?_
  intro v9 m9 h9
  rw [h9.1, h9.2]
  clear h9 m9 v9
  rw [zRd_ite, hN1]
  change zZ X _ _ (zi (zs3 (zN m) b.1 b.2).2.1 :: _) (zRd m1 (zs3 (zN m) b.1 b.2).1 (zs3 (zN m) b.1 b.2).2.2)
  have hb3 : (0 ≤ (zs3 (zN m) b.1 b.2).1 ∧ (zs3 (zN m) b.1 b.2).1 ≤ 80) ∧ ((zs3 (zN m) b.1 b.2).2.2 = 0 ∨ (zs3 (zN m) b.1 b.2).2.2 = 1) := by
    simp only [zs3]
    split
    · next h => have := zdg_lt (m := m) (p := b.1) (by omega); exact ⟨⟨by omega, by omega⟩, Or.inr rfl⟩
    · exact ⟨hb2.1, Or.inl rfl⟩
  generalize hcc : zs3 (zN m) b.1 b.2 = c at *
  refine z_put hG dX3_readStep_34 FP_X3_90 rfl rfl (kk := 1) rfl ?_
  rw [zRd_so (by decide)]
  have hT2 : zTx (zset m1 5 9 k 1 c.2.1) := zTx_set (by decide) (by decide) hT1
  have hN2 : zN (zset m1 5 9 k 1 c.2.1) = zN m := by rw [zN_set (by decide) (by decide), hN1]
  generalize hm2 : zset m1 5 9 k 1 c.2.1 = m2 at *
  have hd : zs4 (zN m) c.1 c.2.2 = 0 ∨ zs4 (zN m) c.1 c.2.2 = 1 := by simp only [zs4]; split <;> simp
  have hb4 : 0 ≤ c.1 + zs4 (zN m) c.1 c.2.2 ∧ c.1 + zs4 (zN m) c.1 c.2.2 ≤ 80 := by
    simp only [zs4]
    split
    · next h => have := zN_lt (m := m) (p := c.1) (by omega); omega
    · have := hb3.1; omega
  have hdv : zs4 (zN m) c.1 c.2.2 = if c.2.2 = 1 ∧ zN m c.1 = 42 then 1 else 0 := rfl
  generalize hdd : zs4 (zN m) c.1 c.2.2 = d at *
  have t66 : zZ X 66 [some (zr 7 0 0), some (zi k), some (zr 5 9 k), none] [zi d, zr 5 9 k] (zRd m2 c.1 c.2.2) := by
    refine z_putB hG dX3_readStep_66 FP_X3_93 rfl rfl (kk := 3) rfl (by exact hd) ?_
    rw [zRd_so (by decide)]
    have hT3 : zTx (zset m2 5 9 k 3 d) := zTx_set (by decide) (by decide) hT2
    have hN3 : zN (zset m2 5 9 k 3 d) = zN m := by rw [zN_set (by decide) (by decide), hN2]
    have hg3 : zset m2 5 9 k 3 d 5 9 k 3 = d := by simp [zset]
    generalize hm3 : zset m2 5 9 k 3 d = m3 at *
    have t86 : zZ X 86 [some (zr 7 0 0), some (zi k), some (zr 5 9 k), none] [] (zRd m3 (c.1 + d) c.2.2) := by
      have fin : ∀ (b q gg : Int), zs5 (zN m) k (c.1 + d) c.2.2 = (q, b, gg) → (none : Option zV) = none ∧ zRd (zset (zset m3 5 9 k 2 b) 4 9 0 2 (k + 1)) q gg = zRd (zSm m k p) (zSp (zN m) k p).1 (zSp (zN m) k p).2.1 := by
        intro b q gg he
        refine ⟨rfl, ?_⟩
        subst hm3 hm2 hm1
        simp only [zSm, zSp, ha, hbb, hcc, hdd, he]
      have dn : ∀ (j q b : Int), zs5 (zN m) k (c.1 + d) c.2.2 = (q, b, 0) → zZ X 93 [some (zr 7 0 0), some (zi k), some (zr 5 9 k), some (zi j)] [] (zRd (zset m3 5 9 k 2 b) q 0) := by
        intro j q b hq
        refine z_iload_n (i := 3) hG dX3_readStep_93 rfl rfl ?_
        refine z_bipush hG dX3_readStep_94 rfl ?_
        refine z_icmp_ge hG dX3_readStep_96 (tgt := 156) rfl (fun c96 => ?_) (fun c96 => ?_)
        · refine z_aload_n (i := 0) hG dX3_readStep_156 rfl rfl ?_
          refine z_get_3_0 hG dX3_readStep_157 FL_X3_12 ?_
          refine z_iload_n (i := 1) hG dX3_readStep_160 rfl rfl ?_
          refine z_iconst hG dX3_readStep_161 rfl ?_
          refine z_iadd hG dX3_readStep_162 (by omega) (by omega) ?_
          refine z_put hG dX3_readStep_163 FP_X3_102 rfl rfl (kk := 2) rfl ?_
          rw [zRd_so (by decide)]
          refine z_vret hG hE dX3_readStep_166 ?_
          exact fin b q 0 hq
        · refine z_aload_n (i := 0) hG dX3_readStep_99 rfl rfl ?_
          refine z_getI hG dX3_readStep_100 FL_X3_29 rfl rfl (kk := 3) rfl ?_
          rw [zRd_g]
          refine z_if_eq hG dX3_readStep_103 (tgt := 156) rfl (fun c103 => ?_) (fun c103 => ?_)
          · try simp only [zite_eq0, ne_eq, Classical.not_not] at c103
            refine z_aload_n (i := 0) hG dX3_readStep_156 rfl rfl ?_
            refine z_get_3_0 hG dX3_readStep_157 FL_X3_12 ?_
            refine z_iload_n (i := 1) hG dX3_readStep_160 rfl rfl ?_
            refine z_iconst hG dX3_readStep_161 rfl ?_
            refine z_iadd hG dX3_readStep_162 (by omega) (by omega) ?_
            refine z_put hG dX3_readStep_163 FP_X3_102 rfl rfl (kk := 2) rfl ?_
            rw [zRd_so (by decide)]
            refine z_vret hG hE dX3_readStep_166 ?_
            exact fin b q 0 hq
          · try simp only [zite_eq0, ne_eq, Classical.not_not] at c103
            exact absurd trivial c103
      have lp : ∀ (n : Nat) (j q b : Int), 0 ≤ j ∧ j + n = 8 → (0 ≤ q ∧ q ≤ 80) → zs5 (zN m) k (c.1 + d) c.2.2 = zBf (zN m) k n q b → zZ X 93 [some (zr 7 0 0), some (zi k), some (zr 5 9 k), some (zi j)] [] (zRd (zset m3 5 9 k 2 b) q 1) := by
        intro n
        induction n with
        | zero =>
          intro j q b hj hq hb
          refine z_iload_n (i := 3) hG dX3_readStep_93 rfl rfl ?_
          refine z_bipush hG dX3_readStep_94 rfl ?_
          refine z_icmp_ge hG dX3_readStep_96 (tgt := 156) rfl (fun c96 => ?_) (fun c96 => ?_)
          · refine z_aload_n (i := 0) hG dX3_readStep_156 rfl rfl ?_
            refine z_get_3_0 hG dX3_readStep_157 FL_X3_12 ?_
            refine z_iload_n (i := 1) hG dX3_readStep_160 rfl rfl ?_
            refine z_iconst hG dX3_readStep_161 rfl ?_
            refine z_iadd hG dX3_readStep_162 (by omega) (by omega) ?_
            refine z_put hG dX3_readStep_163 FP_X3_102 rfl rfl (kk := 2) rfl ?_
            rw [zRd_so (by decide)]
            refine z_vret hG hE dX3_readStep_166 ?_
            exact fin b q 1 (by rw [hb]; rfl)
          · exact absurd c96 (by omega)
        | succ n ih =>
          intro j q b hj hq hb
          rw [zBf] at hb
          refine z_iload_n (i := 3) hG dX3_readStep_93 rfl rfl ?_
          refine z_bipush hG dX3_readStep_94 rfl ?_
          refine z_icmp_ge hG dX3_readStep_96 (tgt := 156) rfl (fun c96 => ?_) (fun c96 => ?_)
          · exact absurd c96 (by omega)
          · refine z_aload_n (i := 0) hG dX3_readStep_99 rfl rfl ?_
            refine z_getI hG dX3_readStep_100 FL_X3_29 rfl rfl (kk := 3) rfl ?_
            rw [zRd_g]
            refine z_if_eq hG dX3_readStep_103 (tgt := 156) rfl (fun c103 => ?_) (fun c103 => ?_)
            · try simp only [zite_eq0, ne_eq, Classical.not_not] at c103
              exact absurd c103 (by decide)
            · try simp only [zite_eq0, ne_eq, Classical.not_not] at c103
              refine z_aload_n (i := 0) hG dX3_readStep_106 rfl rfl ?_
              refine z_get_3_1 hG dX3_readStep_107 FL_X3_21 ?_
              refine z_aload_n (i := 0) hG dX3_readStep_110 rfl rfl ?_
              refine z_getI hG dX3_readStep_111 FL_X3_25 rfl rfl (kk := 2) rfl ?_
              rw [zRd_p]
              refine z_callV hG dX3_readStep_114 LV_X3_51 (ct_at l g (zTx_set (by decide) (by decide) hT3)) (by decide) rfl rfl rfl (Nat.le_of_ble_eq_true rfl) ?_
              intro v9 m9 h9
              rw [h9.1, h9.2]
              clear h9 m9 v9
              rw [zN_set (by decide) (by decide), hN3]
              refine z_bipush hG dX3_readStep_117 rfl ?_
              refine z_icmp_ne hG dX3_readStep_119 (tgt := 156) rfl (fun c119 => ?_) (fun c119 => ?_)
              · refine z_aload_n (i := 0) hG dX3_readStep_156 rfl rfl ?_
                refine z_get_3_0 hG dX3_readStep_157 FL_X3_12 ?_
                refine z_iload_n (i := 1) hG dX3_readStep_160 rfl rfl ?_
                refine z_iconst hG dX3_readStep_161 rfl ?_
                refine z_iadd hG dX3_readStep_162 (by omega) (by omega) ?_
                refine z_put hG dX3_readStep_163 FP_X3_102 rfl rfl (kk := 2) rfl ?_
                rw [zRd_so (by decide)]
                refine z_vret hG hE dX3_readStep_166 ?_
                exact fin b q 1 (by rw [hb, if_neg (by omega)])
              · rw [if_pos (by omega)] at hb
                refine z_aload_n (i := 0) hG dX3_readStep_122 rfl rfl ?_
                first | refine z_dup_r hG dX3_readStep_123 ?_ | refine z_dup_i hG dX3_readStep_123 ?_
                refine z_getI hG dX3_readStep_124 FL_X3_25 rfl rfl (kk := 2) rfl ?_
                rw [zRd_p]
                have hl := zN_lt (m := m) (p := q) (by omega)
                refine z_iconst hG dX3_readStep_127 rfl ?_
                refine z_iadd hG dX3_readStep_128 (by omega) (by omega) ?_
                refine z_put hG dX3_readStep_129 FP_X3_25 rfl rfl (kk := 2) rfl ?_
                rw [zRd_sp]
                refine z_aload_n (i := 2) hG dX3_readStep_132 rfl rfl ?_
                first | refine z_dup_r hG dX3_readStep_133 ?_ | refine z_dup_i hG dX3_readStep_133 ?_
                refine z_getI hG dX3_readStep_134 FL_X3_96 rfl rfl (kk := 2) rfl ?_
                rw [zRd_o (by decide), show zset m3 5 9 k 2 b 5 9 k 2 = b by simp [zset]]
                refine z_aload_n (i := 0) hG dX3_readStep_137 rfl rfl ?_
                refine z_iload_n (i := 1) hG dX3_readStep_138 rfl rfl ?_
                refine z_aload_n (i := 2) hG dX3_readStep_139 rfl rfl ?_
                refine z_getI hG dX3_readStep_140 FL_X3_96 rfl rfl (kk := 2) rfl ?_
                rw [zRd_o (by decide), show zset m3 5 9 k 2 b 5 9 k 2 = b by simp [zset]]
                refine z_callV hG dX3_readStep_143 LV_X3_99 (ct_X3_readStepBefore l g (zTx_set (by decide) (by decide) hT3)) (by decide) rfl rfl rfl (Nat.le_of_ble_eq_true rfl) ?_
                intro v9 m9 h9
                rw [h9.1, h9.2]
                clear h9 m9 v9
                rw [zN_set (by decide) (by decide), hN3]
                refine z_ior hG dX3_readStep_146 ?_
                refine z_put hG dX3_readStep_147 FP_X3_96 rfl rfl (kk := 2) rfl ?_
                rw [zRd_so (by decide), zset_set]
                refine z_iinc hG dX3_readStep_150 (by decide) rfl (by omega) (by omega) (ls2 := [_, _, _, _]) rfl ?_
                refine z_goto hG dX3_readStep_153 (tgt := 93) rfl ?_
                by_cases h : 0 ≤ zdg (zN m) (q + 1) ∧ zdg (zN m) (q + 1) < k ∧ zand (zshr b (zdg (zN m) (q + 1))) 1 ≠ 1
                · have hl := zdg_lt (m := m) (p := q + 1) h.1
                  rw [if_pos h, if_pos h, if_pos h]
                  rw [if_pos h] at hb
                  exact ih (j + 1) (q + 1 + 1) _ (by omega) ⟨by omega, by omega⟩ hb
                · rw [if_neg h, if_neg h, if_neg h]
                  rw [if_neg h] at hb
                  exact dn (j + 1) (q + 1) _ hb
      refine z_aload_n (i := 2) hG dX3_readStep_86 rfl rfl ?_
      refine z_iconst hG dX3_readStep_87 rfl ?_
      refine z_put hG dX3_readStep_88 FP_X3_96 rfl rfl (kk := 2) rfl ?_
      rw [zRd_so (by decide)]
      refine z_iconst hG dX3_readStep_91 rfl ?_
      refine z_istore_n (i := 3) hG dX3_readStep_92 rfl (by decide) (ls2 := [_, _, _, _]) rfl ?_
      rcases hb3.2 with e | e
      · rw [e]
        exact dn 0 _ 0 (by rw [zs5, if_neg (by omega)])
      · rw [e]
        exact lp 8 0 _ 0 (by decide) hb4 (by rw [zs5, if_pos e])
    refine z_aload_n (i := 2) hG dX3_readStep_69 rfl rfl ?_
    refine z_getI hG dX3_readStep_70 FL_X3_93 rfl rfl (kk := 3) rfl ?_
    rw [zRd_o (by decide), hg3]
    refine z_if_eq hG dX3_readStep_73 (tgt := 86) rfl (fun c73 => ?_) (fun c73 => ?_)
    · try simp only [zite_eq0, ne_eq, Classical.not_not] at c73
      first | (rw [show c.1 + d = c.1 by omega] at t86; exact t86) | (rw [zRd_sp]; rw [show c.1 + d = c.1 + 1 by omega] at t86; exact t86)
    · try simp only [zite_eq0, ne_eq, Classical.not_not] at c73
      refine z_aload_n (i := 0) hG dX3_readStep_76 rfl rfl ?_
      first | refine z_dup_r hG dX3_readStep_77 ?_ | refine z_dup_i hG dX3_readStep_77 ?_
      refine z_getI hG dX3_readStep_78 FL_X3_25 rfl rfl (kk := 2) rfl ?_
      rw [zRd_p]
      refine z_iconst hG dX3_readStep_81 rfl ?_
      refine z_iadd hG dX3_readStep_82 (by omega) (by omega) ?_
      refine z_put hG dX3_readStep_83 FP_X3_25 rfl rfl (kk := 2) rfl ?_
      first | (rw [show c.1 + d = c.1 by omega] at t86; exact t86) | (rw [zRd_sp]; rw [show c.1 + d = c.1 + 1 by omega] at t86; exact t86)
  refine z_aload_n (i := 2) hG dX3_readStep_37 rfl rfl ?_
  refine z_aload_n (i := 0) hG dX3_readStep_38 rfl rfl ?_
  refine z_getI hG dX3_readStep_39 FL_X3_29 rfl rfl (kk := 3) rfl ?_
  rw [zRd_g]
  refine z_if_eq hG dX3_readStep_42 (tgt := 65) rfl (fun c42 => ?_) (fun c42 => ?_)
  · try simp only [zite_eq0, ne_eq, Classical.not_not] at c42
    refine z_iconst hG dX3_readStep_65 rfl ?_
    first | (rw [show d = 1 by rw [hdv, if_pos (by omega)]] at t66; exact t66) | (rw [show d = 0 by rw [hdv, if_neg (by omega)]] at t66; exact t66)
  · try simp only [zite_eq0, ne_eq, Classical.not_not] at c42
    refine z_aload_n (i := 0) hG dX3_readStep_45 rfl rfl ?_
    refine z_get_3_1 hG dX3_readStep_46 FL_X3_21 ?_
    refine z_aload_n (i := 0) hG dX3_readStep_49 rfl rfl ?_
    refine z_getI hG dX3_readStep_50 FL_X3_25 rfl rfl (kk := 2) rfl ?_
    rw [zRd_p]
    refine z_callV hG dX3_readStep_53 LV_X3_51 (ct_at l g hT2) (by decide) rfl rfl rfl (Nat.le_of_ble_eq_true rfl) ?_
    intro v9 m9 h9
    rw [h9.1, h9.2]
    clear h9 m9 v9
    rw [hN2]
    refine z_bipush hG dX3_readStep_56 rfl ?_
    refine z_icmp_ne hG dX3_readStep_58 (tgt := 65) rfl (fun c58 => ?_) (fun c58 => ?_)
    · refine z_iconst hG dX3_readStep_65 rfl ?_
      first | (rw [show d = 1 by rw [hdv, if_pos (by omega)]] at t66; exact t66) | (rw [show d = 0 by rw [hdv, if_neg (by omega)]] at t66; exact t66)
    · refine z_iconst hG dX3_readStep_61 rfl ?_
      refine z_goto hG dX3_readStep_62 (tgt := 66) rfl ?_
      first | (rw [show d = 1 by rw [hdv, if_pos (by omega)]] at t66; exact t66) | (rw [show d = 0 by rw [hdv, if_neg (by omega)]] at t66; exact t66)
