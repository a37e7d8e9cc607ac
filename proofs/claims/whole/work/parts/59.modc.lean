/-- the first k rows' places of the past are moved down by one state -/
def zksh (m : zM) (k : Int) : zM := fun t s i q => if t = 46 ∧ s = 0 ∧ i = 0 ∧ 0 ≤ q ∧ q < k then m 46 0 0 (q + 546) else m t s i q
/-- the state of now is put into the past as the n-th, its first k numbers -/
def zkcp (m : zM) (n k : Int) : zM := fun t s i q => if t = 46 ∧ s = 0 ∧ i = 0 ∧ 546 * n ≤ q ∧ q < 546 * n + k then m 45 0 0 (q - 546 * n) else m t s i q
def zkp (m : zM) : zM := if m 11 0 0 2 = 6 then zset (zkcp (zset (zksh m 2730) 11 0 0 2 5) 5 546) 11 0 0 2 6 else zset (zkcp m (m 11 0 0 2) 546) 11 0 0 2 (m 11 0 0 2 + 1)
theorem zksh_0 {m : zM} : zksh m 0 = m := by
  funext t s i q
  simp only [zksh]
  rw [if_neg (by omega)]
theorem zksh_s {m : zM} {k : Int} (h : 0 ≤ k) : zset (zksh m k) 46 0 0 k (m 46 0 0 (k + 546)) = zksh m (k + 1) := by
  funext t s i q
  simp only [zksh, zset]
  grind
theorem zkcp_0 {m : zM} {n : Int} : zkcp m n 0 = m := by
  funext t s i q
  simp only [zkcp]
  rw [if_neg (by omega)]
theorem zkcp_s {m : zM} {n k : Int} (h : 0 ≤ k) : zset (zkcp m n k) 46 0 0 (546 * n + k) (m 45 0 0 k) = zkcp m n (k + 1) := by
  funext t s i q
  simp only [zkcp, zset]
  grind
set_option maxRecDepth 20000 in
theorem ct_X11_keep (l : Launch) (g : zG) {m : zM} (hn : 0 ≤ m 11 0 0 2 ∧ m 11 0 0 2 ≤ 6) : zMet l g Y_X11_keep [zr 11 0 0] m (fun v m' => v = none ∧ m' = zkp m) := by
  refine zMet_introF (by decide +kernel) (Nat.le_of_ble_eq_true rfl) (ls0 := [some (zr 11 0 0), none]) rfl fun X hG hE => ?_
  have hG : zGood X l g RX11 cX11_keep 0 2 := hG
  have hE : zEnd X (none) _ := hE
  have copy : ∀ (m0 : zM) (n k : Nat), (0 ≤ m0 11 0 0 2 ∧ m0 11 0 0 2 ≤ 5) → k + n = 546 → zset (zkcp m0 (m0 11 0 0 2) 546) 11 0 0 2 (m0 11 0 0 2 + 1) = zkp m → zZ X 52 [some (zr 11 0 0), some (zi k)] [] (zkcp m0 (m0 11 0 0 2) k) := by
    intro m0 n
    induction n with
    | zero =>
      intro k h5 hk he
      have e2 : zkcp m0 (m0 11 0 0 2) k 11 0 0 2 = m0 11 0 0 2 := by simp [zkcp]
      refine z_iload_n (i := 1) hG dX11_keep_52 rfl rfl ?_
      refine z_sipush hG dX11_keep_53 rfl ?_
      refine z_icmp_ge hG dX11_keep_56 (tgt := 86) rfl (fun c56 => ?_) (fun c56 => ?_)
      · refine z_aload_n (i := 0) hG dX11_keep_86 rfl rfl ?_
        first | refine z_dup_r hG dX11_keep_87 ?_ | refine z_dup_i hG dX11_keep_87 ?_
        refine z_getI hG dX11_keep_88 FL_X11_72 rfl rfl (kk := 2) rfl ?_
        refine z_iconst hG dX11_keep_91 rfl ?_
        refine z_iadd hG dX11_keep_92 (by omega) (by omega) ?_
        refine z_put hG dX11_keep_93 FP_X11_72 rfl rfl (kk := 2) rfl ?_
        refine z_vret hG hE dX11_keep_96 ?_
        obtain rfl : k = 546 := by omega
        exact ⟨rfl, he⟩
      · exact absurd c56 (by omega)
    | succ n ih =>
      intro k h5 hk he
      have e2 : zkcp m0 (m0 11 0 0 2) k 11 0 0 2 = m0 11 0 0 2 := by simp [zkcp]
      have e45 : zkcp m0 (m0 11 0 0 2) k 45 0 0 k = m0 45 0 0 k := by simp [zkcp]
      refine z_iload_n (i := 1) hG dX11_keep_52 rfl rfl ?_
      refine z_sipush hG dX11_keep_53 rfl ?_
      refine z_icmp_ge hG dX11_keep_56 (tgt := 86) rfl (fun c56 => ?_) (fun c56 => ?_)
      · exact absurd c56 (by omega)
      · refine z_aload_n (i := 0) hG dX11_keep_59 rfl rfl ?_
        refine z_get_11_1 hG dX11_keep_60 FL_X11_13 ?_
        refine z_sipush hG dX11_keep_63 rfl ?_
        refine z_aload_n (i := 0) hG dX11_keep_66 rfl rfl ?_
        refine z_getI hG dX11_keep_67 FL_X11_72 rfl rfl (kk := 2) rfl ?_
        rw [e2]
        refine z_imul hG dX11_keep_70 (by omega) (by omega) ?_
        refine z_iload_n (i := 1) hG dX11_keep_71 rfl rfl ?_
        refine z_iadd hG dX11_keep_72 (by omega) (by omega) ?_
        refine z_aload_n (i := 0) hG dX11_keep_73 rfl rfl ?_
        refine z_get_11_0 hG dX11_keep_74 FL_X11_7 ?_
        refine z_iload_n (i := 1) hG dX11_keep_77 rfl rfl ?_
        refine z_iald hG dX11_keep_78 rfl rfl (by omega) (by omega) ?_
        rw [e45]
        refine z_iast hG dX11_keep_79 rfl rfl (by omega) (by omega) ?_
        refine z_iinc hG dX11_keep_80 (by decide) rfl (by omega) (by omega) (ls2 := [_, _]) rfl ?_
        refine z_goto hG dX11_keep_83 (tgt := 52) rfl ?_
        exact z_mem (zkcp_s (by omega)) (ih (k + 1) h5 (by omega) he)
  have shift : ∀ (n k : Nat), m 11 0 0 2 = 6 → k + n = 2730 → zZ X 11 [some (zr 11 0 0), some (zi k)] [] (zksh m k) := by
    intro n
    induction n with
    | zero =>
      intro k h6 hk
      have e2 : zksh m k 11 0 0 2 = m 11 0 0 2 := by simp [zksh]
      refine z_iload_n (i := 1) hG dX11_keep_11 rfl rfl ?_
      refine z_sipush hG dX11_keep_12 rfl ?_
      refine z_icmp_ge hG dX11_keep_15 (tgt := 40) rfl (fun c15 => ?_) (fun c15 => ?_)
      · refine z_aload_n (i := 0) hG dX11_keep_40 rfl rfl ?_
        first | refine z_dup_r hG dX11_keep_41 ?_ | refine z_dup_i hG dX11_keep_41 ?_
        refine z_getI hG dX11_keep_42 FL_X11_72 rfl rfl (kk := 2) rfl ?_
        rw [e2, h6]
        refine z_iconst hG dX11_keep_45 rfl ?_
        refine z_isub hG dX11_keep_46 (by omega) (by omega) ?_
        refine z_put hG dX11_keep_47 FP_X11_72 rfl rfl (kk := 2) rfl ?_
        refine z_iconst hG dX11_keep_50 rfl ?_
        refine z_istore_n (i := 1) hG dX11_keep_51 rfl (by decide) (ls2 := [_, _]) rfl ?_
        obtain rfl : k = 2730 := by omega
        refine z_mem zkcp_0.symm (copy _ 546 0 ?_ rfl ?_)
        · simp [zset, h6]
        · rw [zkp, if_pos h6]
          simp [zset, h6]
      · exact absurd c15 (by omega)
    | succ n ih =>
      intro k h6 hk
      have e46 : zksh m k 46 0 0 (k + 546) = m 46 0 0 (k + 546) := by
        simp only [zksh]
        rw [if_neg (by omega)]
      refine z_iload_n (i := 1) hG dX11_keep_11 rfl rfl ?_
      refine z_sipush hG dX11_keep_12 rfl ?_
      refine z_icmp_ge hG dX11_keep_15 (tgt := 40) rfl (fun c15 => ?_) (fun c15 => ?_)
      · exact absurd c15 (by omega)
      · refine z_aload_n (i := 0) hG dX11_keep_18 rfl rfl ?_
        refine z_get_11_1 hG dX11_keep_19 FL_X11_13 ?_
        refine z_iload_n (i := 1) hG dX11_keep_22 rfl rfl ?_
        refine z_aload_n (i := 0) hG dX11_keep_23 rfl rfl ?_
        refine z_get_11_1 hG dX11_keep_24 FL_X11_13 ?_
        refine z_iload_n (i := 1) hG dX11_keep_27 rfl rfl ?_
        refine z_sipush hG dX11_keep_28 rfl ?_
        refine z_iadd hG dX11_keep_31 (by omega) (by omega) ?_
        refine z_iald hG dX11_keep_32 rfl rfl (by omega) (by omega) ?_
        rw [e46]
        refine z_iast hG dX11_keep_33 rfl rfl (by omega) (by omega) ?_
        refine z_iinc hG dX11_keep_34 (by decide) rfl (by omega) (by omega) (ls2 := [_, _]) rfl ?_
        refine z_goto hG dX11_keep_37 (tgt := 11) rfl ?_
        exact z_mem (zksh_s (by omega)) (ih (k + 1) h6 (by omega))
  refine z_aload_n (i := 0) hG dX11_keep_0 rfl rfl ?_
  refine z_getI hG dX11_keep_1 FL_X11_72 rfl rfl (kk := 2) rfl ?_
  refine z_bipush hG dX11_keep_4 rfl ?_
  refine z_icmp_ne hG dX11_keep_6 (tgt := 50) rfl (fun c6 => ?_) (fun c6 => ?_)
  · refine z_iconst hG dX11_keep_50 rfl ?_
    refine z_istore_n (i := 1) hG dX11_keep_51 rfl (by decide) (ls2 := [_, _]) rfl ?_
    refine z_mem zkcp_0.symm (copy m 546 0 ⟨hn.1, by omega⟩ rfl ?_)
    rw [zkp, if_neg c6]
  · refine z_iconst hG dX11_keep_9 rfl ?_
    refine z_istore_n (i := 1) hG dX11_keep_10 rfl (by decide) (ls2 := [_, _]) rfl ?_
    exact z_mem zksh_0.symm (shift 2730 0 c6 rfl)
