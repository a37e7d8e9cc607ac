/-- the order's places from a to n are moved up by one -/
def zshf (m : zM) (a n : Int) : zM := fun t s i k => if t = 44 ∧ s = 0 ∧ i = 0 ∧ a < k ∧ k ≤ n then m 44 0 0 (k - 1) else m t s i k
/-- a place is put into the order -/
def zsho (m : zM) (a n p : Int) : zM := zset (zset (zshf m a n) 44 0 0 a p) 10 0 0 7 (n + 1)
theorem zshf_n {m : zM} {n : Int} : zshf m n n = m := by
  funext t s i k
  simp only [zshf]
  rw [if_neg (by omega)]
theorem zshf_o {m : zM} {a n : Int} {t : Nat} {s i k : Int} (h : t ≠ 44 ∨ k ≤ a) : zshf m a n t s i k = m t s i k := by
  simp only [zshf]
  rw [if_neg (by omega)]
theorem zshf_s {m : zM} {a n : Int} (ha : a ≤ n) : zset (zshf m a n) 44 0 0 a (m 44 0 0 (a - 1)) = zshf m (a - 1) n := by
  funext t s i k
  simp only [zshf, zset]
  grind
set_option maxRecDepth 20000 in
theorem ct_X5_insert (l : Launch) (g : zG) {m : zM} {p : Int} (hs : zsch m) (ho : zodr m) (hn : m 10 0 0 7 < 32) (hp : 0 ≤ p ∧ p < 32) : zMet l g Y_X5_insert [zr 10 0 0, zi p] m (fun v m' => v = none ∧ ∃ a : Int, 0 ≤ a ∧ a ≤ m 10 0 0 7 ∧ (a = 0 ∨ m 39 0 0 p ≤ m 39 0 0 (m 44 0 0 (a - 1))) ∧ (∀ j : Int, a ≤ j → j < m 10 0 0 7 → m 39 0 0 (m 44 0 0 j) < m 39 0 0 p) ∧ m' = zsho m a (m 10 0 0 7) p) := by
  refine zMet_introF (by decide +kernel) (Nat.le_of_ble_eq_true rfl) (ls0 := [some (zr 10 0 0), some (zi p), none]) rfl fun X hG hE => ?_
  have hG : zGood X l g RX5 cX5_insert 0 3 := hG
  have hE : zEnd X (none) _ := hE
  have h7 := ho.1
  have loop : ∀ (n : Nat), (n : Int) ≤ m 10 0 0 7 → (∀ j : Int, n ≤ j → j < m 10 0 0 7 → m 39 0 0 (m 44 0 0 j) < m 39 0 0 p) → zZ X 22 [some (zr 10 0 0), some (zi p), some (zi n)] [] (zshf m n (m 10 0 0 7)) := by
    intro n
    induction n with
    | zero =>
      intro hn2 hJ
      refine z_iload_n (i := 2) hG dX5_insert_22 rfl rfl ?_
      refine z_if_le hG dX5_insert_23 (tgt := 68) rfl (fun c23 => ?_) (fun c23 => ?_)
      · refine z_aload_n (i := 0) hG dX5_insert_68 rfl rfl ?_
        refine z_get_5_6 hG dX5_insert_69 FL_X5_27 ?_
        refine z_iload_n (i := 2) hG dX5_insert_72 rfl rfl ?_
        refine z_iload_n (i := 1) hG dX5_insert_73 rfl rfl ?_
        refine z_iast hG dX5_insert_74 rfl rfl (by omega) (by omega) ?_
        refine z_aload_n (i := 0) hG dX5_insert_75 rfl rfl ?_
        first | refine z_dup_r hG dX5_insert_76 ?_ | refine z_dup_i hG dX5_insert_76 ?_
        refine z_getI hG dX5_insert_77 FL_X5_30 rfl rfl (kk := 7) rfl ?_
        rw [show ∀ a v : Int, zset (zshf m a (m 10 0 0 7)) 44 0 0 a v 10 0 0 7 = m 10 0 0 7 from fun a v => by simp [zset, zshf]]
        refine z_iconst hG dX5_insert_80 rfl ?_
        refine z_iadd hG dX5_insert_81 (by omega) (by omega) ?_
        refine z_put hG dX5_insert_82 FP_X5_30 rfl rfl (kk := 7) rfl ?_
        refine z_vret hG hE dX5_insert_85 ?_
        exact ⟨rfl, 0, Int.le_refl _, hn2, Or.inl rfl, hJ, rfl⟩
      · exact absurd c23 (by omega)
    | succ n ih =>
      intro hn2 hJ
      have ho1 := ho.2 (((n + 1 : Nat) : Int) - 1) (by omega) (by omega)
      have e44 : zshf m ((n + 1 : Nat) : Int) (m 10 0 0 7) 44 0 0 (((n + 1 : Nat) : Int) - 1) = m 44 0 0 (((n + 1 : Nat) : Int) - 1) := zshf_o (Or.inr (by omega))
      have e39 : ∀ k : Int, zshf m ((n + 1 : Nat) : Int) (m 10 0 0 7) 39 0 0 k = m 39 0 0 k := fun k => zshf_o (Or.inl (by decide))
      refine z_iload_n (i := 2) hG dX5_insert_22 rfl rfl ?_
      refine z_if_le hG dX5_insert_23 (tgt := 68) rfl (fun c23 => ?_) (fun c23 => ?_)
      · exact absurd c23 (by omega)
      · refine z_aload_n (i := 0) hG dX5_insert_26 rfl rfl ?_
        refine z_get_5_0 hG dX5_insert_27 FL_X5_9 ?_
        refine z_aload_n (i := 0) hG dX5_insert_30 rfl rfl ?_
        refine z_get_5_6 hG dX5_insert_31 FL_X5_27 ?_
        refine z_iload_n (i := 2) hG dX5_insert_34 rfl rfl ?_
        refine z_iconst hG dX5_insert_35 rfl ?_
        refine z_isub hG dX5_insert_36 (by omega) (by omega) ?_
        refine z_iald hG dX5_insert_37 rfl rfl (by omega) (by omega) ?_
        rw [e44]
        refine z_iald hG dX5_insert_38 rfl rfl (by omega) (by omega) ?_
        rw [e39]
        refine z_aload_n (i := 0) hG dX5_insert_39 rfl rfl ?_
        refine z_get_5_0 hG dX5_insert_40 FL_X5_9 ?_
        refine z_iload_n (i := 1) hG dX5_insert_43 rfl rfl ?_
        refine z_iald hG dX5_insert_44 rfl rfl (by omega) (by omega) ?_
        rw [e39]
        refine z_icmp_ge hG dX5_insert_45 (tgt := 68) rfl (fun c45 => ?_) (fun c45 => ?_)
        · refine z_aload_n (i := 0) hG dX5_insert_68 rfl rfl ?_
          refine z_get_5_6 hG dX5_insert_69 FL_X5_27 ?_
          refine z_iload_n (i := 2) hG dX5_insert_72 rfl rfl ?_
          refine z_iload_n (i := 1) hG dX5_insert_73 rfl rfl ?_
          refine z_iast hG dX5_insert_74 rfl rfl (by omega) (by omega) ?_
          refine z_aload_n (i := 0) hG dX5_insert_75 rfl rfl ?_
          first | refine z_dup_r hG dX5_insert_76 ?_ | refine z_dup_i hG dX5_insert_76 ?_
          refine z_getI hG dX5_insert_77 FL_X5_30 rfl rfl (kk := 7) rfl ?_
          rw [show ∀ a v : Int, zset (zshf m a (m 10 0 0 7)) 44 0 0 a v 10 0 0 7 = m 10 0 0 7 from fun a v => by simp [zset, zshf]]
          refine z_iconst hG dX5_insert_80 rfl ?_
          refine z_iadd hG dX5_insert_81 (by omega) (by omega) ?_
          refine z_put hG dX5_insert_82 FP_X5_30 rfl rfl (kk := 7) rfl ?_
          refine z_vret hG hE dX5_insert_85 ?_
          exact ⟨rfl, _, by omega, hn2, Or.inr c45, hJ, rfl⟩
        · refine z_aload_n (i := 0) hG dX5_insert_48 rfl rfl ?_
          refine z_get_5_6 hG dX5_insert_49 FL_X5_27 ?_
          refine z_iload_n (i := 2) hG dX5_insert_52 rfl rfl ?_
          refine z_aload_n (i := 0) hG dX5_insert_53 rfl rfl ?_
          refine z_get_5_6 hG dX5_insert_54 FL_X5_27 ?_
          refine z_iload_n (i := 2) hG dX5_insert_57 rfl rfl ?_
          refine z_iconst hG dX5_insert_58 rfl ?_
          refine z_isub hG dX5_insert_59 (by omega) (by omega) ?_
          refine z_iald hG dX5_insert_60 rfl rfl (by omega) (by omega) ?_
          rw [e44]
          refine z_iast hG dX5_insert_61 rfl rfl (by omega) (by omega) ?_
          refine z_iinc hG dX5_insert_62 (by decide) rfl (by omega) (by omega) (ls2 := [_, _, _]) rfl ?_
          refine z_goto hG dX5_insert_65 (tgt := 22) rfl ?_
          rw [zshf_s hn2, show ((n + 1 : Nat) : Int) - 1 = n by omega]
          rw [show ((n + 1 : Nat) : Int) + -1 = n by omega]
          refine ih (by omega) (fun j h0 h1 => ?_)
          rcases (show j = n ∨ ((n + 1 : Nat) : Int) ≤ j by omega) with rfl | q
          · rw [show (((n + 1 : Nat) : Int) - 1) = n by omega] at c45
            exact c45
          · exact hJ j q h1
  refine z_aload_n (i := 0) hG dX5_insert_0 rfl rfl ?_
  refine z_getI hG dX5_insert_1 FL_X5_30 rfl rfl (kk := 7) rfl ?_
  refine z_if_lt hG dX5_insert_4 (tgt := 16) rfl (fun c4 => ?_) (fun c4 => ?_)
  · exact absurd c4 (by omega)
  · refine z_aload_n (i := 0) hG dX5_insert_7 rfl rfl ?_
    refine z_getI hG dX5_insert_8 FL_X5_30 rfl rfl (kk := 7) rfl ?_
    refine z_bipush hG dX5_insert_11 rfl ?_
    refine z_icmp_lt hG dX5_insert_13 (tgt := 17) rfl (fun c13 => ?_) (fun c13 => ?_)
    · refine z_aload_n (i := 0) hG dX5_insert_17 rfl rfl ?_
      refine z_getI hG dX5_insert_18 FL_X5_30 rfl rfl (kk := 7) rfl ?_
      refine z_istore_n (i := 2) hG dX5_insert_21 rfl (by decide) (ls2 := [_, _, _]) rfl ?_
      have e := loop (m 10 0 0 7).toNat (by omega) (fun j h0 h1 => by omega)
      rw [show (((m 10 0 0 7).toNat : Nat) : Int) = m 10 0 0 7 by omega, zshf_n] at e
      exact e
    · exact absurd trivial (by omega)
