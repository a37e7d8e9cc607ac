def zAmL : Nat → Int → zM → Int × Int × zM
  | 0, p, m => (p, 1, m)
  | n + 1, p, m => if zname (zN m) (m 17 9 0) p < 0 then (p, 1, m) else if (zNum (zN m) 500 (p + 1)).2.2 = 1 then zAmL n (zNum (zN m) 500 (p + 1)).1 (zset m 17 9 0 (zname (zN m) (m 17 9 0) p) (zNum (zN m) 500 (p + 1)).2.1) else ((zNum (zN m) 500 (p + 1)).1, 0, zset m 17 9 0 (zname (zN m) (m 17 9 0) p) (zNum (zN m) 500 (p + 1)).2.1)
def zStL : Nat → Int → Int → zM → Int × Int × zM
  | 0, _, p, m => (p, 1, m)
  | n + 1, k, p, m => if zN m p = 59 then (if (zSp (zN m) k (p + 1)).2.1 = 1 then zStL n (k + 1) (zSp (zN m) k (p + 1)).1 (zSm m k (p + 1)) else ((zSp (zN m) k (p + 1)).1, 0, zSm m k (p + 1))) else (p, 1, m)
def zThen (a : Int × Int × zM) : Int × Int × zM := if a.2.1 = 1 then zStL 8 0 a.1 a.2.2 else a
def zClr (m : zM) : zM := zfill (zset (zset (zset m 4 9 0 0 0) 4 9 0 1 0) 4 9 0 2 0) 17 9 0 8 0
/-- the text is read: the place, whether all is good, what was found -/
def zRead (m : zM) : Int × Int × zM := if (zNum (zN m) 20 0).2.2 = 1 then zThen (zAmL 8 (zNum (zN m) 20 0).1 (zset (zClr m) 4 9 0 0 (zNum (zN m) 20 0).2.1)) else ((zNum (zN m) 20 0).1, 0, zset (zClr m) 4 9 0 0 (zNum (zN m) 20 0).2.1)
def zFlt (m : zM) : Int := if (zRead m).2.1 = 1 ∧ (zRead m).1 = m 6 0 0 0 then -6 else (zRead m).1
def zRdm (m : zM) : zM := zRd (zRead m).2.2 (zRead m).1 (zRead m).2.1
theorem zRd_fill {m : zM} {p g : Int} {t : Nat} {s i n v : Int} (h : t ≠ 7) : zfill (zRd m p g) t s i n v = zRd (zfill m t s i n v) p g := by
  funext t' s' i' k'
  simp only [zRd, zset, zfill]
  grind
theorem zname_bd {N A : Int → Int} {p : Int} : (zname N A p = -6) ∨ (0 ≤ zname N A p ∧ zname N A p < 8 ∧ N p = 97 + zname N A p ∧ A (zname N A p) = 0) := by
  simp only [zname]
  split
  · next h => exact Or.inr ⟨h.1, h.2.1, by omega, h.2.2⟩
  · exact Or.inl rfl
theorem zClr_N {m : zM} : zN (zClr m) = zN m := by funext p; simp [zN, zClr, zfill, zset]
theorem zClr_T {m : zM} (h : zTx m) : zTx (zClr m) := by simpa [zTx, zClr, zfill, zset] using h
theorem zSm_o {m : zM} {k p : Int} {t : Nat} {s i q : Int} (h : (t ≠ 4 ∧ t ≠ 5 ∧ t ≠ 17) ∨ s ≠ 9) : zSm m k p t s i q = m t s i q := by
  simp only [zSm, zset]
  rw [if_neg (by omega), if_neg (by omega), if_neg (by omega), if_neg (by omega), if_neg (by omega)]
theorem zSm_b {m : zM} {k p : Int} (h : ∀ j : Int, 0 ≤ j → j < 8 → m 5 9 j 3 = 0 ∨ m 5 9 j 3 = 1) : ∀ j : Int, 0 ≤ j → j < 8 → zSm m k p 5 9 j 3 = 0 ∨ zSm m k p 5 9 j 3 = 1 := by
  intro j h0 h1
  by_cases e : j = k
  · subst e
    simp [zSm, zset, zSp, zs4]
    omega
  · have := h j h0 h1
    simpa [zSm, zset, e] using this
theorem zAmL_o : ∀ (n : Nat) (p : Int) (m : zM) {t : Nat} {s i q : Int}, (t ≠ 4 ∧ t ≠ 5 ∧ t ≠ 17) ∨ s ≠ 9 → (zAmL n p m).2.2 t s i q = m t s i q
  | 0, _, _, _, _, _, _, _ => rfl
  | n + 1, p, m, t, s, i, q, h => by
    rw [zAmL]
    split
    · rfl
    · split
      · rw [zAmL_o n _ _ h, zset, if_neg (by omega)]
      · simp only
        rw [zset, if_neg (by omega)]
theorem zStL_o : ∀ (n : Nat) (k p : Int) (m : zM) {t : Nat} {s i q : Int}, (t ≠ 4 ∧ t ≠ 5 ∧ t ≠ 17) ∨ s ≠ 9 → (zStL n k p m).2.2 t s i q = m t s i q
  | 0, _, _, _, _, _, _, _, _ => rfl
  | n + 1, k, p, m, t, s, i, q, h => by
    rw [zStL]
    split
    · split
      · rw [zStL_o n _ _ _ h, zSm_o h]
      · simp only
        rw [zSm_o h]
    · rfl
theorem zRead_o {m : zM} {t : Nat} {s i q : Int} (h : (t ≠ 4 ∧ t ≠ 5 ∧ t ≠ 17) ∨ s ≠ 9) : (zRead m).2.2 t s i q = m t s i q := by
  have e : ∀ v : Int, zset (zClr m) 4 9 0 0 v t s i q = m t s i q := fun v => by
    simp only [zset, zClr, zfill]
    rw [if_neg (by omega), if_neg (by omega), if_neg (by omega), if_neg (by omega), if_neg (by omega)]
  rw [zRead]
  split
  · rw [zThen]
    split
    · rw [zStL_o 8 _ _ _ h, zAmL_o 8 _ _ h, e]
    · rw [zAmL_o 8 _ _ h, e]
  · exact e _
theorem zRdm_o {m : zM} {t : Nat} {s i q : Int} (h : t ≠ 7) (h2 : (t ≠ 4 ∧ t ≠ 5 ∧ t ≠ 17) ∨ s ≠ 9) : zRdm m t s i q = m t s i q := by rw [zRdm, zRd_o h, zRead_o h2]
theorem zAmL_5 : ∀ (n : Nat) (p : Int) (m : zM) {s i q : Int}, (zAmL n p m).2.2 5 s i q = m 5 s i q
  | 0, _, _, _, _, _ => rfl
  | n + 1, p, m, s, i, q => by
    rw [zAmL]
    split
    · rfl
    · split
      · rw [zAmL_5 n _ _]
        simp [zset]
      · simp [zset]
theorem zStL_b : ∀ (n : Nat) (k p : Int) (m : zM), (∀ j : Int, 0 ≤ j → j < 8 → m 5 9 j 3 = 0 ∨ m 5 9 j 3 = 1) → ∀ j : Int, 0 ≤ j → j < 8 → (zStL n k p m).2.2 5 9 j 3 = 0 ∨ (zStL n k p m).2.2 5 9 j 3 = 1
  | 0, _, _, _, h => h
  | n + 1, k, p, m, h => by
    rw [zStL]
    split
    · split
      · exact zStL_b n _ _ _ (zSm_b h)
      · exact zSm_b h
    · exact h
theorem zRdm_b {m : zM} (h : ∀ j : Int, 0 ≤ j → j < 8 → m 5 9 j 3 = 0 ∨ m 5 9 j 3 = 1) : ∀ j : Int, 0 ≤ j → j < 8 → zRdm m 5 9 j 3 = 0 ∨ zRdm m 5 9 j 3 = 1 := by
  have e : ∀ (v j : Int), zset (zClr m) 4 9 0 0 v 5 9 j 3 = m 5 9 j 3 := fun v j => by simp [zset, zClr, zfill]
  intro j h0 h1
  rw [zRdm, zRd_o (by decide), zRead]
  split
  · rw [zThen]
    split
    · exact zStL_b 8 _ _ _ (fun j h0 h1 => by rw [zAmL_5, e]; exact h j h0 h1) j h0 h1
    · rw [zAmL_5, e]; exact h j h0 h1
  · simp only
    rw [e]
    exact h j h0 h1
set_option maxRecDepth 20000 in
theorem ct_X3_read (l : Launch) (g : zG) {m : zM} (hT : zTx m) : zMet l g Y_X3_read [zr 7 0 0] m (fun v m' => v = some (zi (zFlt m)) ∧ m' = zRdm m) := by
  refine zMet_introF (by decide +kernel) (Nat.le_of_ble_eq_true rfl) (ls0 := [some (zr 7 0 0), none]) rfl fun X hG hE => ?_
  have hG : zGood X l g RX3 cX3_read 5 2 := hG
  have hE : zEnd X (some .int) _ := hE
  have e118 : ∀ (j p ok : Int) (m0 : zM), (ok = 0 ∨ ok = 1) → m0 6 0 0 0 = m 6 0 0 0 → zRead m = (p, ok, m0) → zZ X 118 [some (zr 7 0 0), some (zi j)] [] (zRd m0 p ok) := by
    intro j p ok m0 hok h6 hR
    refine z_aload_n (i := 0) hG dX3_read_118 rfl rfl ?_
    refine z_getI hG dX3_read_119 FL_X3_29 rfl rfl (kk := 3) rfl ?_
    rw [zRd_g]
    refine z_if_eq hG dX3_read_122 (tgt := 144) rfl (fun c122 => ?_) (fun c122 => ?_)
    · try simp only [zite_eq0, ne_eq, Classical.not_not] at c122
      refine z_aload_n (i := 0) hG dX3_read_144 rfl rfl ?_
      refine z_getI hG dX3_read_145 FL_X3_25 rfl rfl (kk := 2) rfl ?_
      try rw [zRd_p]
      refine z_iret hG hE dX3_read_148 trivial ?_
      refine ⟨?_, by rw [zRdm, hR]⟩
      rw [zFlt, hR]
      first | rw [if_pos (by simp only; omega)] | rw [if_neg (by simp only; omega)]
    · try simp only [zite_eq0, ne_eq, Classical.not_not] at c122
      refine z_aload_n (i := 0) hG dX3_read_125 rfl rfl ?_
      refine z_getI hG dX3_read_126 FL_X3_25 rfl rfl (kk := 2) rfl ?_
      rw [zRd_p]
      refine z_aload_n (i := 0) hG dX3_read_129 rfl rfl ?_
      refine z_get_3_1 hG dX3_read_130 FL_X3_21 ?_
      refine z_getI hG dX3_read_133 FL_X3_58 rfl rfl (kk := 0) rfl ?_
      rw [zRd_o (by decide), h6]
      refine z_icmp_ne hG dX3_read_136 (tgt := 144) rfl (fun c136 => ?_) (fun c136 => ?_)
      · refine z_aload_n (i := 0) hG dX3_read_144 rfl rfl ?_
        refine z_getI hG dX3_read_145 FL_X3_25 rfl rfl (kk := 2) rfl ?_
        try rw [zRd_p]
        refine z_iret hG hE dX3_read_148 trivial ?_
        refine ⟨?_, by rw [zRdm, hR]⟩
        rw [zFlt, hR]
        first | rw [if_pos (by simp only; omega)] | rw [if_neg (by simp only; omega)]
      · refine z_bipush hG dX3_read_139 rfl ?_
        refine z_goto hG dX3_read_141 (tgt := 148) rfl ?_
        try rw [zRd_p]
        refine z_iret hG hE dX3_read_148 trivial ?_
        refine ⟨?_, by rw [zRdm, hR]⟩
        rw [zFlt, hR]
        first | rw [if_pos (by simp only; omega)] | rw [if_neg (by simp only; omega)]
  have b68 : ∀ (j p : Int) (m0 : zM), m0 6 0 0 0 = m 6 0 0 0 → zRead m = (p, 0, m0) → zZ X 68 [some (zr 7 0 0), some (zi j)] [] (zRd m0 p 0) := by
    intro j p m0 h6 hR
    refine z_iload_n (i := 1) hG dX3_read_68 rfl rfl ?_
    refine z_bipush hG dX3_read_69 rfl ?_
    refine z_icmp_ge hG dX3_read_71 (tgt := 118) rfl (fun c71 => ?_) (fun c71 => ?_)
    · exact e118 _ _ _ _ (Or.inl rfl) h6 hR
    · refine z_aload_n (i := 0) hG dX3_read_74 rfl rfl ?_
      refine z_getI hG dX3_read_75 FL_X3_29 rfl rfl (kk := 3) rfl ?_
      rw [zRd_g]
      refine z_if_eq hG dX3_read_78 (tgt := 118) rfl (fun c78 => ?_) (fun c78 => ?_)
      · try simp only [zite_eq0, ne_eq, Classical.not_not] at c78
        exact e118 _ _ _ _ (Or.inl rfl) h6 hR
      · try simp only [zite_eq0, ne_eq, Classical.not_not] at c78
        exact absurd trivial c78
  have s68 : ∀ (n : Nat) (j p : Int) (m0 : zM), 0 ≤ j ∧ j + n = 8 → 0 ≤ p ∧ p ≤ 80 → zTx m0 → m0 6 0 0 0 = m 6 0 0 0 → zRead m = zStL n j p m0 → zZ X 68 [some (zr 7 0 0), some (zi j)] [] (zRd m0 p 1) := by
    intro n
    induction n with
    | zero =>
      intro j p m0 hj hp hT0 h6 hR
      refine z_iload_n (i := 1) hG dX3_read_68 rfl rfl ?_
      refine z_bipush hG dX3_read_69 rfl ?_
      refine z_icmp_ge hG dX3_read_71 (tgt := 118) rfl (fun c71 => ?_) (fun c71 => ?_)
      · exact e118 _ _ _ _ (Or.inr rfl) h6 (by rw [hR]; rfl)
      · exact absurd c71 (by omega)
    | succ n ih =>
      intro j p m0 hj hp hT0 h6 hR
      rw [zStL] at hR
      refine z_iload_n (i := 1) hG dX3_read_68 rfl rfl ?_
      refine z_bipush hG dX3_read_69 rfl ?_
      refine z_icmp_ge hG dX3_read_71 (tgt := 118) rfl (fun c71 => ?_) (fun c71 => ?_)
      · exact absurd c71 (by omega)
      · refine z_aload_n (i := 0) hG dX3_read_74 rfl rfl ?_
        refine z_getI hG dX3_read_75 FL_X3_29 rfl rfl (kk := 3) rfl ?_
        rw [zRd_g]
        refine z_if_eq hG dX3_read_78 (tgt := 118) rfl (fun c78 => ?_) (fun c78 => ?_)
        · try simp only [zite_eq0, ne_eq, Classical.not_not] at c78
          exact absurd c78 (by decide)
        · try simp only [zite_eq0, ne_eq, Classical.not_not] at c78
          refine z_aload_n (i := 0) hG dX3_read_81 rfl rfl ?_
          refine z_get_3_1 hG dX3_read_82 FL_X3_21 ?_
          refine z_aload_n (i := 0) hG dX3_read_85 rfl rfl ?_
          refine z_getI hG dX3_read_86 FL_X3_25 rfl rfl (kk := 2) rfl ?_
          rw [zRd_p]
          refine z_callV hG dX3_read_89 LV_X3_51 (ct_at l g hT0) (by decide) rfl rfl rfl (Nat.le_of_ble_eq_true rfl) ?_
          intro v9 m9 h9
          rw [h9.1, h9.2]
          clear h9 m9 v9
          refine z_bipush hG dX3_read_92 rfl ?_
          refine z_icmp_ne hG dX3_read_94 (tgt := 118) rfl (fun c94 => ?_) (fun c94 => ?_)
          · exact e118 _ _ _ _ (Or.inr rfl) h6 (by rw [hR, if_neg (by omega)])
          · rw [if_pos (by omega)] at hR
            have hl := zN_lt (m := m0) (p := p) (by omega)
            refine z_aload_n (i := 0) hG dX3_read_97 rfl rfl ?_
            first | refine z_dup_r hG dX3_read_98 ?_ | refine z_dup_i hG dX3_read_98 ?_
            refine z_getI hG dX3_read_99 FL_X3_25 rfl rfl (kk := 2) rfl ?_
            rw [zRd_p]
            refine z_iconst hG dX3_read_102 rfl ?_
            refine z_iadd hG dX3_read_103 (by omega) (by omega) ?_
            refine z_put hG dX3_read_104 FP_X3_25 rfl rfl (kk := 2) rfl ?_
            rw [zRd_sp]
            refine z_aload_n (i := 0) hG dX3_read_107 rfl rfl ?_
            refine z_iload_n (i := 1) hG dX3_read_108 rfl rfl ?_
            refine z_callV hG dX3_read_109 LV_X3_55 (ct_X3_readStep l g hT0 ⟨by omega, by omega⟩ ⟨by omega, by omega⟩) (by decide) rfl rfl rfl (Nat.le_of_ble_eq_true rfl) ?_
            intro v9 m9 h9
            rw [h9.1, h9.2]
            clear h9 m9 v9
            refine z_iinc hG dX3_read_112 (by decide) rfl (by omega) (by omega) (ls2 := [_, _]) rfl ?_
            refine z_goto hG dX3_read_115 (tgt := 68) rfl ?_
            have hsb := zSp_bd (m := m0) (k := j) (p := p + 1) ⟨by omega, by omega⟩
            have h6s : zSm m0 j (p + 1) 6 0 0 0 = m 6 0 0 0 := by rw [zSm_o (by omega), h6]
            rcases hsb.2 with e | e
            · rw [e, if_neg (by decide)] at hR
              rw [e]
              exact b68 _ _ _ h6s hR
            · rw [e, if_pos rfl] at hR
              rw [e]
              exact ih (j + 1) _ _ ⟨by omega, by omega⟩ hsb.1 (zSm_T hT0) h6s hR
  have b32 : ∀ (j p : Int) (m0 : zM), m0 6 0 0 0 = m 6 0 0 0 → zRead m = (p, 0, m0) → zZ X 32 [some (zr 7 0 0), some (zi j)] [] (zRd m0 p 0) := by
    intro j p m0 h6 hR
    refine z_iload_n (i := 1) hG dX3_read_32 rfl rfl ?_
    refine z_bipush hG dX3_read_33 rfl ?_
    refine z_icmp_ge hG dX3_read_35 (tgt := 66) rfl (fun c35 => ?_) (fun c35 => ?_)
    · refine z_iconst hG dX3_read_66 rfl ?_
      refine z_istore_n (i := 1) hG dX3_read_67 rfl (by decide) (ls2 := [_, _]) rfl ?_
      exact b68 _ _ _ h6 hR
    · refine z_aload_n (i := 0) hG dX3_read_38 rfl rfl ?_
      refine z_getI hG dX3_read_39 FL_X3_29 rfl rfl (kk := 3) rfl ?_
      rw [zRd_g]
      refine z_if_eq hG dX3_read_42 (tgt := 66) rfl (fun c42 => ?_) (fun c42 => ?_)
      · try simp only [zite_eq0, ne_eq, Classical.not_not] at c42
        refine z_iconst hG dX3_read_66 rfl ?_
        refine z_istore_n (i := 1) hG dX3_read_67 rfl (by decide) (ls2 := [_, _]) rfl ?_
        exact b68 _ _ _ h6 hR
      · try simp only [zite_eq0, ne_eq, Classical.not_not] at c42
        exact absurd trivial c42
  have s32 : ∀ (n : Nat) (j p : Int) (m0 : zM), 0 ≤ j ∧ j + n = 8 → 0 ≤ p ∧ p ≤ 80 → zTx m0 → m0 6 0 0 0 = m 6 0 0 0 → zRead m = zThen (zAmL n p m0) → zZ X 32 [some (zr 7 0 0), some (zi j)] [] (zRd m0 p 1) := by
    intro n
    induction n with
    | zero =>
      intro j p m0 hj hp hT0 h6 hR
      refine z_iload_n (i := 1) hG dX3_read_32 rfl rfl ?_
      refine z_bipush hG dX3_read_33 rfl ?_
      refine z_icmp_ge hG dX3_read_35 (tgt := 66) rfl (fun c35 => ?_) (fun c35 => ?_)
      · refine z_iconst hG dX3_read_66 rfl ?_
        refine z_istore_n (i := 1) hG dX3_read_67 rfl (by decide) (ls2 := [_, _]) rfl ?_
        exact s68 8 0 p m0 (by decide) hp hT0 h6 hR
      · exact absurd c35 (by omega)
    | succ n ih =>
      intro j p m0 hj hp hT0 h6 hR
      rw [zAmL] at hR
      have hnm := zname_bd (N := zN m0) (A := m0 17 9 0) (p := p)
      refine z_iload_n (i := 1) hG dX3_read_32 rfl rfl ?_
      refine z_bipush hG dX3_read_33 rfl ?_
      refine z_icmp_ge hG dX3_read_35 (tgt := 66) rfl (fun c35 => ?_) (fun c35 => ?_)
      · exact absurd c35 (by omega)
      · refine z_aload_n (i := 0) hG dX3_read_38 rfl rfl ?_
        refine z_getI hG dX3_read_39 FL_X3_29 rfl rfl (kk := 3) rfl ?_
        rw [zRd_g]
        refine z_if_eq hG dX3_read_42 (tgt := 66) rfl (fun c42 => ?_) (fun c42 => ?_)
        · try simp only [zite_eq0, ne_eq, Classical.not_not] at c42
          exact absurd c42 (by decide)
        · try simp only [zite_eq0, ne_eq, Classical.not_not] at c42
          refine z_aload_n (i := 0) hG dX3_read_45 rfl rfl ?_
          refine z_callV hG dX3_read_46 LV_X3_43 (ct_X3_nameHere l g hT0) (by decide) rfl rfl rfl (Nat.le_of_ble_eq_true rfl) ?_
          intro v9 m9 h9
          rw [h9.1, h9.2]
          clear h9 m9 v9
          refine z_if_lt hG dX3_read_49 (tgt := 66) rfl (fun c49 => ?_) (fun c49 => ?_)
          · refine z_iconst hG dX3_read_66 rfl ?_
            refine z_istore_n (i := 1) hG dX3_read_67 rfl (by decide) (ls2 := [_, _]) rfl ?_
            rw [if_pos (by omega)] at hR
            exact s68 8 0 p m0 (by decide) hp hT0 h6 hR
          · refine z_aload_n (i := 0) hG dX3_read_52 rfl rfl ?_
            refine z_aload_n (i := 0) hG dX3_read_53 rfl rfl ?_
            refine z_callV hG dX3_read_54 LV_X3_43 (ct_X3_nameHere l g hT0) (by decide) rfl rfl rfl (Nat.le_of_ble_eq_true rfl) ?_
            intro v9 m9 h9
            rw [h9.1, h9.2]
            clear h9 m9 v9
            have hl := zN_lt (m := m0) (p := p) (by omega)
            rw [if_neg (by omega)] at hR
            refine z_callV hG dX3_read_57 LV_X3_47 (ct_X3_readAmount l g hT0 ⟨by omega, by omega⟩ ⟨by omega, by omega⟩) (by decide) rfl rfl rfl (Nat.le_of_ble_eq_true rfl) ?_
            intro v9 m9 h9
            rw [h9.1, h9.2]
            clear h9 m9 v9
            refine z_iinc hG dX3_read_60 (by decide) rfl (by omega) (by omega) (ls2 := [_, _]) rfl ?_
            refine z_goto hG dX3_read_63 (tgt := 32) rfl ?_
            have hsb := zNum_bd (m := m0) (most := 500) (p := p + 1) (by decide) ⟨by omega, by omega⟩
            have h6s : ∀ a v : Int, zset m0 17 9 0 a v 6 0 0 0 = m 6 0 0 0 := fun a v => by rw [← h6]; simp [zset]
            rcases hsb.2.2 with e | e
            · rw [e, if_neg (by decide)] at hR
              rw [e]
              exact b32 _ _ _ (h6s _ _) (by rw [hR]; rfl)
            · rw [e.1, if_pos rfl] at hR
              rw [e.1]
              exact ih (j + 1) _ _ ⟨by omega, by omega⟩ hsb.1 (zTx_set (by decide) (by decide) hT0) (h6s _ _) hR
  refine z_aload_n (i := 0) hG dX3_read_0 rfl rfl ?_
  refine z_iconst hG dX3_read_1 rfl ?_
  refine z_put hG dX3_read_2 FP_X3_25 rfl rfl (kk := 2) rfl ?_
  refine z_aload_n (i := 0) hG dX3_read_5 rfl rfl ?_
  refine z_iconst hG dX3_read_6 rfl ?_
  refine z_putB hG dX3_read_7 FP_X3_29 rfl rfl (kk := 3) rfl (by omega) ?_
  change zZ X _ _ _ (zRd m 0 1)
  refine z_aload_n (i := 0) hG dX3_read_10 rfl rfl ?_
  refine z_get_3_0 hG dX3_read_11 FL_X3_12 ?_
  refine z_callV hG dX3_read_14 LV_X3_33 (ct_X4_clear l g) (by decide) rfl rfl rfl (Nat.le_of_ble_eq_true rfl) ?_
  intro v9 m9 h9
  rw [h9.1, h9.2]
  clear h9 m9 v9
  rw [zRd_so (by decide), zRd_so (by decide), zRd_so (by decide), zRd_fill (by decide)]
  change zZ X _ _ _ (zRd (zClr m) 0 1)
  refine z_aload_n (i := 0) hG dX3_read_17 rfl rfl ?_
  refine z_get_3_0 hG dX3_read_18 FL_X3_12 ?_
  refine z_aload_n (i := 0) hG dX3_read_21 rfl rfl ?_
  refine z_bipush hG dX3_read_22 rfl ?_
  refine z_callV hG dX3_read_24 LV_X3_36 (ct_X3_readNumber l g (zClr_T hT) (by decide) (by decide)) (by decide) rfl rfl rfl (Nat.le_of_ble_eq_true rfl) ?_
  intro v9 m9 h9
  rw [h9.1, h9.2]
  clear h9 m9 v9
  refine z_put hG dX3_read_27 FP_X3_40 rfl rfl (kk := 0) rfl ?_
  rw [zRd_so (by decide), zClr_N]
  refine z_iconst hG dX3_read_30 rfl ?_
  refine z_istore_n (i := 1) hG dX3_read_31 rfl (by decide) (ls2 := [_, _]) rfl ?_
  have hsb := zNum_bd (m := m) (most := 20) (p := 0) (by decide) (by decide)
  have h6s : ∀ v : Int, zset (zClr m) 4 9 0 0 v 6 0 0 0 = m 6 0 0 0 := fun v => by simp [zset, zClr, zfill]
  have hR := Eq.refl (zRead m)
  rw [zRead] at hR
  rcases hsb.2.2 with e | e
  · rw [e, if_neg (by decide)] at hR
    rw [e]
    exact b32 0 _ _ (h6s _) (by rw [← hR, zRead, e, if_neg (by decide)])
  · rw [e.1, if_pos rfl] at hR
    rw [e.1]
    exact s32 8 0 _ _ (by decide) hsb.1 (zTx_set (by decide) (by decide) (zClr_T hT)) (h6s _) (by rw [← hR, zRead, e.1, if_pos rfl])
