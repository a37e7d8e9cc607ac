theorem z_top {X : zX} {pc : Nat} {ls : zL} {st : List zV} {mem : zM} {x y : Int} (h : x = y) (K : zZ X pc ls (zi y :: st) mem) : zZ X pc ls (zi x :: st) mem := h ▸ K
/-- the model's row of sizes and prices -/
def zRS (m : zM) (i : Int) (S Pr : Int → Int) : Prop := ∀ k : Int, 0 ≤ k → k < 3 → m 45 0 0 (6 + 46 * i + (9 + 2 * k)) = S k ∧ m 45 0 0 (6 + 46 * i + (9 + 2 * k + 1)) = Pr k
def zbet (m : zM) (k : zK5) : Prop := k.1 < m 11 0 0 16 ∨ (k.1 = m 11 0 0 16 ∧ (k.2.1 < m 11 0 0 17 ∨ (k.2.1 = m 11 0 0 17 ∧ k.2.2.1 < m 11 0 0 18)))
def zTk (m : zM) (i : Int) (k : zK5) (x0 x1 x2 : Int) : zM := zset (zset (zset (zset (zset (zset m 11 0 0 16 k.1) 11 0 0 17 k.2.1) 11 0 0 18 k.2.2.1) 58 0 0 (3 * i) x0) 58 0 0 (3 * i + 1) x1) 58 0 0 (3 * i + 2) x2
theorem zTk_o {m : zM} {i : Int} {k : zK5} {x0 x1 x2 : Int} {t : Nat} {s j q : Int} (h : t ≠ 11 ∨ q < 16 ∨ 18 < q) (h2 : t ≠ 58 ∨ q < 3 * i ∨ 3 * i + 2 < q) : zTk m i k x0 x1 x2 t s j q = m t s j q := by
  simp only [zTk, zset]
  rw [if_neg (by omega), if_neg (by omega), if_neg (by omega), if_neg (by omega), if_neg (by omega), if_neg (by omega)]
theorem zTk_v {m : zM} {i : Int} {k : zK5} {x0 x1 x2 : Int} : (zTk m i k x0 x1 x2 11 0 0 16 = k.1 ∧ zTk m i k x0 x1 x2 11 0 0 17 = k.2.1 ∧ zTk m i k x0 x1 x2 11 0 0 18 = k.2.2.1) ∧ zTk m i k x0 x1 x2 58 0 0 (3 * i) = x0 ∧ zTk m i k x0 x1 x2 58 0 0 (3 * i + 1) = x1 ∧ zTk m i k x0 x1 x2 58 0 0 (3 * i + 2) = x2 := by
  refine ⟨⟨by simp [zTk, zset], by simp [zTk, zset], by simp [zTk, zset]⟩, ?_, ?_, ?_⟩
  · simp only [zTk, zset]
    rw [if_neg (by omega), if_neg (by omega), if_pos (by first | omega | (simp; done) | (simp; omega))]
  · simp only [zTk, zset]
    rw [if_neg (by omega), if_pos (by first | omega | (simp; done) | (simp; omega))]
  · simp only [zTk, zset]
    rw [if_pos (by first | omega | (simp; done) | (simp; omega))]
set_option maxRecDepth 20000 in
theorem ct_X11_consider (l : Launch) (g : zG) {m : zM} {i x0 x1 x2 : Int} {S Pr : Int → Int} (hi : 0 ≤ i ∧ i < 8) (hS : zRS m i S Pr) (h0 : (0 ≤ x0 ∧ x0 ≤ 2040) ∧ (0 ≤ x0 * S 0 ∧ x0 * S 0 ≤ 5000000) ∧ (0 ≤ x0 * Pr 0 ∧ x0 * Pr 0 ≤ 5000000)) (h1 : (0 ≤ x1 ∧ x1 ≤ 2040) ∧ (0 ≤ x1 * S 1 ∧ x1 * S 1 ≤ 5000000) ∧ (0 ≤ x1 * Pr 1 ∧ x1 * Pr 1 ≤ 5000000)) (h2 : (0 ≤ x2 ∧ x2 ≤ 2040) ∧ (0 ≤ x2 * S 2 ∧ x2 * S 2 ≤ 5000000) ∧ (0 ≤ x2 * Pr 2 ∧ x2 * Pr 2 ≤ 5000000)) : zMet l g Y_X11_consider [zr 11 0 0, zi i, zi x0, zi x1, zi x2] m (fun v m' => v = none ∧ ((zbet m (zky S Pr x0 x1 x2) ∧ m' = zTk m i (zky S Pr x0 x1 x2) x0 x1 x2) ∨ (¬ zbet m (zky S Pr x0 x1 x2) ∧ m' = m))) := by
  refine zMet_introF (by decide +kernel) (Nat.le_of_ble_eq_true rfl) (ls0 := [some (zr 11 0 0), some (zi i), some (zi x0), some (zi x1), some (zi x2), none, none, none, none]) rfl fun X hG hE => ?_
  have hG : zGood X l g RX11 cX11_consider 2 9 := hG
  have hE : zEnd X (none) _ := hE
  refine z_iload_n (i := 2) hG dX11_consider_0 rfl rfl ?_
  refine z_aload_n (i := 0) hG dX11_consider_1 rfl rfl ?_
  refine z_iload_n (i := 1) hG dX11_consider_2 rfl rfl ?_
  refine z_iconst hG dX11_consider_3 rfl ?_
  refine z_callV hG dX11_consider_4 LV_X11_115 (ct_X11_priceOf l g hi ⟨by omega, by omega⟩) (by decide) rfl rfl rfl (Nat.le_of_ble_eq_true rfl) ?_
  intro v9 m9 h9
  rw [h9.1, h9.2, (hS 0 (by decide) (by decide)).2]
  clear h9 m9 v9
  refine z_imul hG dX11_consider_7 (by omega) (by omega) ?_
  refine z_iload_n (i := 3) hG dX11_consider_8 rfl rfl ?_
  refine z_aload_n (i := 0) hG dX11_consider_9 rfl rfl ?_
  refine z_iload_n (i := 1) hG dX11_consider_10 rfl rfl ?_
  refine z_iconst hG dX11_consider_11 rfl ?_
  refine z_callV hG dX11_consider_12 LV_X11_115 (ct_X11_priceOf l g hi ⟨by omega, by omega⟩) (by decide) rfl rfl rfl (Nat.le_of_ble_eq_true rfl) ?_
  intro v9 m9 h9
  rw [h9.1, h9.2, (hS 1 (by decide) (by decide)).2]
  clear h9 m9 v9
  refine z_imul hG dX11_consider_15 (by omega) (by omega) ?_
  refine z_iadd hG dX11_consider_16 (by omega) (by omega) ?_
  refine z_iload hG dX11_consider_17 rfl ?_
  refine z_aload_n (i := 0) hG dX11_consider_19 rfl rfl ?_
  refine z_iload_n (i := 1) hG dX11_consider_20 rfl rfl ?_
  refine z_iconst hG dX11_consider_21 rfl ?_
  refine z_callV hG dX11_consider_22 LV_X11_115 (ct_X11_priceOf l g hi ⟨by omega, by omega⟩) (by decide) rfl rfl rfl (Nat.le_of_ble_eq_true rfl) ?_
  intro v9 m9 h9
  rw [h9.1, h9.2, (hS 2 (by decide) (by decide)).2]
  clear h9 m9 v9
  refine z_imul hG dX11_consider_25 (by omega) (by omega) ?_
  refine z_iadd hG dX11_consider_26 (by omega) (by omega) ?_
  refine z_istore hG dX11_consider_27 (by decide) (ls2 := [_, _, _, _, _, _, _, _, _]) rfl ?_
  refine z_iload_n (i := 2) hG dX11_consider_29 rfl rfl ?_
  refine z_aload_n (i := 0) hG dX11_consider_30 rfl rfl ?_
  refine z_iload_n (i := 1) hG dX11_consider_31 rfl rfl ?_
  refine z_iconst hG dX11_consider_32 rfl ?_
  refine z_callV hG dX11_consider_33 LV_X11_94 (ct_X11_sizeOf l g hi ⟨by omega, by omega⟩) (by decide) rfl rfl rfl (Nat.le_of_ble_eq_true rfl) ?_
  intro v9 m9 h9
  rw [h9.1, h9.2, (hS 0 (by decide) (by decide)).1]
  clear h9 m9 v9
  refine z_imul hG dX11_consider_36 (by omega) (by omega) ?_
  refine z_iload_n (i := 3) hG dX11_consider_37 rfl rfl ?_
  refine z_aload_n (i := 0) hG dX11_consider_38 rfl rfl ?_
  refine z_iload_n (i := 1) hG dX11_consider_39 rfl rfl ?_
  refine z_iconst hG dX11_consider_40 rfl ?_
  refine z_callV hG dX11_consider_41 LV_X11_94 (ct_X11_sizeOf l g hi ⟨by omega, by omega⟩) (by decide) rfl rfl rfl (Nat.le_of_ble_eq_true rfl) ?_
  intro v9 m9 h9
  rw [h9.1, h9.2, (hS 1 (by decide) (by decide)).1]
  clear h9 m9 v9
  refine z_imul hG dX11_consider_44 (by omega) (by omega) ?_
  refine z_iadd hG dX11_consider_45 (by omega) (by omega) ?_
  refine z_iload hG dX11_consider_46 rfl ?_
  refine z_aload_n (i := 0) hG dX11_consider_48 rfl rfl ?_
  refine z_iload_n (i := 1) hG dX11_consider_49 rfl rfl ?_
  refine z_iconst hG dX11_consider_50 rfl ?_
  refine z_callV hG dX11_consider_51 LV_X11_94 (ct_X11_sizeOf l g hi ⟨by omega, by omega⟩) (by decide) rfl rfl rfl (Nat.le_of_ble_eq_true rfl) ?_
  intro v9 m9 h9
  rw [h9.1, h9.2, (hS 2 (by decide) (by decide)).1]
  clear h9 m9 v9
  refine z_imul hG dX11_consider_54 (by omega) (by omega) ?_
  refine z_iadd hG dX11_consider_55 (by omega) (by omega) ?_
  refine z_istore hG dX11_consider_56 (by decide) (ls2 := [_, _, _, _, _, _, _, _, _]) rfl ?_
  refine z_iload_n (i := 2) hG dX11_consider_58 rfl rfl ?_
  refine z_iload_n (i := 3) hG dX11_consider_59 rfl rfl ?_
  refine z_iadd hG dX11_consider_60 (by omega) (by omega) ?_
  refine z_iload hG dX11_consider_61 rfl ?_
  refine z_iadd hG dX11_consider_63 (by omega) (by omega) ?_
  refine z_istore hG dX11_consider_64 (by decide) (ls2 := [_, _, _, _, _, _, _, _, _]) rfl ?_
  refine z_iload hG dX11_consider_66 rfl ?_
  refine z_aload_n (i := 0) hG dX11_consider_68 rfl rfl ?_
  refine z_getI hG dX11_consider_69 FL_X11_118 rfl rfl (kk := 16) rfl ?_
  refine z_icmp_lt hG dX11_consider_72 (tgt := 111) rfl (fun c72 => ?_) (fun c72 => ?_)
  · refine z_iconst hG dX11_consider_111 rfl ?_
    refine z_goto hG dX11_consider_112 (tgt := 116) rfl ?_
    refine z_istore hG dX11_consider_116 (by decide) (ls2 := [_, _, _, _, _, _, _, _, _]) rfl ?_
    refine z_iload hG dX11_consider_118 rfl ?_
    refine z_if_eq hG dX11_consider_120 (tgt := 173) rfl (fun c120 => ?_) (fun c120 => ?_)
    · try simp only [zite_eq0, ne_eq, Classical.not_not] at c120
      refine z_vret hG hE dX11_consider_173 ?_
      first
      | (exfalso; omega; done)
      | (exfalso; simp at c120; done)
      | exact ⟨rfl, Or.inl ⟨by unfold zbet zky; simp only; omega, rfl⟩⟩
      | exact ⟨rfl, Or.inr ⟨by unfold zbet zky; simp only; omega, rfl⟩⟩
    · try simp only [zite_eq0, ne_eq, Classical.not_not] at c120
      refine z_aload_n (i := 0) hG dX11_consider_123 rfl rfl ?_
      refine z_iload hG dX11_consider_124 rfl ?_
      refine z_put hG dX11_consider_126 FP_X11_118 rfl rfl (kk := 16) rfl ?_
      refine z_aload_n (i := 0) hG dX11_consider_129 rfl rfl ?_
      refine z_iload hG dX11_consider_130 rfl ?_
      refine z_put hG dX11_consider_132 FP_X11_121 rfl rfl (kk := 17) rfl ?_
      refine z_aload_n (i := 0) hG dX11_consider_135 rfl rfl ?_
      refine z_iload hG dX11_consider_136 rfl ?_
      refine z_put hG dX11_consider_138 FP_X11_124 rfl rfl (kk := 18) rfl ?_
      refine z_aload_n (i := 0) hG dX11_consider_141 rfl rfl ?_
      refine z_get_11_15 hG dX11_consider_142 FL_X11_50 ?_
      refine z_iconst hG dX11_consider_145 rfl ?_
      refine z_iload_n (i := 1) hG dX11_consider_146 rfl rfl ?_
      refine z_imul hG dX11_consider_147 (by omega) (by omega) ?_
      refine z_iload_n (i := 2) hG dX11_consider_148 rfl rfl ?_
      refine z_iast hG dX11_consider_149 rfl rfl (by omega) (by omega) ?_
      refine z_aload_n (i := 0) hG dX11_consider_150 rfl rfl ?_
      refine z_get_11_15 hG dX11_consider_151 FL_X11_50 ?_
      refine z_iconst hG dX11_consider_154 rfl ?_
      refine z_iload_n (i := 1) hG dX11_consider_155 rfl rfl ?_
      refine z_imul hG dX11_consider_156 (by omega) (by omega) ?_
      refine z_iconst hG dX11_consider_157 rfl ?_
      refine z_iadd hG dX11_consider_158 (by omega) (by omega) ?_
      refine z_iload_n (i := 3) hG dX11_consider_159 rfl rfl ?_
      refine z_iast hG dX11_consider_160 rfl rfl (by omega) (by omega) ?_
      refine z_aload_n (i := 0) hG dX11_consider_161 rfl rfl ?_
      refine z_get_11_15 hG dX11_consider_162 FL_X11_50 ?_
      refine z_iconst hG dX11_consider_165 rfl ?_
      refine z_iload_n (i := 1) hG dX11_consider_166 rfl rfl ?_
      refine z_imul hG dX11_consider_167 (by omega) (by omega) ?_
      refine z_iconst hG dX11_consider_168 rfl ?_
      refine z_iadd hG dX11_consider_169 (by omega) (by omega) ?_
      refine z_iload hG dX11_consider_170 rfl ?_
      refine z_iast hG dX11_consider_172 rfl rfl (by omega) (by omega) ?_
      refine z_vret hG hE dX11_consider_173 ?_
      first
      | (exfalso; omega; done)
      | (exfalso; simp at c120; done)
      | exact ⟨rfl, Or.inl ⟨by unfold zbet zky; simp only; omega, rfl⟩⟩
      | exact ⟨rfl, Or.inr ⟨by unfold zbet zky; simp only; omega, rfl⟩⟩
  · refine z_iload hG dX11_consider_75 rfl ?_
    refine z_aload_n (i := 0) hG dX11_consider_77 rfl rfl ?_
    try rw [show m 11 0 0 16 = m 11 0 0 16 from rfl]
    refine z_getI hG dX11_consider_78 FL_X11_118 rfl rfl (kk := 16) rfl ?_
    refine z_icmp_ne hG dX11_consider_81 (tgt := 115) rfl (fun c81 => ?_) (fun c81 => ?_)
    · refine z_iconst hG dX11_consider_115 rfl ?_
      refine z_istore hG dX11_consider_116 (by decide) (ls2 := [_, _, _, _, _, _, _, _, _]) rfl ?_
      refine z_iload hG dX11_consider_118 rfl ?_
      refine z_if_eq hG dX11_consider_120 (tgt := 173) rfl (fun c120 => ?_) (fun c120 => ?_)
      · try simp only [zite_eq0, ne_eq, Classical.not_not] at c120
        refine z_vret hG hE dX11_consider_173 ?_
        first
        | (exfalso; omega; done)
        | (exfalso; simp at c120; done)
        | exact ⟨rfl, Or.inl ⟨by unfold zbet zky; simp only; omega, rfl⟩⟩
        | exact ⟨rfl, Or.inr ⟨by unfold zbet zky; simp only; omega, rfl⟩⟩
      · try simp only [zite_eq0, ne_eq, Classical.not_not] at c120
        refine z_aload_n (i := 0) hG dX11_consider_123 rfl rfl ?_
        refine z_iload hG dX11_consider_124 rfl ?_
        refine z_put hG dX11_consider_126 FP_X11_118 rfl rfl (kk := 16) rfl ?_
        refine z_aload_n (i := 0) hG dX11_consider_129 rfl rfl ?_
        refine z_iload hG dX11_consider_130 rfl ?_
        refine z_put hG dX11_consider_132 FP_X11_121 rfl rfl (kk := 17) rfl ?_
        refine z_aload_n (i := 0) hG dX11_consider_135 rfl rfl ?_
        refine z_iload hG dX11_consider_136 rfl ?_
        refine z_put hG dX11_consider_138 FP_X11_124 rfl rfl (kk := 18) rfl ?_
        refine z_aload_n (i := 0) hG dX11_consider_141 rfl rfl ?_
        refine z_get_11_15 hG dX11_consider_142 FL_X11_50 ?_
        refine z_iconst hG dX11_consider_145 rfl ?_
        refine z_iload_n (i := 1) hG dX11_consider_146 rfl rfl ?_
        refine z_imul hG dX11_consider_147 (by omega) (by omega) ?_
        refine z_iload_n (i := 2) hG dX11_consider_148 rfl rfl ?_
        refine z_iast hG dX11_consider_149 rfl rfl (by omega) (by omega) ?_
        refine z_aload_n (i := 0) hG dX11_consider_150 rfl rfl ?_
        refine z_get_11_15 hG dX11_consider_151 FL_X11_50 ?_
        refine z_iconst hG dX11_consider_154 rfl ?_
        refine z_iload_n (i := 1) hG dX11_consider_155 rfl rfl ?_
        refine z_imul hG dX11_consider_156 (by omega) (by omega) ?_
        refine z_iconst hG dX11_consider_157 rfl ?_
        refine z_iadd hG dX11_consider_158 (by omega) (by omega) ?_
        refine z_iload_n (i := 3) hG dX11_consider_159 rfl rfl ?_
        refine z_iast hG dX11_consider_160 rfl rfl (by omega) (by omega) ?_
        refine z_aload_n (i := 0) hG dX11_consider_161 rfl rfl ?_
        refine z_get_11_15 hG dX11_consider_162 FL_X11_50 ?_
        refine z_iconst hG dX11_consider_165 rfl ?_
        refine z_iload_n (i := 1) hG dX11_consider_166 rfl rfl ?_
        refine z_imul hG dX11_consider_167 (by omega) (by omega) ?_
        refine z_iconst hG dX11_consider_168 rfl ?_
        refine z_iadd hG dX11_consider_169 (by omega) (by omega) ?_
        refine z_iload hG dX11_consider_170 rfl ?_
        refine z_iast hG dX11_consider_172 rfl rfl (by omega) (by omega) ?_
        refine z_vret hG hE dX11_consider_173 ?_
        first
        | (exfalso; omega; done)
        | (exfalso; simp at c120; done)
        | exact ⟨rfl, Or.inl ⟨by unfold zbet zky; simp only; omega, rfl⟩⟩
        | exact ⟨rfl, Or.inr ⟨by unfold zbet zky; simp only; omega, rfl⟩⟩
    · refine z_iload hG dX11_consider_84 rfl ?_
      refine z_aload_n (i := 0) hG dX11_consider_86 rfl rfl ?_
      refine z_getI hG dX11_consider_87 FL_X11_121 rfl rfl (kk := 17) rfl ?_
      refine z_icmp_lt hG dX11_consider_90 (tgt := 111) rfl (fun c90 => ?_) (fun c90 => ?_)
      · refine z_iconst hG dX11_consider_111 rfl ?_
        refine z_goto hG dX11_consider_112 (tgt := 116) rfl ?_
        refine z_istore hG dX11_consider_116 (by decide) (ls2 := [_, _, _, _, _, _, _, _, _]) rfl ?_
        refine z_iload hG dX11_consider_118 rfl ?_
        refine z_if_eq hG dX11_consider_120 (tgt := 173) rfl (fun c120 => ?_) (fun c120 => ?_)
        · try simp only [zite_eq0, ne_eq, Classical.not_not] at c120
          refine z_vret hG hE dX11_consider_173 ?_
          first
          | (exfalso; omega; done)
          | (exfalso; simp at c120; done)
          | exact ⟨rfl, Or.inl ⟨by unfold zbet zky; simp only; omega, rfl⟩⟩
          | exact ⟨rfl, Or.inr ⟨by unfold zbet zky; simp only; omega, rfl⟩⟩
        · try simp only [zite_eq0, ne_eq, Classical.not_not] at c120
          refine z_aload_n (i := 0) hG dX11_consider_123 rfl rfl ?_
          refine z_iload hG dX11_consider_124 rfl ?_
          refine z_put hG dX11_consider_126 FP_X11_118 rfl rfl (kk := 16) rfl ?_
          refine z_aload_n (i := 0) hG dX11_consider_129 rfl rfl ?_
          refine z_iload hG dX11_consider_130 rfl ?_
          refine z_put hG dX11_consider_132 FP_X11_121 rfl rfl (kk := 17) rfl ?_
          refine z_aload_n (i := 0) hG dX11_consider_135 rfl rfl ?_
          refine z_iload hG dX11_consider_136 rfl ?_
          refine z_put hG dX11_consider_138 FP_X11_124 rfl rfl (kk := 18) rfl ?_
          refine z_aload_n (i := 0) hG dX11_consider_141 rfl rfl ?_
          refine z_get_11_15 hG dX11_consider_142 FL_X11_50 ?_
          refine z_iconst hG dX11_consider_145 rfl ?_
          refine z_iload_n (i := 1) hG dX11_consider_146 rfl rfl ?_
          refine z_imul hG dX11_consider_147 (by omega) (by omega) ?_
          refine z_iload_n (i := 2) hG dX11_consider_148 rfl rfl ?_
          refine z_iast hG dX11_consider_149 rfl rfl (by omega) (by omega) ?_
          refine z_aload_n (i := 0) hG dX11_consider_150 rfl rfl ?_
          refine z_get_11_15 hG dX11_consider_151 FL_X11_50 ?_
          refine z_iconst hG dX11_consider_154 rfl ?_
          refine z_iload_n (i := 1) hG dX11_consider_155 rfl rfl ?_
          refine z_imul hG dX11_consider_156 (by omega) (by omega) ?_
          refine z_iconst hG dX11_consider_157 rfl ?_
          refine z_iadd hG dX11_consider_158 (by omega) (by omega) ?_
          refine z_iload_n (i := 3) hG dX11_consider_159 rfl rfl ?_
          refine z_iast hG dX11_consider_160 rfl rfl (by omega) (by omega) ?_
          refine z_aload_n (i := 0) hG dX11_consider_161 rfl rfl ?_
          refine z_get_11_15 hG dX11_consider_162 FL_X11_50 ?_
          refine z_iconst hG dX11_consider_165 rfl ?_
          refine z_iload_n (i := 1) hG dX11_consider_166 rfl rfl ?_
          refine z_imul hG dX11_consider_167 (by omega) (by omega) ?_
          refine z_iconst hG dX11_consider_168 rfl ?_
          refine z_iadd hG dX11_consider_169 (by omega) (by omega) ?_
          refine z_iload hG dX11_consider_170 rfl ?_
          refine z_iast hG dX11_consider_172 rfl rfl (by omega) (by omega) ?_
          refine z_vret hG hE dX11_consider_173 ?_
          first
          | (exfalso; omega; done)
          | (exfalso; simp at c120; done)
          | exact ⟨rfl, Or.inl ⟨by unfold zbet zky; simp only; omega, rfl⟩⟩
          | exact ⟨rfl, Or.inr ⟨by unfold zbet zky; simp only; omega, rfl⟩⟩
      · refine z_iload hG dX11_consider_93 rfl ?_
        refine z_aload_n (i := 0) hG dX11_consider_95 rfl rfl ?_
        refine z_getI hG dX11_consider_96 FL_X11_121 rfl rfl (kk := 17) rfl ?_
        refine z_icmp_ne hG dX11_consider_99 (tgt := 115) rfl (fun c99 => ?_) (fun c99 => ?_)
        · refine z_iconst hG dX11_consider_115 rfl ?_
          refine z_istore hG dX11_consider_116 (by decide) (ls2 := [_, _, _, _, _, _, _, _, _]) rfl ?_
          refine z_iload hG dX11_consider_118 rfl ?_
          refine z_if_eq hG dX11_consider_120 (tgt := 173) rfl (fun c120 => ?_) (fun c120 => ?_)
          · try simp only [zite_eq0, ne_eq, Classical.not_not] at c120
            refine z_vret hG hE dX11_consider_173 ?_
            first
            | (exfalso; omega; done)
            | (exfalso; simp at c120; done)
            | exact ⟨rfl, Or.inl ⟨by unfold zbet zky; simp only; omega, rfl⟩⟩
            | exact ⟨rfl, Or.inr ⟨by unfold zbet zky; simp only; omega, rfl⟩⟩
          · try simp only [zite_eq0, ne_eq, Classical.not_not] at c120
            refine z_aload_n (i := 0) hG dX11_consider_123 rfl rfl ?_
            refine z_iload hG dX11_consider_124 rfl ?_
            refine z_put hG dX11_consider_126 FP_X11_118 rfl rfl (kk := 16) rfl ?_
            refine z_aload_n (i := 0) hG dX11_consider_129 rfl rfl ?_
            refine z_iload hG dX11_consider_130 rfl ?_
            refine z_put hG dX11_consider_132 FP_X11_121 rfl rfl (kk := 17) rfl ?_
            refine z_aload_n (i := 0) hG dX11_consider_135 rfl rfl ?_
            refine z_iload hG dX11_consider_136 rfl ?_
            refine z_put hG dX11_consider_138 FP_X11_124 rfl rfl (kk := 18) rfl ?_
            refine z_aload_n (i := 0) hG dX11_consider_141 rfl rfl ?_
            refine z_get_11_15 hG dX11_consider_142 FL_X11_50 ?_
            refine z_iconst hG dX11_consider_145 rfl ?_
            refine z_iload_n (i := 1) hG dX11_consider_146 rfl rfl ?_
            refine z_imul hG dX11_consider_147 (by omega) (by omega) ?_
            refine z_iload_n (i := 2) hG dX11_consider_148 rfl rfl ?_
            refine z_iast hG dX11_consider_149 rfl rfl (by omega) (by omega) ?_
            refine z_aload_n (i := 0) hG dX11_consider_150 rfl rfl ?_
            refine z_get_11_15 hG dX11_consider_151 FL_X11_50 ?_
            refine z_iconst hG dX11_consider_154 rfl ?_
            refine z_iload_n (i := 1) hG dX11_consider_155 rfl rfl ?_
            refine z_imul hG dX11_consider_156 (by omega) (by omega) ?_
            refine z_iconst hG dX11_consider_157 rfl ?_
            refine z_iadd hG dX11_consider_158 (by omega) (by omega) ?_
            refine z_iload_n (i := 3) hG dX11_consider_159 rfl rfl ?_
            refine z_iast hG dX11_consider_160 rfl rfl (by omega) (by omega) ?_
            refine z_aload_n (i := 0) hG dX11_consider_161 rfl rfl ?_
            refine z_get_11_15 hG dX11_consider_162 FL_X11_50 ?_
            refine z_iconst hG dX11_consider_165 rfl ?_
            refine z_iload_n (i := 1) hG dX11_consider_166 rfl rfl ?_
            refine z_imul hG dX11_consider_167 (by omega) (by omega) ?_
            refine z_iconst hG dX11_consider_168 rfl ?_
            refine z_iadd hG dX11_consider_169 (by omega) (by omega) ?_
            refine z_iload hG dX11_consider_170 rfl ?_
            refine z_iast hG dX11_consider_172 rfl rfl (by omega) (by omega) ?_
            refine z_vret hG hE dX11_consider_173 ?_
            first
            | (exfalso; omega; done)
            | (exfalso; simp at c120; done)
            | exact ⟨rfl, Or.inl ⟨by unfold zbet zky; simp only; omega, rfl⟩⟩
            | exact ⟨rfl, Or.inr ⟨by unfold zbet zky; simp only; omega, rfl⟩⟩
        · refine z_iload hG dX11_consider_102 rfl ?_
          refine z_aload_n (i := 0) hG dX11_consider_104 rfl rfl ?_
          refine z_getI hG dX11_consider_105 FL_X11_124 rfl rfl (kk := 18) rfl ?_
          refine z_icmp_ge hG dX11_consider_108 (tgt := 115) rfl (fun c108 => ?_) (fun c108 => ?_)
          · refine z_iconst hG dX11_consider_115 rfl ?_
            refine z_istore hG dX11_consider_116 (by decide) (ls2 := [_, _, _, _, _, _, _, _, _]) rfl ?_
            refine z_iload hG dX11_consider_118 rfl ?_
            refine z_if_eq hG dX11_consider_120 (tgt := 173) rfl (fun c120 => ?_) (fun c120 => ?_)
            · try simp only [zite_eq0, ne_eq, Classical.not_not] at c120
              refine z_vret hG hE dX11_consider_173 ?_
              first
              | (exfalso; omega; done)
              | (exfalso; simp at c120; done)
              | exact ⟨rfl, Or.inl ⟨by unfold zbet zky; simp only; omega, rfl⟩⟩
              | exact ⟨rfl, Or.inr ⟨by unfold zbet zky; simp only; omega, rfl⟩⟩
            · try simp only [zite_eq0, ne_eq, Classical.not_not] at c120
              refine z_aload_n (i := 0) hG dX11_consider_123 rfl rfl ?_
              refine z_iload hG dX11_consider_124 rfl ?_
              refine z_put hG dX11_consider_126 FP_X11_118 rfl rfl (kk := 16) rfl ?_
              refine z_aload_n (i := 0) hG dX11_consider_129 rfl rfl ?_
              refine z_iload hG dX11_consider_130 rfl ?_
              refine z_put hG dX11_consider_132 FP_X11_121 rfl rfl (kk := 17) rfl ?_
              refine z_aload_n (i := 0) hG dX11_consider_135 rfl rfl ?_
              refine z_iload hG dX11_consider_136 rfl ?_
              refine z_put hG dX11_consider_138 FP_X11_124 rfl rfl (kk := 18) rfl ?_
              refine z_aload_n (i := 0) hG dX11_consider_141 rfl rfl ?_
              refine z_get_11_15 hG dX11_consider_142 FL_X11_50 ?_
              refine z_iconst hG dX11_consider_145 rfl ?_
              refine z_iload_n (i := 1) hG dX11_consider_146 rfl rfl ?_
              refine z_imul hG dX11_consider_147 (by omega) (by omega) ?_
              refine z_iload_n (i := 2) hG dX11_consider_148 rfl rfl ?_
              refine z_iast hG dX11_consider_149 rfl rfl (by omega) (by omega) ?_
              refine z_aload_n (i := 0) hG dX11_consider_150 rfl rfl ?_
              refine z_get_11_15 hG dX11_consider_151 FL_X11_50 ?_
              refine z_iconst hG dX11_consider_154 rfl ?_
              refine z_iload_n (i := 1) hG dX11_consider_155 rfl rfl ?_
              refine z_imul hG dX11_consider_156 (by omega) (by omega) ?_
              refine z_iconst hG dX11_consider_157 rfl ?_
              refine z_iadd hG dX11_consider_158 (by omega) (by omega) ?_
              refine z_iload_n (i := 3) hG dX11_consider_159 rfl rfl ?_
              refine z_iast hG dX11_consider_160 rfl rfl (by omega) (by omega) ?_
              refine z_aload_n (i := 0) hG dX11_consider_161 rfl rfl ?_
              refine z_get_11_15 hG dX11_consider_162 FL_X11_50 ?_
              refine z_iconst hG dX11_consider_165 rfl ?_
              refine z_iload_n (i := 1) hG dX11_consider_166 rfl rfl ?_
              refine z_imul hG dX11_consider_167 (by omega) (by omega) ?_
              refine z_iconst hG dX11_consider_168 rfl ?_
              refine z_iadd hG dX11_consider_169 (by omega) (by omega) ?_
              refine z_iload hG dX11_consider_170 rfl ?_
              refine z_iast hG dX11_consider_172 rfl rfl (by omega) (by omega) ?_
              refine z_vret hG hE dX11_consider_173 ?_
              first
              | (exfalso; omega; done)
              | (exfalso; simp at c120; done)
              | exact ⟨rfl, Or.inl ⟨by unfold zbet zky; simp only; omega, rfl⟩⟩
              | exact ⟨rfl, Or.inr ⟨by unfold zbet zky; simp only; omega, rfl⟩⟩
          · refine z_iconst hG dX11_consider_111 rfl ?_
            refine z_goto hG dX11_consider_112 (tgt := 116) rfl ?_
            refine z_istore hG dX11_consider_116 (by decide) (ls2 := [_, _, _, _, _, _, _, _, _]) rfl ?_
            refine z_iload hG dX11_consider_118 rfl ?_
            refine z_if_eq hG dX11_consider_120 (tgt := 173) rfl (fun c120 => ?_) (fun c120 => ?_)
            · try simp only [zite_eq0, ne_eq, Classical.not_not] at c120
              refine z_vret hG hE dX11_consider_173 ?_
              first
              | (exfalso; omega; done)
              | (exfalso; simp at c120; done)
              | exact ⟨rfl, Or.inl ⟨by unfold zbet zky; simp only; omega, rfl⟩⟩
              | exact ⟨rfl, Or.inr ⟨by unfold zbet zky; simp only; omega, rfl⟩⟩
            · try simp only [zite_eq0, ne_eq, Classical.not_not] at c120
              refine z_aload_n (i := 0) hG dX11_consider_123 rfl rfl ?_
              refine z_iload hG dX11_consider_124 rfl ?_
              refine z_put hG dX11_consider_126 FP_X11_118 rfl rfl (kk := 16) rfl ?_
              refine z_aload_n (i := 0) hG dX11_consider_129 rfl rfl ?_
              refine z_iload hG dX11_consider_130 rfl ?_
              refine z_put hG dX11_consider_132 FP_X11_121 rfl rfl (kk := 17) rfl ?_
              refine z_aload_n (i := 0) hG dX11_consider_135 rfl rfl ?_
              refine z_iload hG dX11_consider_136 rfl ?_
              refine z_put hG dX11_consider_138 FP_X11_124 rfl rfl (kk := 18) rfl ?_
              refine z_aload_n (i := 0) hG dX11_consider_141 rfl rfl ?_
              refine z_get_11_15 hG dX11_consider_142 FL_X11_50 ?_
              refine z_iconst hG dX11_consider_145 rfl ?_
              refine z_iload_n (i := 1) hG dX11_consider_146 rfl rfl ?_
              refine z_imul hG dX11_consider_147 (by omega) (by omega) ?_
              refine z_iload_n (i := 2) hG dX11_consider_148 rfl rfl ?_
              refine z_iast hG dX11_consider_149 rfl rfl (by omega) (by omega) ?_
              refine z_aload_n (i := 0) hG dX11_consider_150 rfl rfl ?_
              refine z_get_11_15 hG dX11_consider_151 FL_X11_50 ?_
              refine z_iconst hG dX11_consider_154 rfl ?_
              refine z_iload_n (i := 1) hG dX11_consider_155 rfl rfl ?_
              refine z_imul hG dX11_consider_156 (by omega) (by omega) ?_
              refine z_iconst hG dX11_consider_157 rfl ?_
              refine z_iadd hG dX11_consider_158 (by omega) (by omega) ?_
              refine z_iload_n (i := 3) hG dX11_consider_159 rfl rfl ?_
              refine z_iast hG dX11_consider_160 rfl rfl (by omega) (by omega) ?_
              refine z_aload_n (i := 0) hG dX11_consider_161 rfl rfl ?_
              refine z_get_11_15 hG dX11_consider_162 FL_X11_50 ?_
              refine z_iconst hG dX11_consider_165 rfl ?_
              refine z_iload_n (i := 1) hG dX11_consider_166 rfl rfl ?_
              refine z_imul hG dX11_consider_167 (by omega) (by omega) ?_
              refine z_iconst hG dX11_consider_168 rfl ?_
              refine z_iadd hG dX11_consider_169 (by omega) (by omega) ?_
              refine z_iload hG dX11_consider_170 rfl ?_
              refine z_iast hG dX11_consider_172 rfl rfl (by omega) (by omega) ?_
              refine z_vret hG hE dX11_consider_173 ?_
              first
              | (exfalso; omega; done)
              | (exfalso; simp at c120; done)
              | exact ⟨rfl, Or.inl ⟨by unfold zbet zky; simp only; omega, rfl⟩⟩
              | exact ⟨rfl, Or.inr ⟨by unfold zbet zky; simp only; omega, rfl⟩⟩
/-- the search in the model: what was looked at, the best so far in the cells -/
def zFJ (m m0 : zM) (i n : Int) (S Pr : Int → Int) (w : Int) (D : Int → Int → Int → Prop) : Prop := (∀ (t : Nat) (s j q : Int), (t ≠ 11 ∨ q < 16 ∨ 18 < q) → (t ≠ 58 ∨ q < 3 * i ∨ 3 * i + 2 < q) → m0 t s j q = m t s j q) ∧ ((m0 11 0 0 16 = 1000000000 ∧ ∀ y0 y1 y2 : Int, ¬ D y0 y1 y2) ∨ (∃ x0 x1 x2 : Int, (m0 58 0 0 (3 * i) = x0 ∧ m0 58 0 0 (3 * i + 1) = x1 ∧ m0 58 0 0 (3 * i + 2) = x2) ∧ zCand n S w x0 x1 x2 ∧ D x0 x1 x2 ∧ (m0 11 0 0 16 = (zky S Pr x0 x1 x2).1 ∧ m0 11 0 0 17 = (zky S Pr x0 x1 x2).2.1 ∧ m0 11 0 0 18 = (zky S Pr x0 x1 x2).2.2.1) ∧ ∀ y0 y1 y2 : Int, D y0 y1 y2 → ¬ zklt (zky S Pr y0 y1 y2) (zky S Pr x0 x1 x2)))
theorem zFJ_D {m m0 : zM} {i n : Int} {S Pr : Int → Int} {w : Int} {D D' : Int → Int → Int → Prop} (h : zFJ m m0 i n S Pr w D) (hD : ∀ y0 y1 y2 : Int, D y0 y1 y2 ↔ D' y0 y1 y2) : zFJ m m0 i n S Pr w D' := by
  have e : D = D' := by
    funext y0 y1 y2
    exact propext (hD y0 y1 y2)
  rw [← e]
  exact h
def zDD (n : Int) (S : Int → Int) (w a b : Int) (y0 y1 y2 : Int) : Prop := zCand n S w y0 y1 y2 ∧ (y0 < a ∨ (y0 = a ∧ y1 < b))
/-- one more way is looked at -/
theorem zFJ_s {m m0 m1 : zM} {i n a b : Int} {S Pr : Int → Int} {w : Int} (h : zFJ m m0 i n S Pr w (zDD n S w a b)) (hc : zCand n S w a b (zcc n S w a b)) (hk : (zky S Pr a b (zcc n S w a b)).1 < 1000000000)
  (h1 : (zbet m0 (zky S Pr a b (zcc n S w a b)) ∧ m1 = zTk m0 i (zky S Pr a b (zcc n S w a b)) a b (zcc n S w a b)) ∨ (¬ zbet m0 (zky S Pr a b (zcc n S w a b)) ∧ m1 = m0)) : zFJ m m1 i n S Pr w (zDD n S w a (b + 1)) := by
  have hD : ∀ y0 y1 y2 : Int, zDD n S w a (b + 1) y0 y1 y2 → zDD n S w a b y0 y1 y2 ∨ (y0 = a ∧ y1 = b ∧ y2 = zcc n S w a b) := by
    rintro y0 y1 y2 ⟨q1, q2⟩
    rcases (show (y0 < a ∨ (y0 = a ∧ y1 < b)) ∨ (y0 = a ∧ y1 = b) by omega) with q | ⟨q, q3⟩
    · exact Or.inl ⟨q1, q⟩
    · subst q q3
      exact Or.inr ⟨rfl, rfl, q1.2.2.2.2⟩
  obtain ⟨ho, h⟩ := h
  rcases h1 with ⟨hb, rfl⟩ | ⟨hb, rfl⟩
  · have hv := zTk_v (m := m0) (i := i) (k := zky S Pr a b (zcc n S w a b)) (x0 := a) (x1 := b) (x2 := zcc n S w a b)
    refine ⟨fun t s j q q1 q2 => by rw [zTk_o q1 q2]; exact ho t s j q q1 q2, Or.inr ⟨a, b, zcc n S w a b, hv.2, hc, ⟨hc, Or.inr ⟨rfl, by omega⟩⟩, hv.1, fun y0 y1 y2 hy => ?_⟩⟩
    rcases hD y0 y1 y2 hy with q | ⟨rfl, rfl, rfl⟩
    · rcases h with ⟨-, h⟩ | ⟨x0, x1, x2, -, -, -, hm, hall⟩
      · exact absurd q (h y0 y1 y2)
      · have h2 := hall y0 y1 y2 q
        have h3 : zklt (zky S Pr a b (zcc n S w a b)) (zky S Pr x0 x1 x2) := by
          unfold zbet at hb
          unfold zklt
          rw [hm.1, hm.2.1, hm.2.2] at hb
          omega
        intro h4
        refine h2 ?_
        unfold zklt at h3 h4 ⊢
        omega
    · exact zklt_irr
  · rcases h with ⟨h, -⟩ | ⟨x0, x1, x2, hx, hcx, hd, hm, hall⟩
    · exfalso
      refine hb (Or.inl ?_)
      rw [h]
      exact hk
    · refine ⟨ho, Or.inr ⟨x0, x1, x2, hx, hcx, ⟨hd.1, by have := hd.2; omega⟩, hm, fun y0 y1 y2 hy => ?_⟩⟩
      rcases hD y0 y1 y2 hy with q | ⟨rfl, rfl, rfl⟩
      · exact hall y0 y1 y2 q
      · have h2 := hd.2
        unfold zbet at hb
        rw [hm.1, hm.2.1, hm.2.2] at hb
        unfold zklt
        have e3 : (zky S Pr y0 y1 (zcc n S w y0 y1)).2.2.2 = (y0, y1) := rfl
        have e4 : (zky S Pr x0 x1 x2).2.2.2 = (x0, x1) := rfl
        rw [e3, e4]
        simp only
        omega
set_option maxRecDepth 20000 in
theorem ct_X11_findTins (l : Launch) (g : zG) {m : zM} {i w n : Int} {S Pr : Int → Int} (hi : 0 ≤ i ∧ i < 8) (hS : zRS m i S Pr) (hn : m 45 0 0 (6 + 46 * i + 2) = n) (hn1 : 1 ≤ n ∧ n ≤ 3) (hok : zSPok n S Pr) (hw : 1 ≤ w ∧ w ≤ 100000) : zMet l g Y_X11_findTins [zr 11 0 0, zi i, zi w] m (fun v m' => v = none ∧ ∃ x0 x1 x2 : Int, zBest n S Pr w x0 x1 x2 ∧ (m' 58 0 0 (3 * i) = x0 ∧ m' 58 0 0 (3 * i + 1) = x1 ∧ m' 58 0 0 (3 * i + 2) = x2) ∧ (m' 11 0 0 16 = (zky S Pr x0 x1 x2).1 ∧ m' 11 0 0 17 = (zky S Pr x0 x1 x2).2.1) ∧ (0 ≤ (zky S Pr x0 x1 x2).1 ∧ (zky S Pr x0 x1 x2).1 ≤ 15000000) ∧ (∀ (t : Nat) (s j q : Int), (t ≠ 11 ∨ q < 16 ∨ 18 < q) → (t ≠ 58 ∨ q < 3 * i ∨ 3 * i + 2 < q) → m' t s j q = m t s j q)) := by
  refine zMet_introF (by decide +kernel) (Nat.le_of_ble_eq_true rfl) (ls0 := [some (zr 11 0 0), some (zi i), some (zi w), none, none, none, none, none, none, none]) rfl fun X hG hE => ?_
  have hG : zGood X l g RX11 cX11_findTins 3 10 := hG
  have hE : zEnd X (none) _ := hE
  have s0 := hok 0 (by decide) (by omega)
  have s1 : 1 < n → (50 ≤ S 1 ∧ S 1 ≤ 2000) ∧ (1 ≤ Pr 1 ∧ Pr 1 ≤ 999) := fun q => hok 1 (by decide) q
  have s2 : 2 < n → (50 ≤ S 2 ∧ S 2 ≤ 2000) ∧ (1 ≤ Pr 2 ∧ Pr 2 ≤ 999) := fun q => hok 2 (by decide) q
  have bt := zcei_bd (x := w) (S := S 0) hw.2 s0.1
  have hfe : ∀ y0 y1 y2 : Int, zCand n S w y0 y1 y2 → ((0 ≤ y0 ∧ y0 ≤ 2040) ∧ (0 ≤ y0 * S 0 ∧ y0 * S 0 ≤ 5000000) ∧ (0 ≤ y0 * Pr 0 ∧ y0 * Pr 0 ≤ 5000000)) ∧ ((0 ≤ y1 ∧ y1 ≤ 2040) ∧ (0 ≤ y1 * S 1 ∧ y1 * S 1 ≤ 5000000) ∧ (0 ≤ y1 * Pr 1 ∧ y1 * Pr 1 ≤ 5000000)) ∧ ((0 ≤ y2 ∧ y2 ≤ 2040) ∧ (0 ≤ y2 * S 2 ∧ y2 * S 2 ≤ 5000000) ∧ (0 ≤ y2 * Pr 2 ∧ y2 * Pr 2 ≤ 5000000)) := by
    intro y0 y1 y2 hc
    obtain ⟨⟨c0, c1, c2, -, d1, d2, -⟩, b0, b1, b2⟩ := zCand_fe hn1 hok hw hc
    have p : ∀ (y s : Int), 0 ≤ y → y ≤ 2040 → (y ≠ 0 → 1 ≤ s ∧ s ≤ 2000) → 0 ≤ y * s ∧ y * s ≤ 5000000 := by
      intro y s h0 h1 h2
      by_cases q : y = 0
      · rw [q, Int.zero_mul]
        omega
      · have := h2 q
        have := zmulb h0 h1 (show 0 ≤ s by omega) this.2
        omega
    exact ⟨⟨⟨c0, b0⟩, p y0 _ c0 b0 (fun _ => by omega), p y0 _ c0 b0 (fun _ => by omega)⟩, ⟨⟨c1, b1⟩, p y1 _ c1 b1 (fun q => by have := s1 (d1 q); omega), p y1 _ c1 b1 (fun q => by have := s1 (d1 q); omega)⟩, ⟨⟨c2, b2⟩, p y2 _ c2 b2 (fun q => by have := s2 (d2 q); omega), p y2 _ c2 b2 (fun q => by have := s2 (d2 q); omega)⟩⟩
  have final : ∀ (m0 : zM) (a : Int), zFJ m m0 i n S Pr w (zDD n S w a 0) → 0 ≤ a → (zcei w (S 0) < a ∨ m0 11 0 0 16 < a * Pr 0) → a ≤ 2041 → ∃ x0 x1 x2 : Int, zBest n S Pr w x0 x1 x2 ∧ (m0 58 0 0 (3 * i) = x0 ∧ m0 58 0 0 (3 * i + 1) = x1 ∧ m0 58 0 0 (3 * i + 2) = x2) ∧ (m0 11 0 0 16 = (zky S Pr x0 x1 x2).1 ∧ m0 11 0 0 17 = (zky S Pr x0 x1 x2).2.1) ∧ (0 ≤ (zky S Pr x0 x1 x2).1 ∧ (zky S Pr x0 x1 x2).1 ≤ 15000000) ∧ (∀ (t : Nat) (s j q : Int), (t ≠ 11 ∨ q < 16 ∨ 18 < q) → (t ≠ 58 ∨ q < 3 * i ∨ 3 * i + 2 < q) → m0 t s j q = m t s j q) := by
    intro m0 a hF ha0 he ha1
    obtain ⟨ho, hF⟩ := hF
    rcases hF with ⟨h16, hno⟩ | ⟨x0, x1, x2, hx, hcx, hd, hm, hall⟩
    · exfalso
      rcases he with he | he
      · obtain ⟨z0, z1, z2, hz, -⟩ := zCand_dom (y0 := zcei w (S 0)) (y1 := 0) (y2 := 0) hn1 hok hw ⟨bt.1.1, Int.le_refl _, Int.le_refl _, fun _ => by omega, fun q => absurd rfl q, fun q => absurd rfl q, by omega⟩
        exact hno z0 z1 z2 ⟨hz, Or.inl (by have := hz.1; omega)⟩
      · have := zmulb ha0 ha1 (show 0 ≤ Pr 0 by omega) s0.2.2
        omega
    · refine ⟨x0, x1, x2, zCand_best hn1 hok hw hcx (fun y0 y1 y2 hy => ?_), hx, ⟨hm.1, hm.2.1⟩, (by have := hfe x0 x1 x2 hcx; have e1 : (zky S Pr x0 x1 x2).1 = x0 * Pr 0 + x1 * Pr 1 + x2 * Pr 2 := rfl; omega), ho⟩
      by_cases q : y0 < a
      · exact hall y0 y1 y2 ⟨hy, Or.inl q⟩
      · rcases he with he | he
        · exfalso
          have := hy.1
          omega
        · have hy0 := Int.mul_le_mul_of_nonneg_right (show a ≤ y0 by omega) (show 0 ≤ Pr 0 by omega)
          have hb := hfe y0 y1 y2 hy
          rw [hm.1] at he
          have e1 : (zky S Pr y0 y1 y2).1 = y0 * Pr 0 + y1 * Pr 1 + y2 * Pr 2 := rfl
          unfold zklt
          omega
  have inner : ∀ (N : Nat) (a b : Int) (th : Option zV) (m0 : zM) (K : ∀ m1 : zM, zFJ m m1 i n S Pr w (zDD n S w a (znxt n S w a + 1)) → zZ X 180 [some (zr 11 0 0), some (zi i), some (zi w), some (zi n), some (zi (zcei w (S 0))), some (zi a), (some (zi (zstl (w - a * S 0)))), (some (zi (znxt n S w a))), none, none] [] m1), (0 ≤ a ∧ a ≤ zcei w (S 0)) → (n = 1 → a = zcei w (S 0)) → 0 ≤ b → (n = 2 → znxt n S w a ≤ b) → b + N = znxt n S w a + 1 → zFJ m m0 i n S Pr w (zDD n S w a b) → ∀ th, zZ X 112 [some (zr 11 0 0), some (zi i), some (zi w), some (zi n), some (zi (zcei w (S 0))), some (zi a), (some (zi (zstl (w - a * S 0)))), (some (zi (znxt n S w a))), (some (zi b)), th] [] m0 := by
    intro N
    induction N with
    | zero =>
      intro a b th0 m0 K ha han hb0 hbn hN hF th
      refine z_iload hG dX11_findTins_112 rfl ?_
      refine z_iload hG dX11_findTins_114 rfl ?_
      refine z_icmp_gt hG dX11_findTins_116 (tgt := 180) rfl (fun c116 => ?_) (fun c116 => ?_)
      · obtain rfl : b = znxt n S w a + 1 := by omega
        exact z_forget [true, true, true, true, true, true, true, true, false, false] rfl (K m0 hF)
      · exact absurd c116 (by omega)
    | succ N ih =>
      intro a b th0 m0 K ha han hb0 hbn hN hF th
      have hS0 : zRS m0 i S Pr := fun k k0 k1 => by rw [hF.1 45 _ _ _ (by omega) (by omega), hF.1 45 _ _ _ (by omega) (by omega)]; exact hS k k0 k1
      have hc : zCand n S w a b (zcc n S w a b) := ⟨ha, han, ⟨hb0, by omega⟩, fun q => by have := hbn q; omega, rfl⟩
      have hb := hfe a b _ hc
      have hk : (zky S Pr a b (zcc n S w a b)).1 < 1000000000 := by
        have e1 : (zky S Pr a b (zcc n S w a b)).1 = a * Pr 0 + b * Pr 1 + zcc n S w a b * Pr 2 := rfl
        omega
      have hz := zstl_bd (x := w - a * S 0)
      have hz3 := zstl_bd (x := zstl (w - a * S 0) - b * S 1)
      refine z_iload hG dX11_findTins_112 rfl ?_
      refine z_iload hG dX11_findTins_114 rfl ?_
      refine z_icmp_gt hG dX11_findTins_116 (tgt := 180) rfl (fun c116 => ?_) (fun c116 => ?_)
      · exact absurd c116 (by omega)
      · refine z_iload_n (i := 3) hG dX11_findTins_119 rfl rfl ?_
        refine z_iconst hG dX11_findTins_120 rfl ?_
        refine z_icmp_ge hG dX11_findTins_121 (tgt := 128) rfl (fun c121 => ?_) (fun c121 => ?_)
        · refine z_iload hG dX11_findTins_128 rfl ?_
          refine z_iload hG dX11_findTins_130 rfl ?_
          refine z_aload_n (i := 0) hG dX11_findTins_132 rfl rfl ?_
          refine z_iload_n (i := 1) hG dX11_findTins_133 rfl rfl ?_
          refine z_iconst hG dX11_findTins_134 rfl ?_
          refine z_callV hG dX11_findTins_135 LV_X11_94 (ct_X11_sizeOf l g hi ⟨by omega, by omega⟩) (by decide) rfl rfl rfl (Nat.le_of_ble_eq_true rfl) ?_
          intro v9 m9 h9
          rw [h9.1, h9.2, (hS0 1 (by decide) (by decide)).1]
          clear h9 m9 v9
          refine z_imul hG dX11_findTins_138 (by omega) (by omega) ?_
          refine z_isub hG dX11_findTins_139 (by omega) (by omega) ?_
          refine z_callS hG dX11_findTins_140 LS_X11_128 (ct_X11_stillNeeded l g) (by decide) rfl rfl (Nat.le_of_ble_eq_true rfl) ?_
          intro v9 m9 h9
          rw [h9.1, h9.2]
          clear h9 m9 v9
          rw [show (if 0 < zstl (w - a * S 0) - b * S 1 then zstl (w - a * S 0) - b * S 1 else 0) = zstl (zstl (w - a * S 0) - b * S 1) from rfl]
          refine z_istore hG dX11_findTins_143 (by decide) (ls2 := [_, _, _, _, _, _, _, _, _, _]) rfl ?_
          refine z_aload_n (i := 0) hG dX11_findTins_145 rfl rfl ?_
          refine z_iload_n (i := 1) hG dX11_findTins_146 rfl rfl ?_
          refine z_iload hG dX11_findTins_147 rfl ?_
          refine z_iload hG dX11_findTins_149 rfl ?_
          refine z_iload_n (i := 3) hG dX11_findTins_151 rfl rfl ?_
          refine z_iconst hG dX11_findTins_152 rfl ?_
          refine z_icmp_ge hG dX11_findTins_153 (tgt := 160) rfl (fun c153 => ?_) (fun c153 => ?_)
          · refine z_iload hG dX11_findTins_160 rfl ?_
            refine z_aload_n (i := 0) hG dX11_findTins_162 rfl rfl ?_
            refine z_iload_n (i := 1) hG dX11_findTins_163 rfl rfl ?_
            refine z_iconst hG dX11_findTins_164 rfl ?_
            refine z_callV hG dX11_findTins_165 LV_X11_94 (ct_X11_sizeOf l g hi ⟨by omega, by omega⟩) (by decide) rfl rfl rfl (Nat.le_of_ble_eq_true rfl) ?_
            intro v9 m9 h9
            rw [h9.1, h9.2, (hS0 2 (by decide) (by decide)).1]
            clear h9 m9 v9
            refine z_callS hG dX11_findTins_168 LS_X11_112 (ct_X11_up l g (by have := s2 (by omega); omega) (by have := s2 (by omega); omega) (by have := s2 (by omega); omega)) (by decide) rfl rfl (Nat.le_of_ble_eq_true rfl) ?_
            intro v9 m9 h9
            rw [h9.1, h9.2]
            clear h9 m9 v9
            refine z_top (y := zcc n S w a b) (by unfold zcc; first | (exfalso; omega; done) | (rw [if_pos (by omega)]; done) | (rw [if_neg (by omega)]; rfl)) ?_
            refine z_callV hG dX11_findTins_171 LV_X11_131 (ct_X11_consider l g hi hS0 hb.1 hb.2.1 hb.2.2) (by decide) rfl rfl rfl (Nat.le_of_ble_eq_true rfl) ?_
            intro v9 m1 h9
            obtain ⟨h9a, h9b⟩ := h9
            rw [h9a]
            clear h9a v9
            have hF1 := zFJ_s hF hc hk h9b
            refine z_iinc hG dX11_findTins_174 (by decide) rfl (by omega) (by omega) (ls2 := [_, _, _, _, _, _, _, _, _, _]) rfl ?_
            refine z_goto hG dX11_findTins_177 (tgt := 112) rfl ?_
            first
            | (exfalso; omega; done)
            | exact ih a (b + 1) none m1 K ha han (by omega) (fun q => by have := hbn q; omega) (by omega) hF1 _
          · refine z_iconst hG dX11_findTins_156 rfl ?_
            refine z_goto hG dX11_findTins_157 (tgt := 171) rfl ?_
            refine z_top (y := zcc n S w a b) (by unfold zcc; first | (exfalso; omega; done) | (rw [if_pos (by omega)]; done) | (rw [if_neg (by omega)]; rfl)) ?_
            refine z_callV hG dX11_findTins_171 LV_X11_131 (ct_X11_consider l g hi hS0 hb.1 hb.2.1 hb.2.2) (by decide) rfl rfl rfl (Nat.le_of_ble_eq_true rfl) ?_
            intro v9 m1 h9
            obtain ⟨h9a, h9b⟩ := h9
            rw [h9a]
            clear h9a v9
            have hF1 := zFJ_s hF hc hk h9b
            refine z_iinc hG dX11_findTins_174 (by decide) rfl (by omega) (by omega) (ls2 := [_, _, _, _, _, _, _, _, _, _]) rfl ?_
            refine z_goto hG dX11_findTins_177 (tgt := 112) rfl ?_
            first
            | (exfalso; omega; done)
            | exact ih a (b + 1) none m1 K ha han (by omega) (fun q => by have := hbn q; omega) (by omega) hF1 _
        · refine z_iconst hG dX11_findTins_124 rfl ?_
          refine z_goto hG dX11_findTins_125 (tgt := 143) rfl ?_
          refine z_istore hG dX11_findTins_143 (by decide) (ls2 := [_, _, _, _, _, _, _, _, _, _]) rfl ?_
          refine z_aload_n (i := 0) hG dX11_findTins_145 rfl rfl ?_
          refine z_iload_n (i := 1) hG dX11_findTins_146 rfl rfl ?_
          refine z_iload hG dX11_findTins_147 rfl ?_
          refine z_iload hG dX11_findTins_149 rfl ?_
          refine z_iload_n (i := 3) hG dX11_findTins_151 rfl rfl ?_
          refine z_iconst hG dX11_findTins_152 rfl ?_
          refine z_icmp_ge hG dX11_findTins_153 (tgt := 160) rfl (fun c153 => ?_) (fun c153 => ?_)
          · refine z_iload hG dX11_findTins_160 rfl ?_
            refine z_aload_n (i := 0) hG dX11_findTins_162 rfl rfl ?_
            refine z_iload_n (i := 1) hG dX11_findTins_163 rfl rfl ?_
            refine z_iconst hG dX11_findTins_164 rfl ?_
            refine z_callV hG dX11_findTins_165 LV_X11_94 (ct_X11_sizeOf l g hi ⟨by omega, by omega⟩) (by decide) rfl rfl rfl (Nat.le_of_ble_eq_true rfl) ?_
            intro v9 m9 h9
            rw [h9.1, h9.2, (hS0 2 (by decide) (by decide)).1]
            clear h9 m9 v9
            refine z_callS hG dX11_findTins_168 LS_X11_112 (ct_X11_up l g (by have := s2 (by omega); omega) (by have := s2 (by omega); omega) (by have := s2 (by omega); omega)) (by decide) rfl rfl (Nat.le_of_ble_eq_true rfl) ?_
            intro v9 m9 h9
            rw [h9.1, h9.2]
            clear h9 m9 v9
            refine z_top (y := zcc n S w a b) (by unfold zcc; first | (exfalso; omega; done) | (rw [if_pos (by omega)]; done) | (rw [if_neg (by omega)]; rfl)) ?_
            refine z_callV hG dX11_findTins_171 LV_X11_131 (ct_X11_consider l g hi hS0 hb.1 hb.2.1 hb.2.2) (by decide) rfl rfl rfl (Nat.le_of_ble_eq_true rfl) ?_
            intro v9 m1 h9
            obtain ⟨h9a, h9b⟩ := h9
            rw [h9a]
            clear h9a v9
            have hF1 := zFJ_s hF hc hk h9b
            refine z_iinc hG dX11_findTins_174 (by decide) rfl (by omega) (by omega) (ls2 := [_, _, _, _, _, _, _, _, _, _]) rfl ?_
            refine z_goto hG dX11_findTins_177 (tgt := 112) rfl ?_
            first
            | (exfalso; omega; done)
            | exact ih a (b + 1) none m1 K ha han (by omega) (fun q => by have := hbn q; omega) (by omega) hF1 _
          · refine z_iconst hG dX11_findTins_156 rfl ?_
            refine z_goto hG dX11_findTins_157 (tgt := 171) rfl ?_
            refine z_top (y := zcc n S w a b) (by unfold zcc; first | (exfalso; omega; done) | (rw [if_pos (by omega)]; done) | (rw [if_neg (by omega)]; rfl)) ?_
            refine z_callV hG dX11_findTins_171 LV_X11_131 (ct_X11_consider l g hi hS0 hb.1 hb.2.1 hb.2.2) (by decide) rfl rfl rfl (Nat.le_of_ble_eq_true rfl) ?_
            intro v9 m1 h9
            obtain ⟨h9a, h9b⟩ := h9
            rw [h9a]
            clear h9a v9
            have hF1 := zFJ_s hF hc hk h9b
            refine z_iinc hG dX11_findTins_174 (by decide) rfl (by omega) (by omega) (ls2 := [_, _, _, _, _, _, _, _, _, _]) rfl ?_
            refine z_goto hG dX11_findTins_177 (tgt := 112) rfl ?_
            first
            | (exfalso; omega; done)
            | exact ih a (b + 1) none m1 K ha han (by omega) (fun q => by have := hbn q; omega) (by omega) hF1 _
  have outer : ∀ (N : Nat) (a : Int) (m0 : zM), 0 ≤ a → (n = 1 → zcei w (S 0) ≤ a) → a + N = zcei w (S 0) + 1 → zFJ m m0 i n S Pr w (zDD n S w a 0) → ∀ sd nx b th, zZ X 38 [some (zr 11 0 0), some (zi i), some (zi w), some (zi n), some (zi (zcei w (S 0))), some (zi a), sd, nx, b, th] [] m0 := by
    intro N
    induction N with
    | zero =>
      intro a m0 ha0 han hN hF sd nx b th
      refine z_iload hG dX11_findTins_38 rfl ?_
      refine z_iload hG dX11_findTins_40 rfl ?_
      refine z_icmp_gt hG dX11_findTins_42 (tgt := 186) rfl (fun c42 => ?_) (fun c42 => ?_)
      · refine z_vret hG hE dX11_findTins_186 ?_
        exact ⟨rfl, final m0 a hF ha0 (Or.inl c42) (by omega)⟩
      · exact absurd c42 (by omega)
    | succ N ih =>
      intro a m0 ha0 han hN hF sd nx b th
      have hS0 : zRS m0 i S Pr := fun k k0 k1 => by rw [hF.1 45 _ _ _ (by omega) (by omega), hF.1 45 _ _ _ (by omega) (by omega)]; exact hS k k0 k1
      have bn := znxt_bd hn1 hok hw ha0
      have pa := zmulb ha0 (show a ≤ 2040 by omega) (show 0 ≤ S 0 by omega) s0.1.2
      have pp := zmulb ha0 (show a ≤ 2040 by omega) (show 0 ≤ Pr 0 by omega) s0.2.2
      have hz := zstl_bd (x := w - a * S 0)
      refine z_iload hG dX11_findTins_38 rfl ?_
      refine z_iload hG dX11_findTins_40 rfl ?_
      refine z_icmp_gt hG dX11_findTins_42 (tgt := 186) rfl (fun c42 => ?_) (fun c42 => ?_)
      · exact absurd c42 (by omega)
      · refine z_iload hG dX11_findTins_45 rfl ?_
        refine z_aload_n (i := 0) hG dX11_findTins_47 rfl rfl ?_
        refine z_iload_n (i := 1) hG dX11_findTins_48 rfl rfl ?_
        refine z_iconst hG dX11_findTins_49 rfl ?_
        refine z_callV hG dX11_findTins_50 LV_X11_115 (ct_X11_priceOf l g hi ⟨by omega, by omega⟩) (by decide) rfl rfl rfl (Nat.le_of_ble_eq_true rfl) ?_
        intro v9 m9 h9
        rw [h9.1, h9.2, (hS0 0 (by decide) (by decide)).2]
        clear h9 m9 v9
        refine z_imul hG dX11_findTins_53 (by omega) (by omega) ?_
        refine z_aload_n (i := 0) hG dX11_findTins_54 rfl rfl ?_
        refine z_getI hG dX11_findTins_55 FL_X11_118 rfl rfl (kk := 16) rfl ?_
        refine z_icmp_gt hG dX11_findTins_58 (tgt := 186) rfl (fun c58 => ?_) (fun c58 => ?_)
        · refine z_vret hG hE dX11_findTins_186 ?_
          exact ⟨rfl, final m0 a hF ha0 (Or.inr c58) (by omega)⟩
        · refine z_iload_n (i := 2) hG dX11_findTins_61 rfl rfl ?_
          refine z_iload hG dX11_findTins_62 rfl ?_
          refine z_aload_n (i := 0) hG dX11_findTins_64 rfl rfl ?_
          refine z_iload_n (i := 1) hG dX11_findTins_65 rfl rfl ?_
          refine z_iconst hG dX11_findTins_66 rfl ?_
          refine z_callV hG dX11_findTins_67 LV_X11_94 (ct_X11_sizeOf l g hi ⟨by omega, by omega⟩) (by decide) rfl rfl rfl (Nat.le_of_ble_eq_true rfl) ?_
          intro v9 m9 h9
          rw [h9.1, h9.2, (hS0 0 (by decide) (by decide)).1]
          clear h9 m9 v9
          refine z_imul hG dX11_findTins_70 (by omega) (by omega) ?_
          refine z_isub hG dX11_findTins_71 (by omega) (by omega) ?_
          refine z_callS hG dX11_findTins_72 LS_X11_128 (ct_X11_stillNeeded l g) (by decide) rfl rfl (Nat.le_of_ble_eq_true rfl) ?_
          intro v9 m9 h9
          rw [h9.1, h9.2]
          clear h9 m9 v9
          rw [show (if 0 < w - a * S 0 then w - a * S 0 else 0) = zstl (w - a * S 0) from rfl]
          refine z_istore hG dX11_findTins_75 (by decide) (ls2 := [_, _, _, _, _, _, _, _, _, _]) rfl ?_
          refine z_iload_n (i := 3) hG dX11_findTins_77 rfl rfl ?_
          refine z_iconst hG dX11_findTins_78 rfl ?_
          refine z_icmp_ne hG dX11_findTins_79 (tgt := 86) rfl (fun c79 => ?_) (fun c79 => ?_)
          · refine z_iload hG dX11_findTins_86 rfl ?_
            refine z_aload_n (i := 0) hG dX11_findTins_88 rfl rfl ?_
            refine z_iload_n (i := 1) hG dX11_findTins_89 rfl rfl ?_
            refine z_iconst hG dX11_findTins_90 rfl ?_
            refine z_callV hG dX11_findTins_91 LV_X11_94 (ct_X11_sizeOf l g hi ⟨by omega, by omega⟩) (by decide) rfl rfl rfl (Nat.le_of_ble_eq_true rfl) ?_
            intro v9 m9 h9
            rw [h9.1, h9.2, (hS0 1 (by decide) (by decide)).1]
            clear h9 m9 v9
            refine z_callS hG dX11_findTins_94 LS_X11_112 (ct_X11_up l g (by have := s1 (by omega); omega) (by have := s1 (by omega); omega) (by have := s1 (by omega); omega)) (by decide) rfl rfl (Nat.le_of_ble_eq_true rfl) ?_
            intro v9 m9 h9
            rw [h9.1, h9.2]
            clear h9 m9 v9
            refine z_top (y := znxt n S w a) (by unfold znxt; first | (rw [if_pos (by omega)]; done) | (rw [if_neg (by omega)]; rfl)) ?_
            refine z_istore hG dX11_findTins_97 (by decide) (ls2 := [_, _, _, _, _, _, _, _, _, _]) rfl ?_
            refine z_iload_n (i := 3) hG dX11_findTins_99 rfl rfl ?_
            refine z_iconst hG dX11_findTins_100 rfl ?_
            refine z_icmp_ne hG dX11_findTins_101 (tgt := 109) rfl (fun c101 => ?_) (fun c101 => ?_)
            · refine z_iconst hG dX11_findTins_109 rfl ?_
              refine z_istore hG dX11_findTins_110 (by decide) (ls2 := [_, _, _, _, _, _, _, _, _, _]) rfl ?_
              first
              | (exfalso; omega; done)
              | (refine inner (znxt n S w a + 1 - 0).toNat a 0 none m0 (fun m1 hF1 => ?_) ⟨ha0, by omega⟩ (fun q => by have := han q; omega) (by omega) (fun q => by omega) (by omega) (zFJ_D hF (fun y0 y1 y2 => ?_)) _
                 · refine z_iinc hG dX11_findTins_180 (by decide) rfl (by omega) (by omega) (ls2 := [_, _, _, _, _, _, _, _, _, _]) rfl ?_
                   refine z_goto hG dX11_findTins_183 (tgt := 38) rfl ?_
                   refine ih (a + 1) m1 (by omega) (fun q => by have := han q; omega) (by omega) (zFJ_D hF1 (fun y0 y1 y2 => ?_)) _ _ _ _
                   constructor
                   · rintro ⟨q1, q2⟩
                     exact ⟨q1, by omega⟩
                   · rintro ⟨q1, q2⟩
                     refine ⟨q1, ?_⟩
                     have h5 := q1.2.2.1
                     rcases (show y0 < a ∨ y0 = a from by omega) with q3 | q3
                     · exact Or.inl q3
                     · subst q3
                       exact Or.inr ⟨rfl, by omega⟩
                 · constructor
                   · rintro ⟨q1, q2⟩
                     exact ⟨q1, by have := q1.2.2.1; omega⟩
                   · rintro ⟨q1, q2⟩
                     refine ⟨q1, ?_⟩
                     rcases q2 with q2 | ⟨q2, q3⟩
                     · exact Or.inl q2
                     · subst q2
                       have := q1.2.2.2.1
                       have := q1.2.2.1
                       omega)
              | (refine inner (znxt n S w a + 1 - (znxt n S w a)).toNat a (znxt n S w a) none m0 (fun m1 hF1 => ?_) ⟨ha0, by omega⟩ (fun q => by have := han q; omega) (by omega) (fun q => by omega) (by omega) (zFJ_D hF (fun y0 y1 y2 => ?_)) _
                 · refine z_iinc hG dX11_findTins_180 (by decide) rfl (by omega) (by omega) (ls2 := [_, _, _, _, _, _, _, _, _, _]) rfl ?_
                   refine z_goto hG dX11_findTins_183 (tgt := 38) rfl ?_
                   refine ih (a + 1) m1 (by omega) (fun q => by have := han q; omega) (by omega) (zFJ_D hF1 (fun y0 y1 y2 => ?_)) _ _ _ _
                   constructor
                   · rintro ⟨q1, q2⟩
                     exact ⟨q1, by omega⟩
                   · rintro ⟨q1, q2⟩
                     refine ⟨q1, ?_⟩
                     have h5 := q1.2.2.1
                     rcases (show y0 < a ∨ y0 = a from by omega) with q3 | q3
                     · exact Or.inl q3
                     · subst q3
                       exact Or.inr ⟨rfl, by omega⟩
                 · constructor
                   · rintro ⟨q1, q2⟩
                     exact ⟨q1, by have := q1.2.2.1; omega⟩
                   · rintro ⟨q1, q2⟩
                     refine ⟨q1, ?_⟩
                     rcases q2 with q2 | ⟨q2, q3⟩
                     · exact Or.inl q2
                     · subst q2
                       have := q1.2.2.2.1
                       have := q1.2.2.1
                       omega)
            · refine z_iload hG dX11_findTins_104 rfl ?_
              refine z_goto hG dX11_findTins_106 (tgt := 110) rfl ?_
              refine z_istore hG dX11_findTins_110 (by decide) (ls2 := [_, _, _, _, _, _, _, _, _, _]) rfl ?_
              first
              | (exfalso; omega; done)
              | (refine inner (znxt n S w a + 1 - 0).toNat a 0 none m0 (fun m1 hF1 => ?_) ⟨ha0, by omega⟩ (fun q => by have := han q; omega) (by omega) (fun q => by omega) (by omega) (zFJ_D hF (fun y0 y1 y2 => ?_)) _
                 · refine z_iinc hG dX11_findTins_180 (by decide) rfl (by omega) (by omega) (ls2 := [_, _, _, _, _, _, _, _, _, _]) rfl ?_
                   refine z_goto hG dX11_findTins_183 (tgt := 38) rfl ?_
                   refine ih (a + 1) m1 (by omega) (fun q => by have := han q; omega) (by omega) (zFJ_D hF1 (fun y0 y1 y2 => ?_)) _ _ _ _
                   constructor
                   · rintro ⟨q1, q2⟩
                     exact ⟨q1, by omega⟩
                   · rintro ⟨q1, q2⟩
                     refine ⟨q1, ?_⟩
                     have h5 := q1.2.2.1
                     rcases (show y0 < a ∨ y0 = a from by omega) with q3 | q3
                     · exact Or.inl q3
                     · subst q3
                       exact Or.inr ⟨rfl, by omega⟩
                 · constructor
                   · rintro ⟨q1, q2⟩
                     exact ⟨q1, by have := q1.2.2.1; omega⟩
                   · rintro ⟨q1, q2⟩
                     refine ⟨q1, ?_⟩
                     rcases q2 with q2 | ⟨q2, q3⟩
                     · exact Or.inl q2
                     · subst q2
                       have := q1.2.2.2.1
                       have := q1.2.2.1
                       omega)
              | (refine inner (znxt n S w a + 1 - (znxt n S w a)).toNat a (znxt n S w a) none m0 (fun m1 hF1 => ?_) ⟨ha0, by omega⟩ (fun q => by have := han q; omega) (by omega) (fun q => by omega) (by omega) (zFJ_D hF (fun y0 y1 y2 => ?_)) _
                 · refine z_iinc hG dX11_findTins_180 (by decide) rfl (by omega) (by omega) (ls2 := [_, _, _, _, _, _, _, _, _, _]) rfl ?_
                   refine z_goto hG dX11_findTins_183 (tgt := 38) rfl ?_
                   refine ih (a + 1) m1 (by omega) (fun q => by have := han q; omega) (by omega) (zFJ_D hF1 (fun y0 y1 y2 => ?_)) _ _ _ _
                   constructor
                   · rintro ⟨q1, q2⟩
                     exact ⟨q1, by omega⟩
                   · rintro ⟨q1, q2⟩
                     refine ⟨q1, ?_⟩
                     have h5 := q1.2.2.1
                     rcases (show y0 < a ∨ y0 = a from by omega) with q3 | q3
                     · exact Or.inl q3
                     · subst q3
                       exact Or.inr ⟨rfl, by omega⟩
                 · constructor
                   · rintro ⟨q1, q2⟩
                     exact ⟨q1, by have := q1.2.2.1; omega⟩
                   · rintro ⟨q1, q2⟩
                     refine ⟨q1, ?_⟩
                     rcases q2 with q2 | ⟨q2, q3⟩
                     · exact Or.inl q2
                     · subst q2
                       have := q1.2.2.2.1
                       have := q1.2.2.1
                       omega)
          · refine z_iconst hG dX11_findTins_82 rfl ?_
            refine z_goto hG dX11_findTins_83 (tgt := 97) rfl ?_
            refine z_top (y := znxt n S w a) (by unfold znxt; first | (rw [if_pos (by omega)]; done) | (rw [if_neg (by omega)]; rfl)) ?_
            refine z_istore hG dX11_findTins_97 (by decide) (ls2 := [_, _, _, _, _, _, _, _, _, _]) rfl ?_
            refine z_iload_n (i := 3) hG dX11_findTins_99 rfl rfl ?_
            refine z_iconst hG dX11_findTins_100 rfl ?_
            refine z_icmp_ne hG dX11_findTins_101 (tgt := 109) rfl (fun c101 => ?_) (fun c101 => ?_)
            · refine z_iconst hG dX11_findTins_109 rfl ?_
              refine z_istore hG dX11_findTins_110 (by decide) (ls2 := [_, _, _, _, _, _, _, _, _, _]) rfl ?_
              first
              | (exfalso; omega; done)
              | (refine inner (znxt n S w a + 1 - 0).toNat a 0 none m0 (fun m1 hF1 => ?_) ⟨ha0, by omega⟩ (fun q => by have := han q; omega) (by omega) (fun q => by omega) (by omega) (zFJ_D hF (fun y0 y1 y2 => ?_)) _
                 · refine z_iinc hG dX11_findTins_180 (by decide) rfl (by omega) (by omega) (ls2 := [_, _, _, _, _, _, _, _, _, _]) rfl ?_
                   refine z_goto hG dX11_findTins_183 (tgt := 38) rfl ?_
                   refine ih (a + 1) m1 (by omega) (fun q => by have := han q; omega) (by omega) (zFJ_D hF1 (fun y0 y1 y2 => ?_)) _ _ _ _
                   constructor
                   · rintro ⟨q1, q2⟩
                     exact ⟨q1, by omega⟩
                   · rintro ⟨q1, q2⟩
                     refine ⟨q1, ?_⟩
                     have h5 := q1.2.2.1
                     rcases (show y0 < a ∨ y0 = a from by omega) with q3 | q3
                     · exact Or.inl q3
                     · subst q3
                       exact Or.inr ⟨rfl, by omega⟩
                 · constructor
                   · rintro ⟨q1, q2⟩
                     exact ⟨q1, by have := q1.2.2.1; omega⟩
                   · rintro ⟨q1, q2⟩
                     refine ⟨q1, ?_⟩
                     rcases q2 with q2 | ⟨q2, q3⟩
                     · exact Or.inl q2
                     · subst q2
                       have := q1.2.2.2.1
                       have := q1.2.2.1
                       omega)
              | (refine inner (znxt n S w a + 1 - (znxt n S w a)).toNat a (znxt n S w a) none m0 (fun m1 hF1 => ?_) ⟨ha0, by omega⟩ (fun q => by have := han q; omega) (by omega) (fun q => by omega) (by omega) (zFJ_D hF (fun y0 y1 y2 => ?_)) _
                 · refine z_iinc hG dX11_findTins_180 (by decide) rfl (by omega) (by omega) (ls2 := [_, _, _, _, _, _, _, _, _, _]) rfl ?_
                   refine z_goto hG dX11_findTins_183 (tgt := 38) rfl ?_
                   refine ih (a + 1) m1 (by omega) (fun q => by have := han q; omega) (by omega) (zFJ_D hF1 (fun y0 y1 y2 => ?_)) _ _ _ _
                   constructor
                   · rintro ⟨q1, q2⟩
                     exact ⟨q1, by omega⟩
                   · rintro ⟨q1, q2⟩
                     refine ⟨q1, ?_⟩
                     have h5 := q1.2.2.1
                     rcases (show y0 < a ∨ y0 = a from by omega) with q3 | q3
                     · exact Or.inl q3
                     · subst q3
                       exact Or.inr ⟨rfl, by omega⟩
                 · constructor
                   · rintro ⟨q1, q2⟩
                     exact ⟨q1, by have := q1.2.2.1; omega⟩
                   · rintro ⟨q1, q2⟩
                     refine ⟨q1, ?_⟩
                     rcases q2 with q2 | ⟨q2, q3⟩
                     · exact Or.inl q2
                     · subst q2
                       have := q1.2.2.2.1
                       have := q1.2.2.1
                       omega)
            · refine z_iload hG dX11_findTins_104 rfl ?_
              refine z_goto hG dX11_findTins_106 (tgt := 110) rfl ?_
              refine z_istore hG dX11_findTins_110 (by decide) (ls2 := [_, _, _, _, _, _, _, _, _, _]) rfl ?_
              first
              | (exfalso; omega; done)
              | (refine inner (znxt n S w a + 1 - 0).toNat a 0 none m0 (fun m1 hF1 => ?_) ⟨ha0, by omega⟩ (fun q => by have := han q; omega) (by omega) (fun q => by omega) (by omega) (zFJ_D hF (fun y0 y1 y2 => ?_)) _
                 · refine z_iinc hG dX11_findTins_180 (by decide) rfl (by omega) (by omega) (ls2 := [_, _, _, _, _, _, _, _, _, _]) rfl ?_
                   refine z_goto hG dX11_findTins_183 (tgt := 38) rfl ?_
                   refine ih (a + 1) m1 (by omega) (fun q => by have := han q; omega) (by omega) (zFJ_D hF1 (fun y0 y1 y2 => ?_)) _ _ _ _
                   constructor
                   · rintro ⟨q1, q2⟩
                     exact ⟨q1, by omega⟩
                   · rintro ⟨q1, q2⟩
                     refine ⟨q1, ?_⟩
                     have h5 := q1.2.2.1
                     rcases (show y0 < a ∨ y0 = a from by omega) with q3 | q3
                     · exact Or.inl q3
                     · subst q3
                       exact Or.inr ⟨rfl, by omega⟩
                 · constructor
                   · rintro ⟨q1, q2⟩
                     exact ⟨q1, by have := q1.2.2.1; omega⟩
                   · rintro ⟨q1, q2⟩
                     refine ⟨q1, ?_⟩
                     rcases q2 with q2 | ⟨q2, q3⟩
                     · exact Or.inl q2
                     · subst q2
                       have := q1.2.2.2.1
                       have := q1.2.2.1
                       omega)
              | (refine inner (znxt n S w a + 1 - (znxt n S w a)).toNat a (znxt n S w a) none m0 (fun m1 hF1 => ?_) ⟨ha0, by omega⟩ (fun q => by have := han q; omega) (by omega) (fun q => by omega) (by omega) (zFJ_D hF (fun y0 y1 y2 => ?_)) _
                 · refine z_iinc hG dX11_findTins_180 (by decide) rfl (by omega) (by omega) (ls2 := [_, _, _, _, _, _, _, _, _, _]) rfl ?_
                   refine z_goto hG dX11_findTins_183 (tgt := 38) rfl ?_
                   refine ih (a + 1) m1 (by omega) (fun q => by have := han q; omega) (by omega) (zFJ_D hF1 (fun y0 y1 y2 => ?_)) _ _ _ _
                   constructor
                   · rintro ⟨q1, q2⟩
                     exact ⟨q1, by omega⟩
                   · rintro ⟨q1, q2⟩
                     refine ⟨q1, ?_⟩
                     have h5 := q1.2.2.1
                     rcases (show y0 < a ∨ y0 = a from by omega) with q3 | q3
                     · exact Or.inl q3
                     · subst q3
                       exact Or.inr ⟨rfl, by omega⟩
                 · constructor
                   · rintro ⟨q1, q2⟩
                     exact ⟨q1, by have := q1.2.2.1; omega⟩
                   · rintro ⟨q1, q2⟩
                     refine ⟨q1, ?_⟩
                     rcases q2 with q2 | ⟨q2, q3⟩
                     · exact Or.inl q2
                     · subst q2
                       have := q1.2.2.2.1
                       have := q1.2.2.1
                       omega)
  refine z_aload_n (i := 0) hG dX11_findTins_0 rfl rfl ?_
  refine z_iload_n (i := 1) hG dX11_findTins_1 rfl rfl ?_
  refine z_iconst hG dX11_findTins_2 rfl ?_
  refine z_callV hG dX11_findTins_3 LV_X11_87 (ct_X11_of l g hi ⟨by omega, by omega⟩) (by decide) rfl rfl rfl (Nat.le_of_ble_eq_true rfl) ?_
  intro v9 m9 h9
  rw [h9.1, h9.2, hn]
  clear h9 m9 v9
  refine z_istore_n (i := 3) hG dX11_findTins_6 rfl (by decide) (ls2 := [_, _, _, _, _, _, _, _, _, _]) rfl ?_
  refine z_iload_n (i := 2) hG dX11_findTins_7 rfl rfl ?_
  refine z_aload_n (i := 0) hG dX11_findTins_8 rfl rfl ?_
  refine z_iload_n (i := 1) hG dX11_findTins_9 rfl rfl ?_
  refine z_iconst hG dX11_findTins_10 rfl ?_
  refine z_callV hG dX11_findTins_11 LV_X11_94 (ct_X11_sizeOf l g hi ⟨by omega, by omega⟩) (by decide) rfl rfl rfl (Nat.le_of_ble_eq_true rfl) ?_
  intro v9 m9 h9
  rw [h9.1, h9.2, (hS 0 (by decide) (by decide)).1]
  clear h9 m9 v9
  refine z_callS hG dX11_findTins_14 LS_X11_112 (ct_X11_up l g (by omega) (by omega) (by omega)) (by decide) rfl rfl (Nat.le_of_ble_eq_true rfl) ?_
  intro v9 m9 h9
  rw [h9.1, h9.2]
  clear h9 m9 v9
  rw [← zcei_up (by omega)]
  refine z_istore hG dX11_findTins_17 (by decide) (ls2 := [_, _, _, _, _, _, _, _, _, _]) rfl ?_
  refine z_aload_n (i := 0) hG dX11_findTins_19 rfl rfl ?_
  refine z_ldc hG dX11_findTins_20 KC_X11_127 rfl ?_
  refine z_put hG dX11_findTins_22 FP_X11_118 rfl rfl (kk := 16) rfl ?_
  refine z_iload_n (i := 3) hG dX11_findTins_25 rfl rfl ?_
  refine z_iconst hG dX11_findTins_26 rfl ?_
  refine z_icmp_ne hG dX11_findTins_27 (tgt := 35) rfl (fun c27 => ?_) (fun c27 => ?_)
  · refine z_iconst hG dX11_findTins_35 rfl ?_
    refine z_istore hG dX11_findTins_36 (by decide) (ls2 := [_, _, _, _, _, _, _, _, _, _]) rfl ?_
    first
    | (exfalso; omega; done)
    | (refine outer (zcei w (S 0) + 1 - 0).toNat 0 _ (by omega) (fun q => by omega) (by omega) ⟨fun t s j q h1 h2 => by simp only [zset]; rw [if_neg (by omega)], Or.inl ⟨by simp [zset], ?_⟩⟩ _ _ _ _
       rintro y0 y1 y2 ⟨q1, q2⟩
       have h5 := q1.1
       have h6 := q1.2.1
       have h7 := q1.2.2.1
       omega)
    | (refine outer (zcei w (S 0) + 1 - (zcei w (S 0))).toNat (zcei w (S 0)) _ (by omega) (fun q => by omega) (by omega) ⟨fun t s j q h1 h2 => by simp only [zset]; rw [if_neg (by omega)], Or.inl ⟨by simp [zset], ?_⟩⟩ _ _ _ _
       rintro y0 y1 y2 ⟨q1, q2⟩
       have h5 := q1.1
       have h6 := q1.2.1
       have h7 := q1.2.2.1
       omega)
  · refine z_iload hG dX11_findTins_30 rfl ?_
    refine z_goto hG dX11_findTins_32 (tgt := 36) rfl ?_
    refine z_istore hG dX11_findTins_36 (by decide) (ls2 := [_, _, _, _, _, _, _, _, _, _]) rfl ?_
    first
    | (exfalso; omega; done)
    | (refine outer (zcei w (S 0) + 1 - 0).toNat 0 _ (by omega) (fun q => by omega) (by omega) ⟨fun t s j q h1 h2 => by simp only [zset]; rw [if_neg (by omega)], Or.inl ⟨by simp [zset], ?_⟩⟩ _ _ _ _
       rintro y0 y1 y2 ⟨q1, q2⟩
       have h5 := q1.1
       have h6 := q1.2.1
       have h7 := q1.2.2.1
       omega)
    | (refine outer (zcei w (S 0) + 1 - (zcei w (S 0))).toNat (zcei w (S 0)) _ (by omega) (fun q => by omega) (by omega) ⟨fun t s j q h1 h2 => by simp only [zset]; rw [if_neg (by omega)], Or.inl ⟨by simp [zset], ?_⟩⟩ _ _ _ _
       rintro y0 y1 y2 ⟨q1, q2⟩
       have h5 := q1.1
       have h6 := q1.2.1
       have h7 := q1.2.2.1
       omega)
