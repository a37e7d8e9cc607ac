/-- recipe r's c steps are in E, the places behind them are empty -/
def zErc (E : zE) (m : zM) (r c : Int) : Prop := ∀ k : Int, 0 ≤ k → k < 8 → (k < c → E 0 (r * 8 + k) = 1 ∧ E 1 (r * 8 + k) = zlast m 0 r k ∧ E 2 (r * 8 + k) = m 5 0 (r * 8 + k) 1 ∧ E 3 (r * 8 + k) = m 5 0 (r * 8 + k) 2 ∧ E 4 (r * 8 + k) = E 1 (r * 8 + k) + zmxs (fun j => if zbit (E 3 (r * 8 + (k + 1 + j))) k then E 4 (r * 8 + (k + 1 + j)) else 0) (c - k - 1).toNat) ∧ (c ≤ k → E 0 (r * 8 + k) = 0)
theorem zGI_n {E : zE} {m m1 : zM} {q q2 q3 q4 : Int} {S S' : Int → Prop} (h : zGI E m q q3 S m1) (h0 : 0 ≤ q ∧ q ≤ q2 ∧ q2 ≤ 32) (he : ∀ p : Int, q ≤ p → p < q2 → E 0 p = 0) (h3 : q3 ≤ q4) (he3 : ∀ p : Int, q3 ≤ p → p < q4 → E 0 p = 0) (hS : ∀ p : Int, 0 ≤ p → p < 32 → E 0 p = 1 → (S' p ↔ S p)) : zGI E m q2 q4 S' m1 := by
  obtain ⟨hf, hs, ho, hn, hO, hd, ht, hw, hx⟩ := h
  refine ⟨hf, hs, ho, by omega, ?_, fun p p0 p1 p2 => ?_, fun p p0 p1 p2 p3 => ht p p0 p1 ((hS p p0 p1 p3).mp p2) p3, ?_, ?_⟩
  · have e : zEr E q4 = zEr E q3 := by
      funext a p
      simp only [zEr]
      split
      · by_cases c : p < q3
        · rw [if_pos c, if_pos (by omega)]
        · rw [if_neg c]
          by_cases c2 : p < q4
          · rw [if_pos c2, he3 p (by omega) c2]
          · rw [if_neg c2]
      · rfl
    rw [e]
    exact hO
  · by_cases c : p < q
    · exact hd p p0 c p2
    · have := he p (by omega) p1
      omega
  · rw [hw]
    have e : ∀ n : Nat, (q + n) ≤ q2 → zsum (q + n).toNat (zwf E) = zsum q.toNat (zwf E) := by
      intro n
      induction n with
      | zero => intro _; simp
      | succ n ih =>
        intro hn2
        rw [show (q + ((n + 1 : Nat) : Int)).toNat = (q + n).toNat + 1 by omega, zsum, ih (by omega), show (((q + n).toNat : Nat) : Int) = q + n by omega, zwf, he (q + n) (by omega) (by omega)]
        simp
    have := e (q2 - q).toNat (by omega)
    rw [← this]
    congr 1
    omega
  · obtain ⟨x0, x1, x2⟩ := hx
    refine ⟨x0, fun p p0 p1 p2 p3 => x1 p p0 p1 p2 ((hS p p0 p1 p2).mp p3), ?_⟩
    rcases x2 with z | ⟨p, p0, p1, p2, p3, p4⟩
    · exact Or.inl z
    · exact Or.inr ⟨p, p0, p1, p2, (hS p p0 p1 p2).mpr p3, p4⟩
theorem zwf_bd {E : zE} (hE : zEok E) {q : Int} (h1 : q ≤ 32) (h0 : 0 ≤ q) : 0 ≤ zsum q.toNat (zwf E) ∧ zsum q.toNat (zwf E) ≤ 480000 := by
  have := zsum_le (f := zwf E) (B := 15000) q.toNat (fun j j0 j1 => by
    simp only [zwf]
    split
    · next e =>
      have := hE j j0 (by omega) e
      have hm := zmulb (show 0 ≤ E 1 j by omega) this.1.2 this.2.1.1 this.2.1.2
      omega
    · omega)
  omega
set_option maxRecDepth 20000 in
theorem ct_X5_gatherSteps (l : Launch) (g : zG) {E : zE} {m m0 : zM} {r c : Int} (hEE : zEok E) (hr : 0 ≤ r ∧ r < 4) (hc : m 4 0 r 2 = c ∧ 0 ≤ c ∧ c ≤ 8) (hrec : zrec m 0) (hst : ∀ j : Int, 0 ≤ j → j < 32 → j % 8 < m 4 0 (j / 8) 2 → (0 ≤ m 5 0 j 0 ∧ m 5 0 j 0 ≤ 240)) (hEr : zErc E m r c) (hI : zGI E m (r * 8) (r * 8) (fun p => p < r * 8) m0) : zMet l g Y_X5_gatherSteps [zr 10 0 0, zr 4 0 r, zi (r * 8)] m0 (fun v m' => v = none ∧ zGI E m ((r + 1) * 8) ((r + 1) * 8) (fun p => p < (r + 1) * 8) m') := by
  refine zMet_introF (by decide +kernel) (Nat.le_of_ble_eq_true rfl) (ls0 := [some (zr 10 0 0), some (zr 4 0 r), some (zi (r * 8)), none, none]) rfl fun X hG hE => ?_
  have hG : zGood X l g RX5 cX5_gatherSteps 3 5 := hG
  have hE : zEnd X (none) _ := hE
  have loop3 : ∀ (n k : Nat) (m1 : zM), (k : Int) + n = c → zGI E m (r * 8 + c) (r * 8 + k) (fun p => p < r * 8 + c) m1 → zZ X 172 [some (zr 10 0 0), some (zr 4 0 r), some (zi (r * 8)), some (zi c), some (zi k)] [] m1 := by
    intro n
    induction n with
    | zero =>
      intro k m1 hk hI1
      refine z_iload hG dX5_gatherSteps_172 rfl ?_
      refine z_iload_n (i := 3) hG dX5_gatherSteps_174 rfl rfl ?_
      refine z_icmp_ge hG dX5_gatherSteps_175 (tgt := 192) rfl (fun c175 => ?_) (fun c175 => ?_)
      · refine z_vret hG hE dX5_gatherSteps_192 ?_
        refine ⟨rfl, zGI_n hI1 ⟨by omega, by omega, by omega⟩ (fun p p0 p1 => ?_) (by omega) (fun p p0 p1 => ?_) (fun p p0 p1 p2 => ⟨fun z => ?_, fun z => by omega⟩)⟩
        · have := (hEr (p - r * 8) (by omega) (by omega)).2 (by omega)
          rwa [show r * 8 + (p - r * 8) = p by omega] at this
        · have := (hEr (p - r * 8) (by omega) (by omega)).2 (by omega)
          rwa [show r * 8 + (p - r * 8) = p by omega] at this
        · by_cases z2 : p < r * 8 + c
          · exact z2
          · have := (hEr (p - r * 8) (by omega) (by omega)).2 (by omega)
            rw [show r * 8 + (p - r * 8) = p by omega] at this
            omega
      · exact absurd c175 (by omega)
    | succ n ih =>
      intro k m1 hk hI1
      have hon := ((hEr k (by omega) (by omega)).1 (by omega)).1
      refine z_iload hG dX5_gatherSteps_172 rfl ?_
      refine z_iload_n (i := 3) hG dX5_gatherSteps_174 rfl rfl ?_
      refine z_icmp_ge hG dX5_gatherSteps_175 (tgt := 192) rfl (fun c175 => ?_) (fun c175 => ?_)
      · exact absurd c175 (by omega)
      · refine z_aload_n (i := 0) hG dX5_gatherSteps_178 rfl rfl ?_
        refine z_iload_n (i := 2) hG dX5_gatherSteps_179 rfl rfl ?_
        refine z_iload hG dX5_gatherSteps_180 rfl ?_
        refine z_iadd hG dX5_gatherSteps_182 (by omega) (by omega) ?_
        refine z_callV hG dX5_gatherSteps_183 LV_X5_84 (ct_X5_insert l g hI1.2.1 hI1.2.2.1 (by have := hI1.2.2.2.1; omega) ⟨by omega, by omega⟩) (by decide) rfl rfl rfl (Nat.le_of_ble_eq_true rfl) ?_
        intro v9 m9 h9
        obtain ⟨h9a, a, ha, han, h1, h2, h9b⟩ := h9
        rw [h9a, h9b]
        clear h9a h9b m9 v9
        refine z_iinc hG dX5_gatherSteps_186 (by decide) rfl (by omega) (by omega) (ls2 := [_, _, _, _, _]) rfl ?_
        refine z_goto hG dX5_gatherSteps_189 (tgt := 172) rfl ?_
        have hI2 := zGI_3 hI1 ⟨by omega, by omega⟩ hon (fun p p0 p1 => by omega) ha han h1 h2
        refine ih (k + 1) _ (by omega) ?_
        rw [show r * 8 + ((k + 1 : Nat) : Int) = r * 8 + k + 1 by omega]
        exact hI2
  have loop2 : ∀ (n : Nat) (m1 : zM), (n : Int) ≤ c → zGI E m (r * 8 + c) (r * 8) (fun p => p < r * 8 ∨ (r * 8 + n ≤ p ∧ p < r * 8 + c)) m1 → zZ X 111 [some (zr 10 0 0), some (zr 4 0 r), some (zi (r * 8)), some (zi c), some (zi ((n : Int) - 1))] [] m1 := by
    intro n
    induction n with
    | zero =>
      intro m1 hn hI1
      refine z_iload hG dX5_gatherSteps_111 rfl ?_
      refine z_if_lt hG dX5_gatherSteps_113 (tgt := 169) rfl (fun c113 => ?_) (fun c113 => ?_)
      · refine z_iconst hG dX5_gatherSteps_169 rfl ?_
        refine z_istore hG dX5_gatherSteps_170 (by decide) (ls2 := [_, _, _, _, _]) rfl ?_
        refine loop3 c.toNat 0 m1 (by omega) ?_
        rw [show r * 8 + ((0 : Nat) : Int) = r * 8 by omega]
        exact zGI_n hI1 ⟨by omega, by omega, by omega⟩ (fun p p0 p1 => by omega) (by omega) (fun p p0 p1 => by omega) (fun p p0 p1 p2 => by omega)
      · exact absurd c113 (by omega)
    | succ n ih =>
      intro m1 hn hI1
      have hE1 := (hEr n (by omega) (by omega)).1 (by omega)
      have hEb := hEE (r * 8 + n) (by omega) (by omega) hE1.1
      rw [show ((n + 1 : Nat) : Int) - 1 = n by omega]
      have hd := hI1.2.2.2.2.2.1 (r * 8 + n) (by omega) (by omega) hE1.1
      have hlb : zmxs (zlb m1 (r * 8) n) (c - n - 1).toNat = zmxs (fun j => if zbit (E 3 (r * 8 + (n + 1 + j))) n then E 4 (r * 8 + (n + 1 + j)) else 0) (c - n - 1).toNat := zmxs_congr _ (fun j j0 j1 => by
        have hEj := (hEr (n + 1 + j) (by omega) (by omega)).1 (by omega)
        have h3 := (hI1.2.2.2.2.2.1 (r * 8 + (n + 1 + j)) (by omega) (by omega) hEj.1).2.2
        have h4 := hI1.2.2.2.2.2.2.1 (r * 8 + (n + 1 + j)) (by omega) (by omega) (Or.inr ⟨by omega, by omega⟩) hEj.1
        simp only [zlb, h3, h4])
      have h4 : E 1 (r * 8 + n) + zmxs (zlb m1 (r * 8) n) (c - n - 1).toNat = E 4 (r * 8 + n) := by rw [hlb, ← hE1.2.2.2.2]
      refine z_iload hG dX5_gatherSteps_111 rfl ?_
      refine z_if_lt hG dX5_gatherSteps_113 (tgt := 169) rfl (fun c113 => ?_) (fun c113 => ?_)
      · exact absurd c113 (by omega)
      · refine z_aload_n (i := 0) hG dX5_gatherSteps_116 rfl rfl ?_
        refine z_get_5_0 hG dX5_gatherSteps_117 FL_X5_9 ?_
        refine z_iload_n (i := 2) hG dX5_gatherSteps_120 rfl rfl ?_
        refine z_iload hG dX5_gatherSteps_121 rfl ?_
        refine z_iadd hG dX5_gatherSteps_123 (by omega) (by omega) ?_
        refine z_aload_n (i := 0) hG dX5_gatherSteps_124 rfl rfl ?_
        refine z_get_5_3 hG dX5_gatherSteps_125 FL_X5_18 ?_
        refine z_iload_n (i := 2) hG dX5_gatherSteps_128 rfl rfl ?_
        refine z_iload hG dX5_gatherSteps_129 rfl ?_
        refine z_iadd hG dX5_gatherSteps_131 (by omega) (by omega) ?_
        refine z_iald hG dX5_gatherSteps_132 rfl rfl (by omega) (by omega) ?_
        rw [hd.1]
        refine z_aload_n (i := 0) hG dX5_gatherSteps_133 rfl rfl ?_
        refine z_iload_n (i := 2) hG dX5_gatherSteps_134 rfl rfl ?_
        refine z_iload hG dX5_gatherSteps_135 rfl ?_
        refine z_iload_n (i := 3) hG dX5_gatherSteps_137 rfl rfl ?_
        refine z_callV hG dX5_gatherSteps_138 LV_X5_77 (ct_X5_longestBehind l g hI1.2.1 ⟨by omega, by omega⟩ (by omega) ⟨by omega, by omega⟩) (by decide) rfl rfl rfl (Nat.le_of_ble_eq_true rfl) ?_
        intro v9 m9 h9
        rw [h9.1, h9.2]
        clear h9 m9 v9
        refine z_iadd hG dX5_gatherSteps_141 (by omega) (by omega) ?_
        rw [h4]
        refine z_iast hG dX5_gatherSteps_142 rfl rfl (by omega) (by omega) ?_
        refine z_aload_n (i := 0) hG dX5_gatherSteps_143 rfl rfl ?_
        refine z_aload_n (i := 0) hG dX5_gatherSteps_144 rfl rfl ?_
        refine z_getI hG dX5_gatherSteps_145 FL_X5_37 rfl rfl (kk := 8) rfl ?_
        refine z_aload_n (i := 0) hG dX5_gatherSteps_148 rfl rfl ?_
        refine z_get_5_0 hG dX5_gatherSteps_149 FL_X5_9 ?_
        refine z_iload_n (i := 2) hG dX5_gatherSteps_152 rfl rfl ?_
        refine z_iload hG dX5_gatherSteps_153 rfl ?_
        refine z_iadd hG dX5_gatherSteps_155 (by omega) (by omega) ?_
        refine z_iald hG dX5_gatherSteps_156 rfl rfl (by omega) (by omega) ?_
        rw [show zset m1 39 0 0 (r * 8 + n) (E 4 (r * 8 + n)) 39 0 0 (r * 8 + n) = E 4 (r * 8 + n) by simp [zset], show zset m1 39 0 0 (r * 8 + n) (E 4 (r * 8 + n)) 10 0 0 8 = m1 10 0 0 8 by simp [zset]]
        refine z_max hG dX5_gatherSteps_157 LM_X5_81 (by decide) (Nat.le_of_ble_eq_true rfl) ?_
        refine z_put hG dX5_gatherSteps_160 FP_X5_37 rfl rfl (kk := 8) rfl ?_
        refine z_iinc hG dX5_gatherSteps_163 (by decide) rfl (by omega) (by omega) (ls2 := [_, _, _, _, _]) rfl ?_
        refine z_goto hG dX5_gatherSteps_166 (tgt := 111) rfl ?_
        have hI2 := zGI_2 (S' := fun p => p < r * 8 ∨ (r * 8 + n ≤ p ∧ p < r * 8 + c)) hI1 hEE ⟨by omega, by omega⟩ hE1.1 (fun p => by omega)
        rw [show (n : Int) + -1 = n - 1 by omega]
        exact ih _ (by omega) hI2
  have loop1 : ∀ (n k : Nat) (m1 : zM), (k : Int) + n = c → zGI E m (r * 8 + k) (r * 8) (fun p => p < r * 8) m1 → zZ X 13 [some (zr 10 0 0), some (zr 4 0 r), some (zi (r * 8)), some (zi c), some (zi k)] [] m1 := by
    intro n
    induction n with
    | zero =>
      intro k m1 hk hI1
      have hkc : (k : Int) = c := by omega
      refine z_iload hG dX5_gatherSteps_13 rfl ?_
      refine z_iload_n (i := 3) hG dX5_gatherSteps_15 rfl rfl ?_
      refine z_icmp_ge hG dX5_gatherSteps_16 (tgt := 106) rfl (fun c16 => ?_) (fun c16 => ?_)
      · refine z_iload_n (i := 3) hG dX5_gatherSteps_106 rfl rfl ?_
        refine z_iconst hG dX5_gatherSteps_107 rfl ?_
        refine z_isub hG dX5_gatherSteps_108 (by omega) (by omega) ?_
        refine z_istore hG dX5_gatherSteps_109 (by decide) (ls2 := [_, _, _, _, _]) rfl ?_
        have e := loop2 c.toNat m1 (by omega) (by
          rw [hkc] at hI1
          exact zGI_n hI1 ⟨by omega, by omega, by omega⟩ (fun p p0 p1 => by omega) (by omega) (fun p p0 p1 => by omega) (fun p p0 p1 p2 => by omega))
        rw [show ((c.toNat : Nat) : Int) = c by omega] at e
        exact e
      · exact absurd c16 (by omega)
    | succ n ih =>
      intro k m1 hk hI1
      have hE1 := (hEr k (by omega) (by omega)).1 (by omega)
      have hEb := hEE (r * 8 + k) (by omega) (by omega) hE1.1
      have hf := hI1.1
      have hw := zwf_bd hEE (q := r * 8 + k) (by omega) (by omega)
      have hw2 := hI1.2.2.2.2.2.2.2.1
      have f4 : ∀ q, m1 4 0 r q = m 4 0 r q := fun q => hf 4 0 r q (by simp [zsct])
      have f5 : ∀ j q, m1 5 0 j q = m 5 0 j q := fun j q => hf 5 0 j q (by simp [zsct])
      have hl : zlast m1 0 r k = E 1 (r * 8 + k) := by
        rw [hE1.2.1]
        simp only [zlast, zscal, f4, f5]
      have hmul := zmulb (show 0 ≤ E 1 (r * 8 + k) by omega) hEb.1.2 hEb.2.1.1 hEb.2.1.2
      refine z_iload hG dX5_gatherSteps_13 rfl ?_
      refine z_iload_n (i := 3) hG dX5_gatherSteps_15 rfl rfl ?_
      refine z_icmp_ge hG dX5_gatherSteps_16 (tgt := 106) rfl (fun c16 => ?_) (fun c16 => ?_)
      · exact absurd c16 (by omega)
      · refine z_aload_n (i := 0) hG dX5_gatherSteps_19 rfl rfl ?_
        refine z_get_5_3 hG dX5_gatherSteps_20 FL_X5_18 ?_
        refine z_iload_n (i := 2) hG dX5_gatherSteps_23 rfl rfl ?_
        refine z_iload hG dX5_gatherSteps_24 rfl ?_
        refine z_iadd hG dX5_gatherSteps_26 (by omega) (by omega) ?_
        refine z_aload_n (i := 1) hG dX5_gatherSteps_27 rfl rfl ?_
        refine z_iload hG dX5_gatherSteps_28 rfl ?_
        refine z_callV hG dX5_gatherSteps_30 LV_X5_64 (ct_X4_lasts l g (fun j j0 j1 j2 => by rw [f4] at j2; rw [f5]; have := hst (8 * r + j) (by omega) (by omega) (by rw [show (8 * r + j) / 8 = r by omega]; omega); omega) (by rw [f4]; exact (hrec r hr.1 hr.2).1) (by rw [f4]; exact (hrec r hr.1 hr.2).2.1.2)) (by decide) rfl rfl rfl (Nat.le_of_ble_eq_true rfl) ?_
        intro v9 m9 h9
        rw [h9.1, h9.2]
        clear h9 m9 v9
        rw [hl]
        refine z_iast hG dX5_gatherSteps_33 rfl rfl (by omega) (by omega) ?_
        refine z_aload_n (i := 0) hG dX5_gatherSteps_34 rfl rfl ?_
        refine z_get_5_4 hG dX5_gatherSteps_35 FL_X5_21 ?_
        refine z_iload_n (i := 2) hG dX5_gatherSteps_38 rfl rfl ?_
        refine z_iload hG dX5_gatherSteps_39 rfl ?_
        refine z_iadd hG dX5_gatherSteps_41 (by omega) (by omega) ?_
        refine z_aload_n (i := 1) hG dX5_gatherSteps_42 rfl rfl ?_
        refine z_get_4_4 hG dX5_gatherSteps_43 FL_X5_68 ?_
        refine z_iload hG dX5_gatherSteps_46 rfl ?_
        refine z_aa_18 hG dX5_gatherSteps_48 (by omega) (by omega) ?_
        rw [show (8 * r + (k : Int)) = r * 8 + k by omega]
        refine z_getI hG dX5_gatherSteps_49 FL_X5_71 rfl rfl (kk := 1) rfl ?_
        rw [show ∀ v : Int, zset m1 41 0 0 (r * 8 + k) v 5 0 (r * 8 + k) 1 = E 2 (r * 8 + k) from fun v => by rw [hE1.2.2.1, ← f5]; simp [zset]]
        refine z_iast hG dX5_gatherSteps_52 rfl rfl (by omega) (by omega) ?_
        refine z_aload_n (i := 0) hG dX5_gatherSteps_53 rfl rfl ?_
        refine z_get_5_5 hG dX5_gatherSteps_54 FL_X5_24 ?_
        refine z_iload_n (i := 2) hG dX5_gatherSteps_57 rfl rfl ?_
        refine z_iload hG dX5_gatherSteps_58 rfl ?_
        refine z_iadd hG dX5_gatherSteps_60 (by omega) (by omega) ?_
        refine z_aload_n (i := 1) hG dX5_gatherSteps_61 rfl rfl ?_
        refine z_get_4_4 hG dX5_gatherSteps_62 FL_X5_68 ?_
        refine z_iload hG dX5_gatherSteps_65 rfl ?_
        refine z_aa_18 hG dX5_gatherSteps_67 (by omega) (by omega) ?_
        rw [show (8 * r + (k : Int)) = r * 8 + k by omega]
        refine z_getI hG dX5_gatherSteps_68 FL_X5_75 rfl rfl (kk := 2) rfl ?_
        rw [show ∀ v w : Int, zset (zset m1 41 0 0 (r * 8 + k) v) 42 0 0 (r * 8 + k) w 5 0 (r * 8 + k) 2 = E 3 (r * 8 + k) from fun v w => by rw [hE1.2.2.2.1, ← f5]; simp [zset]]
        refine z_iast hG dX5_gatherSteps_71 rfl rfl (by omega) (by omega) ?_
        have g1 : zset (zset (zset m1 41 0 0 (r * 8 + k) (E 1 (r * 8 + k))) 42 0 0 (r * 8 + k) (E 2 (r * 8 + k))) 43 0 0 (r * 8 + k) (E 3 (r * 8 + k)) 41 0 0 (r * 8 + k) = E 1 (r * 8 + k) := by simp [zset]
        have g2 : zset (zset (zset m1 41 0 0 (r * 8 + k) (E 1 (r * 8 + k))) 42 0 0 (r * 8 + k) (E 2 (r * 8 + k))) 43 0 0 (r * 8 + k) (E 3 (r * 8 + k)) 42 0 0 (r * 8 + k) = E 2 (r * 8 + k) := by simp [zset]
        have g3 : zset (zset (zset m1 41 0 0 (r * 8 + k) (E 1 (r * 8 + k))) 42 0 0 (r * 8 + k) (E 2 (r * 8 + k))) 43 0 0 (r * 8 + k) (E 3 (r * 8 + k)) 10 0 0 2 = m1 10 0 0 2 := by simp [zset]
        have hI2 := zGI_1 hI1 hEE (q := r * 8 + k) ⟨by omega, by omega⟩ hE1.1
        generalize zset (zset (zset m1 41 0 0 (r * 8 + k) (E 1 (r * 8 + k))) 42 0 0 (r * 8 + k) (E 2 (r * 8 + k))) 43 0 0 (r * 8 + k) (E 3 (r * 8 + k)) = m2 at *
        refine z_aload_n (i := 0) hG dX5_gatherSteps_72 rfl rfl ?_
        first | refine z_dup_r hG dX5_gatherSteps_73 ?_ | refine z_dup_i hG dX5_gatherSteps_73 ?_
        refine z_getI hG dX5_gatherSteps_74 FL_X5_34 rfl rfl (kk := 2) rfl ?_
        refine z_aload_n (i := 0) hG dX5_gatherSteps_77 rfl rfl ?_
        refine z_get_5_3 hG dX5_gatherSteps_78 FL_X5_18 ?_
        refine z_iload_n (i := 2) hG dX5_gatherSteps_81 rfl rfl ?_
        refine z_iload hG dX5_gatherSteps_82 rfl ?_
        refine z_iadd hG dX5_gatherSteps_84 (by omega) (by omega) ?_
        refine z_iald hG dX5_gatherSteps_85 rfl rfl (by omega) (by omega) ?_
        rw [g1]
        refine z_aload_n (i := 0) hG dX5_gatherSteps_86 rfl rfl ?_
        refine z_get_5_4 hG dX5_gatherSteps_87 FL_X5_21 ?_
        refine z_iload_n (i := 2) hG dX5_gatherSteps_90 rfl rfl ?_
        refine z_iload hG dX5_gatherSteps_91 rfl ?_
        refine z_iadd hG dX5_gatherSteps_93 (by omega) (by omega) ?_
        refine z_iald hG dX5_gatherSteps_94 rfl rfl (by omega) (by omega) ?_
        rw [g2]
        refine z_imul hG dX5_gatherSteps_95 (by omega) (by omega) ?_
        rw [g3]
        refine z_iadd hG dX5_gatherSteps_96 (by omega) (by omega) ?_
        refine z_put hG dX5_gatherSteps_97 FP_X5_34 rfl rfl (kk := 2) rfl ?_
        refine z_iinc hG dX5_gatherSteps_100 (by decide) rfl (by omega) (by omega) (ls2 := [_, _, _, _, _]) rfl ?_
        refine z_goto hG dX5_gatherSteps_103 (tgt := 13) rfl ?_
        refine ih (k + 1) _ (by omega) ?_
        rw [show r * 8 + ((k + 1 : Nat) : Int) = r * 8 + k + 1 by omega]
        exact hI2
  refine z_aload_n (i := 1) hG dX5_gatherSteps_0 rfl rfl ?_
  refine z_getI hG dX5_gatherSteps_1 FL_X5_55 rfl rfl (kk := 2) rfl ?_
  refine z_bipush hG dX5_gatherSteps_4 rfl ?_
  refine z_min hG dX5_gatherSteps_6 LM_X5_58 (by decide) (Nat.le_of_ble_eq_true rfl) ?_
  rw [show (if 8 < m0 4 0 r 2 then 8 else m0 4 0 r 2) = c by rw [hI.1 4 0 r 2 (by simp [zsct]), hc.1]; split <;> omega]
  refine z_istore_n (i := 3) hG dX5_gatherSteps_9 rfl (by decide) (ls2 := [_, _, _, _, _]) rfl ?_
  refine z_iconst hG dX5_gatherSteps_10 rfl ?_
  refine z_istore hG dX5_gatherSteps_11 (by decide) (ls2 := [_, _, _, _, _]) rfl ?_
  exact loop1 c.toNat 0 m0 (by omega) (by rw [show r * 8 + ((0 : Nat) : Int) = r * 8 by omega]; exact hI)
