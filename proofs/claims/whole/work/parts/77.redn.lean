theorem zTm_congr {m m1 : zM} {N : Int → Int} {L : Int} (h : zTm m N L) (h6 : m1 11 0 0 6 = m 11 0 0 6) (h49 : ∀ p : Int, m1 49 0 0 p = m 49 0 0 p) : zTm m1 N L := ⟨h.1, by rw [h6, h.2.1], fun p hp => by rw [h49]; exact h.2.2.1 p hp, h.2.2.2⟩
/-- what reading a step leaves as it was -/
def zSF (m m1 : zM) (k : Int) : Prop := m1 11 0 0 30 = k ∧ (∀ (t : Nat) (s j q : Int), (t ≠ 11 ∨ (q ≠ 25 ∧ q ≠ 26 ∧ q ≠ 30)) → (t ≠ 63 ∨ q < 4 * k ∨ 4 * k + 3 < q) → m1 t s j q = m t s j q)
theorem zSF_set {m m1 : zM} {k q v : Int} (h : zSF m m1 k) (hq : 4 * k ≤ q ∧ q ≤ 4 * k + 3) : zSF m (zset m1 63 0 0 q v) k := by
  refine ⟨by simp [zset, h.1], fun t s j q' h1 h2 => ?_⟩
  simp only [zset]
  rw [if_neg (by omega)]
  exact h.2 t s j q' h1 h2
theorem zSF_T {m m1 : zM} {k : Int} {N : Int → Int} {L : Int} (h : zSF m m1 k) (hT : zTm m N L) : zTm m1 N L := zTm_congr hT (h.2 11 0 0 6 (by omega) (by omega)) (fun p => h.2 49 0 0 p (by omega) (by omega))
def zStp (m m1 : zM) (N : Int → Int) (k p p' w' : Int) : Prop := p' = (zSp N k p).1 ∧ (w' = 0 ∨ w' = 1) ∧ (w' = 0 ↔ (zSp N k p).2.1 = 1) ∧ m1 11 0 0 30 = k + 1 ∧ (∀ (t : Nat) (s j q : Int), (t ≠ 11 ∨ (q ≠ 25 ∧ q ≠ 26 ∧ q ≠ 30)) → (t ≠ 63 ∨ q < 4 * k ∨ 4 * k + 3 < q) → m1 t s j q = m t s j q) ∧ (w' = 0 → m1 63 0 0 (4 * k) = (zSp N k p).2.2.1 ∧ m1 63 0 0 (4 * k + 1) = (zSp N k p).2.2.2.1 ∧ m1 63 0 0 (4 * k + 2) = (zSp N k p).2.2.2.2.2 ∧ m1 63 0 0 (4 * k + 3) = (zSp N k p).2.2.2.2.1)
set_option maxRecDepth 20000 in
theorem ct_X11_takeStep (l : Launch) (g : zG) {m : zM} {p k : Int} {N : Int → Int} {L : Int} (hT : zTm m N L) (hp : 0 ≤ p ∧ p ≤ L) (hk : m 11 0 0 30 = k) (hk8 : 0 ≤ k ∧ k < 8) : zMet l g Y_X11_takeStep [zr 11 0 0] (zMS m p 0) (fun v m' => v = none ∧ ∃ (p' w' : Int) (m1 : zM), m' = zMS m1 p' w' ∧ (0 ≤ p' ∧ p' ≤ L) ∧ zStp m m1 N k p p' w') := by
  refine zMet_introF (by decide +kernel) (Nat.le_of_ble_eq_true rfl) (ls0 := [some (zr 11 0 0), none, none]) rfl fun X hG hE => ?_
  have hG : zGood X l g RX11 cX11_takeStep 2 3 := hG
  have hE : zEnd X (none) _ := hE
  have h80 := hT.1
  have hN := hT.2.2.2.1
  have hNl := hT.2.2.2.2
  have hdv := @zdg_v N
  obtain ⟨a, hae⟩ : ∃ a, a = zNum N 240 p := ⟨_, rfl⟩
  obtain ⟨b, hbe⟩ : ∃ b, b = zs2 N a.1 a.2.2 := ⟨_, rfl⟩
  obtain ⟨c, hce⟩ : ∃ c, c = zs3 N b.1 b.2 := ⟨_, rfl⟩
  obtain ⟨d, hde⟩ : ∃ d, d = zs4 N c.1 c.2.2 := ⟨_, rfl⟩
  obtain ⟨e, hee⟩ : ∃ e, e = zs5 N k (c.1 + d) c.2.2 := ⟨_, rfl⟩
  have hS : zSp N k p = (e.1, e.2.2, a.2.1, c.2.1, d, e.2.1) := by
    rw [hee, hde, hce, hbe, hae]
    rfl
  have s206 : ∀ (p' w' : Int) (m1 : zM) (l2 : Option zV), (0 ≤ p' ∧ p' ≤ L) → p' = e.1 → (w' = 0 ∨ w' = 1) → (w' = 0 ↔ e.2.2 = 1) → zSF m m1 k → (w' = 0 → m1 63 0 0 (4 * k) = a.2.1 ∧ m1 63 0 0 (4 * k + 1) = c.2.1 ∧ m1 63 0 0 (4 * k + 2) = e.2.1 ∧ m1 63 0 0 (4 * k + 3) = d) → zZ X 206 [some (zr 11 0 0), some (zi (4 * k)), l2] [] (zMS m1 p' w') := by
    intro p' w' m1 l2 hp' he hw hwe hF hv
    refine z_aload_n (i := 0) hG dX11_takeStep_206 rfl rfl ?_
    first | refine z_dup_r hG dX11_takeStep_207 ?_ | refine z_dup_i hG dX11_takeStep_207 ?_
    refine z_getI hG dX11_takeStep_208 FL_X11_228 rfl rfl (kk := 30) rfl ?_
    rw [zMS_o (by omega), hF.1]
    refine z_iconst hG dX11_takeStep_211 rfl ?_
    refine z_iadd hG dX11_takeStep_212 (by omega) (by omega) ?_
    refine z_put hG dX11_takeStep_213 FP_X11_228 rfl rfl (kk := 30) rfl ?_
    refine z_mem (zMS_so (by omega)) ?_
    refine z_vret hG hE dX11_takeStep_216 ?_
    refine ⟨rfl, p', w', _, rfl, hp', ?_⟩
    rw [zStp, hS]
    refine ⟨he, hw, hwe, by simp [zset], fun t s j q h1 h2 => ?_, fun z => ?_⟩
    · simp only [zset]
      rw [if_neg (by omega)]
      exact hF.2 t s j q h1 h2
    · simpa [zset] using hv z
  have loop : c.2.2 = 1 → ∀ (n : Nat) (q bb : Int) (m1 : zM) (l2 : Option zV), (0 ≤ q ∧ q ≤ L) → (0 ≤ bb ∧ bb < 256) → (n : Int) + zcb k.toNat bb = 8 → zBf N k n q bb = e → zSF m m1 k → m1 63 0 0 (4 * k) = a.2.1 → m1 63 0 0 (4 * k + 1) = c.2.1 → m1 63 0 0 (4 * k + 2) = bb → m1 63 0 0 (4 * k + 3) = d → zZ X 135 [some (zr 11 0 0), some (zi (4 * k)), l2] [] (zMS m1 q 0) := by
    intro hc n
    induction n with
    | zero =>
      intro q bb m1 l2 hq hb hn hz hF f0 f1 f2 f3
      have := zcb_le (k := k.toNat) (b := bb)
      omega
    | succ n ih =>
      intro q bb m1 l2 hq hb hn hz hF f0 f1 f2 f3
      have hT1 := zSF_T hF hT
      have hNq := hN q
      rw [zBf] at hz
      refine z_aload_n (i := 0) hG dX11_takeStep_135 rfl rfl ?_
      refine z_getI hG dX11_takeStep_136 FL_X11_218 rfl rfl (kk := 26) rfl ?_
      rw [zMS_w]
      refine z_if_ne hG dX11_takeStep_139 (tgt := 206) rfl (fun zcq139 => ?_) (fun zcq139 => ?_)
      · try simp only [zite_eq0, ne_eq, Classical.not_not] at zcq139
        first
        | (exfalso; omega; done)
        | exact absurd trivial zcq139
        | (rw [if_neg (by omega)] at hz
           refine s206 q 0 m1 l2 hq (by rw [← hz]) (Or.inl rfl) ⟨fun _ => by rw [← hz], fun _ => rfl⟩ hF (fun _ => ⟨f0, f1, by rw [← hz]; exact f2, f3⟩))
      · try simp only [zite_eq0, ne_eq, Classical.not_not] at zcq139
        refine z_aload_n (i := 0) hG dX11_takeStep_142 rfl rfl ?_
        refine z_callV hG dX11_takeStep_143 LV_X11_222 (ct_X11_next l g hT1 (by omega)) (by decide) rfl rfl rfl (Nat.le_of_ble_eq_true rfl) ?_
        intro v9 m9 h9
        rw [h9.1, h9.2]
        clear h9 m9 v9
        refine z_bipush hG dX11_takeStep_146 rfl ?_
        refine z_icmp_ne hG dX11_takeStep_148 (tgt := 206) rfl (fun zcq148 => ?_) (fun zcq148 => ?_)
        · first
          | (exfalso; omega; done)
          | exact absurd trivial zcq139
          | (rw [if_neg (by omega)] at hz
             refine s206 q 0 m1 l2 hq (by rw [← hz]) (Or.inl rfl) ⟨fun _ => by rw [← hz], fun _ => rfl⟩ hF (fun _ => ⟨f0, f1, by rw [← hz]; exact f2, f3⟩))
        · refine z_aload_n (i := 0) hG dX11_takeStep_151 rfl rfl ?_
          first | refine z_dup_r hG dX11_takeStep_152 ?_ | refine z_dup_i hG dX11_takeStep_152 ?_
          refine z_getI hG dX11_takeStep_153 FL_X11_212 rfl rfl (kk := 25) rfl ?_
          rw [zMS_p]
          refine z_iconst hG dX11_takeStep_156 rfl ?_
          refine z_iadd hG dX11_takeStep_157 (by omega) (by omega) ?_
          refine z_put hG dX11_takeStep_158 FP_X11_212 rfl rfl (kk := 25) rfl ?_
          have hlq := hNl q (by omega)
          have hd1 := hdv (p := q + 1)
          have hN1 := hN (q + 1)
          refine z_mem zMS_sp ?_
          refine z_aload_n (i := 0) hG dX11_takeStep_161 rfl rfl ?_
          refine z_aload_n (i := 0) hG dX11_takeStep_162 rfl rfl ?_
          refine z_getI hG dX11_takeStep_163 FL_X11_228 rfl rfl (kk := 30) rfl ?_
          rw [zMS_o (by omega), hF.1]
          refine z_aload_n (i := 0) hG dX11_takeStep_166 rfl rfl ?_
          refine z_get_11_29 hG dX11_takeStep_167 FL_X11_65 ?_
          refine z_iload_n (i := 1) hG dX11_takeStep_170 rfl rfl ?_
          refine z_iconst hG dX11_takeStep_171 rfl ?_
          refine z_iadd hG dX11_takeStep_172 (by omega) (by omega) ?_
          refine z_iald hG dX11_takeStep_173 rfl rfl (by omega) (by omega) ?_
          rw [zMS_o (by omega), f2]
          refine z_callV hG dX11_takeStep_174 LV_X11_231 (ct_X11_takeDigit l g (w := 0) hT1 ⟨by omega, by omega⟩ (Or.inl rfl) ⟨by omega, by omega⟩) (by decide) rfl rfl rfl (Nat.le_of_ble_eq_true rfl) ?_
          intro v9 m9 h9
          obtain ⟨ok, hok, h9a, h9b⟩ := h9
          rw [h9a, h9b]
          clear h9a h9b m9 v9
          rw [if_pos (by omega)] at hz
          have ha63 : ∀ (pp ww : Int), zMS m1 pp ww 63 0 0 (4 * k + 2) = bb := fun pp ww => by rw [zMS_o (by omega), f2]
          cases ok with
          | true =>
            obtain ⟨-, g1, g2⟩ := hok.mp rfl
            have hz1 : zdg N (q + 1) = N (q + 1) - 48 := hd1.2 (by omega)
            have g3 : 0 ≤ zdg N (q + 1) ∧ zdg N (q + 1) < k ∧ zand (zshr bb (zdg N (q + 1))) 1 ≠ 1 := ⟨by omega, by omega, by rw [hz1]; exact g2⟩
            rw [if_pos g3, hz1] at hz
            have hlq1 := hNl (q + 1) (by omega)
            simp only [if_true]
            refine z_istore_n (i := 2) hG dX11_takeStep_177 rfl (by decide) (ls2 := [_, _, _]) rfl ?_
            refine z_aload_n (i := 0) hG dX11_takeStep_178 rfl rfl ?_
            refine z_get_11_29 hG dX11_takeStep_179 FL_X11_65 ?_
            refine z_iload_n (i := 1) hG dX11_takeStep_182 rfl rfl ?_
            refine z_iconst hG dX11_takeStep_183 rfl ?_
            refine z_iadd hG dX11_takeStep_184 (by omega) (by omega) ?_
            refine z_dup2 hG dX11_takeStep_185 ?_
            refine z_iald hG dX11_takeStep_186 rfl rfl (by omega) (by omega) ?_
            rw [ha63]
            refine z_aload_n (i := 0) hG dX11_takeStep_187 rfl rfl ?_
            refine z_getI hG dX11_takeStep_188 FL_X11_218 rfl rfl (kk := 26) rfl ?_
            rw [zMS_w]
            refine z_if_eq hG dX11_takeStep_191 (tgt := 198) rfl (fun zcq191 => ?_) (fun zcq191 => ?_)
            · try simp only [zite_eq0, ne_eq, Classical.not_not] at zcq191
              refine z_iconst hG dX11_takeStep_198 rfl ?_
              refine z_iload_n (i := 2) hG dX11_takeStep_199 rfl rfl ?_
              refine z_ishl hG dX11_takeStep_200 ?_
              refine z_ior hG dX11_takeStep_201 ?_
              refine z_iast hG dX11_takeStep_202 rfl rfl (by omega) (by omega) ?_
              refine z_mem (zMS_so (by omega)) ?_
              refine z_goto hG dX11_takeStep_203 (tgt := 135) rfl ?_
              have hs := zcb_s (k := k.toNat) (by omega) hb (d := N (q + 1) - 48) ⟨by omega, by omega⟩ g2
              refine ih (q + 1 + 1) (zor bb (zshl 1 (N (q + 1) - 48))) _ _ ⟨by omega, by omega⟩ (zor_bd hb ⟨by omega, by omega⟩) (by omega) hz (zSF_set hF ⟨by omega, by omega⟩) ?_ ?_ ?_ ?_
              · simp only [zset]; rw [if_neg (by omega)]; exact f0
              · simp only [zset]; rw [if_neg (by omega)]; exact f1
              · simp [zset]
              · simp only [zset]; rw [if_neg (by omega)]; exact f3
            · try simp only [zite_eq0, ne_eq, Classical.not_not] at zcq191
              exact absurd trivial zcq191
          | false =>
            have g3 : ¬ (0 ≤ zdg N (q + 1) ∧ zdg N (q + 1) < k ∧ zand (zshr bb (zdg N (q + 1))) 1 ≠ 1) := fun z => by
              have hz1 : zdg N (q + 1) = N (q + 1) - 48 := hd1.2 z.1
              rw [hz1] at z
              exact absurd (hok.mpr ⟨rfl, ⟨by omega, by omega⟩, z.2.2⟩) (by decide)
            rw [if_neg g3] at hz
            simp only [Bool.false_eq_true, if_false]
            refine z_istore_n (i := 2) hG dX11_takeStep_177 rfl (by decide) (ls2 := [_, _, _]) rfl ?_
            refine z_aload_n (i := 0) hG dX11_takeStep_178 rfl rfl ?_
            refine z_get_11_29 hG dX11_takeStep_179 FL_X11_65 ?_
            refine z_iload_n (i := 1) hG dX11_takeStep_182 rfl rfl ?_
            refine z_iconst hG dX11_takeStep_183 rfl ?_
            refine z_iadd hG dX11_takeStep_184 (by omega) (by omega) ?_
            refine z_dup2 hG dX11_takeStep_185 ?_
            refine z_iald hG dX11_takeStep_186 rfl rfl (by omega) (by omega) ?_
            rw [ha63]
            refine z_aload_n (i := 0) hG dX11_takeStep_187 rfl rfl ?_
            refine z_getI hG dX11_takeStep_188 FL_X11_218 rfl rfl (kk := 26) rfl ?_
            rw [zMS_w]
            refine z_if_eq hG dX11_takeStep_191 (tgt := 198) rfl (fun zcq191 => ?_) (fun zcq191 => ?_)
            · try simp only [zite_eq0, ne_eq, Classical.not_not] at zcq191
              exact absurd (by assumption : (1 : Int) = 0) (by decide)
            · try simp only [zite_eq0, ne_eq, Classical.not_not] at zcq191
              refine z_iconst hG dX11_takeStep_194 rfl ?_
              refine z_goto hG dX11_takeStep_195 (tgt := 201) rfl ?_
              refine z_ior hG dX11_takeStep_201 ?_
              refine z_iast hG dX11_takeStep_202 rfl rfl (by omega) (by omega) ?_
              refine z_mem (zMS_so (by omega)) ?_
              refine z_goto hG dX11_takeStep_203 (tgt := 135) rfl ?_
              refine z_aload_n (i := 0) hG dX11_takeStep_135 rfl rfl ?_
              refine z_getI hG dX11_takeStep_136 FL_X11_218 rfl rfl (kk := 26) rfl ?_
              rw [zMS_w]
              refine z_if_ne hG dX11_takeStep_139 (tgt := 206) rfl (fun zcq139 => ?_) (fun zcq139 => ?_)
              · try simp only [zite_eq0, ne_eq, Classical.not_not] at zcq139
                refine s206 (q + 1) 1 _ _ ⟨by omega, by omega⟩ (by rw [← hz]) (Or.inr rfl) ⟨fun z => absurd z (by decide), fun z => by rw [← hz] at z; exact absurd (show (0 : Int) = 1 from z) (by decide)⟩ (zSF_set hF ⟨by omega, by omega⟩) (fun z => absurd z (by decide))
              · try simp only [zite_eq0, ne_eq, Classical.not_not] at zcq139
                exact absurd (by assumption : (1 : Int) = 0) (by decide)
  have hcb : c.2.2 = 1 ∨ c.2.2 = 0 := by
    rw [hce]
    simp only [zs3]
    split
    · exact Or.inl rfl
    · exact Or.inr rfl
  have hdb : d = if c.2.2 = 1 ∧ N c.1 = 42 then 1 else 0 := hde
  have s117 : ∀ (w3 g : Int) (m1 : zM), (0 ≤ c.1 ∧ c.1 ≤ L) → (w3 = 0 ∨ w3 = 1) → (w3 = 0 ↔ c.2.2 = 1) → g = d → zSF m m1 k → (w3 = 0 → m1 63 0 0 (4 * k) = a.2.1 ∧ m1 63 0 0 (4 * k + 1) = c.2.1 ∧ m1 63 0 0 (4 * k + 2) = 0) → zZ X 117 [some (zr 11 0 0), some (zi (4 * k)), none] [zi g, zi (4 * k + 3), zr 63 0 0] (zMS m1 c.1 w3) := by
    intro w3 g m1 hc1 hw hwc hg hF hv
    subst hg
    have hNc := hNl c.1
    have hgb : (g = 0 ∨ g = 1) ∧ (g = 1 → c.1 + 1 ≤ L) := by
      rw [hdb]
      split
      · next z => exact ⟨Or.inr rfl, fun _ => by have := hNc (by omega); omega⟩
      · exact ⟨Or.inl rfl, fun z => absurd z (by decide)⟩
    refine z_iast hG dX11_takeStep_117 rfl rfl (by omega) (by omega) ?_
    refine z_mem (zMS_so (by omega)) ?_
    refine z_aload_n (i := 0) hG dX11_takeStep_118 rfl rfl ?_
    first | refine z_dup_r hG dX11_takeStep_119 ?_ | refine z_dup_i hG dX11_takeStep_119 ?_
    refine z_getI hG dX11_takeStep_120 FL_X11_212 rfl rfl (kk := 25) rfl ?_
    rw [zMS_p]
    refine z_aload_n (i := 0) hG dX11_takeStep_123 rfl rfl ?_
    refine z_get_11_29 hG dX11_takeStep_124 FL_X11_65 ?_
    refine z_iload_n (i := 1) hG dX11_takeStep_127 rfl rfl ?_
    refine z_iconst hG dX11_takeStep_128 rfl ?_
    refine z_iadd hG dX11_takeStep_129 (by omega) (by omega) ?_
    refine z_iald hG dX11_takeStep_130 rfl rfl (by omega) (by omega) ?_
    rw [zMS_o (by omega), show zset m1 63 0 0 (4 * k + 3) g 63 0 0 (4 * k + 3) = g from by simp [zset]]
    refine z_iadd hG dX11_takeStep_131 (by omega) (by omega) ?_
    refine z_put hG dX11_takeStep_132 FP_X11_212 rfl rfl (kk := 25) rfl ?_
    refine z_mem zMS_sp ?_
    have hF2 := zSF_set (v := g) hF (q := 4 * k + 3) ⟨by omega, by omega⟩
    rcases hw with rfl | rfl
    · have hc1' := hwc.mp rfl
      obtain ⟨v0, v1, v2⟩ := hv rfl
      have he5 : zBf N k 8 (c.1 + g) 0 = e := by
        rw [hee]
        unfold zs5
        rw [if_pos hc1']
      refine loop hc1' 8 (c.1 + g) 0 _ _ ⟨by omega, by omega⟩ (by decide) (by rw [zcb_0 _ (by omega)]; rfl) he5 hF2 ?_ ?_ ?_ ?_
      · simp only [zset]; rw [if_neg (by omega)]; exact v0
      · simp only [zset]; rw [if_neg (by omega)]; exact v1
      · simp only [zset]; rw [if_neg (by omega)]; exact v2
      · simp [zset]
    · have hc0 : c.2.2 ≠ 1 := fun z => absurd (hwc.mpr z) (by decide)
      have he5 : e = (c.1 + g, 0, 0) := by
        rw [hee]
        unfold zs5
        rw [if_neg hc0]
      refine z_aload_n (i := 0) hG dX11_takeStep_135 rfl rfl ?_
      refine z_getI hG dX11_takeStep_136 FL_X11_218 rfl rfl (kk := 26) rfl ?_
      rw [zMS_w]
      refine z_if_ne hG dX11_takeStep_139 (tgt := 206) rfl (fun zcq139 => ?_) (fun zcq139 => ?_)
      · try simp only [zite_eq0, ne_eq, Classical.not_not] at zcq139
        refine s206 (c.1 + g) 1 _ _ ⟨by omega, by omega⟩ (by rw [he5]) (Or.inr rfl) ⟨fun z => absurd z (by decide), fun z => by rw [he5] at z; exact absurd (show (0 : Int) = 1 from z) (by decide)⟩ hF2 (fun z => absurd z (by decide))
      · try simp only [zite_eq0, ne_eq, Classical.not_not] at zcq139
        exact absurd (by assumption : (1 : Int) = 0) (by decide)
  have s66 : ∀ (w2 : Int) (m1 : zM), (0 ≤ b.1 ∧ b.1 ≤ L) → (w2 = 0 ∨ w2 = 1) → (w2 = 0 ↔ b.2 = 1) → zSF m m1 k → (w2 = 0 → m1 63 0 0 (4 * k) = a.2.1) → zZ X 66 [some (zr 11 0 0), some (zi (4 * k)), none] [] (zMS m1 b.1 w2) := by
    intro w2 m1 hb1 hw hwb hF hv
    have hT1 := zSF_T hF hT
    have hNb := hN b.1
    have hNlb := hNl b.1
    have hdb1 := hdv (p := b.1)
    refine z_aload_n (i := 0) hG dX11_takeStep_66 rfl rfl ?_
    refine z_get_11_29 hG dX11_takeStep_67 FL_X11_65 ?_
    refine z_iload_n (i := 1) hG dX11_takeStep_70 rfl rfl ?_
    refine z_iconst hG dX11_takeStep_71 rfl ?_
    refine z_iadd hG dX11_takeStep_72 (by omega) (by omega) ?_
    refine z_aload_n (i := 0) hG dX11_takeStep_73 rfl rfl ?_
    refine z_iconst hG dX11_takeStep_74 rfl ?_
    refine z_iconst hG dX11_takeStep_75 rfl ?_
    refine z_callV hG dX11_takeStep_76 LV_X11_231 (ct_X11_takeDigit l g hT1 hb1 hw ⟨by decide, by decide⟩) (by decide) rfl rfl rfl (Nat.le_of_ble_eq_true rfl) ?_
    intro v9 m9 h9
    obtain ⟨ok, hok, h9a, h9b⟩ := h9
    rw [h9a, h9b]
    clear h9a h9b m9 v9
    have hcase : ∃ w3 : Int, (w3 = 0 ∨ w3 = 1) ∧ (w3 = 0 ↔ c.2.2 = 1) ∧ (if ok = true then b.1 + 1 else b.1) = c.1 ∧ (if ok = true then (0 : Int) else 1) = w3 ∧ (if ok = true then N b.1 - 48 else 0) = c.2.1 ∧ (0 ≤ c.1 ∧ c.1 ≤ L) ∧ (w3 = 0 → w2 = 0) := by
      cases ok with
      | true =>
        obtain ⟨g0, g1, -⟩ := hok.mp rfl
        have hz1 : zdg N b.1 = N b.1 - 48 := hdb1.2 (by omega)
        have hcond : b.2 = 1 ∧ 0 ≤ zdg N b.1 ∧ zdg N b.1 ≤ 3 := ⟨hwb.mp g0, by omega, by omega⟩
        have := hNlb (by omega)
        refine ⟨0, Or.inl rfl, ?_, ?_, rfl, ?_, ?_, fun _ => g0⟩
        · rw [hce]; simp only [zs3]; rw [if_pos hcond]; simp
        · rw [hce]; simp only [zs3]; rw [if_pos hcond]; rfl
        · rw [hce]; simp only [zs3]; rw [if_pos hcond, hz1]; rfl
        · rw [hce]; simp only [zs3]; rw [if_pos hcond]; omega
      | false =>
        have hcond : ¬ (b.2 = 1 ∧ 0 ≤ zdg N b.1 ∧ zdg N b.1 ≤ 3) := fun z => by
          have hz1 : zdg N b.1 = N b.1 - 48 := hdb1.2 z.2.1
          refine absurd (hok.mpr ⟨hwb.mpr z.1, ⟨by omega, by omega⟩, ?_⟩) (by decide)
          have := zbit_0 ⟨(N b.1 - 48).toNat, by omega⟩
          simp only at this
          rw [show (((N b.1 - 48).toNat : Nat) : Int) = N b.1 - 48 by omega] at this
          exact this
        refine ⟨1, Or.inr rfl, ?_, ?_, rfl, ?_, ?_, fun z => absurd z (by decide)⟩
        · rw [hce]; simp only [zs3]; rw [if_neg hcond]; simp
        · rw [hce]; simp only [zs3]; rw [if_neg hcond]; rfl
        · rw [hce]; simp only [zs3]; rw [if_neg hcond]; rfl
        · rw [hce]; simp only [zs3]; rw [if_neg hcond]; exact hb1
    obtain ⟨w3, q1, q2, q3, q4, q5, q6, q7⟩ := hcase
    rw [q3, q4, q5]
    clear q3 q4 q5 hok
    refine z_iast hG dX11_takeStep_79 rfl rfl (by omega) (by omega) ?_
    refine z_mem (zMS_so (by omega)) ?_
    refine z_aload_n (i := 0) hG dX11_takeStep_80 rfl rfl ?_
    refine z_get_11_29 hG dX11_takeStep_81 FL_X11_65 ?_
    refine z_iload_n (i := 1) hG dX11_takeStep_84 rfl rfl ?_
    refine z_iconst hG dX11_takeStep_85 rfl ?_
    refine z_iadd hG dX11_takeStep_86 (by omega) (by omega) ?_
    refine z_iconst hG dX11_takeStep_87 rfl ?_
    refine z_iast hG dX11_takeStep_88 rfl rfl (by omega) (by omega) ?_
    refine z_mem (zMS_so (by omega)) ?_
    have hF2 := zSF_set (v := c.2.1) hF (q := 4 * k + 1) ⟨by omega, by omega⟩
    have hF3 := zSF_set (v := 0) hF2 (q := 4 * k + 2) ⟨by omega, by omega⟩
    have hT1 := zSF_T hF3 hT
    have hNc := hN c.1
    refine z_aload_n (i := 0) hG dX11_takeStep_89 rfl rfl ?_
    refine z_get_11_29 hG dX11_takeStep_90 FL_X11_65 ?_
    refine z_iload_n (i := 1) hG dX11_takeStep_93 rfl rfl ?_
    refine z_iconst hG dX11_takeStep_94 rfl ?_
    refine z_iadd hG dX11_takeStep_95 (by omega) (by omega) ?_
    refine z_aload_n (i := 0) hG dX11_takeStep_96 rfl rfl ?_
    refine z_getI hG dX11_takeStep_97 FL_X11_218 rfl rfl (kk := 26) rfl ?_
    rw [zMS_w]
    refine z_if_ne hG dX11_takeStep_100 (tgt := 116) rfl (fun zcq100 => ?_) (fun zcq100 => ?_)
    · try simp only [zite_eq0, ne_eq, Classical.not_not] at zcq100
      refine z_iconst hG dX11_takeStep_116 rfl ?_
      refine s117 w3 _ _ q6 q1 q2 ?_ hF3 (fun z => ⟨?_, ?_, ?_⟩)
      · rw [hdb]
        first
        | (rw [if_pos ⟨by omega, by omega⟩]; done)
        | (rw [if_neg (fun z => by omega)]; done)
      · simp only [zset]; rw [if_neg (by omega), if_neg (by omega)]; exact hv (q7 z)
      · simp only [zset]; rw [if_neg (by omega), if_pos (by simp)]
      · simp [zset]
    · try simp only [zite_eq0, ne_eq, Classical.not_not] at zcq100
      refine z_aload_n (i := 0) hG dX11_takeStep_103 rfl rfl ?_
      refine z_callV hG dX11_takeStep_104 LV_X11_222 (ct_X11_next l g hT1 q6) (by decide) rfl rfl rfl (Nat.le_of_ble_eq_true rfl) ?_
      intro v9 m9 h9
      rw [h9.1, h9.2]
      clear h9 m9 v9
      refine z_bipush hG dX11_takeStep_107 rfl ?_
      refine z_icmp_ne hG dX11_takeStep_109 (tgt := 116) rfl (fun zcq109 => ?_) (fun zcq109 => ?_)
      · refine z_iconst hG dX11_takeStep_116 rfl ?_
        refine s117 w3 _ _ q6 q1 q2 ?_ hF3 (fun z => ⟨?_, ?_, ?_⟩)
        · rw [hdb]
          first
          | (rw [if_pos ⟨by omega, by omega⟩]; done)
          | (rw [if_neg (fun z => by omega)]; done)
        · simp only [zset]; rw [if_neg (by omega), if_neg (by omega)]; exact hv (q7 z)
        · simp only [zset]; rw [if_neg (by omega), if_pos (by simp)]
        · simp [zset]
      · refine z_iconst hG dX11_takeStep_112 rfl ?_
        refine z_goto hG dX11_takeStep_113 (tgt := 117) rfl ?_
        refine s117 w3 _ _ q6 q1 q2 ?_ hF3 (fun z => ⟨?_, ?_, ?_⟩)
        · rw [hdb]
          first
          | (rw [if_pos ⟨by omega, by omega⟩]; done)
          | (rw [if_neg (fun z => by omega)]; done)
        · simp only [zset]; rw [if_neg (by omega), if_neg (by omega)]; exact hv (q7 z)
        · simp only [zset]; rw [if_neg (by omega), if_pos (by simp)]
        · simp [zset]
  have s42 : ∀ (p1 w1 w2 : Int) (m1 : zM), p1 = a.1 → (0 ≤ p1 ∧ p1 ≤ L) → (w2 = 0 ∨ w2 = 1) → (w2 = 0 ↔ b.2 = 1) → zSF m m1 k → (w2 = 0 → m1 63 0 0 (4 * k) = a.2.1) → zZ X 42 [some (zr 11 0 0), some (zi (4 * k)), none] [zi w2, zr 11 0 0] (zMS m1 p1 w1) := by
    intro p1 w1 w2 m1 hp1 hpl hw hwb hF hv
    have hNp := hNl p1
    have hb1 : b.1 = if w2 = 0 then p1 + 1 else p1 := by
      rw [hbe, hp1]
      simp only [zs2]
      rw [hbe] at hwb
      simp only [zs2] at hwb
      by_cases z : a.2.2 = 1 ∧ N a.1 = 47
      · rw [if_pos z] at hwb
        rw [if_pos z, if_pos (hwb.mpr rfl)]
      · rw [if_neg z] at hwb
        rw [if_neg z, if_neg (fun y => absurd (hwb.mp y) (by decide))]
    have hbl : w2 = 0 → p1 + 1 ≤ L := fun z => by
      have h1 := hwb.mp z
      rw [hbe] at h1
      simp only [zs2] at h1
      by_cases y : a.2.2 = 1 ∧ N a.1 = 47
      · have := hNp (by rw [hp1]; omega)
        omega
      · rw [if_neg y] at h1
        exact absurd h1 (by decide)
    refine z_putB hG dX11_takeStep_42 FP_X11_218 rfl rfl (kk := 26) rfl (by exact hw) ?_
    refine z_mem zMS_sw ?_
    refine z_aload_n (i := 0) hG dX11_takeStep_45 rfl rfl ?_
    first | refine z_dup_r hG dX11_takeStep_46 ?_ | refine z_dup_i hG dX11_takeStep_46 ?_
    refine z_getI hG dX11_takeStep_47 FL_X11_212 rfl rfl (kk := 25) rfl ?_
    rw [zMS_p]
    refine z_aload_n (i := 0) hG dX11_takeStep_50 rfl rfl ?_
    refine z_getI hG dX11_takeStep_51 FL_X11_218 rfl rfl (kk := 26) rfl ?_
    rw [zMS_w]
    refine z_if_eq hG dX11_takeStep_54 (tgt := 61) rfl (fun zcq54 => ?_) (fun zcq54 => ?_)
    · try simp only [zite_eq0, ne_eq, Classical.not_not] at zcq54
      refine z_iconst hG dX11_takeStep_61 rfl ?_
      refine z_iadd hG dX11_takeStep_62 (by omega) (by omega) ?_
      refine z_put hG dX11_takeStep_63 FP_X11_212 rfl rfl (kk := 25) rfl ?_
      refine z_mem zMS_sp ?_
      first
      | (exfalso; omega; done)
      | (rw [show p1 + 1 = b.1 by rw [hb1, if_pos (by omega)]]
         exact s66 w2 m1 (by rw [hb1, if_pos (by omega)]; omega) hw hwb hF hv)
      | (rw [show p1 + 0 = b.1 by rw [hb1, if_neg (by omega)]; omega]
         exact s66 w2 m1 (by rw [hb1, if_neg (by omega)]; omega) hw hwb hF hv)
    · try simp only [zite_eq0, ne_eq, Classical.not_not] at zcq54
      refine z_iconst hG dX11_takeStep_57 rfl ?_
      refine z_goto hG dX11_takeStep_58 (tgt := 62) rfl ?_
      refine z_iadd hG dX11_takeStep_62 (by omega) (by omega) ?_
      refine z_put hG dX11_takeStep_63 FP_X11_212 rfl rfl (kk := 25) rfl ?_
      refine z_mem zMS_sp ?_
      first
      | (exfalso; omega; done)
      | (rw [show p1 + 1 = b.1 by rw [hb1, if_pos (by omega)]]
         exact s66 w2 m1 (by rw [hb1, if_pos (by omega)]; omega) hw hwb hF hv)
      | (rw [show p1 + 0 = b.1 by rw [hb1, if_neg (by omega)]; omega]
         exact s66 w2 m1 (by rw [hb1, if_neg (by omega)]; omega) hw hwb hF hv)
  refine z_iconst hG dX11_takeStep_0 rfl ?_
  refine z_aload_n (i := 0) hG dX11_takeStep_1 rfl rfl ?_
  refine z_getI hG dX11_takeStep_2 FL_X11_228 rfl rfl (kk := 30) rfl ?_
  rw [zMS_o (by omega), hk]
  refine z_imul hG dX11_takeStep_5 (by omega) (by omega) ?_
  refine z_istore_n (i := 1) hG dX11_takeStep_6 rfl (by decide) (ls2 := [_, _, _]) rfl ?_
  refine z_aload_n (i := 0) hG dX11_takeStep_7 rfl rfl ?_
  refine z_get_11_29 hG dX11_takeStep_8 FL_X11_65 ?_
  refine z_iload_n (i := 1) hG dX11_takeStep_11 rfl rfl ?_
  refine z_aload_n (i := 0) hG dX11_takeStep_12 rfl rfl ?_
  refine z_sipush hG dX11_takeStep_13 rfl ?_
  refine z_callV hG dX11_takeStep_16 LV_X11_225 (ct_X11_takeNumber l g (w := 0) (high := 240) hT hp (Or.inl rfl) (by decide)) (by decide) rfl rfl rfl (Nat.le_of_ble_eq_true rfl) ?_
  intro v9 m9 h9
  obtain ⟨p', w', x, h9a, h9b, h9c, h9d, h9e, h9f, h9g⟩ := h9
  rw [h9a, h9b]
  clear h9a h9b m9 v9
  obtain ⟨g1, g2, g3⟩ := h9g rfl
  rw [← hae] at g1 g2 g3
  refine z_iast hG dX11_takeStep_19 rfl rfl (by omega) (by omega) ?_
  refine z_mem (zMS_so (by omega)) ?_
  have hF0 : zSF m m k := ⟨hk, fun _ _ _ _ _ _ => rfl⟩
  have hF1 := zSF_set (v := x) hF0 (q := 4 * k) ⟨by omega, by omega⟩
  have hT1 := zSF_T hF1 hT
  have hdp' := hdv (p := p')
  have hb2 : b.2 = 1 ↔ a.2.2 = 1 ∧ N p' = 47 := by
    rw [hbe, g1]
    simp only [zs2]
    by_cases z : a.2.2 = 1 ∧ N a.1 = 47
    · simp [z]
    · rw [if_neg z]
      exact ⟨fun y => absurd y (by decide), fun y => absurd y z⟩
  refine z_aload_n (i := 0) hG dX11_takeStep_20 rfl rfl ?_
  refine z_aload_n (i := 0) hG dX11_takeStep_21 rfl rfl ?_
  refine z_getI hG dX11_takeStep_22 FL_X11_218 rfl rfl (kk := 26) rfl ?_
  rw [zMS_w]
  refine z_if_ne hG dX11_takeStep_25 (tgt := 37) rfl (fun zcq25 => ?_) (fun zcq25 => ?_)
  · try simp only [zite_eq0, ne_eq, Classical.not_not] at zcq25
    refine z_iconst hG dX11_takeStep_37 rfl ?_
    refine z_goto hG dX11_takeStep_38 (tgt := 42) rfl ?_
    first
    | (exfalso; omega; done)
    | (refine s42 p' w' _ _ g1 h9e (by decide) ?_ hF1 (fun z => ?_)
       · rw [hb2]
         omega
       · first
         | (exfalso; omega; done)
         | (have := g2 (Classical.byContradiction fun y => by have := g3 y; omega)
            simp [zset, this.2]))
  · try simp only [zite_eq0, ne_eq, Classical.not_not] at zcq25
    refine z_aload_n (i := 0) hG dX11_takeStep_28 rfl rfl ?_
    refine z_callV hG dX11_takeStep_29 LV_X11_222 (ct_X11_next l g hT1 h9e) (by decide) rfl rfl rfl (Nat.le_of_ble_eq_true rfl) ?_
    intro v9 m9 h9
    rw [h9.1, h9.2]
    clear h9 m9 v9
    refine z_bipush hG dX11_takeStep_32 rfl ?_
    refine z_icmp_eq hG dX11_takeStep_34 (tgt := 41) rfl (fun zcq34 => ?_) (fun zcq34 => ?_)
    · refine z_iconst hG dX11_takeStep_41 rfl ?_
      first
      | (exfalso; omega; done)
      | (refine s42 p' w' _ _ g1 h9e (by decide) ?_ hF1 (fun z => ?_)
         · rw [hb2]
           omega
         · first
           | (exfalso; omega; done)
           | (have := g2 (Classical.byContradiction fun y => by have := g3 y; omega)
              simp [zset, this.2]))
    · refine z_iconst hG dX11_takeStep_37 rfl ?_
      refine z_goto hG dX11_takeStep_38 (tgt := 42) rfl ?_
      first
      | (exfalso; omega; done)
      | (refine s42 p' w' _ _ g1 h9e (by decide) ?_ hF1 (fun z => ?_)
         · rw [hb2]
           omega
         · first
           | (exfalso; omega; done)
           | (have := g2 (Classical.byContradiction fun y => by have := g3 y; omega)
              simp [zset, this.2]))
