theorem cqx_2 (l : Launch) (g : zG) {m0 m : zM} {B : Int} {i k : Int} (hI : zInv B m0) (hB : B ≤ 11900000) (hQ : zQ m0 m) (hi : 0 ≤ i ∧ i < m0 2 0 0 4) (hk : 0 ≤ k ∧ k < m0 3 0 i 2) : zMet l g Y_X10_ofTin [zr 0 0 0, zi i, zi k, zi 2] m (fun v m' => v = some (zi (zx3 (zPl0 m0 8 i) (zPl0 m0 9 i) (zPl0 m0 10 i) k)) ∧ zQ m0 m') := cqt_2 l g hI hB hQ hi hk
theorem lz_s3 {x f : Int → Int} {n : Nat} (hn : n ≤ 3) (h : ∀ k : Int, 0 ≤ k → k < 3 → x k ≠ 0 → k < n) : zsum n (fun j => x j * f j) = x 0 * f 0 + x 1 * f 1 + x 2 * f 2 := by
  have e : ∀ k : Int, 0 ≤ k → k < 3 → (n : Int) ≤ k → x k = 0 := fun k k0 k1 k2 => by
    apply Classical.byContradiction
    intro q
    have := h k k0 k1 q
    omega
  rcases (show n = 0 ∨ n = 1 ∨ n = 2 ∨ n = 3 by omega) with rfl | rfl | rfl | rfl
  · rw [e 0 (by decide) (by decide) (by decide), e 1 (by decide) (by decide) (by decide), e 2 (by decide) (by decide) (by decide)]; simp [zsum]
  · rw [e 1 (by decide) (by decide) (by decide), e 2 (by decide) (by decide) (by decide)]; simp [zsum]
  · rw [e 2 (by decide) (by decide) (by decide)]; simp [zsum]
  · simp [zsum]
theorem lz_s3b {x f : Int → Int} {n : Nat} {T : Int} (hn : n ≤ 3) (h : ∀ k : Int, 0 ≤ k → k < n → 0 ≤ x k * f k) (hT : zsum n (fun j => x j * f j) = T) : ∀ k : Nat, k < n → (0 ≤ x k * f k ∧ x k * f k ≤ T) ∧ 0 ≤ zsum k (fun j => x j * f j) ∧ zsum k (fun j => x j * f j) + x k * f k ≤ T := by
  intro k hk
  subst hT
  have h0 := h 0 (by decide)
  have h1 := h 1 (by decide)
  have h2 := h 2 (by decide)
  rcases (show n = 1 ∨ n = 2 ∨ n = 3 by omega) with rfl | rfl | rfl <;> rcases (show k = 0 ∨ k = 1 ∨ k = 2 by omega) with rfl | rfl | rfl <;> first | (exfalso; omega) | (simp [zsum]; omega)
set_option maxRecDepth 20000 in
theorem ct_L_tins (l : Launch) (g : zG) {m0 m : zM} {B i : Int} (hI : zInv B m0) (hB : B ≤ 11900000) (hQ : zQ m0 m) (hi : 0 ≤ i ∧ i < m0 2 0 0 4) : zMet l g Y_L_tins [zr 0 0 0, zi i] m (fun v m' => v = some (zi 1) ∧ zQ m0 m') := by
  refine zMet_introF (by decide +kernel) (Nat.le_of_ble_eq_true rfl) (ls0 := [some (zr 0 0 0), some (zi i), none, none, none, none, none, none, none, none, none]) rfl fun X hG hE => ?_
  have hG : zGood X l g RL cL_tins 7 11 := hG
  have hE : zEnd X (some .boolean) _ := hE
  have hI0 := zInv0 hI
  have hn8 := hI0.2.2.1
  have hp := zIS_pc hI0 (by omega)
  obtain ⟨ni, rfl⟩ := Int.eq_ofNat_of_zero_le hi.1
  have hK := (hp.2.2 ni (by omega) (by omega)).1
  have hT := zTF_of hK (zPF_of hp (i := ni) hi.2)
  have hb := zplb_Pl0 hp ni (by omega) (by omega)
  obtain ⟨k1, k2, k3, -⟩ := hK
  obtain ⟨x, hx⟩ : ∃ x, x = zx3 (zPl0 m0 8 ni) (zPl0 m0 9 ni) (zPl0 m0 10 ni) := ⟨_, rfl⟩
  rw [← hx] at hT
  obtain ⟨t1, t2, t3, t4, t5, t6, t7, t8⟩ := hT
  obtain ⟨n, hn⟩ := Int.eq_ofNat_of_zero_le k1.1
  have sp := lz_s3 (x := x) (f := m0 13 0 ni) (n := n) (by omega) (fun k k0 k1 q => by have := (t1 k k0 k1).2 q; omega)
  have ss := lz_s3 (x := x) (f := m0 12 0 ni) (n := n) (by omega) (fun k k0 k1 q => by have := (t1 k k0 k1).2 q; omega)
  rw [t3] at sp
  rw [t4] at ss
  have bp := lz_s3b (x := x) (f := m0 13 0 ni) (n := n) (by omega) (fun k k0 k1 => Int.mul_nonneg (t1 k k0 (by omega)).1 (by have := k3 k k0 (by omega); omega)) sp
  have bs := lz_s3b (x := x) (f := m0 12 0 ni) (n := n) (by omega) (fun k k0 k1 => Int.mul_nonneg (t1 k k0 (by omega)).1 (by have := k2 k k0 (by omega); omega)) ss
  have loop3 : ∀ (N k : Nat) (mm : zM) (v8 v9 v10 : Option zV), k + N = n → zQ m0 mm → zZ X 259 [some (zr 0 0 0), some (zi ni), some (zi (zPl0 m0 7 ni)), some (zi (zPl0 m0 3 ni)), some (zi (m0 3 0 ni 2)), some (zi (zPl0 m0 4 ni)), some (zi (zPl0 m0 3 ni - zPl0 m0 4 ni)), some (zi k), v8, v9, v10] [] mm := by
    intro N
    induction N with
    | zero =>
      intro k mm v8 v9 v10 hkn hQ
      refine z_iload hG dL_tins_259 rfl ?_
      refine z_iload hG dL_tins_261 rfl ?_
      refine z_icmp_ge hG dL_tins_263 (tgt := 339) rfl (fun zcq263 => ?_) (fun zcq263 => ?_)
      · refine z_iconst hG dL_tins_339 rfl ?_
        refine z_iret hG hE dL_tins_340 (by first | exact Or.inl rfl | exact Or.inr rfl | (show _ ∨ _; omega)) ?_
        exact ⟨rfl, hQ⟩
      · exact absurd zcq263 (by omega)
    | succ N ih =>
      intro k mm v8 v9 v10 hkn hQ
      have hsz := k2 k (by omega) (by omega)
      have hpr := k3 k (by omega) (by omega)
      refine z_iload hG dL_tins_259 rfl ?_
      refine z_iload hG dL_tins_261 rfl ?_
      refine z_icmp_ge hG dL_tins_263 (tgt := 339) rfl (fun zcq263 => ?_) (fun zcq263 => ?_)
      · exact absurd zcq263 (by omega)
      · refine z_iload hG dL_tins_266 rfl ?_
        refine z_if_le hG dL_tins_268 (tgt := 339) rfl (fun zcq268 => ?_) (fun zcq268 => ?_)
        · refine z_iconst hG dL_tins_339 rfl ?_
          refine z_iret hG hE dL_tins_340 (by first | exact Or.inl rfl | exact Or.inr rfl | (show _ ∨ _; omega)) ?_
          exact ⟨rfl, hQ⟩
        · have hc := zCe_bd (a := zPl0 m0 3 ni - zPl0 m0 4 ni) (b := m0 12 0 ni k) (by omega) (by omega)
          have ht := t6 (by omega) k (by omega) (by omega)
          have hm1 := zmulb (x := zCe (zPl0 m0 3 ni - zPl0 m0 4 ni) (m0 12 0 ni k)) (y := m0 13 0 ni k) (A := 103000) (B := 999) hc.1 (by omega) (by omega) hpr.2
          have hm2 : (zCe (zPl0 m0 3 ni - zPl0 m0 4 ni) (m0 12 0 ni k) - 1) * m0 12 0 ni k = zCe (zPl0 m0 3 ni - zPl0 m0 4 ni) (m0 12 0 ni k) * m0 12 0 ni k - m0 12 0 ni k := by rw [Int.sub_mul, Int.one_mul]
          have hm3 := Int.mul_nonneg hc.1 (show 0 ≤ m0 12 0 ni k by omega)
          refine z_iload hG dL_tins_271 rfl ?_
          refine z_aload_n (i := 0) hG dL_tins_273 rfl rfl ?_
          refine z_iload_n (i := 1) hG dL_tins_274 rfl rfl ?_
          refine z_iload hG dL_tins_275 rfl ?_
          refine z_iconst hG dL_tins_277 rfl ?_
          refine z_callV hG dL_tins_278 LV_L_129 (cqt_0 l g hI hB hQ (by omega) (by omega)) (by decide) rfl rfl rfl (Nat.le_of_ble_eq_true rfl) ?_
          intro v9 mm h9
          rw [h9.1]
          replace hQ := h9.2
          clear h9 v9
          refine z_callS hG dL_tins_281 LS_L_123 (ct_L_ceil l g (by omega) (by omega) (by omega)) (by decide) rfl rfl (Nat.le_of_ble_eq_true rfl) ?_
          intro v9 m9 h9
          rw [h9.1, h9.2]
          clear h9 m9 v9
          refine z_istore hG dL_tins_284 (by decide) (ls2 := [_, _, _, _, _, _, _, _, _, _, _]) rfl ?_
          refine z_iload hG dL_tins_286 rfl ?_
          refine z_aload_n (i := 0) hG dL_tins_288 rfl rfl ?_
          refine z_iload_n (i := 1) hG dL_tins_289 rfl rfl ?_
          refine z_iload hG dL_tins_290 rfl ?_
          refine z_iconst hG dL_tins_292 rfl ?_
          refine z_callV hG dL_tins_293 LV_L_129 (cqt_1 l g hI hB hQ (by omega) (by omega)) (by decide) rfl rfl rfl (Nat.le_of_ble_eq_true rfl) ?_
          intro v9 mm h9
          rw [h9.1]
          replace hQ := h9.2
          clear h9 v9
          refine z_imul hG dL_tins_296 (by omega) (by omega) ?_
          refine z_iload_n (i := 2) hG dL_tins_297 rfl rfl ?_
          refine z_icmp_lt hG dL_tins_298 (tgt := 331) rfl (fun zcq298 => ?_) (fun zcq298 => ?_)
          · exfalso; omega
          · refine z_iload hG dL_tins_301 rfl ?_
            refine z_aload_n (i := 0) hG dL_tins_303 rfl rfl ?_
            refine z_iload_n (i := 1) hG dL_tins_304 rfl rfl ?_
            refine z_iload hG dL_tins_305 rfl ?_
            refine z_iconst hG dL_tins_307 rfl ?_
            refine z_callV hG dL_tins_308 LV_L_129 (cqt_1 l g hI hB hQ (by omega) (by omega)) (by decide) rfl rfl rfl (Nat.le_of_ble_eq_true rfl) ?_
            intro v9 mm h9
            rw [h9.1]
            replace hQ := h9.2
            clear h9 v9
            refine z_imul hG dL_tins_311 (by omega) (by omega) ?_
            refine z_iload_n (i := 2) hG dL_tins_312 rfl rfl ?_
            refine z_icmp_ne hG dL_tins_313 (tgt := 333) rfl (fun zcq313 => ?_) (fun zcq313 => ?_)
            · refine z_iinc hG dL_tins_333 (by decide) rfl (by omega) (by omega) (ls2 := [_, _, _, _, _, _, _, _, _, _, _]) rfl ?_
              refine z_goto hG dL_tins_336 (tgt := 259) rfl ?_
              exact ih (k + 1) mm _ _ _ (by omega) hQ
            · refine z_iload hG dL_tins_316 rfl ?_
              refine z_aload_n (i := 0) hG dL_tins_318 rfl rfl ?_
              refine z_iload_n (i := 1) hG dL_tins_319 rfl rfl ?_
              refine z_iload hG dL_tins_320 rfl ?_
              refine z_iconst hG dL_tins_322 rfl ?_
              refine z_callV hG dL_tins_323 LV_L_129 (cqt_0 l g hI hB hQ (by omega) (by omega)) (by decide) rfl rfl rfl (Nat.le_of_ble_eq_true rfl) ?_
              intro v9 mm h9
              rw [h9.1]
              replace hQ := h9.2
              clear h9 v9
              refine z_imul hG dL_tins_326 (by omega) (by omega) ?_
              refine z_iload_n (i := 3) hG dL_tins_327 rfl rfl ?_
              refine z_icmp_ge hG dL_tins_328 (tgt := 333) rfl (fun zcq328 => ?_) (fun zcq328 => ?_)
              · refine z_iinc hG dL_tins_333 (by decide) rfl (by omega) (by omega) (ls2 := [_, _, _, _, _, _, _, _, _, _, _]) rfl ?_
                refine z_goto hG dL_tins_336 (tgt := 259) rfl ?_
                exact ih (k + 1) mm _ _ _ (by omega) hQ
              · exfalso; omega
  have loopU : ∀ (a b : Nat), a < n → b < n → (∀ (mm : zM) (v9 v10 : Option zV), zQ m0 mm → zZ X 233 [some (zr 0 0 0), some (zi ni), some (zi (zPl0 m0 7 ni)), some (zi (zPl0 m0 3 ni)), some (zi (m0 3 0 ni 2)), some (zi (zPl0 m0 4 ni)), some (zi a), some (zi b), some (zi 3), v9, v10] [] mm) → ∀ (N u : Nat) (mm : zM) (v9 v10 : Option zV), u + N = 3 → 1 ≤ u → zQ m0 mm → zZ X 140 [some (zr 0 0 0), some (zi ni), some (zi (zPl0 m0 7 ni)), some (zi (zPl0 m0 3 ni)), some (zi (m0 3 0 ni 2)), some (zi (zPl0 m0 4 ni)), some (zi a), some (zi b), some (zi u), v9, v10] [] mm := by
    intro a b ha hb HK N
    have hsa := k2 a (by omega) (by omega)
    have hpa := k3 a (by omega) (by omega)
    have hsb := k2 b (by omega) (by omega)
    have hpb := k3 b (by omega) (by omega)
    induction N with
    | zero =>
      intro u mm v9 v10 hun hu hQ
      have e3 : (u : Int) = 3 := by omega
      rw [e3]
      refine z_iload hG dL_tins_140 rfl ?_
      refine z_iconst hG dL_tins_142 rfl ?_
      refine z_icmp_ge hG dL_tins_143 (tgt := 233) rfl (fun zcq143 => ?_) (fun zcq143 => ?_)
      · exact HK mm v9 v10 hQ
      · exact absurd zcq143 (by omega)
    | succ N ih =>
      intro u mm v9 v10 hun hu hQ
      refine z_iload hG dL_tins_140 rfl ?_
      refine z_iconst hG dL_tins_142 rfl ?_
      refine z_icmp_ge hG dL_tins_143 (tgt := 233) rfl (fun zcq143 => ?_) (fun zcq143 => ?_)
      · exact absurd zcq143 (by omega)
      · refine z_iload hG dL_tins_146 rfl ?_
        refine z_iload hG dL_tins_148 rfl ?_
        refine z_icmp_eq hG dL_tins_150 (tgt := 227) rfl (fun zcq150 => ?_) (fun zcq150 => ?_)
        · refine z_iinc hG dL_tins_227 (by decide) rfl (by omega) (by omega) (ls2 := [_, _, _, _, _, _, _, _, _, _, _]) rfl ?_
          refine z_goto hG dL_tins_230 (tgt := 140) rfl ?_
          exact ih (u + 1) mm _ _ (by omega) (by omega) hQ
        · refine z_aload_n (i := 0) hG dL_tins_153 rfl rfl ?_
          refine z_iload_n (i := 1) hG dL_tins_154 rfl rfl ?_
          refine z_iload hG dL_tins_155 rfl ?_
          refine z_iconst hG dL_tins_157 rfl ?_
          refine z_callV hG dL_tins_158 LV_L_129 (cqx_2 l g hI hB hQ (by omega) (by omega)) (by decide) rfl rfl rfl (Nat.le_of_ble_eq_true rfl) ?_
          intro v9 mm h9
          rw [h9.1, ← hx]
          replace hQ := h9.2
          clear h9 v9
          refine z_iload hG dL_tins_161 rfl ?_
          refine z_icmp_ge hG dL_tins_163 (tgt := 169) rfl (fun zcq163 => ?_) (fun zcq163 => ?_)
          · have hm1 := zmulb (x := (u : Int)) (y := m0 12 0 ni a) (A := 2) (B := 2000) (by omega) (by omega) (by omega) (by omega)
            have hm2 := zmulb (x := (u : Int)) (y := m0 13 0 ni a) (A := 2) (B := 999) (by omega) (by omega) (by omega) (by omega)
            have h2 := t2 a (by omega) (by omega) (by omega)
            have hge : m0 12 0 ni a ≤ (u : Int) * m0 12 0 ni a := by have := Int.mul_le_mul_of_nonneg_right (show (1 : Int) ≤ u by omega) (show 0 ≤ m0 12 0 ni a by omega); omega
            have hc := zCe_bd (a := (u : Int) * m0 12 0 ni a - zPl0 m0 4 ni) (b := m0 12 0 ni b) (by omega) (by omega)
            have h5 := t5 a b u (by omega) (by omega) (by omega) (by omega) (by omega) (by omega) (by omega)
            have hm3 := zmulb (x := zCe ((u : Int) * m0 12 0 ni a - zPl0 m0 4 ni) (m0 12 0 ni b)) (y := m0 13 0 ni b) (A := 6000) (B := 999) hc.1 (by omega) (by omega) hpb.2
            refine z_iload hG dL_tins_169 rfl ?_
            refine z_aload_n (i := 0) hG dL_tins_171 rfl rfl ?_
            refine z_iload_n (i := 1) hG dL_tins_172 rfl rfl ?_
            refine z_iload hG dL_tins_173 rfl ?_
            refine z_iconst hG dL_tins_175 rfl ?_
            refine z_callV hG dL_tins_176 LV_L_129 (cqt_0 l g hI hB hQ (by omega) (by omega)) (by decide) rfl rfl rfl (Nat.le_of_ble_eq_true rfl) ?_
            intro v9 mm h9
            rw [h9.1]
            replace hQ := h9.2
            clear h9 v9
            refine z_imul hG dL_tins_179 (by omega) (by omega) ?_
            refine z_iload hG dL_tins_180 rfl ?_
            refine z_isub hG dL_tins_182 (by omega) (by omega) ?_
            refine z_istore hG dL_tins_183 (by decide) (ls2 := [_, _, _, _, _, _, _, _, _, _, _]) rfl ?_
            refine z_iload hG dL_tins_185 rfl ?_
            refine z_aload_n (i := 0) hG dL_tins_187 rfl rfl ?_
            refine z_iload_n (i := 1) hG dL_tins_188 rfl rfl ?_
            refine z_iload hG dL_tins_189 rfl ?_
            refine z_iconst hG dL_tins_191 rfl ?_
            refine z_callV hG dL_tins_192 LV_L_129 (cqt_0 l g hI hB hQ (by omega) (by omega)) (by decide) rfl rfl rfl (Nat.le_of_ble_eq_true rfl) ?_
            intro v9 mm h9
            rw [h9.1]
            replace hQ := h9.2
            clear h9 v9
            refine z_callS hG dL_tins_195 LS_L_123 (ct_L_ceil l g (by omega) (by omega) (by omega)) (by decide) rfl rfl (Nat.le_of_ble_eq_true rfl) ?_
            intro v9 m9 h9
            rw [h9.1, h9.2]
            clear h9 m9 v9
            refine z_istore hG dL_tins_198 (by decide) (ls2 := [_, _, _, _, _, _, _, _, _, _, _]) rfl ?_
            refine z_iload hG dL_tins_200 rfl ?_
            refine z_aload_n (i := 0) hG dL_tins_202 rfl rfl ?_
            refine z_iload_n (i := 1) hG dL_tins_203 rfl rfl ?_
            refine z_iload hG dL_tins_204 rfl ?_
            refine z_iconst hG dL_tins_206 rfl ?_
            refine z_callV hG dL_tins_207 LV_L_129 (cqt_1 l g hI hB hQ (by omega) (by omega)) (by decide) rfl rfl rfl (Nat.le_of_ble_eq_true rfl) ?_
            intro v9 mm h9
            rw [h9.1]
            replace hQ := h9.2
            clear h9 v9
            refine z_imul hG dL_tins_210 (by omega) (by omega) ?_
            refine z_iload hG dL_tins_211 rfl ?_
            refine z_aload_n (i := 0) hG dL_tins_213 rfl rfl ?_
            refine z_iload_n (i := 1) hG dL_tins_214 rfl rfl ?_
            refine z_iload hG dL_tins_215 rfl ?_
            refine z_iconst hG dL_tins_217 rfl ?_
            refine z_callV hG dL_tins_218 LV_L_129 (cqt_1 l g hI hB hQ (by omega) (by omega)) (by decide) rfl rfl rfl (Nat.le_of_ble_eq_true rfl) ?_
            intro v9 mm h9
            rw [h9.1]
            replace hQ := h9.2
            clear h9 v9
            refine z_imul hG dL_tins_221 (by omega) (by omega) ?_
            refine z_icmp_ge hG dL_tins_222 (tgt := 227) rfl (fun zcq222 => ?_) (fun zcq222 => ?_)
            · refine z_iinc hG dL_tins_227 (by decide) rfl (by omega) (by omega) (ls2 := [_, _, _, _, _, _, _, _, _, _, _]) rfl ?_
              refine z_goto hG dL_tins_230 (tgt := 140) rfl ?_
              exact ih (u + 1) mm _ _ (by omega) (by omega) hQ
            · exfalso; omega
          · refine z_goto hG dL_tins_166 (tgt := 227) rfl ?_
            refine z_iinc hG dL_tins_227 (by decide) rfl (by omega) (by omega) (ls2 := [_, _, _, _, _, _, _, _, _, _, _]) rfl ?_
            refine z_goto hG dL_tins_230 (tgt := 140) rfl ?_
            exact ih (u + 1) mm _ _ (by omega) (by omega) hQ
  have loopB : ∀ (a : Nat), a < n → (∀ (mm : zM) (v8 v9 v10 : Option zV), zQ m0 mm → zZ X 239 [some (zr 0 0 0), some (zi ni), some (zi (zPl0 m0 7 ni)), some (zi (zPl0 m0 3 ni)), some (zi (m0 3 0 ni 2)), some (zi (zPl0 m0 4 ni)), some (zi a), some (zi (m0 3 0 ni 2)), v8, v9, v10] [] mm) → ∀ (N b : Nat) (mm : zM) (v8 v9 v10 : Option zV), b + N = n → zQ m0 mm → zZ X 130 [some (zr 0 0 0), some (zi ni), some (zi (zPl0 m0 7 ni)), some (zi (zPl0 m0 3 ni)), some (zi (m0 3 0 ni 2)), some (zi (zPl0 m0 4 ni)), some (zi a), some (zi b), v8, v9, v10] [] mm := by
    intro a ha HK N
    induction N with
    | zero =>
      intro b mm v8 v9 v10 hbn hQ
      have e3 : (b : Int) = m0 3 0 ni 2 := by omega
      rw [e3]
      refine z_iload hG dL_tins_130 rfl ?_
      refine z_iload hG dL_tins_132 rfl ?_
      refine z_icmp_ge hG dL_tins_134 (tgt := 239) rfl (fun zcq134 => ?_) (fun zcq134 => ?_)
      · exact HK mm v8 v9 v10 hQ
      · exact absurd zcq134 (by omega)
    | succ N ih =>
      intro b mm v8 v9 v10 hbn hQ
      refine z_iload hG dL_tins_130 rfl ?_
      refine z_iload hG dL_tins_132 rfl ?_
      refine z_icmp_ge hG dL_tins_134 (tgt := 239) rfl (fun zcq134 => ?_) (fun zcq134 => ?_)
      · exact absurd zcq134 (by omega)
      · refine z_iconst hG dL_tins_137 rfl ?_
        refine z_istore hG dL_tins_138 (by decide) (ls2 := [_, _, _, _, _, _, _, _, _, _, _]) rfl ?_
        exact loopU a b ha (by omega) (fun mm v9 v10 hQ => by
          refine z_iinc hG dL_tins_233 (by decide) rfl (by omega) (by omega) (ls2 := [_, _, _, _, _, _, _, _, _, _, _]) rfl ?_
          refine z_goto hG dL_tins_236 (tgt := 130) rfl ?_
          exact ih (b + 1) mm _ _ _ (by omega) hQ) 2 1 mm _ _ rfl (by omega) hQ
  have loopA : ∀ (N a : Nat) (mm : zM) (v7 v8 v9 v10 : Option zV), a + N = n → zQ m0 mm → zZ X 120 [some (zr 0 0 0), some (zi ni), some (zi (zPl0 m0 7 ni)), some (zi (zPl0 m0 3 ni)), some (zi (m0 3 0 ni 2)), some (zi (zPl0 m0 4 ni)), some (zi a), v7, v8, v9, v10] [] mm := by
    intro N
    induction N with
    | zero =>
      intro a mm v7 v8 v9 v10 han hQ
      refine z_iload hG dL_tins_120 rfl ?_
      refine z_iload hG dL_tins_122 rfl ?_
      refine z_icmp_ge hG dL_tins_124 (tgt := 245) rfl (fun zcq124 => ?_) (fun zcq124 => ?_)
      · refine z_aload_n (i := 0) hG dL_tins_245 rfl rfl ?_
        refine z_iload_n (i := 1) hG dL_tins_246 rfl rfl ?_
        refine z_iconst hG dL_tins_247 rfl ?_
        refine z_callV hG dL_tins_248 LV_L_118 (cqn_3 l g hI hB hQ (by omega)) (by decide) rfl rfl rfl (Nat.le_of_ble_eq_true rfl) ?_
        intro v9 mm h9
        rw [h9.1]
        replace hQ := h9.2
        clear h9 v9
        refine z_iload hG dL_tins_251 rfl ?_
        refine z_isub hG dL_tins_253 (by omega) (by omega) ?_
        refine z_istore hG dL_tins_254 (by decide) (ls2 := [_, _, _, _, _, _, _, _, _, _, _]) rfl ?_
        refine z_iconst hG dL_tins_256 rfl ?_
        refine z_istore hG dL_tins_257 (by decide) (ls2 := [_, _, _, _, _, _, _, _, _, _, _]) rfl ?_
        exact loop3 n 0 mm _ _ _ (by omega) hQ
      · exact absurd zcq124 (by omega)
    | succ N ih =>
      intro a mm v7 v8 v9 v10 han hQ
      refine z_iload hG dL_tins_120 rfl ?_
      refine z_iload hG dL_tins_122 rfl ?_
      refine z_icmp_ge hG dL_tins_124 (tgt := 245) rfl (fun zcq124 => ?_) (fun zcq124 => ?_)
      · exact absurd zcq124 (by omega)
      · refine z_iconst hG dL_tins_127 rfl ?_
        refine z_istore hG dL_tins_128 (by decide) (ls2 := [_, _, _, _, _, _, _, _, _, _, _]) rfl ?_
        exact loopB a (by omega) (fun mm v8 v9 v10 hQ => by
          refine z_iinc hG dL_tins_239 (by decide) rfl (by omega) (by omega) (ls2 := [_, _, _, _, _, _, _, _, _, _, _]) rfl ?_
          refine z_goto hG dL_tins_242 (tgt := 120) rfl ?_
          exact ih (a + 1) mm _ _ _ _ (by omega) hQ) n 0 mm _ _ _ (by omega) hQ
  have loop1 : ∀ (N k : Nat) (mm : zM) (v7 v8 v9 v10 : Option zV), k + N = n → zQ m0 mm → zZ X 23 [some (zr 0 0 0), some (zi ni), some (zi (zsum k (fun j => x j * m0 13 0 ni j))), some (zi (zsum k (fun j => x j * m0 12 0 ni j))), some (zi (m0 3 0 ni 2)), some (zi (zPl0 m0 4 ni)), some (zi k), v7, v8, v9, v10] [] mm := by
    intro N
    induction N with
    | zero =>
      intro k mm v7 v8 v9 v10 hkn hQ
      have e3 : k = n := by omega
      subst e3
      rw [sp, ss]
      refine z_iload hG dL_tins_23 rfl ?_
      refine z_iload hG dL_tins_25 rfl ?_
      refine z_icmp_ge hG dL_tins_27 (tgt := 94) rfl (fun zcq27 => ?_) (fun zcq27 => ?_)
      · refine z_iload_n (i := 2) hG dL_tins_94 rfl rfl ?_
        refine z_aload_n (i := 0) hG dL_tins_95 rfl rfl ?_
        refine z_iload_n (i := 1) hG dL_tins_96 rfl rfl ?_
        refine z_bipush hG dL_tins_97 rfl ?_
        refine z_callV hG dL_tins_99 LV_L_118 (cqn_7 l g hI hB hQ (by omega)) (by decide) rfl rfl rfl (Nat.le_of_ble_eq_true rfl) ?_
        intro v9 mm h9
        rw [h9.1]
        replace hQ := h9.2
        clear h9 v9
        refine z_icmp_ne hG dL_tins_102 (tgt := 115) rfl (fun zcq102 => ?_) (fun zcq102 => ?_)
        · exact absurd rfl zcq102
        · refine z_iload_n (i := 3) hG dL_tins_105 rfl rfl ?_
          refine z_aload_n (i := 0) hG dL_tins_106 rfl rfl ?_
          refine z_iload_n (i := 1) hG dL_tins_107 rfl rfl ?_
          refine z_iconst hG dL_tins_108 rfl ?_
          refine z_callV hG dL_tins_109 LV_L_118 (cqn_3 l g hI hB hQ (by omega)) (by decide) rfl rfl rfl (Nat.le_of_ble_eq_true rfl) ?_
          intro v9 mm h9
          rw [h9.1]
          replace hQ := h9.2
          clear h9 v9
          refine z_icmp_eq hG dL_tins_112 (tgt := 117) rfl (fun zcq112 => ?_) (fun zcq112 => ?_)
          · refine z_iconst hG dL_tins_117 rfl ?_
            refine z_istore hG dL_tins_118 (by decide) (ls2 := [_, _, _, _, _, _, _, _, _, _, _]) rfl ?_
            exact loopA k 0 mm _ _ _ _ (by omega) hQ
          · exact absurd rfl zcq112
      · exact absurd zcq27 (by omega)
    | succ N ih =>
      intro k mm v7 v8 v9 v10 hkn hQ
      have b1 := bp k (by omega)
      have b2 := bs k (by omega)
      have h2 := t2 k (by omega) (by omega)
      refine z_iload hG dL_tins_23 rfl ?_
      refine z_iload hG dL_tins_25 rfl ?_
      refine z_icmp_ge hG dL_tins_27 (tgt := 94) rfl (fun zcq27 => ?_) (fun zcq27 => ?_)
      · exact absurd zcq27 (by omega)
      · refine z_aload_n (i := 0) hG dL_tins_30 rfl rfl ?_
        refine z_iload_n (i := 1) hG dL_tins_31 rfl rfl ?_
        refine z_iload hG dL_tins_32 rfl ?_
        refine z_iconst hG dL_tins_34 rfl ?_
        refine z_callV hG dL_tins_35 LV_L_129 (cqx_2 l g hI hB hQ (by omega) (by omega)) (by decide) rfl rfl rfl (Nat.le_of_ble_eq_true rfl) ?_
        intro v9 mm h9
        rw [h9.1, ← hx]
        replace hQ := h9.2
        clear h9 v9
        refine z_istore hG dL_tins_38 (by decide) (ls2 := [_, _, _, _, _, _, _, _, _, _, _]) rfl ?_
        refine z_iload_n (i := 2) hG dL_tins_40 rfl rfl ?_
        refine z_iload hG dL_tins_41 rfl ?_
        refine z_aload_n (i := 0) hG dL_tins_43 rfl rfl ?_
        refine z_iload_n (i := 1) hG dL_tins_44 rfl rfl ?_
        refine z_iload hG dL_tins_45 rfl ?_
        refine z_iconst hG dL_tins_47 rfl ?_
        refine z_callV hG dL_tins_48 LV_L_129 (cqt_1 l g hI hB hQ (by omega) (by omega)) (by decide) rfl rfl rfl (Nat.le_of_ble_eq_true rfl) ?_
        intro v9 mm h9
        rw [h9.1]
        replace hQ := h9.2
        clear h9 v9
        refine z_imul hG dL_tins_51 (by omega) (by omega) ?_
        refine z_iadd hG dL_tins_52 (by omega) (by omega) ?_
        refine z_istore_n (i := 2) hG dL_tins_53 rfl (by decide) (ls2 := [_, _, _, _, _, _, _, _, _, _, _]) rfl ?_
        refine z_iload_n (i := 3) hG dL_tins_54 rfl rfl ?_
        refine z_iload hG dL_tins_55 rfl ?_
        refine z_aload_n (i := 0) hG dL_tins_57 rfl rfl ?_
        refine z_iload_n (i := 1) hG dL_tins_58 rfl rfl ?_
        refine z_iload hG dL_tins_59 rfl ?_
        refine z_iconst hG dL_tins_61 rfl ?_
        refine z_callV hG dL_tins_62 LV_L_129 (cqt_0 l g hI hB hQ (by omega) (by omega)) (by decide) rfl rfl rfl (Nat.le_of_ble_eq_true rfl) ?_
        intro v9 mm h9
        rw [h9.1]
        replace hQ := h9.2
        clear h9 v9
        refine z_imul hG dL_tins_65 (by omega) (by omega) ?_
        refine z_iadd hG dL_tins_66 (by omega) (by omega) ?_
        refine z_istore_n (i := 3) hG dL_tins_67 rfl (by decide) (ls2 := [_, _, _, _, _, _, _, _, _, _, _]) rfl ?_
        refine z_iload hG dL_tins_68 rfl ?_
        refine z_if_le hG dL_tins_70 (tgt := 88) rfl (fun zcq70 => ?_) (fun zcq70 => ?_)
        · refine z_iinc hG dL_tins_88 (by decide) rfl (by omega) (by omega) (ls2 := [_, _, _, _, _, _, _, _, _, _, _]) rfl ?_
          refine z_goto hG dL_tins_91 (tgt := 23) rfl ?_
          exact ih (k + 1) mm _ _ _ _ (by omega) hQ
        · refine z_iload hG dL_tins_73 rfl ?_
          refine z_aload_n (i := 0) hG dL_tins_75 rfl rfl ?_
          refine z_iload_n (i := 1) hG dL_tins_76 rfl rfl ?_
          refine z_iload hG dL_tins_77 rfl ?_
          refine z_iconst hG dL_tins_79 rfl ?_
          refine z_callV hG dL_tins_80 LV_L_129 (cqt_0 l g hI hB hQ (by omega) (by omega)) (by decide) rfl rfl rfl (Nat.le_of_ble_eq_true rfl) ?_
          intro v9 mm h9
          rw [h9.1]
          replace hQ := h9.2
          clear h9 v9
          refine z_icmp_lt hG dL_tins_83 (tgt := 88) rfl (fun zcq83 => ?_) (fun zcq83 => ?_)
          · refine z_iinc hG dL_tins_88 (by decide) rfl (by omega) (by omega) (ls2 := [_, _, _, _, _, _, _, _, _, _, _]) rfl ?_
            refine z_goto hG dL_tins_91 (tgt := 23) rfl ?_
            exact ih (k + 1) mm _ _ _ _ (by omega) hQ
          · exfalso; omega
  refine z_iconst hG dL_tins_0 rfl ?_
  refine z_istore_n (i := 2) hG dL_tins_1 rfl (by decide) (ls2 := [_, _, _, _, _, _, _, _, _, _, _]) rfl ?_
  refine z_iconst hG dL_tins_2 rfl ?_
  refine z_istore_n (i := 3) hG dL_tins_3 rfl (by decide) (ls2 := [_, _, _, _, _, _, _, _, _, _, _]) rfl ?_
  refine z_aload_n (i := 0) hG dL_tins_4 rfl rfl ?_
  refine z_iload_n (i := 1) hG dL_tins_5 rfl rfl ?_
  refine z_iconst hG dL_tins_6 rfl ?_
  refine z_callV hG dL_tins_7 LV_L_96 (cqa_2 l g hI hB hQ (by omega)) (by decide) rfl rfl rfl (Nat.le_of_ble_eq_true rfl) ?_
  intro v9 mm h9
  rw [h9.1]
  replace hQ := h9.2
  clear h9 v9
  refine z_istore hG dL_tins_10 (by decide) (ls2 := [_, _, _, _, _, _, _, _, _, _, _]) rfl ?_
  refine z_aload_n (i := 0) hG dL_tins_12 rfl rfl ?_
  refine z_iload_n (i := 1) hG dL_tins_13 rfl rfl ?_
  refine z_iconst hG dL_tins_14 rfl ?_
  refine z_callV hG dL_tins_15 LV_L_118 (cqn_4 l g hI hB hQ (by omega)) (by decide) rfl rfl rfl (Nat.le_of_ble_eq_true rfl) ?_
  intro v9 mm h9
  rw [h9.1]
  replace hQ := h9.2
  clear h9 v9
  refine z_istore hG dL_tins_18 (by decide) (ls2 := [_, _, _, _, _, _, _, _, _, _, _]) rfl ?_
  refine z_iconst hG dL_tins_20 rfl ?_
  refine z_istore hG dL_tins_21 (by decide) (ls2 := [_, _, _, _, _, _, _, _, _, _, _]) rfl ?_
  exact loop1 n 0 mm _ _ _ _ (by omega) hQ
