set_option maxRecDepth 20000 in
theorem ct_X11_recipe (l : Launch) (g : zG) {a m : zM} {B : Int} (hI : zInv B a) (hB : B ≤ 11900000) (hR : zRM a m) : zMet l g Y_X11_recipe [zr 11 0 0] m (fun v m' => v = some (zi (zk_recipe a).1) ∧ zRM (zk_recipe a).2 m' ∧ zKt m' m) := by
  refine zMet_introF (by decide +kernel) (Nat.le_of_ble_eq_true rfl) (ls0 := [some (zr 11 0 0), none, none]) rfl fun X hG hE => ?_
  have hG : zGood X l g RX11 cX11_recipe 4 3 := hG
  have hE : zEnd X (some .int) _ := hE
  have hI0 := zInv0 hI
  obtain ⟨hday, hhan, hing, hrcp, hrec, hboo, hrow, hrow2, hstp⟩ := id hI0
  obtain ⟨A1, hA1⟩ : ∃ A1, A1 = zRdm a := ⟨_, rfl⟩
  have hq : ∀ (t : Nat) (s i k : Int), t ≠ 7 → (s ≠ 9 ∨ (t ≠ 4 ∧ t ≠ 5 ∧ t ≠ 17)) → A1 t s i k = a t s i k := fun t s i k h1 h2 => by rw [hA1]; exact zRdm_o h1 (by omega)
  refine z_aload_n (i := 0) hG dX11_recipe_0 rfl rfl ?_
  refine z_callV hG dX11_recipe_1 LV_X11_243 (ct_X11_fault l g hI hR) (by decide) rfl rfl rfl (Nat.le_of_ble_eq_true rfl) ?_
  intro v9 m1 h9
  obtain ⟨h9a, hR1, hkt1, hsy⟩ := h9
  rw [h9a]
  clear h9a v9
  rw [← hA1] at hR1 hsy
  have e1 : m1 45 0 0 1 = a 2 0 0 4 := by rw [hR1.1.2.1, hq 2 0 0 4 (by decide) (by decide)]
  have e2 : m1 45 0 0 2 = a 2 0 0 5 := by rw [hR1.1.2.2.1, hq 2 0 0 5 (by decide) (by decide)]
  have hz := zgt_iff (f := zRdm a 17 9 0) (a := a 2 0 0 4) hing.1 8
  refine z_bipush hG dX11_recipe_4 rfl ?_
  refine z_icmp_eq hG dX11_recipe_6 (tgt := 12) rfl (fun zcq6 => ?_) (fun zcq6 => ?_)
  · refine z_aload_n (i := 0) hG dX11_recipe_12 rfl rfl ?_
    refine z_get_11_0 hG dX11_recipe_13 FL_X11_7 ?_
    refine z_iconst hG dX11_recipe_16 rfl ?_
    refine z_iald hG dX11_recipe_17 rfl rfl (by omega) (by omega) ?_
    rw [e2]
    refine z_iconst hG dX11_recipe_18 rfl ?_
    refine z_icmp_ne hG dX11_recipe_19 (tgt := 25) rfl (fun zcq19 => ?_) (fun zcq19 => ?_)
    · refine z_aload_n (i := 0) hG dX11_recipe_25 rfl rfl ?_
      refine z_get_11_0 hG dX11_recipe_26 FL_X11_7 ?_
      refine z_iconst hG dX11_recipe_29 rfl ?_
      refine z_iald hG dX11_recipe_30 rfl rfl (by omega) (by omega) ?_
      rw [e1]
      refine z_istore_n (i := 1) hG dX11_recipe_31 rfl (by decide) (ls2 := [_, _, _]) rfl ?_
      have hf6 : zFlt a = -6 := by omega
      have hs := hsy hf6
      obtain ⟨r, hr⟩ : ∃ r, r = a 2 0 0 5 := ⟨_, rfl⟩
      have hr4 : 0 ≤ r ∧ r < 4 := by omega
      have good : ¬ (zgt (zRdm a 17 9 0) (a 2 0 0 4) 8 = true) → ∀ l1 : Option zV, zZ X 56 [some (zr 11 0 0), l1, none] [] m1 := by
        intro hng l1
        refine z_aload_n (i := 0) hG dX11_recipe_56 rfl rfl ?_
        refine z_callV hG dX11_recipe_57 LV_X11_80 (ct_X11_keep l g (by rw [hR1.2.1, hq 1 0 0 0 (by decide) (by decide)]; exact hI.1.2)) (by decide) rfl rfl rfl (Nat.le_of_ble_eq_true rfl) ?_
        intro v9 m9 h9
        rw [h9.1, h9.2]
        clear h9 m9 v9
        have hK1 := zRM_keep (a := A1) (m := m1) (by rw [hq 1 0 0 1 (by decide) (by decide)]; exact hI.1.1) (by rw [hq 1 0 0 0 (by decide) (by decide)]; exact hI.1.2) (fun s s0 s1 => by rw [hq 2 s 0 0 (by decide) (by omega)]; exact (hI.2.2.1 s s0 s1).1.1) hR1
        have hkt : zKt (zkp m1) m := zKt_tr zKt_kp hkt1
        have hno : ∀ (t : Nat) (q : Int), t ≠ 46 → (t ≠ 11 ∨ q ≠ 2) → zkp m1 t 0 0 q = m1 t 0 0 q := fun t q h1 h2 => zkp_o h1 h2
        have hn2 : zkp m1 45 0 0 2 = r := by rw [hno 45 2 (by decide) (by decide), e2, hr]
        have hn27 : zkp m1 11 0 0 27 = A1 4 9 0 0 := by rw [hno 11 27 (by decide) (by decide), hs.1]
        have hn30 : zkp m1 11 0 0 30 = A1 4 9 0 2 := by rw [hno 11 30 (by decide) (by decide), hs.2.1]
        have hn62 : ∀ k : Int, 0 ≤ k → k < 8 → zkp m1 62 0 0 k = A1 17 9 0 k := fun k k0 k1 => by rw [hno 62 k (by decide) (by omega), hs.2.2.2.1 k k0 k1]
        have hn63 : ∀ k w : Int, 0 ≤ k → k < A1 4 9 0 2 → 0 ≤ w → w < 4 → zkp m1 63 0 0 (4 * k + w) = A1 5 9 k w := fun k w k0 k1 w0 w1 => by rw [hno 63 _ (by decide) (by omega), hs.2.2.2.2.1 k w k0 k1 w0 w1]
        clear hno
        generalize zkp m1 = n at *
        refine z_okM fun hMn => ?_
        refine z_sipush hG dX11_recipe_60 rfl ?_
        refine z_bipush hG dX11_recipe_63 rfl ?_
        refine z_aload_n (i := 0) hG dX11_recipe_65 rfl rfl ?_
        refine z_get_11_0 hG dX11_recipe_66 FL_X11_7 ?_
        refine z_iconst hG dX11_recipe_69 rfl ?_
        refine z_iald hG dX11_recipe_70 rfl rfl (by omega) (by omega) ?_
        rw [hn2]
        refine z_imul hG dX11_recipe_71 (by omega) (by omega) ?_
        refine z_iadd hG dX11_recipe_72 (by omega) (by omega) ?_
        refine z_istore_n (i := 1) hG dX11_recipe_73 rfl (by decide) (ls2 := [_, _, _]) rfl ?_
        refine z_aload_n (i := 0) hG dX11_recipe_74 rfl rfl ?_
        refine z_get_11_0 hG dX11_recipe_75 FL_X11_7 ?_
        refine z_iconst hG dX11_recipe_78 rfl ?_
        refine z_dup2 hG dX11_recipe_79 ?_
        refine z_iald hG dX11_recipe_80 rfl rfl (by omega) (by omega) ?_
        rw [hn2]
        refine z_iconst hG dX11_recipe_81 rfl ?_
        refine z_iadd hG dX11_recipe_82 (by omega) (by omega) ?_
        refine z_iast hG dX11_recipe_83 rfl rfl (by omega) (by omega) ?_
        refine z_aload_n (i := 0) hG dX11_recipe_84 rfl rfl ?_
        refine z_get_11_0 hG dX11_recipe_85 FL_X11_7 ?_
        refine z_iload_n (i := 1) hG dX11_recipe_88 rfl rfl ?_
        refine z_iconst hG dX11_recipe_89 rfl ?_
        refine z_iadd hG dX11_recipe_90 (by omega) (by omega) ?_
        refine z_aload_n (i := 0) hG dX11_recipe_91 rfl rfl ?_
        refine z_getI hG dX11_recipe_92 FL_X11_234 rfl rfl (kk := 27) rfl ?_
        rw [show ∀ v : Int, zset n 45 0 0 2 v 11 0 0 27 = A1 4 9 0 0 from fun v => by rw [← hn27]; simp [zset]]
        refine z_iast hG dX11_recipe_95 rfl rfl (by omega) (by omega) ?_
        refine z_aload_n (i := 0) hG dX11_recipe_96 rfl rfl ?_
        refine z_get_11_0 hG dX11_recipe_97 FL_X11_7 ?_
        refine z_iload_n (i := 1) hG dX11_recipe_100 rfl rfl ?_
        refine z_iconst hG dX11_recipe_101 rfl ?_
        refine z_iadd hG dX11_recipe_102 (by omega) (by omega) ?_
        refine z_aload_n (i := 0) hG dX11_recipe_103 rfl rfl ?_
        refine z_getI hG dX11_recipe_104 FL_X11_228 rfl rfl (kk := 30) rfl ?_
        rw [show ∀ u v w : Int, zset (zset n 45 0 0 2 v) 45 0 0 w u 11 0 0 30 = A1 4 9 0 2 from fun u v w => by rw [← hn30]; simp [zset]]
        refine z_iast hG dX11_recipe_107 rfl rfl (by omega) (by omega) ?_
        refine z_aload_n (i := 0) hG dX11_recipe_108 rfl rfl ?_
        refine z_get_11_0 hG dX11_recipe_109 FL_X11_7 ?_
        refine z_iload_n (i := 1) hG dX11_recipe_112 rfl rfl ?_
        refine z_iconst hG dX11_recipe_113 rfl ?_
        refine z_iadd hG dX11_recipe_114 (by omega) (by omega) ?_
        refine z_iconst hG dX11_recipe_115 rfl ?_
        refine z_iast hG dX11_recipe_116 rfl rfl (by omega) (by omega) ?_
        refine z_iconst hG dX11_recipe_117 rfl ?_
        refine z_istore_n (i := 2) hG dX11_recipe_118 rfl (by decide) (ls2 := [_, _, _]) rfl ?_
        have hst8 : 0 ≤ A1 4 9 0 2 ∧ A1 4 9 0 2 ≤ 8 := hs.2.2.2.2.2
        have loop2 : ∀ (K k : Nat) (M : zM), (k : Int) + K = 4 * A1 4 9 0 2 → (∀ (t : Nat) (s j q : Int), (t ≠ 45 ∨ ((q < 374 + 43 * r ∨ 417 + 43 * r ≤ q) ∧ q ≠ 2)) → M t s j q = n t s j q) → M 45 0 0 2 = r + 1 → M 45 0 0 (374 + 43 * r) = A1 4 9 0 0 → M 45 0 0 (374 + 43 * r + 1) = A1 4 9 0 2 → M 45 0 0 (374 + 43 * r + 2) = 0 → (∀ j : Int, 0 ≤ j → j < 8 → M 45 0 0 (374 + 43 * r + (3 + j)) = A1 17 9 0 j) → (∀ j : Int, 0 ≤ j → j < k → M 45 0 0 (374 + 43 * r + (11 + j)) = n 63 0 0 j) → zZ X 149 [some (zr 11 0 0), some (zi (374 + 43 * r)), some (zi k)] [] M := by
          intro K
          induction K with
          | zero =>
            intro k M hk ho h2 h0 h1 h3 ha hst
            refine z_iload_n (i := 2) hG dX11_recipe_149 rfl rfl ?_
            refine z_iconst hG dX11_recipe_150 rfl ?_
            refine z_aload_n (i := 0) hG dX11_recipe_151 rfl rfl ?_
            refine z_getI hG dX11_recipe_152 FL_X11_228 rfl rfl (kk := 30) rfl ?_
            rw [ho 11 0 0 30 (by omega), hn30]
            refine z_imul hG dX11_recipe_155 (by omega) (by omega) ?_
            refine z_icmp_ge hG dX11_recipe_156 (tgt := 182) rfl (fun zcq156 => ?_) (fun zcq156 => ?_)
            · refine z_aload_n (i := 0) hG dX11_recipe_182 rfl rfl ?_
              refine z_iconst hG dX11_recipe_183 rfl ?_
              refine z_put hG dX11_recipe_184 FP_X11_215 rfl rfl (kk := 6) rfl ?_
              refine z_aload_n (i := 0) hG dX11_recipe_187 rfl rfl ?_
              refine z_get_11_0 hG dX11_recipe_188 FL_X11_7 ?_
              refine z_iconst hG dX11_recipe_191 rfl ?_
              refine z_iald hG dX11_recipe_192 rfl rfl (by omega) (by omega) ?_
              rw [show ∀ v : Int, zset M 11 0 0 6 v 45 0 0 2 = r + 1 from fun v => by rw [← h2]; simp [zset]]
              refine z_iconst hG dX11_recipe_193 rfl ?_
              refine z_isub hG dX11_recipe_194 (by omega) (by omega) ?_
              refine z_iret hG hE dX11_recipe_195 trivial ?_
              have hkv : zk_recipe a = (r, zset (zset (zcR (zrecd A1) 0 r 9 0 8) 2 0 0 5 (r + 1)) 6 0 0 0 0) := by
                rw [zk_recipe, if_neg (by omega), if_neg (by omega), if_neg hng, ← hA1, ← hr]
              rw [hkv]
              obtain ⟨b, hb⟩ : ∃ b, b = zrecd A1 := ⟨_, rfl⟩
              rw [← hb] at hK1 ⊢
              have hb9 : ∀ (t : Nat) (i k : Int), b t 9 i k = A1 t 9 i k := fun t i k => by rw [hb]; exact zrecd_7 (by rw [hq 1 0 0 1 (by decide) (by decide)]; exact hI.1.1.1) (by decide)
              have hb25 : b 2 0 0 5 = r := by rw [hb, zrecd_0 (by rw [hq 1 0 0 1 (by decide) (by decide)]; exact hI.1.1.1) (by decide), hq 2 0 0 5 (by decide) (by decide), hr]
              have hC : ∀ (t : Nat) (s i k : Int), (s ≠ 0 ∨ (t = 2 ∧ k ≠ 5) ∨ (t ≠ 2 ∧ t ≠ 4 ∧ t ≠ 5 ∧ t ≠ 17) ∨ ((t = 4 ∨ t = 17) ∧ i ≠ r) ∨ (t = 5 ∧ (i < 8 * r ∨ 8 * r + 8 ≤ i))) → zset (zcR b 0 r 9 0 8) 2 0 0 5 (r + 1) t s i k = b t s i k := fun t s i k hh => by
                simp only [zset, zcR]
                rw [if_neg (by omega), if_neg (by omega), if_neg (by omega)]
              have hC25 : zset (zcR b 0 r 9 0 8) 2 0 0 5 (r + 1) 2 0 0 5 = r + 1 := by simp [zset]
              have hC4 : ∀ k : Int, 0 ≤ k → k < 3 → zset (zcR b 0 r 9 0 8) 2 0 0 5 (r + 1) 4 0 r k = A1 4 9 0 k := fun k k0 k1 => by
                rw [← hb9]
                simp only [zset, zcR]
                rw [if_neg (by omega), if_pos (by simp; omega)]
              have hC17 : ∀ k : Int, 0 ≤ k → k < 8 → zset (zcR b 0 r 9 0 8) 2 0 0 5 (r + 1) 17 0 r k = A1 17 9 0 k := fun k k0 k1 => by
                rw [← hb9]
                simp only [zset, zcR]
                rw [if_neg (by omega), if_pos (by simp; omega)]
              have hC5 : ∀ k w : Int, 0 ≤ k → k < 8 → 0 ≤ w → w < 4 → zset (zcR b 0 r 9 0 8) 2 0 0 5 (r + 1) 5 0 (8 * r + k) w = A1 5 9 k w := fun k w k0 k1 w0 w1 => by
                rw [← hb9]
                simp only [zset, zcR]
                rw [if_neg (by omega), if_neg (by omega), if_pos (by simp; omega)]
                congr 1
                omega
              obtain ⟨C, hCe⟩ : ∃ C, C = zset (zcR b 0 r 9 0 8) 2 0 0 5 (r + 1) := ⟨_, rfl⟩
              rw [← hCe] at hC hC25 hC4 hC17 hC5 ⊢
              have hRC : zRM C M := by
                refine zRM_now hK1 (fun t s i k hh => hC t s i k (by omega)) (fun t k hh => ho t 0 0 k (by omega)) (zRel_r r hr4.1 hK1.1 (fun q q1 q2 => ho 45 0 0 q (by omega)) (fun t i k hh => hC t 0 i k (by omega)) (by rw [h2, hC25]) (fun q q1 q2 => by rw [hC25] at q2; rw [hb25]; omega) (fun _ _ => ?_))
                rw [zRr, hC4 0 (by decide) (by decide), hC4 1 (by decide) (by decide), hC4 2 (by decide) (by decide)]
                refine ⟨h0, h1, by rw [h3, hs.2.2.1], fun k k0 k1 => by rw [hC17 k k0 k1]; exact ha k k0 k1, fun k w k0 k1 k2 w0 w1 => ?_⟩
                rw [hC5 k w k0 k1 w0 w1, ← hn63 k w k0 k2 w0 w1, ← hst (4 * k + w) (by omega) (by omega)]
                congr 1
                omega
              refine ⟨by simp, zRM_pad hRC (fun t s i k q1 q2 => by simp only [zset]; rw [if_neg (by simp only [zrt] at q2; omega)]) (fun t k hh => by simp only [zset]; rw [if_neg (by omega)]) (by simp [zset]) (fun j j0 j1 => by simp [zset] at j1; omega), fun t s i k q1 q2 => ?_⟩
              simp only [zset]
              rw [if_neg (by omega), ho t s i k (by omega)]
              exact hkt t s i k q1 q2
            · exact absurd zcq156 (by omega)
          | succ K ih =>
            intro k M hk ho h2 h0 h1 h3 ha hst
            refine z_iload_n (i := 2) hG dX11_recipe_149 rfl rfl ?_
            refine z_iconst hG dX11_recipe_150 rfl ?_
            refine z_aload_n (i := 0) hG dX11_recipe_151 rfl rfl ?_
            refine z_getI hG dX11_recipe_152 FL_X11_228 rfl rfl (kk := 30) rfl ?_
            rw [ho 11 0 0 30 (by omega), hn30]
            refine z_imul hG dX11_recipe_155 (by omega) (by omega) ?_
            refine z_icmp_ge hG dX11_recipe_156 (tgt := 182) rfl (fun zcq156 => ?_) (fun zcq156 => ?_)
            · exact absurd zcq156 (by omega)
            · refine z_aload_n (i := 0) hG dX11_recipe_159 rfl rfl ?_
              refine z_get_11_0 hG dX11_recipe_160 FL_X11_7 ?_
              refine z_iload_n (i := 1) hG dX11_recipe_163 rfl rfl ?_
              refine z_bipush hG dX11_recipe_164 rfl ?_
              refine z_iadd hG dX11_recipe_166 (by omega) (by omega) ?_
              refine z_iload_n (i := 2) hG dX11_recipe_167 rfl rfl ?_
              refine z_iadd hG dX11_recipe_168 (by omega) (by omega) ?_
              refine z_aload_n (i := 0) hG dX11_recipe_169 rfl rfl ?_
              refine z_get_11_29 hG dX11_recipe_170 FL_X11_65 ?_
              refine z_iload_n (i := 2) hG dX11_recipe_173 rfl rfl ?_
              refine z_iald hG dX11_recipe_174 rfl rfl (by omega) (by omega) ?_
              rw [ho 63 0 0 k (by omega)]
              refine z_iast hG dX11_recipe_175 rfl rfl (by omega) (by omega) ?_
              refine z_iinc hG dX11_recipe_176 (by decide) rfl (by omega) (by omega) (ls2 := [_, _, _]) rfl ?_
              refine z_goto hG dX11_recipe_179 (tgt := 149) rfl ?_
              have he : ∀ (t : Nat) (s j q : Int), (t ≠ 45 ∨ q ≠ 374 + 43 * r + 11 + k) → zset M 45 0 0 (374 + 43 * r + 11 + k) (n 63 0 0 k) t s j q = M t s j q := fun t s j q h => by
                simp only [zset]
                rw [if_neg (by omega)]
              refine ih (k + 1) _ (by omega) (fun t s j q h => by rw [he t s j q (by omega)]; exact ho t s j q h) (by rw [he 45 0 0 2 (by omega)]; exact h2) (by rw [he 45 0 0 _ (by omega)]; exact h0) (by rw [he 45 0 0 _ (by omega)]; exact h1) (by rw [he 45 0 0 _ (by omega)]; exact h3) (fun j j0 j1 => by rw [he 45 0 0 _ (by omega)]; exact ha j j0 j1) (fun j j0 j1 => ?_)
              by_cases e : j = k
              · subst e
                simp only [zset]
                rw [if_pos (by simp; omega)]
              · rw [he 45 0 0 _ (by omega)]
                exact hst j j0 (by omega)
        have loop1 : ∀ (K k : Nat) (M : zM), (k : Int) + K = 8 → (∀ (t : Nat) (s j q : Int), (t ≠ 45 ∨ ((q < 374 + 43 * r ∨ 417 + 43 * r ≤ q) ∧ q ≠ 2)) → M t s j q = n t s j q) → M 45 0 0 2 = r + 1 → M 45 0 0 (374 + 43 * r) = A1 4 9 0 0 → M 45 0 0 (374 + 43 * r + 1) = A1 4 9 0 2 → M 45 0 0 (374 + 43 * r + 2) = 0 → (∀ j : Int, 0 ≤ j → j < k → M 45 0 0 (374 + 43 * r + (3 + j)) = A1 17 9 0 j) → zZ X 119 [some (zr 11 0 0), some (zi (374 + 43 * r)), some (zi k)] [] M := by
          intro K
          induction K with
          | zero =>
            intro k M hk ho h2 h0 h1 h3 ha
            refine z_iload_n (i := 2) hG dX11_recipe_119 rfl rfl ?_
            refine z_bipush hG dX11_recipe_120 rfl ?_
            refine z_icmp_ge hG dX11_recipe_122 (tgt := 147) rfl (fun zcq122 => ?_) (fun zcq122 => ?_)
            · refine z_iconst hG dX11_recipe_147 rfl ?_
              refine z_istore_n (i := 2) hG dX11_recipe_148 rfl (by decide) (ls2 := [_, _, _]) rfl ?_
              exact loop2 (4 * A1 4 9 0 2).toNat 0 M (by omega) ho h2 h0 h1 h3 (fun j j0 j1 => ha j j0 (by omega)) (fun j j0 j1 => by omega)
            · exact absurd zcq122 (by omega)
          | succ K ih =>
            intro k M hk ho h2 h0 h1 h3 ha
            refine z_iload_n (i := 2) hG dX11_recipe_119 rfl rfl ?_
            refine z_bipush hG dX11_recipe_120 rfl ?_
            refine z_icmp_ge hG dX11_recipe_122 (tgt := 147) rfl (fun zcq122 => ?_) (fun zcq122 => ?_)
            · exact absurd zcq122 (by omega)
            · refine z_aload_n (i := 0) hG dX11_recipe_125 rfl rfl ?_
              refine z_get_11_0 hG dX11_recipe_126 FL_X11_7 ?_
              refine z_iload_n (i := 1) hG dX11_recipe_129 rfl rfl ?_
              refine z_iconst hG dX11_recipe_130 rfl ?_
              refine z_iadd hG dX11_recipe_131 (by omega) (by omega) ?_
              refine z_iload_n (i := 2) hG dX11_recipe_132 rfl rfl ?_
              refine z_iadd hG dX11_recipe_133 (by omega) (by omega) ?_
              refine z_aload_n (i := 0) hG dX11_recipe_134 rfl rfl ?_
              refine z_get_11_28 hG dX11_recipe_135 FL_X11_62 ?_
              refine z_iload_n (i := 2) hG dX11_recipe_138 rfl rfl ?_
              refine z_iald hG dX11_recipe_139 rfl rfl (by omega) (by omega) ?_
              rw [ho 62 0 0 k (by omega), hn62 k (by omega) (by omega)]
              refine z_iast hG dX11_recipe_140 rfl rfl (by omega) (by omega) ?_
              refine z_iinc hG dX11_recipe_141 (by decide) rfl (by omega) (by omega) (ls2 := [_, _, _]) rfl ?_
              refine z_goto hG dX11_recipe_144 (tgt := 119) rfl ?_
              have he : ∀ (t : Nat) (s j q : Int), (t ≠ 45 ∨ q ≠ 374 + 43 * r + 3 + k) → zset M 45 0 0 (374 + 43 * r + 3 + k) (A1 17 9 0 k) t s j q = M t s j q := fun t s j q h => by
                simp only [zset]
                rw [if_neg (by omega)]
              refine ih (k + 1) _ (by omega) (fun t s j q h => by rw [he t s j q (by omega)]; exact ho t s j q h) (by rw [he 45 0 0 2 (by omega)]; exact h2) (by rw [he 45 0 0 _ (by omega)]; exact h0) (by rw [he 45 0 0 _ (by omega)]; exact h1) (by rw [he 45 0 0 _ (by omega)]; exact h3) (fun j j0 j1 => ?_)
              by_cases e : j = k
              · subst e
                simp only [zset]
                rw [if_pos (by simp; omega)]
              · rw [he 45 0 0 _ (by omega)]
                exact ha j j0 (by omega)
        refine loop1 8 0 _ rfl (fun t s j q h => ?_) ?_ ?_ ?_ ?_ (fun j j0 j1 => by omega)
        · simp only [zset]
          rw [if_neg (by omega), if_neg (by omega), if_neg (by omega), if_neg (by omega)]
        · simp only [zset]
          rw [if_neg (by omega), if_neg (by omega), if_neg (by omega), if_pos (by simp)]
        · simp only [zset]
          rw [if_neg (by omega), if_neg (by omega), if_pos (by simp)]
        · simp only [zset]
          rw [if_neg (by omega), if_pos (by simp)]
        · simp [zset]
      have look : ∀ (K : Nat) (k : Int), a 2 0 0 4 ≤ k → k + K = 8 → (∀ j : Int, a 2 0 0 4 ≤ j → j < k → ¬ 0 < zRdm a 17 9 0 j) → zZ X 32 [some (zr 11 0 0), some (zi k), none] [] m1 := by
        intro K
        induction K with
        | zero =>
          intro k hk0 hk hno
          refine z_iload_n (i := 1) hG dX11_recipe_32 rfl rfl ?_
          refine z_bipush hG dX11_recipe_33 rfl ?_
          refine z_icmp_ge hG dX11_recipe_35 (tgt := 56) rfl (fun zcq35 => ?_) (fun zcq35 => ?_)
          · refine good (fun z => ?_) _
            obtain ⟨j, j0, j1, j2⟩ := hz.mp z
            exact hno j j0 (by omega) j2
          · exact absurd zcq35 (by omega)
        | succ K ih =>
          intro k hk0 hk hno
          have h62 := hs.2.2.2.1 k (by omega) (by omega)
          rw [hA1] at h62
          refine z_iload_n (i := 1) hG dX11_recipe_32 rfl rfl ?_
          refine z_bipush hG dX11_recipe_33 rfl ?_
          refine z_icmp_ge hG dX11_recipe_35 (tgt := 56) rfl (fun zcq35 => ?_) (fun zcq35 => ?_)
          · exact absurd zcq35 (by omega)
          · refine z_aload_n (i := 0) hG dX11_recipe_38 rfl rfl ?_
            refine z_get_11_28 hG dX11_recipe_39 FL_X11_62 ?_
            refine z_iload_n (i := 1) hG dX11_recipe_42 rfl rfl ?_
            refine z_iald hG dX11_recipe_43 rfl rfl (by omega) (by omega) ?_
            rw [h62]
            refine z_if_le hG dX11_recipe_44 (tgt := 50) rfl (fun zcq44 => ?_) (fun zcq44 => ?_)
            · refine z_iinc hG dX11_recipe_50 (by decide) rfl (by omega) (by omega) (ls2 := [_, _, _]) rfl ?_
              refine z_goto hG dX11_recipe_53 (tgt := 32) rfl ?_
              refine ih (k + 1) (by omega) (by omega) (fun j j0 j1 => ?_)
              by_cases e : j = k
              · subst e
                omega
              · exact hno j j0 (by omega)
            · refine z_bipush hG dX11_recipe_47 rfl ?_
              refine z_iret hG hE dX11_recipe_49 trivial ?_
              rw [zk_recipe, if_neg (by omega), if_neg (by omega), if_pos (hz.mpr ⟨k, hk0, by omega, by omega⟩), ← hA1]
              exact ⟨rfl, hR1, hkt1⟩
      exact look (8 - a 2 0 0 4).toNat (a 2 0 0 4) (Int.le_refl _) (by omega) (fun j j0 j1 => by omega)
    · refine z_bipush hG dX11_recipe_22 rfl ?_
      refine z_iret hG hE dX11_recipe_24 trivial ?_
      rw [zk_recipe, if_neg (by omega), if_pos (by omega), ← hA1]
      exact ⟨rfl, hR1, hkt1⟩
  · refine z_bipush hG dX11_recipe_9 rfl ?_
    refine z_iret hG hE dX11_recipe_11 trivial ?_
    rw [zk_recipe, if_pos (by omega), ← hA1]
    exact ⟨rfl, hR1, hkt1⟩
