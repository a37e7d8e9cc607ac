/-- what a deed of the law's keeps -/
def zKeep (B : Int) (m0 m1 : zM) : Prop := zInv B m1 ∧ zAc m1 ∧ m1 2 0 0 4 = m0 2 0 0 4 ∧ m1 2 0 0 5 = m0 2 0 0 5 ∧ (m1 2 0 0 0 ≤ m0 2 0 0 0 + 4) ∧ m1 6 0 0 0 = m0 6 0 0 0
theorem zKeep_row {B : Int} {m0 m1 : zM} {k : Nat} {D : Int → Int} (hk : 1 ≤ k) (h : zKeep B m0 m1) : zKeep B m0 (zRow m1 k D) := by
  obtain ⟨h1, h2, h3, h4, h5, h6⟩ := h
  refine ⟨zInv_row hk h1, zAc_G ⟨fun i q _ => by rw [zRow_o (by omega)], fun i q => by rw [zRow_o (by omega)], by rw [zRow_o (by omega)], by rw [zRow_o (by omega)]⟩ h2, ?_, ?_, ?_, ?_⟩
  · rw [zRow_o (by omega)]; exact h3
  · rw [zRow_o (by omega)]; exact h4
  · rw [zRow_o (by omega)]; exact h5
  · rw [zRow_o (by omega)]; exact h6
theorem zKeep_F {B : Int} {m0 m1 : zM} (hI : zInv B m1) (hA : zAc m0) (hF : zF m1 m0) : zKeep B m0 m1 :=
  ⟨hI, zAc_F hF hA, hF.2.2.1 4 (by decide), hF.2.2.1 5 (by decide), by rw [hF.2.2.1 0 (by decide)]; omega, hF.2.2.2⟩
set_option maxRecDepth 20000 in
theorem ct_L_cooks (l : Launch) (g : zG) {m0 m : zM} {B : Int} (hI : zInv B m0) (hB2 : B ≤ 2000000) (hQ : zQ m0 m) (hA : zAc m0) (hg0 : g.2.1 (999, 0, 0) = 0) : zMetA l g Y_L_cooks [zr 0 0 0] m (fun x m' => x = some (zi 1) ∧ ∃ m1, zKeep (B + 22000) m0 m1 ∧ zQ m1 m') 1 32 := by
  refine zMetA_intro (by decide +kernel) (Nat.le_of_ble_eq_true rfl) (ls0 := [some (zr 0 0 0), none, none, none, none, none, none, none, none, none, none]) rfl fun X hG hE hbud => ?_
  have hG : zGood X l g RL cL_cooks 7 11 := hG
  have hE : zEndA X g (some .boolean) _ := hE
  have hB : B ≤ 11900000 := by omega
  have hB0 := zInv_B0 hI
  have hI0 := zInv0 hI
  have hp := zIS_pc hI0 (by omega)
  obtain ⟨hday, hhan, hing, hrcp, hrec, hboo, hrow, hrow2, hstp⟩ := id hI0
  obtain ⟨n, hn⟩ := Int.eq_ofNat_of_zero_le hing.1
  obtain ⟨nr, hnr⟩ := Int.eq_ofNat_of_zero_le hrcp.1
  have e4 : zsum n (zPl0 m0 4) = zsum 8 (zPl0 m0 4) := lz_ext0 8 (by omega) (fun _ _ _ => rfl) (fun j j0 j1 => zPl0_out hp (by omega) (by omega) (by omega))
  obtain ⟨can, hcan⟩ : ∃ can : Int, can = if zmss (zPl0 m0 6) 8 = 0 ∧ zhp m0 then 1 else 0 := ⟨_, rfl⟩
  have e48 : (if can ≠ 1 then (0 : Int) else 1) = can := by
    rw [hcan]
    by_cases c : zmss (zPl0 m0 6) 8 = 0 ∧ zhp m0
    · rw [if_pos c, if_neg (by decide)]
    · rw [if_neg c, if_pos (by decide)]
  refine z_aload_n (i := 0) hG dL_cooks_0 rfl rfl ?_
  refine z_iconst hG dL_cooks_1 rfl ?_
  refine z_callV hG dL_cooks_2 LV_L_68 (cqc_1 l g hI hB hQ) (by decide) rfl rfl rfl (Nat.le_of_ble_eq_true rfl) ?_
  intro v9 mm h9
  rw [h9.1]
  replace hQ := h9.2
  clear h9 v9
  refine z_istore_n (i := 1) hG dL_cooks_5 rfl (by decide) (ls2 := [_, _, _, _, _, _, _, _, _, _, _]) rfl ?_
  refine z_bipush hG dL_cooks_6 rfl ?_
  refine z_newa hG 2 32 (Or.inr rfl) rfl dL_cooks_8 KA_int rfl (by decide) hg0 hbud (fun X g hG hg2 hE2 => ?_)
  replace hE := hE2 _ _ hE
  replace hQ := zQ_new (k := 2) (by decide) hQ
  generalize (fun (t : Nat) (s i j : Int) => if t = 44 + 2 then (0 : Int) else mm t s i j) = mm at *
  refine z_astore_n (i := 2) hG dL_cooks_10 rfl (by decide) (ls2 := [_, _, _, _, _, _, _, _, _, _, _]) rfl ?_
  refine z_aload_n (i := 0) hG dL_cooks_11 rfl rfl ?_
  refine z_iconst hG dL_cooks_12 rfl ?_
  refine z_callV hG dL_cooks_13 LV_L_68 (cqc_4r l g hI hB (by decide) hQ) (by decide) rfl rfl rfl (Nat.le_of_ble_eq_true rfl) ?_
  intro v9 mm h9
  rw [h9.1]
  replace hQ := h9.2
  clear h9 v9
  refine z_istore_n (i := 3) hG dL_cooks_16 rfl (by decide) (ls2 := [_, _, _, _, _, _, _, _, _, _, _]) rfl ?_
  refine z_aload_n (i := 0) hG dL_cooks_17 rfl rfl ?_
  refine z_bipush hG dL_cooks_18 rfl ?_
  refine z_callV hG dL_cooks_20 LV_L_68 (cqc_11r l g hI hB (by decide) hQ) (by decide) rfl rfl rfl (Nat.le_of_ble_eq_true rfl) ?_
  intro v9 mm h9
  rw [h9.1]
  replace hQ := h9.2
  clear h9 v9
  refine z_istore hG dL_cooks_23 (by decide) (ls2 := [_, _, _, _, _, _, _, _, _, _, _]) rfl ?_
  refine z_aload_n (i := 0) hG dL_cooks_25 rfl rfl ?_
  refine z_bipush hG dL_cooks_26 rfl ?_
  refine z_callV hG dL_cooks_28 LV_L_68 (cqc_12r l g hI hB (by decide) hQ) (by decide) rfl rfl rfl (Nat.le_of_ble_eq_true rfl) ?_
  intro v9 mm h9
  rw [h9.1]
  replace hQ := h9.2
  clear h9 v9
  refine z_istore hG dL_cooks_31 (by decide) (ls2 := [_, _, _, _, _, _, _, _, _, _, _]) rfl ?_
  refine z_aload_n (i := 0) hG dL_cooks_33 rfl rfl ?_
  refine z_bipush hG dL_cooks_34 rfl ?_
  refine z_callV hG dL_cooks_36 LV_L_68 (cqc_7r l g hI hB (by decide) hQ) (by decide) rfl rfl rfl (Nat.le_of_ble_eq_true rfl) ?_
  intro v9 mm h9
  rw [h9.1, ← hcan]
  replace hQ := h9.2
  clear h9 v9
  refine z_iconst hG dL_cooks_39 rfl ?_
  refine z_ticmp_ne hG dL_cooks_40 (tgt := 47) (j := 48) rfl (fun K => (z_iconst hG dL_cooks_47 rfl K)) (fun K => (z_iconst hG dL_cooks_43 rfl (z_goto hG dL_cooks_44 (tgt := 48) rfl K))) ?_
  rw [e48]
  refine z_istore hG dL_cooks_48 (by decide) (ls2 := [_, _, _, _, _, _, _, _, _, _, _]) rfl ?_
  refine z_aload_n (i := 0) hG dL_cooks_50 rfl rfl ?_
  refine z_iconst hG dL_cooks_51 rfl ?_
  refine z_callV hG dL_cooks_52 LV_L_68 (cqc_5r l g hI hB (by decide) hQ) (by decide) rfl rfl rfl (Nat.le_of_ble_eq_true rfl) ?_
  intro v9 mm h9
  rw [h9.1]
  replace hQ := h9.2
  clear h9 v9
  refine z_istore hG dL_cooks_55 (by decide) (ls2 := [_, _, _, _, _, _, _, _, _, _, _]) rfl ?_
  refine z_iconst hG dL_cooks_57 rfl ?_
  refine z_istore hG dL_cooks_58 (by decide) (ls2 := [_, _, _, _, _, _, _, _, _, _, _]) rfl ?_
  refine z_iconst hG dL_cooks_60 rfl ?_
  refine z_istore hG dL_cooks_61 (by decide) (ls2 := [_, _, _, _, _, _, _, _, _, _, _]) rfl ?_
  have loopA : ∀ (N i : Nat) (D : Int → Int) (mm : zM) (v10 : Option zV), i + N = n → (∀ k : Int, 0 ≤ k → k < (i : Int) → D (4 * k) = zsum 30 (m0 14 0 k) - zPl0 m0 2 k + zPl0 m0 4 k ∧ D (4 * k + 1) = zwr (m0 3 0 k 8 + zPl0 m0 3 k) ∧ D (4 * k + 2) = zwr (zwr (zwr (m0 3 0 k 9 + zPl0 m0 0 k) - zPl0 m0 5 k) - zPl0 m0 6 k)) → zQ (zRow m0 2 D) mm → zZ X 63 [some (zr 0 0 0), some (zi (m0 2 0 0 4)), some (zr 46 0 0), some (zi (zsum 8 (zPl0 m0 7))), some (zi (m0 2 0 0 2)), some (zi (m0 2 0 0 3)), some (zi can), some (zi (zsum 8 (zPl0 m0 4))), some (zi (zsum i (zPl0 m0 4))), some (zi i), v10] [] mm := by
    intro N
    induction N with
    | zero =>
      intro i D mm v10 hin hD hQ
      have e3 : i = n := by omega
      rw [e3] at hD ⊢
      have h187 : ∀ mm : zM, zQ (zRow (zk_cook m0).2 2 D) mm → zZ X 187 [some (zr 0 0 0), some (zi (m0 2 0 0 4)), some (zr 46 0 0), some (zi (zsum 8 (zPl0 m0 7))), some (zi (m0 2 0 0 2)), some (zi (m0 2 0 0 3)), some (zi can), some (zi (zsum 8 (zPl0 m0 4))), some (zi (zsum n (zPl0 m0 4))), some (zi (zk_cook m0).1), v10] [] mm := by
        intro mm hQ
        by_cases hc : zmss (zPl0 m0 6) 8 = 0 ∧ zhp m0
        · have hcan1 : can = 1 := by rw [hcan, if_pos hc]
          obtain ⟨a, haa⟩ : ∃ a : zM, a = (zk_cook m0).2 := ⟨_, rfl⟩
          have hIa : zInv (B + 22000) a := by rw [haa]; exact (zki_cook2 hI hB).1
          have hBa : B + 22000 ≤ 11900000 := by omega
          obtain ⟨hz1, hck⟩ := zcook_at hI hB hc
          rw [← haa] at hck
          have ha4 := hck.2.2.2.2.1 4 (by decide) (by decide)
          have ha5 := hck.2.2.2.2.1 5 (by decide) (by decide)
          have hkeep : zKeep (B + 22000) m0 a := ⟨hIa, zAc_Ck hI hA hck, ha4, ha5, by rw [hck.2.2.2.2.1 0 (by decide) (by decide)]; omega, hck.2.2.2.2.2⟩
          have hpa := zIS_pc (zInv0 hIa) (by omega)
          have k11 : a 2 0 0 2 = zwr (m0 2 0 0 2 + zsum 8 (zPl0 m0 7)) := hck.2.2.1
          have k12 : a 2 0 0 3 = zwr (m0 2 0 0 3 + 1) := hck.2.2.2.1
          have k7 : (if zmss (zPl0 a 6) 8 = 0 ∧ zhp a then (1 : Int) else 0) = 0 := if_neg (fun z => by
            obtain ⟨k, k0, k1, k2⟩ := zhp_iff.mpr z.2
            have := hck.2.1 k k0 k1
            omega)
          have k4 : zsum 8 (zPl0 a 7) = 0 := (zsum_congr (f' := fun _ => 0) 8 (fun j j0 j1 => by
            obtain ⟨q, rfl⟩ := Int.eq_ofNat_of_zero_le j0
            exact (zPl0_none hpa hck.2.1 q (by omega)).2.1)).trans (lz_zsum0 8)
          have loopC : ∀ (N r : Nat) (mm : zM), r + N = nr → zQ (zRow a 2 D) mm → zZ X 301 [some (zr 0 0 0), some (zi (m0 2 0 0 4)), some (zr 46 0 0), some (zi (zsum 8 (zPl0 m0 7))), some (zi (m0 2 0 0 2)), some (zi (m0 2 0 0 3)), some (zi can), some (zi (zsum 8 (zPl0 m0 4))), some (zi (zsum n (zPl0 m0 4))), some (zi (zk_cook m0).1), some (zi r)] [] mm := by
            intro N
            induction N with
            | zero =>
              intro r mm hrn hQ
              refine z_iload hG dL_cooks_301 rfl ?_
              refine z_aload_n (i := 0) hG dL_cooks_303 rfl rfl ?_
              refine z_iconst hG dL_cooks_304 rfl ?_
              refine z_callV hG dL_cooks_305 LV_L_68 (cqc_2r l g hIa hBa (by decide) hQ) (by decide) rfl rfl rfl (Nat.le_of_ble_eq_true rfl) ?_
              intro v9 mm h9
              rw [h9.1]
              replace hQ := h9.2
              clear h9 v9
              refine z_icmp_ge hG dL_cooks_308 (tgt := 329) rfl (fun zcq308 => ?_) (fun zcq308 => ?_)
              · refine z_iload hG dL_cooks_329 rfl ?_
                refine z_iload_n (i := 3) hG dL_cooks_331 rfl rfl ?_
                refine z_icmp_ne hG dL_cooks_332 (tgt := 389) rfl (fun zcq332 => ?_) (fun zcq332 => ?_)
                · exact absurd hz1 zcq332
                · refine z_iload hG dL_cooks_335 rfl ?_
                  refine z_iload hG dL_cooks_337 rfl ?_
                  refine z_icmp_ne hG dL_cooks_339 (tgt := 389) rfl (fun zcq339 => ?_) (fun zcq339 => ?_)
                  · exact absurd e4.symm zcq339
                  · refine z_aload_n (i := 0) hG dL_cooks_342 rfl rfl ?_
                    refine z_bipush hG dL_cooks_343 rfl ?_
                    refine z_callV hG dL_cooks_345 LV_L_68 (cqc_11r l g hIa hBa (by decide) hQ) (by decide) rfl rfl rfl (Nat.le_of_ble_eq_true rfl) ?_
                    intro v9 mm h9
                    rw [h9.1]
                    replace hQ := h9.2
                    clear h9 v9
                    refine z_iload hG dL_cooks_348 rfl ?_
                    refine z_iload_n (i := 3) hG dL_cooks_350 rfl rfl ?_
                    refine z_iaddw hG dL_cooks_351 ?_
                    refine z_icmp_ne hG dL_cooks_352 (tgt := 389) rfl (fun zcq352 => ?_) (fun zcq352 => ?_)
                    · exact absurd k11 zcq352
                    · refine z_aload_n (i := 0) hG dL_cooks_355 rfl rfl ?_
                      refine z_bipush hG dL_cooks_356 rfl ?_
                      refine z_callV hG dL_cooks_358 LV_L_68 (cqc_12r l g hIa hBa (by decide) hQ) (by decide) rfl rfl rfl (Nat.le_of_ble_eq_true rfl) ?_
                      intro v9 mm h9
                      rw [h9.1]
                      replace hQ := h9.2
                      clear h9 v9
                      refine z_iload hG dL_cooks_361 rfl ?_
                      refine z_iconst hG dL_cooks_363 rfl ?_
                      refine z_iaddw hG dL_cooks_364 ?_
                      refine z_icmp_ne hG dL_cooks_365 (tgt := 389) rfl (fun zcq365 => ?_) (fun zcq365 => ?_)
                      · exact absurd k12 zcq365
                      · refine z_aload_n (i := 0) hG dL_cooks_368 rfl rfl ?_
                        refine z_bipush hG dL_cooks_369 rfl ?_
                        refine z_callV hG dL_cooks_371 LV_L_68 (cqc_7r l g hIa hBa (by decide) hQ) (by decide) rfl rfl rfl (Nat.le_of_ble_eq_true rfl) ?_
                        intro v9 mm h9
                        rw [h9.1]
                        replace hQ := h9.2
                        clear h9 v9
                        refine z_if_ne hG dL_cooks_374 (tgt := 389) rfl (fun zcq374 => ?_) (fun zcq374 => ?_)
                        · try simp only [zite_eq0, ne_eq, Classical.not_not] at zcq374
                          first | exact absurd k7 zcq374 | exact absurd k7 (by rw [if_pos zcq374]; decide)
                        · try simp only [zite_eq0, ne_eq, Classical.not_not] at zcq374
                          refine z_aload_n (i := 0) hG dL_cooks_377 rfl rfl ?_
                          refine z_iconst hG dL_cooks_378 rfl ?_
                          refine z_callV hG dL_cooks_379 LV_L_68 (cqc_4r l g hIa hBa (by decide) hQ) (by decide) rfl rfl rfl (Nat.le_of_ble_eq_true rfl) ?_
                          intro v9 mm h9
                          rw [h9.1]
                          replace hQ := h9.2
                          clear h9 v9
                          refine z_if_ne hG dL_cooks_382 (tgt := 389) rfl (fun zcq382 => ?_) (fun zcq382 => ?_)
                          · try simp only [zite_eq0, ne_eq, Classical.not_not] at zcq382
                            exact absurd k4 zcq382
                          · try simp only [zite_eq0, ne_eq, Classical.not_not] at zcq382
                            refine z_iconst hG dL_cooks_385 rfl ?_
                            refine z_goto hG dL_cooks_386 (tgt := 390) rfl ?_
                            refine z_iretA hG hE dL_cooks_390 (by first | exact Or.inl rfl | exact Or.inr rfl | (show _ ∨ _; omega)) ?_
                            exact ⟨rfl, zRow a 2 D, zKeep_row (by decide) hkeep, hQ⟩
              · exact absurd zcq308 (by omega)
            | succ N ih =>
              intro r mm hrn hQ
              refine z_iload hG dL_cooks_301 rfl ?_
              refine z_aload_n (i := 0) hG dL_cooks_303 rfl rfl ?_
              refine z_iconst hG dL_cooks_304 rfl ?_
              refine z_callV hG dL_cooks_305 LV_L_68 (cqc_2r l g hIa hBa (by decide) hQ) (by decide) rfl rfl rfl (Nat.le_of_ble_eq_true rfl) ?_
              intro v9 mm h9
              rw [h9.1]
              replace hQ := h9.2
              clear h9 v9
              refine z_icmp_ge hG dL_cooks_308 (tgt := 329) rfl (fun zcq308 => ?_) (fun zcq308 => ?_)
              · exact absurd zcq308 (by omega)
              · refine z_aload_n (i := 0) hG dL_cooks_311 rfl rfl ?_
                refine z_iload hG dL_cooks_312 rfl ?_
                refine z_iconst hG dL_cooks_314 rfl ?_
                refine z_callV hG dL_cooks_315 LV_L_90 (cqr_2r l g hIa hBa (by decide) hQ (by omega)) (by decide) rfl rfl rfl (Nat.le_of_ble_eq_true rfl) ?_
                intro v9 mm h9
                rw [h9.1]
                replace hQ := h9.2
                clear h9 v9
                refine z_if_eq hG dL_cooks_318 (tgt := 323) rfl (fun zcq318 => ?_) (fun zcq318 => ?_)
                · try simp only [zite_eq0, ne_eq, Classical.not_not] at zcq318
                  refine z_iinc hG dL_cooks_323 (by decide) rfl (by omega) (by omega) (ls2 := [_, _, _, _, _, _, _, _, _, _, _]) rfl ?_
                  refine z_goto hG dL_cooks_326 (tgt := 301) rfl ?_
                  exact ih (r + 1) mm (by omega) hQ
                · try simp only [zite_eq0, ne_eq, Classical.not_not] at zcq318
                  exact absurd (hck.2.1 r (by omega) (by omega)) zcq318
          have loopB : ∀ (N i : Nat) (mm : zM), i + N = n → zQ (zRow a 2 D) mm → zZ X 230 [some (zr 0 0 0), some (zi (m0 2 0 0 4)), some (zr 46 0 0), some (zi (zsum 8 (zPl0 m0 7))), some (zi (m0 2 0 0 2)), some (zi (m0 2 0 0 3)), some (zi can), some (zi (zsum 8 (zPl0 m0 4))), some (zi (zsum n (zPl0 m0 4))), some (zi (zk_cook m0).1), some (zi i)] [] mm := by
            intro N
            induction N with
            | zero =>
              intro i mm hin hQ
              refine z_iload hG dL_cooks_230 rfl ?_
              refine z_iload_n (i := 1) hG dL_cooks_232 rfl rfl ?_
              refine z_icmp_ge hG dL_cooks_233 (tgt := 298) rfl (fun zcq233 => ?_) (fun zcq233 => ?_)
              · refine z_iconst hG dL_cooks_298 rfl ?_
                refine z_istore hG dL_cooks_299 (by decide) (ls2 := [_, _, _, _, _, _, _, _, _, _, _]) rfl ?_
                exact loopC nr 0 mm (by omega) hQ
              · exact absurd zcq233 (by omega)
            | succ N ih =>
              intro i mm hin hQ
              obtain ⟨b1, b2, b3, -⟩ := hck.1 i (by omega) (by omega)
              obtain ⟨d1, d2, d3⟩ := hD i (by omega) (by omega)
              obtain ⟨w1, -⟩ := lz_nf (hp.2.2 i (by omega) (by omega)).1 (hboo.1 i (by omega) (by omega)) (zPF_of hp (i := i) (by omega))
              have u1 := zwr_mod (m0 3 0 i 9 + zPl0 m0 0 i)
              have u2 := zwr_mod (zwr (m0 3 0 i 9 + zPl0 m0 0 i) - zPl0 m0 5 i)
              have e9 : a 3 0 i 9 = D (4 * i + 2) := by
                rw [b3, d3]
                exact zwr_eq2 (by omega)
              refine z_iload hG dL_cooks_230 rfl ?_
              refine z_iload_n (i := 1) hG dL_cooks_232 rfl rfl ?_
              refine z_icmp_ge hG dL_cooks_233 (tgt := 298) rfl (fun zcq233 => ?_) (fun zcq233 => ?_)
              · exact absurd zcq233 (by omega)
              · refine z_aload_n (i := 0) hG dL_cooks_236 rfl rfl ?_
                refine z_iload hG dL_cooks_237 rfl ?_
                refine z_iconst hG dL_cooks_239 rfl ?_
                refine z_callV hG dL_cooks_240 LV_L_96 (cqa_5r l g hIa hBa (by decide) hQ (by omega)) (by decide) rfl rfl rfl (Nat.le_of_ble_eq_true rfl) ?_
                intro v9 mm h9
                rw [h9.1]
                replace hQ := h9.2
                clear h9 v9
                refine z_aload_n (i := 2) hG dL_cooks_243 rfl rfl ?_
                refine z_iconst hG dL_cooks_244 rfl ?_
                refine z_iload hG dL_cooks_245 rfl ?_
                refine z_imul hG dL_cooks_247 (by omega) (by omega) ?_
                refine z_iald hG dL_cooks_248 rfl rfl (by omega) (by omega) ?_
                have hald : ∀ j : Int, mm 46 0 0 j = D j := fun j => zQ_ald (k := 2) (by decide) hQ
                rw [hald]
                clear hald
                refine z_icmp_ne hG dL_cooks_249 (tgt := 290) rfl (fun zcq249 => ?_) (fun zcq249 => ?_)
                · exact absurd (b1.trans d1.symm) zcq249
                · refine z_aload_n (i := 0) hG dL_cooks_252 rfl rfl ?_
                  refine z_iload hG dL_cooks_253 rfl ?_
                  refine z_bipush hG dL_cooks_255 rfl ?_
                  refine z_callV hG dL_cooks_257 LV_L_96 (cqa_8r l g hIa hBa (by decide) hQ (by omega)) (by decide) rfl rfl rfl (Nat.le_of_ble_eq_true rfl) ?_
                  intro v9 mm h9
                  rw [h9.1]
                  replace hQ := h9.2
                  clear h9 v9
                  refine z_aload_n (i := 2) hG dL_cooks_260 rfl rfl ?_
                  refine z_iconst hG dL_cooks_261 rfl ?_
                  refine z_iload hG dL_cooks_262 rfl ?_
                  refine z_imul hG dL_cooks_264 (by omega) (by omega) ?_
                  refine z_iconst hG dL_cooks_265 rfl ?_
                  refine z_iadd hG dL_cooks_266 (by omega) (by omega) ?_
                  refine z_iald hG dL_cooks_267 rfl rfl (by omega) (by omega) ?_
                  have hald : ∀ j : Int, mm 46 0 0 j = D j := fun j => zQ_ald (k := 2) (by decide) hQ
                  rw [hald]
                  clear hald
                  refine z_icmp_ne hG dL_cooks_268 (tgt := 290) rfl (fun zcq268 => ?_) (fun zcq268 => ?_)
                  · exact absurd (b2.trans d2.symm) zcq268
                  · refine z_aload_n (i := 0) hG dL_cooks_271 rfl rfl ?_
                    refine z_iload hG dL_cooks_272 rfl ?_
                    refine z_bipush hG dL_cooks_274 rfl ?_
                    refine z_callV hG dL_cooks_276 LV_L_96 (cqa_9r l g hIa hBa (by decide) hQ (by omega)) (by decide) rfl rfl rfl (Nat.le_of_ble_eq_true rfl) ?_
                    intro v9 mm h9
                    rw [h9.1]
                    replace hQ := h9.2
                    clear h9 v9
                    refine z_aload_n (i := 2) hG dL_cooks_279 rfl rfl ?_
                    refine z_iconst hG dL_cooks_280 rfl ?_
                    refine z_iload hG dL_cooks_281 rfl ?_
                    refine z_imul hG dL_cooks_283 (by omega) (by omega) ?_
                    refine z_iconst hG dL_cooks_284 rfl ?_
                    refine z_iadd hG dL_cooks_285 (by omega) (by omega) ?_
                    refine z_iald hG dL_cooks_286 rfl rfl (by omega) (by omega) ?_
                    have hald : ∀ j : Int, mm 46 0 0 j = D j := fun j => zQ_ald (k := 2) (by decide) hQ
                    rw [hald]
                    clear hald
                    refine z_icmp_eq hG dL_cooks_287 (tgt := 292) rfl (fun zcq287 => ?_) (fun zcq287 => ?_)
                    · refine z_iinc hG dL_cooks_292 (by decide) rfl (by omega) (by omega) (ls2 := [_, _, _, _, _, _, _, _, _, _, _]) rfl ?_
                      refine z_goto hG dL_cooks_295 (tgt := 230) rfl ?_
                      exact ih (i + 1) mm (by omega) hQ
                    · exact absurd e9 zcq287
          refine z_iload hG dL_cooks_187 rfl ?_
          refine z_if_ne hG dL_cooks_189 (tgt := 227) rfl (fun zcq189 => ?_) (fun zcq189 => ?_)
          · try simp only [zite_eq0, ne_eq, Classical.not_not] at zcq189
            refine z_iconst hG dL_cooks_227 rfl ?_
            refine z_istore hG dL_cooks_228 (by decide) (ls2 := [_, _, _, _, _, _, _, _, _, _, _]) rfl ?_
            exact loopB n 0 mm (by omega) (by rw [haa]; exact hQ)
          · try simp only [zite_eq0, ne_eq, Classical.not_not] at zcq189
            exact absurd zcq189 (by omega)
        · have hcan0 : can = 0 := by rw [hcan, if_neg hc]
          have hno := zk_cook_no hc
          rw [hno] at hQ ⊢
          have h200 : ∀ mm : zM, zQ (zRow m0 2 D) mm → zZ X 199 [some (zr 0 0 0), some (zi (m0 2 0 0 4)), some (zr 46 0 0), some (zi (zsum 8 (zPl0 m0 7))), some (zi (m0 2 0 0 2)), some (zi (m0 2 0 0 3)), some (zi can), some (zi (zsum 8 (zPl0 m0 4))), some (zi (zsum n (zPl0 m0 4))), some (zi (-5)), v10] [] mm := by
            intro mm hQ
            refine z_aload_n (i := 0) hG dL_cooks_199 rfl rfl ?_
            refine z_bipush hG dL_cooks_200 rfl ?_
            refine z_callV hG dL_cooks_202 LV_L_68 (cqc_12r l g hI hB (by decide) hQ) (by decide) rfl rfl rfl (Nat.le_of_ble_eq_true rfl) ?_
            intro v9 mm h9
            rw [h9.1]
            replace hQ := h9.2
            clear h9 v9
            refine z_iload hG dL_cooks_205 rfl ?_
            refine z_icmp_ne hG dL_cooks_207 (tgt := 225) rfl (fun zcq207 => ?_) (fun zcq207 => ?_)
            · exact absurd rfl zcq207
            · refine z_aload_n (i := 0) hG dL_cooks_210 rfl rfl ?_
              refine z_bipush hG dL_cooks_211 rfl ?_
              refine z_callV hG dL_cooks_213 LV_L_68 (cqc_11r l g hI hB (by decide) hQ) (by decide) rfl rfl rfl (Nat.le_of_ble_eq_true rfl) ?_
              intro v9 mm h9
              rw [h9.1]
              replace hQ := h9.2
              clear h9 v9
              refine z_iload hG dL_cooks_216 rfl ?_
              refine z_icmp_ne hG dL_cooks_218 (tgt := 225) rfl (fun zcq218 => ?_) (fun zcq218 => ?_)
              · exact absurd rfl zcq218
              · refine z_iconst hG dL_cooks_221 rfl ?_
                refine z_goto hG dL_cooks_222 (tgt := 226) rfl ?_
                refine z_iretA hG hE dL_cooks_226 (by first | exact Or.inl rfl | exact Or.inr rfl | (show _ ∨ _; omega)) ?_
                exact ⟨rfl, zRow m0 2 D, zKeep_row (by decide) ⟨zInv_B (by omega) hI, hA, rfl, rfl, by omega, rfl⟩, hQ⟩
          refine z_iload hG dL_cooks_187 rfl ?_
          refine z_if_ne hG dL_cooks_189 (tgt := 227) rfl (fun zcq189 => ?_) (fun zcq189 => ?_)
          · try simp only [zite_eq0, ne_eq, Classical.not_not] at zcq189
            exact absurd hcan0 zcq189
          · try simp only [zite_eq0, ne_eq, Classical.not_not] at zcq189
            refine z_iload hG dL_cooks_192 rfl ?_
            refine z_bipush hG dL_cooks_194 rfl ?_
            refine z_icmp_ne hG dL_cooks_196 (tgt := 225) rfl (fun zcq196 => ?_) (fun zcq196 => ?_)
            · exact absurd rfl zcq196
            · exact h200 mm hQ
      refine z_iload hG dL_cooks_63 rfl ?_
      refine z_iload_n (i := 1) hG dL_cooks_65 rfl rfl ?_
      refine z_icmp_ge hG dL_cooks_66 (tgt := 181) rfl (fun zcq66 => ?_) (fun zcq66 => ?_)
      · refine z_aload_n (i := 0) hG dL_cooks_181 rfl rfl ?_
        refine z_callV hG dL_cooks_182 LV_L_120 (cmr_cook l g (by decide) hI hB hQ) (by decide) rfl rfl rfl (Nat.le_of_ble_eq_true rfl) ?_
        intro v9 mm h9
        rw [h9.1]
        replace hQ := h9.2
        clear h9 v9
        refine z_istore hG dL_cooks_185 (by decide) (ls2 := [_, _, _, _, _, _, _, _, _, _, _]) rfl ?_
        exact h187 mm hQ
      · exact absurd zcq66 (by omega)
    | succ N ih =>
      intro i D mm v10 hin hD hQ
      have hb := zplb_Pl0 hp i (by omega) (by omega)
      have hnf := lz_nf (hp.2.2 i (by omega) (by omega)).1 (hboo.1 i (by omega) (by omega)) (zPF_of hp (i := i) (by omega))
      have hro := hrow i (by omega) (by omega)
      have hS := zsum_le (f := m0 14 0 i) (B := B) 30 (fun j j0 j1 => hro.2.1 j j0 (by omega))
      have s4 := (zsum_le (f := zPl0 m0 4) (B := 2000) i (fun j j0 j1 => (zplb_Pl0 hp j j0 (by omega)).2.2.2.2.1))
      refine z_iload hG dL_cooks_63 rfl ?_
      refine z_iload_n (i := 1) hG dL_cooks_65 rfl rfl ?_
      refine z_icmp_ge hG dL_cooks_66 (tgt := 181) rfl (fun zcq66 => ?_) (fun zcq66 => ?_)
      · exact absurd zcq66 (by omega)
      · refine z_aload_n (i := 2) hG dL_cooks_69 rfl rfl ?_
        refine z_iconst hG dL_cooks_70 rfl ?_
        refine z_iload hG dL_cooks_71 rfl ?_
        refine z_imul hG dL_cooks_73 (by omega) (by omega) ?_
        refine z_aload_n (i := 0) hG dL_cooks_74 rfl rfl ?_
        refine z_iload hG dL_cooks_75 rfl ?_
        refine z_iconst hG dL_cooks_77 rfl ?_
        refine z_callV hG dL_cooks_78 LV_L_96 (cqa_5r l g hI hB (by decide) hQ (by omega)) (by decide) rfl rfl rfl (Nat.le_of_ble_eq_true rfl) ?_
        intro v9 mm h9
        rw [h9.1]
        replace hQ := h9.2
        clear h9 v9
        refine z_aload_n (i := 0) hG dL_cooks_81 rfl rfl ?_
        refine z_iload hG dL_cooks_82 rfl ?_
        refine z_iconst hG dL_cooks_84 rfl ?_
        refine z_callV hG dL_cooks_85 LV_L_118 (cqn_2r l g hI hB (by decide) hQ (by omega)) (by decide) rfl rfl rfl (Nat.le_of_ble_eq_true rfl) ?_
        intro v9 mm h9
        rw [h9.1]
        replace hQ := h9.2
        clear h9 v9
        refine z_isub hG dL_cooks_88 (by omega) (by omega) ?_
        refine z_aload_n (i := 0) hG dL_cooks_89 rfl rfl ?_
        refine z_iload hG dL_cooks_90 rfl ?_
        refine z_iconst hG dL_cooks_92 rfl ?_
        refine z_callV hG dL_cooks_93 LV_L_118 (cqn_4r l g hI hB (by decide) hQ (by omega)) (by decide) rfl rfl rfl (Nat.le_of_ble_eq_true rfl) ?_
        intro v9 mm h9
        rw [h9.1]
        replace hQ := h9.2
        clear h9 v9
        refine z_iadd hG dL_cooks_96 (by omega) (by omega) ?_
        refine z_iast hG dL_cooks_97 rfl rfl (by omega) (by omega) ?_
        replace hQ := zQ_ast (k := 2) (j := 4 * (i : Int)) (v := (zsum 30 (m0 14 0 i) - zPl0 m0 2 i + zPl0 m0 4 i)) (by decide) hQ
        refine z_aload_n (i := 2) hG dL_cooks_98 rfl rfl ?_
        refine z_iconst hG dL_cooks_99 rfl ?_
        refine z_iload hG dL_cooks_100 rfl ?_
        refine z_imul hG dL_cooks_102 (by omega) (by omega) ?_
        refine z_iconst hG dL_cooks_103 rfl ?_
        refine z_iadd hG dL_cooks_104 (by omega) (by omega) ?_
        refine z_aload_n (i := 0) hG dL_cooks_105 rfl rfl ?_
        refine z_iload hG dL_cooks_106 rfl ?_
        refine z_bipush hG dL_cooks_108 rfl ?_
        refine z_callV hG dL_cooks_110 LV_L_96 (cqa_8r l g hI hB (by decide) hQ (by omega)) (by decide) rfl rfl rfl (Nat.le_of_ble_eq_true rfl) ?_
        intro v9 mm h9
        rw [h9.1]
        replace hQ := h9.2
        clear h9 v9
        refine z_aload_n (i := 0) hG dL_cooks_113 rfl rfl ?_
        refine z_iload hG dL_cooks_114 rfl ?_
        refine z_iconst hG dL_cooks_116 rfl ?_
        refine z_callV hG dL_cooks_117 LV_L_118 (cqn_3r l g hI hB (by decide) hQ (by omega)) (by decide) rfl rfl rfl (Nat.le_of_ble_eq_true rfl) ?_
        intro v9 mm h9
        rw [h9.1]
        replace hQ := h9.2
        clear h9 v9
        refine z_iaddw hG dL_cooks_120 ?_
        refine z_iast hG dL_cooks_121 rfl rfl (by omega) (by omega) ?_
        replace hQ := zQ_ast (k := 2) (j := 4 * (i : Int) + 1) (v := (zwr (m0 3 0 i 8 + zPl0 m0 3 i))) (by decide) hQ
        refine z_aload_n (i := 2) hG dL_cooks_122 rfl rfl ?_
        refine z_iconst hG dL_cooks_123 rfl ?_
        refine z_iload hG dL_cooks_124 rfl ?_
        refine z_imul hG dL_cooks_126 (by omega) (by omega) ?_
        refine z_iconst hG dL_cooks_127 rfl ?_
        refine z_iadd hG dL_cooks_128 (by omega) (by omega) ?_
        refine z_aload_n (i := 0) hG dL_cooks_129 rfl rfl ?_
        refine z_iload hG dL_cooks_130 rfl ?_
        refine z_bipush hG dL_cooks_132 rfl ?_
        refine z_callV hG dL_cooks_134 LV_L_96 (cqa_9r l g hI hB (by decide) hQ (by omega)) (by decide) rfl rfl rfl (Nat.le_of_ble_eq_true rfl) ?_
        intro v9 mm h9
        rw [h9.1]
        replace hQ := h9.2
        clear h9 v9
        refine z_aload_n (i := 0) hG dL_cooks_137 rfl rfl ?_
        refine z_iload hG dL_cooks_138 rfl ?_
        refine z_iconst hG dL_cooks_140 rfl ?_
        refine z_callV hG dL_cooks_141 LV_L_118 (cqn_0r l g hI hB (by decide) hQ (by omega)) (by decide) rfl rfl rfl (Nat.le_of_ble_eq_true rfl) ?_
        intro v9 mm h9
        rw [h9.1]
        replace hQ := h9.2
        clear h9 v9
        refine z_iaddw hG dL_cooks_144 ?_
        refine z_aload_n (i := 0) hG dL_cooks_145 rfl rfl ?_
        refine z_iload hG dL_cooks_146 rfl ?_
        refine z_iconst hG dL_cooks_148 rfl ?_
        refine z_callV hG dL_cooks_149 LV_L_118 (cqn_5r l g hI hB (by decide) hQ (by omega)) (by decide) rfl rfl rfl (Nat.le_of_ble_eq_true rfl) ?_
        intro v9 mm h9
        rw [h9.1]
        replace hQ := h9.2
        clear h9 v9
        refine z_isubw hG dL_cooks_152 ?_
        refine z_aload_n (i := 0) hG dL_cooks_153 rfl rfl ?_
        refine z_iload hG dL_cooks_154 rfl ?_
        refine z_bipush hG dL_cooks_156 rfl ?_
        refine z_callV hG dL_cooks_158 LV_L_118 (cqn_6r l g hI hB (by decide) hQ (by omega)) (by decide) rfl rfl rfl (Nat.le_of_ble_eq_true rfl) ?_
        intro v9 mm h9
        rw [h9.1]
        replace hQ := h9.2
        clear h9 v9
        refine z_isubw hG dL_cooks_161 ?_
        refine z_iast hG dL_cooks_162 rfl rfl (by omega) (by omega) ?_
        replace hQ := zQ_ast (k := 2) (j := 4 * (i : Int) + 2) (v := (zwr (zwr (zwr (m0 3 0 i 9 + zPl0 m0 0 i) - zPl0 m0 5 i) - zPl0 m0 6 i))) (by decide) hQ
        refine z_iload hG dL_cooks_163 rfl ?_
        refine z_aload_n (i := 0) hG dL_cooks_165 rfl rfl ?_
        refine z_iload hG dL_cooks_166 rfl ?_
        refine z_iconst hG dL_cooks_168 rfl ?_
        refine z_callV hG dL_cooks_169 LV_L_118 (cqn_4r l g hI hB (by decide) hQ (by omega)) (by decide) rfl rfl rfl (Nat.le_of_ble_eq_true rfl) ?_
        intro v9 mm h9
        rw [h9.1]
        replace hQ := h9.2
        clear h9 v9
        refine z_iadd hG dL_cooks_172 (by omega) (by omega) ?_
        refine z_istore hG dL_cooks_173 (by decide) (ls2 := [_, _, _, _, _, _, _, _, _, _, _]) rfl ?_
        refine z_iinc hG dL_cooks_175 (by decide) rfl (by omega) (by omega) (ls2 := [_, _, _, _, _, _, _, _, _, _, _]) rfl ?_
        refine z_goto hG dL_cooks_178 (tgt := 63) rfl ?_
        refine ih (i + 1) _ _ v10 (by omega) (fun k k0 k1 => ?_) hQ
        by_cases c : k = i
        · subst c
          refine ⟨?_, ?_, ?_⟩
          · exact (if_neg (by omega)).trans ((if_neg (by omega)).trans (if_pos rfl))
          · exact (if_neg (by omega)).trans (if_pos rfl)
          · exact if_pos rfl
        · obtain ⟨d1, d2, d3⟩ := hD k k0 (by omega)
          refine ⟨?_, ?_, ?_⟩
          · exact (if_neg (by omega)).trans ((if_neg (by omega)).trans ((if_neg (by omega)).trans d1))
          · exact (if_neg (by omega)).trans ((if_neg (by omega)).trans ((if_neg (by omega)).trans d2))
          · exact (if_neg (by omega)).trans ((if_neg (by omega)).trans ((if_neg (by omega)).trans d3))
  exact loopA n 0 _ mm _ (by omega) (fun k k0 k1 => by omega) hQ
