set_option maxRecDepth 20000 in
theorem z_law_e {X : zX} {l : Launch} {g : zG} {L b : Nat} {xs : Nat → Int32} (hL : L ≤ 2048) (hg0 : g.2.1 (999, 0, 0) = 0) (hG : zGood X l g RL cL_law 12 8) (hX : zXsc X g L xs) (hW : zLw X g b) (hbud : zBud X 1 64) {B a n d : Int} (hB : 0 ≤ B ∧ B ≤ 1000000) (hn : 1 ≤ n) (hd : d ≤ 2000) (ha : 0 ≤ a ∧ a ≤ 1000) {v3 v4 v5 v6 v7 : Option zV} {m0 mm : zM} (hS : zSw B n 2 d m0) (hQ : zQ m0 mm) : zZ X 315 [some (zr 998 0 0), some (zr 0 0 0), some (zi a), v3, v4, v5, v6, v7] [] mm := by
  refine z_aload_n (i := 1) hG dL_law_315 rfl rfl ?_
  refine z_aload_n (i := 0) hG dL_law_316 rfl rfl ?_
  refine z_iload_n (i := 2) hG dL_law_317 rfl rfl ?_
  refine z_iinc hG dL_law_318 (by decide) rfl (by omega) (by omega) (ls2 := [_, _, _, _, _, _, _, _]) rfl ?_
  refine z_callX hG hX dL_law_321 LS_L_12 (ct_L_celli l g hL (by omega)) (by decide) rfl rfl (Nat.le_of_ble_eq_true rfl) ?_
  intro v9 m9 h9
  obtain ⟨⟨y321, h91⟩, h92⟩ := h9
  rw [h91, h92]
  clear h91 h92 m9 v9
  refine z_aload_n (i := 0) hG dL_law_324 rfl rfl ?_
  refine z_iload_n (i := 2) hG dL_law_325 rfl rfl ?_
  refine z_iinc hG dL_law_326 (by decide) rfl (by omega) (by omega) (ls2 := [_, _, _, _, _, _, _, _]) rfl ?_
  refine z_callX hG hX dL_law_329 LS_L_12 (ct_L_celli l g hL (by omega)) (by decide) rfl rfl (Nat.le_of_ble_eq_true rfl) ?_
  intro v9 m9 h9
  obtain ⟨⟨y329, h91⟩, h92⟩ := h9
  rw [h91, h92]
  clear h91 h92 m9 v9
  refine z_callA hG dL_law_332 LS_L_40 (ct_L_adds l g hS.1 (by omega) hQ hS.2.1 hg0 (by have := hS.2.2.2.1; omega) hS.2.2.2.2.2) (zBud_le hbud (by omega) (by omega)) (by decide) rfl rfl (Nat.le_of_ble_eq_true rfl) ?_
  intro v9 mm h9
  obtain ⟨h91, m1, hI1, hA1, h41, h51, hd1, h61, hQ⟩ := h9
  rw [h91]
  clear h91 v9
  have hS1 : zSw B _ _ _ m1 := ⟨hI1, hA1, h41.trans hS.2.2.1, h51.trans (congrArg (· + 1) hS.2.2.2.1), Int.le_trans (Int.le_of_eq hd1) hS.2.2.2.2.1, h61⟩
  clear hI1 hA1 h41 h51 hd1 h61
  have hbx := zBud_le (a' := 1) (b' := 64) hbud (by omega) (by omega)
  replace hG := zGood_add hG hbx
  replace hX := zXsc_add (a := 1) (b := 64) hX
  replace hW := zLw_add (c := 1) (d := 64) hW
  
  refine z_if_eq hG dL_law_335 (tgt := 401) rfl (fun zcq335 => ?_) (fun zcq335 => ?_)
  · try simp only [zite_eq0, ne_eq, Classical.not_not] at zcq335
    first | exact absurd zcq335 (by decide) | (simp at zcq335; done) | exact absurd rfl zcq335
  · try simp only [zite_eq0, ne_eq, Classical.not_not] at zcq335
    refine z_aload_n (i := 1) hG dL_law_338 rfl rfl ?_
    refine z_aload_n (i := 0) hG dL_law_339 rfl rfl ?_
    refine z_iload_n (i := 2) hG dL_law_340 rfl rfl ?_
    refine z_iinc hG dL_law_341 (by decide) rfl (by omega) (by omega) (ls2 := [_, _, _, _, _, _, _, _]) rfl ?_
    refine z_callX hG hX dL_law_344 LS_L_12 (ct_L_celli l g hL (by omega)) (by decide) rfl rfl (Nat.le_of_ble_eq_true rfl) ?_
    intro v9 m9 h9
    obtain ⟨⟨y344, h91⟩, h92⟩ := h9
    rw [h91, h92]
    clear h91 h92 m9 v9
    refine z_callS hG dL_law_347 LS_L_55 (ct_L_times l g hS1.1 (by omega) hQ) (by decide) rfl rfl (Nat.le_of_ble_eq_true rfl) ?_
    intro v9 mm h9
    obtain ⟨h91, m2, hI2, hF2, hQ⟩ := h9
    rw [h91]
    clear h91 v9
    replace hS1 := zSw_F hS1 hI2 hF2
    clear hI2 hF2
    refine z_if_eq hG dL_law_350 (tgt := 401) rfl (fun zcq350 => ?_) (fun zcq350 => ?_)
    · try simp only [zite_eq0, ne_eq, Classical.not_not] at zcq350
      first | exact absurd zcq350 (by decide) | (simp at zcq350; done) | exact absurd rfl zcq350
    · try simp only [zite_eq0, ne_eq, Classical.not_not] at zcq350
      refine z_aload_n (i := 1) hG dL_law_353 rfl rfl ?_
      refine z_aload_n (i := 0) hG dL_law_354 rfl rfl ?_
      refine z_iload_n (i := 2) hG dL_law_355 rfl rfl ?_
      refine z_iinc hG dL_law_356 (by decide) rfl (by omega) (by omega) (ls2 := [_, _, _, _, _, _, _, _]) rfl ?_
      refine z_callX hG hX dL_law_359 LS_L_12 (ct_L_celli l g hL (by omega)) (by decide) rfl rfl (Nat.le_of_ble_eq_true rfl) ?_
      intro v9 m9 h9
      obtain ⟨⟨y359, h91⟩, h92⟩ := h9
      rw [h91, h92]
      clear h91 h92 m9 v9
      refine z_callS hG dL_law_362 LS_L_58 (ct_L_best l g hS1.1 (by omega) hQ (by have := hS1.2.2.2.1; omega)) (by decide) rfl rfl (Nat.le_of_ble_eq_true rfl) ?_
      intro v9 mm h9
      obtain ⟨h91, m3, hI3, hF3, hQ⟩ := h9
      rw [h91]
      clear h91 v9
      replace hS1 := zSw_F hS1 hI3 hF3
      clear hI3 hF3
      refine z_if_eq hG dL_law_365 (tgt := 401) rfl (fun zcq365 => ?_) (fun zcq365 => ?_)
      · try simp only [zite_eq0, ne_eq, Classical.not_not] at zcq365
        first | exact absurd zcq365 (by decide) | (simp at zcq365; done) | exact absurd rfl zcq365
      · try simp only [zite_eq0, ne_eq, Classical.not_not] at zcq365
        refine z_aload_n (i := 1) hG dL_law_368 rfl rfl ?_
        refine z_aload_n (i := 0) hG dL_law_369 rfl rfl ?_
        refine z_iload_n (i := 2) hG dL_law_370 rfl rfl ?_
        refine z_iinc hG dL_law_371 (by decide) rfl (by omega) (by omega) (ls2 := [_, _, _, _, _, _, _, _]) rfl ?_
        refine z_callX hG hX dL_law_374 LS_L_12 (ct_L_celli l g hL (by omega)) (by decide) rfl rfl (Nat.le_of_ble_eq_true rfl) ?_
        intro v9 m9 h9
        obtain ⟨⟨y374, h91⟩, h92⟩ := h9
        rw [h91, h92]
        clear h91 h92 m9 v9
        refine z_callS hG dL_law_377 LS_L_61 (ct_L_back l g hS1.1 (by omega) hQ hS1.2.1 (by have := hS1.2.2.1; omega) (by have := hS1.2.2.2.1; omega) (by have := hS1.2.2.2.2.1; omega)) (by decide) rfl rfl (Nat.le_of_ble_eq_true rfl) ?_
        intro v9 mm h9
        obtain ⟨h91, m4, hI4, hA4, -, -, hQ⟩ := h9
        rw [h91]
        clear h91 v9
        refine z_if_eq hG dL_law_380 (tgt := 401) rfl (fun zcq380 => ?_) (fun zcq380 => ?_)
        · try simp only [zite_eq0, ne_eq, Classical.not_not] at zcq380
          first | exact absurd zcq380 (by decide) | (simp at zcq380; done) | exact absurd rfl zcq380
        · try simp only [zite_eq0, ne_eq, Classical.not_not] at zcq380
          refine z_aload_n (i := 1) hG dL_law_383 rfl rfl ?_
          refine z_callS hG dL_law_384 LS_L_48 (ct_L_needs l g hI4 (by omega) hQ) (by decide) rfl rfl (Nat.le_of_ble_eq_true rfl) ?_
          intro v9 mm h9
          rw [h9.1]
          replace hQ := h9.2
          clear h9 v9
          refine z_if_eq hG dL_law_387 (tgt := 401) rfl (fun zcq387 => ?_) (fun zcq387 => ?_)
          · try simp only [zite_eq0, ne_eq, Classical.not_not] at zcq387
            first | exact absurd zcq387 (by decide) | (simp at zcq387; done) | exact absurd rfl zcq387
          · try simp only [zite_eq0, ne_eq, Classical.not_not] at zcq387
            refine z_aload_n (i := 1) hG dL_law_390 rfl rfl ?_
            refine z_callS hG dL_law_391 LS_L_52 (ct_L_accounts l g hI4 (by omega) hQ hA4) (by decide) rfl rfl (Nat.le_of_ble_eq_true rfl) ?_
            intro v9 mm h9
            rw [h9.1]
            replace hQ := h9.2
            clear h9 v9
            refine z_if_eq hG dL_law_394 (tgt := 401) rfl (fun zcq394 => ?_) (fun zcq394 => ?_)
            · try simp only [zite_eq0, ne_eq, Classical.not_not] at zcq394
              first | exact absurd zcq394 (by decide) | (simp at zcq394; done) | exact absurd rfl zcq394
            · try simp only [zite_eq0, ne_eq, Classical.not_not] at zcq394
              refine z_iconst hG dL_law_397 rfl ?_
              refine z_goto hG dL_law_398 (tgt := 402) rfl ?_
              exact z_lret hG hW dL_law_402
set_option maxRecDepth 20000 in
theorem z_law_t {l : Launch} {g : zG} {L b : Nat} {xs : Nat → Int32} (hL : L ≤ 2048) (hg0 : g.2.1 (999, 0, 0) = 0) {n : Int} (hn : 1 ≤ n) {v6 v7 : Option zV} {c : Int} : ∀ (N k : Nat) {X : zX} (hG : zGood X l g RL cL_law 12 8) (hX : zXsc X g L xs) (hW : zLw X g b) (hbud : zBud X (N + 1) (32 * N + 64)) {a v : Int} (hk : k + N = 18) (ha : 0 ≤ a ∧ a + 3 * N ≤ 500) {m0 mm : zM} (hS : zSw (22000 * (k : Int)) n 2 (4 * (k : Int)) m0) (hQ : zQ m0 mm), zZ X 245 [some (zr 998 0 0), some (zr 0 0 0), some (zi a), some (zi v), some (zi c), some (zi (k : Int)), v6, v7] [] mm := by
  intro N
  induction N with
  | zero =>
    intro k X hG hX hW hbud a v hk ha m0 mm hS hQ
    refine z_iload hG dL_law_245 rfl ?_
    refine z_bipush hG dL_law_247 rfl ?_
    refine z_icmp_ge hG dL_law_249 (tgt := 315) rfl (fun zcq249 => ?_) (fun zcq249 => ?_)
    · exact z_law_e hL hg0 hG hX hW (zBud_le hbud (by omega) (by omega)) (by omega) hn (by omega) (by omega) hS hQ
    · exact absurd zcq249 (by omega)
  | succ N ih =>
    intro k X hG hX hW hbud a v hk ha m0 mm hS hQ
    refine z_iload hG dL_law_245 rfl ?_
    refine z_bipush hG dL_law_247 rfl ?_
    refine z_icmp_ge hG dL_law_249 (tgt := 315) rfl (fun zcq249 => ?_) (fun zcq249 => ?_)
    · exact absurd zcq249 (by omega)
    · refine z_aload_n (i := 0) hG dL_law_252 rfl rfl ?_
      refine z_iload_n (i := 2) hG dL_law_253 rfl rfl ?_
      refine z_iinc hG dL_law_254 (by decide) rfl (by omega) (by omega) (ls2 := [_, _, _, _, _, _, _, _]) rfl ?_
      refine z_callX hG hX dL_law_257 LS_L_12 (ct_L_celli l g hL (by omega)) (by decide) rfl rfl (Nat.le_of_ble_eq_true rfl) ?_
      intro v9 m9 h9
      obtain ⟨⟨y257, h91⟩, h92⟩ := h9
      rw [h91, h92]
      clear h91 h92 m9 v9
      refine z_istore_n (i := 3) hG dL_law_260 rfl (by decide) (ls2 := [_, _, _, _, _, _, _, _]) rfl ?_
      refine z_aload_n (i := 1) hG dL_law_261 rfl rfl ?_
      refine z_iload_n (i := 3) hG dL_law_262 rfl rfl ?_
      refine z_aload_n (i := 0) hG dL_law_263 rfl rfl ?_
      refine z_iload_n (i := 2) hG dL_law_264 rfl rfl ?_
      refine z_iinc hG dL_law_265 (by decide) rfl (by omega) (by omega) (ls2 := [_, _, _, _, _, _, _, _]) rfl ?_
      refine z_callX hG hX dL_law_268 LS_L_12 (ct_L_celli l g hL (by omega)) (by decide) rfl rfl (Nat.le_of_ble_eq_true rfl) ?_
      intro v9 m9 h9
      obtain ⟨⟨y268, h91⟩, h92⟩ := h9
      rw [h91, h92]
      clear h91 h92 m9 v9
      refine z_aload_n (i := 0) hG dL_law_271 rfl rfl ?_
      refine z_iload_n (i := 2) hG dL_law_272 rfl rfl ?_
      refine z_iinc hG dL_law_273 (by decide) rfl (by omega) (by omega) (ls2 := [_, _, _, _, _, _, _, _]) rfl ?_
      refine z_callX hG hX dL_law_276 LS_L_12 (ct_L_celli l g hL (by omega)) (by decide) rfl rfl (Nat.le_of_ble_eq_true rfl) ?_
      intro v9 m9 h9
      obtain ⟨⟨y276, h91⟩, h92⟩ := h9
      rw [h91, h92]
      clear h91 h92 m9 v9
      refine z_callA hG dL_law_279 LS_L_44 (ct_L_act l g hS.1 (by omega) hQ hS.2.1 hg0 (by have := hS.2.2.1; omega) (by have := hS.2.2.2.1; omega) (by have := hS.2.2.2.2.1; omega)) (zBud_le hbud (by omega) (by omega)) (by decide) rfl rfl (Nat.le_of_ble_eq_true rfl) ?_
      intro v9 mm h9
      obtain ⟨h91, m1, ⟨hI1, hA1, h41, h51, hd1, h61⟩, hQ⟩ := h9
      rw [h91]
      clear h91 v9
      have hS1 : zSw (22000 * (k : Int) + 22000) n 2 (4 * (k : Int) + 4) m1 := ⟨hI1, hA1, h41.trans hS.2.2.1, h51.trans hS.2.2.2.1, by have := hS.2.2.2.2.1; omega, h61.trans hS.2.2.2.2.2⟩
      clear hI1 hA1 h41 h51 hd1 h61
      have hbx := zBud_le (a' := 1) (b' := 32) hbud (by omega) (by omega)
      replace hG := zGood_add hG hbx
      replace hX := zXsc_add (a := 1) (b := 32) hX
      replace hW := zLw_add (c := 1) (d := 32) hW
      refine z_if_eq hG dL_law_282 (tgt := 307) rfl (fun zcq282 => ?_) (fun zcq282 => ?_)
      · try simp only [zite_eq0, ne_eq, Classical.not_not] at zcq282
        first | exact absurd zcq282 (by decide) | (simp at zcq282; done) | exact absurd rfl zcq282
      · try simp only [zite_eq0, ne_eq, Classical.not_not] at zcq282
        refine z_iload hG dL_law_285 rfl ?_
        refine z_iconst hG dL_law_287 rfl ?_
        refine z_irem hG dL_law_288 (by omega) (by omega) ?_
        refine z_iconst hG dL_law_289 rfl ?_
        refine z_icmp_ne hG dL_law_290 (tgt := 309) rfl (fun zcq290 => ?_) (fun zcq290 => ?_)
        · refine z_iinc hG dL_law_309 (by decide) rfl (by omega) (by omega) (ls2 := [_, _, _, _, _, _, _, _]) rfl ?_
          refine z_goto hG dL_law_312 (tgt := 245) rfl ?_
          refine ih (k + 1) hG hX hW (zBud_add (zBud_le hbud (by omega) (by omega))) (by omega) (by omega) ?_ hQ
          have e1 : (22000 : Int) * ((k + 1 : Nat) : Int) = 22000 * (k : Int) + 22000 := by omega
          have e2 : (4 : Int) * ((k + 1 : Nat) : Int) = 4 * (k : Int) + 4 := by omega
          rw [e1, e2]
          exact hS1
        · refine z_aload_n (i := 1) hG dL_law_293 rfl rfl ?_
          refine z_callS hG dL_law_294 LS_L_48 (ct_L_needs l g hS1.1 (by omega) hQ) (by decide) rfl rfl (Nat.le_of_ble_eq_true rfl) ?_
          intro v9 mm h9
          rw [h9.1]
          replace hQ := h9.2
          clear h9 v9
          refine z_if_eq hG dL_law_297 (tgt := 307) rfl (fun zcq297 => ?_) (fun zcq297 => ?_)
          · try simp only [zite_eq0, ne_eq, Classical.not_not] at zcq297
            first | exact absurd zcq297 (by decide) | (simp at zcq297; done) | exact absurd rfl zcq297
          · try simp only [zite_eq0, ne_eq, Classical.not_not] at zcq297
            refine z_aload_n (i := 1) hG dL_law_300 rfl rfl ?_
            refine z_callS hG dL_law_301 LS_L_52 (ct_L_accounts l g hS1.1 (by omega) hQ hS1.2.1) (by decide) rfl rfl (Nat.le_of_ble_eq_true rfl) ?_
            intro v9 mm h9
            rw [h9.1]
            replace hQ := h9.2
            clear h9 v9
            refine z_if_ne hG dL_law_304 (tgt := 309) rfl (fun zcq304 => ?_) (fun zcq304 => ?_)
            · try simp only [zite_eq0, ne_eq, Classical.not_not] at zcq304
              refine z_iinc hG dL_law_309 (by decide) rfl (by omega) (by omega) (ls2 := [_, _, _, _, _, _, _, _]) rfl ?_
              refine z_goto hG dL_law_312 (tgt := 245) rfl ?_
              refine ih (k + 1) hG hX hW (zBud_add (zBud_le hbud (by omega) (by omega))) (by omega) (by omega) ?_ hQ
              have e1 : (22000 : Int) * ((k + 1 : Nat) : Int) = 22000 * (k : Int) + 22000 := by omega
              have e2 : (4 : Int) * ((k + 1 : Nat) : Int) = 4 * (k : Int) + 4 := by omega
              rw [e1, e2]
              exact hS1
            · try simp only [zite_eq0, ne_eq, Classical.not_not] at zcq304
              first | exact absurd zcq304 (by decide) | (simp at zcq304; done) | exact absurd rfl zcq304
set_option maxRecDepth 20000 in
theorem z_law_r {l : Launch} {g : zG} {L b : Nat} {xs : Nat → Int32} (hL : L ≤ 2048) (hg0 : g.2.1 (999, 0, 0) = 0) {n : Int} (hn : 1 ≤ n) {v6 v7 : Option zV} {c v : Int} : ∀ (N k : Nat) {X : zX} (hG : zGood X l g RL cL_law 12 8) (hX : zXsc X g L xs) (hW : zLw X g b) (hbud : zBud X (N + 19) (64 * N + 640)) {a : Int} (hk : k + N = 2) (ha : 0 ≤ a ∧ a + 2 * N ≤ 400) {m0 mm : zM} (hS : zSw 0 n (k : Int) 0 m0) (hQ : zQ m0 mm), zZ X 205 [some (zr 998 0 0), some (zr 0 0 0), some (zi a), some (zi v), some (zi c), some (zi (k : Int)), v6, v7] [] mm := by
  intro N
  induction N with
  | zero =>
    intro k X hG hX hW hbud a hk ha m0 mm hS hQ
    have hk2 : k = 2 := by omega
    subst hk2
    refine z_iload hG dL_law_205 rfl ?_
    refine z_iconst hG dL_law_207 rfl ?_
    refine z_icmp_ge hG dL_law_208 (tgt := 242) rfl (fun zcq208 => ?_) (fun zcq208 => ?_)
    · refine z_iconst hG dL_law_242 rfl ?_
      refine z_istore hG dL_law_243 (by decide) (ls2 := [_, _, _, _, _, _, _, _]) rfl ?_
      exact z_law_t hL hg0 hn 18 0 hG hX hW (zBud_le hbud (by omega) (by omega)) (by omega) (by omega) hS hQ
    · exact absurd zcq208 (by omega)
  | succ N ih =>
    intro k X hG hX hW hbud a hk ha m0 mm hS hQ
    refine z_iload hG dL_law_205 rfl ?_
    refine z_iconst hG dL_law_207 rfl ?_
    refine z_icmp_ge hG dL_law_208 (tgt := 242) rfl (fun zcq208 => ?_) (fun zcq208 => ?_)
    · exact absurd zcq208 (by omega)
    · refine z_aload_n (i := 1) hG dL_law_211 rfl rfl ?_
      refine z_aload_n (i := 0) hG dL_law_212 rfl rfl ?_
      refine z_iload_n (i := 2) hG dL_law_213 rfl rfl ?_
      refine z_iinc hG dL_law_214 (by decide) rfl (by omega) (by omega) (ls2 := [_, _, _, _, _, _, _, _]) rfl ?_
      refine z_callX hG hX dL_law_217 LS_L_12 (ct_L_celli l g hL (by omega)) (by decide) rfl rfl (Nat.le_of_ble_eq_true rfl) ?_
      intro v9 m9 h9
      obtain ⟨⟨y217, h91⟩, h92⟩ := h9
      rw [h91, h92]
      clear h91 h92 m9 v9
      refine z_aload_n (i := 0) hG dL_law_220 rfl rfl ?_
      refine z_iload_n (i := 2) hG dL_law_221 rfl rfl ?_
      refine z_iinc hG dL_law_222 (by decide) rfl (by omega) (by omega) (ls2 := [_, _, _, _, _, _, _, _]) rfl ?_
      refine z_callX hG hX dL_law_225 LS_L_12 (ct_L_celli l g hL (by omega)) (by decide) rfl rfl (Nat.le_of_ble_eq_true rfl) ?_
      intro v9 m9 h9
      obtain ⟨⟨y225, h91⟩, h92⟩ := h9
      rw [h91, h92]
      clear h91 h92 m9 v9
      refine z_callA hG dL_law_228 LS_L_40 (ct_L_adds l g hS.1 (by omega) hQ hS.2.1 hg0 (by have := hS.2.2.2.1; omega) hS.2.2.2.2.2) (zBud_le hbud (by omega) (by omega)) (by decide) rfl rfl (Nat.le_of_ble_eq_true rfl) ?_
      intro v9 mm h9
      obtain ⟨h91, m1, hI1, hA1, h41, h51, hd1, h61, hQ⟩ := h9
      rw [h91]
      clear h91 v9
      have hS1 : zSw 0 _ _ _ m1 := ⟨hI1, hA1, h41.trans hS.2.2.1, h51.trans (congrArg (· + 1) hS.2.2.2.1), Int.le_trans (Int.le_of_eq hd1) hS.2.2.2.2.1, h61⟩
      clear hI1 hA1 h41 h51 hd1 h61
      have hbx := zBud_le (a' := 1) (b' := 64) hbud (by omega) (by omega)
      replace hG := zGood_add hG hbx
      replace hX := zXsc_add (a := 1) (b := 64) hX
      replace hW := zLw_add (c := 1) (d := 64) hW
      
      refine z_if_ne hG dL_law_231 (tgt := 236) rfl (fun zcq231 => ?_) (fun zcq231 => ?_)
      · try simp only [zite_eq0, ne_eq, Classical.not_not] at zcq231
        refine z_iinc hG dL_law_236 (by decide) rfl (by omega) (by omega) (ls2 := [_, _, _, _, _, _, _, _]) rfl ?_
        refine z_goto hG dL_law_239 (tgt := 205) rfl ?_
        exact ih (k + 1) hG hX hW (zBud_add (zBud_le hbud (by omega) (by omega))) (by omega) (by omega) hS1 hQ
      · try simp only [zite_eq0, ne_eq, Classical.not_not] at zcq231
        first | exact absurd zcq231 (by decide) | (simp at zcq231; done) | exact absurd rfl zcq231
set_option maxRecDepth 20000 in
theorem z_law_i {l : Launch} {g : zG} {L b : Nat} {xs : Nat → Int32} (hL : L ≤ 2048) (hg0 : g.2.1 (999, 0, 0) = 0) {c : Nat} {v : Int} (hc : 1 ≤ c ∧ c ≤ 5) {X : zX} (hG : zGood X l g RL cL_law 12 8) (hX : zXsc X g L xs) (hW : zLw X g b) (hbud : zBud X 21 768) : ∀ (N i : Nat) {a : Int} {v6 v7 : Option zV} (hi : i + N = c) (ha : 0 ≤ a ∧ a + N ≤ 300) {m0 mm : zM} (hS : zSw 0 (i : Int) 0 0 m0) (hQ : zQ m0 mm), zZ X 48 [some (zr 998 0 0), some (zr 0 0 0), some (zi a), some (zi v), some (zi (c : Int)), some (zi (i : Int)), v6, v7] [] mm := by
  intro N
  induction N with
  | zero =>
    intro i a v6 v7 hi ha m0 mm hS hQ
    have hic : i = c := by omega
    subst hic
    refine z_iload hG dL_law_48 rfl ?_
    refine z_iload hG dL_law_50 rfl ?_
    refine z_icmp_ge hG dL_law_52 (tgt := 202) rfl (fun zcq52 => ?_) (fun zcq52 => ?_)
    · refine z_iconst hG dL_law_202 rfl ?_
      refine z_istore hG dL_law_203 (by decide) (ls2 := [_, _, _, _, _, _, _, _]) rfl ?_
      exact z_law_r hL hg0 (n := (i : Int)) (by omega) 2 0 hG hX hW (zBud_le hbud (by omega) (by omega)) (by omega) (by omega) hS hQ
    · exact absurd zcq52 (by omega)
  | succ N ih =>
    intro i a v6 v7 hi ha m0 mm hS hQ
    refine z_iload hG dL_law_48 rfl ?_
    refine z_iload hG dL_law_50 rfl ?_
    refine z_icmp_ge hG dL_law_52 (tgt := 202) rfl (fun zcq52 => ?_) (fun zcq52 => ?_)
    · exact absurd zcq52 (by omega)
    · refine z_aload_n (i := 0) hG dL_law_55 rfl rfl ?_
      refine z_iload_n (i := 2) hG dL_law_56 rfl rfl ?_
      refine z_iinc hG dL_law_57 (by decide) rfl (by omega) (by omega) (ls2 := [_, _, _, _, _, _, _, _]) rfl ?_
      refine z_callX hG hX dL_law_60 LS_L_12 (ct_L_celli l g hL (by omega)) (by decide) rfl rfl (Nat.le_of_ble_eq_true rfl) ?_
      intro v9 m9 h9
      obtain ⟨⟨y60, h91⟩, h92⟩ := h9
      rw [h91, h92]
      clear h91 h92 m9 v9
      have hu9 := zUp_bd (v := y60) (m := 9) (by decide)
      obtain ⟨u, hu⟩ := Int.eq_ofNat_of_zero_le (zUp_bd (v := zshr y60 4) (m := 4) (by decide)).1
      have hu4 := (zUp_bd (v := zshr y60 4) (m := 4) (by decide)).2
      rw [hu] at hu4
      have h196 : ∀ (m1 mm : zM) (v7 : Option zV), zSw 0 ((i : Int) + 1) 0 0 m1 → zQ m1 mm → zZ X 196 [some (zr 998 0 0), some (zr 0 0 0), some (zi (a + 1)), some (zi v), some (zi (c : Int)), some (zi (i : Int)), some (zi y60), v7] [] mm := by
        intro m1 mm v7 hS hQ
        refine z_iinc hG dL_law_196 (by decide) rfl (by omega) (by omega) (ls2 := [_, _, _, _, _, _, _, _]) rfl ?_
        refine z_goto hG dL_law_199 (tgt := 48) rfl ?_
        exact ih (i + 1) (by omega) (by omega) (by rw [show ((i + 1 : Nat) : Int) = (i : Int) + 1 by omega]; exact hS) hQ
      have h176 : ∀ (m1 mm : zM) (v7 : Option zV), zSw 0 ((i : Int) + 1) 0 0 m1 → zQ m1 mm → zZ X 176 [some (zr 998 0 0), some (zr 0 0 0), some (zi (a + 1)), some (zi v), some (zi (c : Int)), some (zi (i : Int)), some (zi y60), v7] [] mm := by
        intro m1 mm v7 hS hQ
        refine z_iload hG dL_law_176 rfl ?_
        refine z_bipush hG dL_law_178 rfl ?_
        refine z_ishr hG dL_law_180 ?_
        refine z_iconst hG dL_law_181 rfl ?_
        refine z_callS hG dL_law_182 LS_L_22 (ct_L_up l g (by decide)) (by decide) rfl rfl (Nat.le_of_ble_eq_true rfl) ?_
        intro v9 m9 h9
        rw [h9.1, h9.2]
        clear h9 m9 v9
        refine z_if_ne hG dL_law_185 (tgt := 196) rfl (fun zcq185 => ?_) (fun zcq185 => ?_)
        · try simp only [zite_eq0, ne_eq, Classical.not_not] at zcq185
          exact h196 _ mm v7 hS hQ
        · try simp only [zite_eq0, ne_eq, Classical.not_not] at zcq185
          refine z_aload_n (i := 1) hG dL_law_188 rfl rfl ?_
          refine z_iload hG dL_law_189 rfl ?_
          refine z_iconst hG dL_law_191 rfl ?_
          refine z_callV hG dL_law_192 LV_L_37 (cm_buyable l g hS.1 (by decide) hQ) (by decide) rfl rfl rfl (Nat.le_of_ble_eq_true rfl) ?_
          intro v9 mm h9
          rw [h9.1]
          obtain ⟨m1, hS, hQ⟩ : ∃ m', zSw 0 ((i : Int) + 1) 0 0 m' ∧ zQ m' mm := ⟨_, zSw_F hS (zkj_buyable hS.1) (zF_buyable hS.1.1.1.1), h9.2⟩
          clear h9 v9
          refine z_pop hG dL_law_195 ?_
          exact h196 _ mm v7 hS hQ
      have h88 : ∀ (M k : Nat) (m1 mm : zM), k + M = u → zSw 0 ((i : Int) + 1) 0 0 m1 → zQ m1 mm → zZ X 88 [some (zr 998 0 0), some (zr 0 0 0), some (zi (a + 1)), some (zi v), some (zi (c : Int)), some (zi (i : Int)), some (zi y60), some (zi (k : Int))] [] mm := by
        intro M
        induction M with
        | zero =>
          intro k m1 mm hk hS hQ
          refine z_iload hG dL_law_88 rfl ?_
          refine z_iload hG dL_law_90 rfl ?_
          refine z_iconst hG dL_law_92 rfl ?_
          refine z_ishr hG dL_law_93 ?_
          refine z_iconst hG dL_law_94 rfl ?_
          refine z_callS hG dL_law_95 LS_L_22 (ct_L_up l g (by decide)) (by decide) rfl rfl (Nat.le_of_ble_eq_true rfl) ?_
          intro v9 m9 h9
          rw [h9.1, h9.2]
          clear h9 m9 v9
          rw [hu]
          refine z_icmp_ge hG dL_law_98 (tgt := 147) rfl (fun zcq98 => ?_) (fun zcq98 => ?_)
          · refine z_iload hG dL_law_147 rfl ?_
            refine z_if_le hG dL_law_149 (tgt := 176) rfl (fun zcq149 => ?_) (fun zcq149 => ?_)
            · exact h176 _ mm _ hS hQ
            · refine z_aload_n (i := 1) hG dL_law_152 rfl rfl ?_
              refine z_iload hG dL_law_153 rfl ?_
              refine z_iconst hG dL_law_155 rfl ?_
              refine z_isub hG dL_law_156 (by omega) (by omega) ?_
              refine z_iload hG dL_law_157 rfl ?_
              refine z_bipush hG dL_law_159 rfl ?_
              refine z_iload hG dL_law_161 rfl ?_
              refine z_iconst hG dL_law_163 rfl ?_
              refine z_ishr hG dL_law_164 ?_
              refine z_sipush hG dL_law_165 rfl ?_
              refine z_callS hG dL_law_168 LS_L_22 (ct_L_up l g (by decide)) (by decide) rfl rfl (Nat.le_of_ble_eq_true rfl) ?_
              intro v9 m9 h9
              rw [h9.1, h9.2]
              clear h9 m9 v9
              have hu191 := zUp_bd (v := zshr y60 5) (m := 191) (by decide)
              refine z_iadd hG dL_law_171 (by omega) (by omega) ?_
              refine z_callV hG dL_law_172 LV_L_34 (cm_substitute l g hS.1 (by decide) hQ) (by decide) rfl rfl rfl (Nat.le_of_ble_eq_true rfl) ?_
              intro v9 mm h9
              rw [h9.1]
              obtain ⟨m1, hS, hQ⟩ : ∃ m', zSw 0 ((i : Int) + 1) 0 0 m' ∧ zQ m' mm := ⟨_, zSw_F hS (zkj_substitute hS.1) (zF_substitute hS.1.1.1.1), h9.2⟩
              clear h9 v9
              refine z_pop hG dL_law_175 ?_
              exact h176 _ mm _ hS hQ
          · exact absurd zcq98 (by omega)
        | succ M ihk =>
          intro k m1 mm hk hS hQ
          have hu900 := zUp_bd (v := zshr y60 (2 * (k : Int) + 3)) (m := 900) (by decide)
          have hu200 := zUp_bd (v := zshr y60 (3 * (k : Int))) (m := 200) (by decide)
          refine z_iload hG dL_law_88 rfl ?_
          refine z_iload hG dL_law_90 rfl ?_
          refine z_iconst hG dL_law_92 rfl ?_
          refine z_ishr hG dL_law_93 ?_
          refine z_iconst hG dL_law_94 rfl ?_
          refine z_callS hG dL_law_95 LS_L_22 (ct_L_up l g (by decide)) (by decide) rfl rfl (Nat.le_of_ble_eq_true rfl) ?_
          intro v9 m9 h9
          rw [h9.1, h9.2]
          clear h9 m9 v9
          rw [hu]
          refine z_icmp_ge hG dL_law_98 (tgt := 147) rfl (fun zcq98 => ?_) (fun zcq98 => ?_)
          · exact absurd zcq98 (by omega)
          · refine z_aload_n (i := 1) hG dL_law_101 rfl rfl ?_
            refine z_iload hG dL_law_102 rfl ?_
            refine z_bipush hG dL_law_104 rfl ?_
            refine z_iload hG dL_law_106 rfl ?_
            refine z_iconst hG dL_law_108 rfl ?_
            refine z_iload hG dL_law_109 rfl ?_
            refine z_imul hG dL_law_111 (by omega) (by omega) ?_
            refine z_iconst hG dL_law_112 rfl ?_
            refine z_iadd hG dL_law_113 (by omega) (by omega) ?_
            refine z_ishr hG dL_law_114 ?_
            refine z_sipush hG dL_law_115 rfl ?_
            refine z_callS hG dL_law_118 LS_L_22 (ct_L_up l g (by decide)) (by decide) rfl rfl (Nat.le_of_ble_eq_true rfl) ?_
            intro v9 m9 h9
            rw [h9.1, h9.2]
            clear h9 m9 v9
            refine z_iadd hG dL_law_121 (by omega) (by omega) ?_
            refine z_iconst hG dL_law_122 rfl ?_
            refine z_iload hG dL_law_123 rfl ?_
            refine z_iconst hG dL_law_125 rfl ?_
            refine z_iload hG dL_law_126 rfl ?_
            refine z_imul hG dL_law_128 (by omega) (by omega) ?_
            refine z_ishr hG dL_law_129 ?_
            refine z_sipush hG dL_law_130 rfl ?_
            refine z_callS hG dL_law_133 LS_L_22 (ct_L_up l g (by decide)) (by decide) rfl rfl (Nat.le_of_ble_eq_true rfl) ?_
            intro v9 m9 h9
            rw [h9.1, h9.2]
            clear h9 m9 v9
            refine z_iadd hG dL_law_136 (by omega) (by omega) ?_
            refine z_callV hG dL_law_137 LV_L_30 (cm_tin l g hS.1 (by decide) hQ) (by decide) rfl rfl rfl (Nat.le_of_ble_eq_true rfl) ?_
            intro v9 mm h9
            rw [h9.1]
            obtain ⟨m1, hS, hQ⟩ : ∃ m', zSw 0 ((i : Int) + 1) 0 0 m' ∧ zQ m' mm := ⟨_, zSw_F hS (zkj_tin hS.1) (zF_tin hS.1.1.1.1), h9.2⟩
            clear h9 v9
            refine z_pop hG dL_law_140 ?_
            refine z_iinc hG dL_law_141 (by decide) rfl (by omega) (by omega) (ls2 := [_, _, _, _, _, _, _, _]) rfl ?_
            refine z_goto hG dL_law_144 (tgt := 88) rfl ?_
            exact ihk (k + 1) _ mm (by omega) hS hQ
      refine z_istore hG dL_law_63 (by decide) (ls2 := [_, _, _, _, _, _, _, _]) rfl ?_
      refine z_aload_n (i := 1) hG dL_law_65 rfl rfl ?_
      refine z_iconst hG dL_law_66 rfl ?_
      refine z_iload hG dL_law_67 rfl ?_
      refine z_bipush hG dL_law_69 rfl ?_
      refine z_callS hG dL_law_71 LS_L_22 (ct_L_up l g (by decide)) (by decide) rfl rfl (Nat.le_of_ble_eq_true rfl) ?_
      intro v9 m9 h9
      rw [h9.1, h9.2]
      clear h9 m9 v9
      refine z_iadd hG dL_law_74 (by omega) (by omega) ?_
      refine z_callV hG dL_law_75 LV_L_26 (cm_ingredient l g hS.1 (by decide) hQ) (by decide) rfl rfl rfl (Nat.le_of_ble_eq_true rfl) ?_
      intro v9 mm h9
      obtain ⟨q1, hS⟩ := zSw_ing (k := 1 + zUp y60 9) hS (by omega) (by omega)
      rw [h9.1, q1]
      replace hQ := h9.2
      clear h9 v9 q1
      refine z_iload hG dL_law_78 rfl ?_
      refine z_icmp_eq hG dL_law_80 (tgt := 85) rfl (fun zcq80 => ?_) (fun zcq80 => ?_)
      · refine z_iconst hG dL_law_85 rfl ?_
        refine z_istore hG dL_law_86 (by decide) (ls2 := [_, _, _, _, _, _, _, _]) rfl ?_
        exact h88 u 0 _ mm (by omega) hS hQ
      · first | exact absurd zcq80 (by decide) | (simp at zcq80; done) | exact absurd rfl zcq80
set_option maxRecDepth 20000 in
theorem z_law_0 {X : zX} {l : Launch} {g : zG} {L b : Nat} {xs : Nat → Int32} (hL : L ≤ 2048) (hg0 : g.2.1 (999, 0, 0) = 0) (hG : zGood X l g RL cL_law 12 8) (hX : zXsc X g L xs) (hW : zLw X g b) (hbud : zBud X 21 768) {v2 v3 v4 v5 v6 v7 : Option zV} {m0 mm : zM} (hI : zInv 0 m0) (h4 : m0 2 0 0 4 = 0) (h5 : m0 2 0 0 5 = 0) (h6 : m0 6 0 0 0 = 0) (h14 : m0 1 0 0 0 = 0) (hd : m0 2 0 0 0 = 0) (hQ : zQ m0 mm) : zZ X 8 [some (zr 998 0 0), some (zr 0 0 0), v2, v3, v4, v5, v6, v7] [] mm := by
  refine z_iconst hG dL_law_8 rfl ?_
  refine z_istore_n (i := 2) hG dL_law_9 rfl (by decide) (ls2 := [_, _, _, _, _, _, _, _]) rfl ?_
  refine z_aload_n (i := 1) hG dL_law_10 rfl rfl ?_
  refine z_aload_n (i := 0) hG dL_law_11 rfl rfl ?_
  refine z_iload_n (i := 2) hG dL_law_12 rfl rfl ?_
  refine z_iinc hG dL_law_13 (by decide) rfl (by omega) (by omega) (ls2 := [_, _, _, _, _, _, _, _]) rfl ?_
  refine z_callX hG hX dL_law_16 LS_L_12 (ct_L_celli l g hL (by omega)) (by decide) rfl rfl (Nat.le_of_ble_eq_true rfl) ?_
  intro v9 m9 h9
  obtain ⟨⟨y16, h91⟩, h92⟩ := h9
  rw [h91, h92]
  clear h91 h92 m9 v9
  refine z_callS hG dL_law_19 LS_L_18 (ct_L_refused l g hI (by decide) hQ h4 h5 h6 h14) (by decide) rfl rfl (Nat.le_of_ble_eq_true rfl) ?_
  intro v9 mm h9
  obtain ⟨h91, m1, hI1, hQ, q4, q5, q6, qd⟩ := h9
  rw [h91]
  clear h91 v9
  have hS : zSw 0 ((0 : Nat) : Int) 0 0 m1 := ⟨hI1, fun i i0 i1 => by omega, q4, q5, by omega, q6⟩
  refine z_if_ne hG dL_law_22 (tgt := 27) rfl (fun zcq22 => ?_) (fun zcq22 => ?_)
  · try simp only [zite_eq0, ne_eq, Classical.not_not] at zcq22
    refine z_aload_n (i := 0) hG dL_law_27 rfl rfl ?_
    refine z_iload_n (i := 2) hG dL_law_28 rfl rfl ?_
    refine z_iinc hG dL_law_29 (by decide) rfl (by omega) (by omega) (ls2 := [_, _, _, _, _, _, _, _]) rfl ?_
    refine z_callX hG hX dL_law_32 LS_L_12 (ct_L_celli l g hL (by omega)) (by decide) rfl rfl (Nat.le_of_ble_eq_true rfl) ?_
    intro v9 m9 h9
    obtain ⟨⟨y32, h91⟩, h92⟩ := h9
    rw [h91, h92]
    clear h91 h92 m9 v9
    refine z_istore_n (i := 3) hG dL_law_35 rfl (by decide) (ls2 := [_, _, _, _, _, _, _, _]) rfl ?_
    refine z_iconst hG dL_law_36 rfl ?_
    refine z_iload_n (i := 3) hG dL_law_37 rfl rfl ?_
    refine z_iconst hG dL_law_38 rfl ?_
    refine z_callS hG dL_law_39 LS_L_22 (ct_L_up l g (by decide)) (by decide) rfl rfl (Nat.le_of_ble_eq_true rfl) ?_
    intro v9 m9 h9
    rw [h9.1, h9.2]
    clear h9 m9 v9
    obtain ⟨u, hu⟩ := Int.eq_ofNat_of_zero_le (zUp_bd (v := y32) (m := 5) (by decide)).1
    have hu5 := (zUp_bd (v := y32) (m := 5) (by decide)).2
    rw [hu] at hu5
    rw [hu]
    refine z_iadd hG dL_law_42 (by omega) (by omega) ?_
    refine z_istore hG dL_law_43 (by decide) (ls2 := [_, _, _, _, _, _, _, _]) rfl ?_
    refine z_iconst hG dL_law_45 rfl ?_
    refine z_istore hG dL_law_46 (by decide) (ls2 := [_, _, _, _, _, _, _, _]) rfl ?_
    rw [show (1 : Int) + (u : Int) = ((1 + u : Nat) : Int) by omega]
    refine z_law_i hL hg0 (c := 1 + u) (by omega) hG hX hW hbud (1 + u) 0 (by omega) (by omega) hS hQ
  · try simp only [zite_eq0, ne_eq, Classical.not_not] at zcq22
    first | exact absurd zcq22 (by decide) | (simp at zcq22; done) | exact absurd rfl zcq22
