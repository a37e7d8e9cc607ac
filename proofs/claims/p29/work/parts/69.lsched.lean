theorem lz_mx {f : Int → Int} {n : Nat} : zmxs f (n + 1) = (if f n ≤ zmxs f n then zmxs f n else f n) := by
  show (if zmxs f n < f n then f n else zmxs f n) = _
  by_cases c : f n ≤ zmxs f n
  · rw [if_pos c, if_neg (by omega)]
  · rw [if_neg c, if_pos (by omega)]
theorem lz_mx0 {f : Int → Int} {n : Nat} : ∀ N : Nat, n ≤ N → (∀ j : Int, (n : Int) ≤ j → j < N → f j = 0) → zmxs f n = zmxs f N
  | N, hn, h2 => by
    induction N with
    | zero => rw [show n = 0 by omega]
    | succ N ih =>
      by_cases q : n = N + 1
      · rw [q]
      · rw [ih (by omega) (fun j j0 j1 => h2 j j0 (by omega)), lz_mx, h2 N (by omega) (by omega)]
        obtain ⟨-, -, a3⟩ := zmxs_at (f := f) N
        rw [if_pos a3]
theorem lz_an0 {f : Int → Int} {n : Nat} : ∀ N : Nat, n ≤ N → (∀ j : Int, (n : Int) ≤ j → j < N → f j = 0) → lz_any f n = lz_any f N
  | N, hn, h2 => by
    induction N with
    | zero => rw [show n = 0 by omega]
    | succ N ih =>
      by_cases q : n = N + 1
      · rw [q]
      · rw [ih (by omega) (fun j j0 j1 => h2 j j0 (by omega))]
        show _ = zor (lz_any f N) (if f N ≤ 0 then 0 else 1)
        rw [h2 N (by omega) (by omega)]
        obtain ⟨o1, o2, o3, o4⟩ := lz_or01
        rcases lz_any_at f N with ⟨h1, -⟩ | ⟨h1, -⟩
        · rw [h1]; exact o1.symm
        · rw [h1]; exact o3.symm
/-- whether a step waits, by what comes before it -/
def lz_wt (x w0 : Int) (f : Int → Int) : Nat → Int
  | 0 => w0
  | n + 1 => if zbit x n then zor (lz_wt x w0 f n) (if 0 ≤ f n then 0 else 1) else lz_wt x w0 f n
/-- when it is ready -/
def lz_rd (x : Int) (f : Int → Int) : Nat → Int
  | 0 => 0
  | n + 1 => if zbit x n then (if f n ≤ lz_rd x f n then lz_rd x f n else f n) else lz_rd x f n
theorem lz_wt_at {x w0 : Int} {f : Int → Int} (hw : w0 = 0 ∨ w0 = 1) : ∀ n : Nat, (lz_wt x w0 f n = 0 ∧ w0 = 0 ∧ ∀ k : Int, 0 ≤ k → k < n → zbit x k → 0 ≤ f k) ∨ (lz_wt x w0 f n = 1 ∧ (w0 = 1 ∨ ∃ k : Int, 0 ≤ k ∧ k < n ∧ zbit x k ∧ f k < 0))
  | 0 => by
    rcases hw with h | h
    · exact Or.inl ⟨h, h, fun k k0 k1 => by omega⟩
    · exact Or.inr ⟨h, Or.inl h⟩
  | n + 1 => by
    obtain ⟨o1, o2, o3, o4⟩ := lz_or01
    show ((if zbit x n then zor (lz_wt x w0 f n) (if 0 ≤ f n then 0 else 1) else lz_wt x w0 f n) = 0 ∧ _) ∨ ((if zbit x n then zor (lz_wt x w0 f n) (if 0 ≤ f n then 0 else 1) else lz_wt x w0 f n) = 1 ∧ _)
    by_cases c : zbit x n
    · rw [if_pos c]
      rcases lz_wt_at (x := x) (f := f) hw n with ⟨h1, h2, h3⟩ | ⟨h1, h2⟩
      · rw [h1]
        by_cases d : 0 ≤ f n
        · rw [if_pos d]
          refine Or.inl ⟨o1, h2, fun k k0 k1 kb => ?_⟩
          rcases (show k < n ∨ k = n by omega) with q | q
          · exact h3 k k0 q kb
          · rw [q]; exact d
        · rw [if_neg d]
          exact Or.inr ⟨o2, Or.inr ⟨n, by omega, by omega, c, by omega⟩⟩
      · rw [h1]
        refine Or.inr ⟨by split; exact o3; exact o4, ?_⟩
        rcases h2 with h2 | ⟨k, k0, k1, k2⟩
        · exact Or.inl h2
        · exact Or.inr ⟨k, k0, by omega, k2⟩
    · rw [if_neg c]
      rcases lz_wt_at (x := x) (f := f) hw n with ⟨h1, h2, h3⟩ | ⟨h1, h2⟩
      · refine Or.inl ⟨h1, h2, fun k k0 k1 kb => ?_⟩
        rcases (show k < n ∨ k = n by omega) with q | q
        · exact h3 k k0 q kb
        · rw [q] at kb; exact absurd kb c
      · refine Or.inr ⟨h1, ?_⟩
        rcases h2 with h2 | ⟨k, k0, k1, k2⟩
        · exact Or.inl h2
        · exact Or.inr ⟨k, k0, by omega, k2⟩
theorem lz_rd_at {x : Int} {f : Int → Int} : ∀ n : Nat, 0 ≤ lz_rd x f n ∧ (∀ k : Int, 0 ≤ k → k < n → zbit x k → f k ≤ lz_rd x f n) ∧ (lz_rd x f n = 0 ∨ ∃ k : Int, 0 ≤ k ∧ k < n ∧ zbit x k ∧ f k = lz_rd x f n)
  | 0 => ⟨Int.le_refl 0, fun k k0 k1 => by omega, Or.inl rfl⟩
  | n + 1 => by
    obtain ⟨h1, h2, h3⟩ := lz_rd_at (x := x) (f := f) n
    have e : lz_rd x f (n + 1) = (if zbit x n then (if f n ≤ lz_rd x f n then lz_rd x f n else f n) else lz_rd x f n) := rfl
    rw [e]
    by_cases c : zbit x n
    · rw [if_pos c]
      by_cases d : f n ≤ lz_rd x f n
      · rw [if_pos d]
        refine ⟨h1, fun k k0 k1 kb => ?_, ?_⟩
        · rcases (show k < n ∨ k = n by omega) with q | q
          · exact h2 k k0 q kb
          · rw [q]; exact d
        · rcases h3 with h3 | ⟨k, k0, k1, k2⟩
          · exact Or.inl h3
          · exact Or.inr ⟨k, k0, by omega, k2⟩
      · rw [if_neg d]
        refine ⟨by omega, fun k k0 k1 kb => ?_, Or.inr ⟨n, by omega, by omega, c, rfl⟩⟩
        rcases (show k < n ∨ k = n by omega) with q | q
        · have := h2 k k0 q kb; omega
        · rw [q]; exact Int.le_refl _
    · rw [if_neg c]
      refine ⟨h1, fun k k0 k1 kb => ?_, ?_⟩
      · rcases (show k < n ∨ k = n by omega) with q | q
        · exact h2 k k0 q kb
        · rw [q] at kb; exact absurd kb c
      · rcases h3 with h3 | ⟨k, k0, k1, k2⟩
        · exact Or.inl h3
        · exact Or.inr ⟨k, k0, by omega, k2⟩
theorem lz_us_nn {E : zE} (hE : zEok E) {b : Int → Int} {τ : Int} : 0 ≤ lz_us E b τ := by
  have := zsum_le (f := fun p => if E 0 p = 1 then (if b p ≠ -6 ∧ b p ≤ τ ∧ τ < b p + E 1 p then E 2 p else 0) else 0) (B := 3) 32 (fun j j0 j1 => by
    split
    · next c =>
      have := hE j j0 (by omega) c
      split <;> omega
    · omega)
  exact this.1
set_option maxRecDepth 20000 in
theorem ct_L_schedule (l : Launch) (g : zG) {m0 m : zM} {B : Int} (hI : zInv B m0) (hB : B ≤ 11900000) (hQ : zQ m0 m) : zMet l g Y_L_schedule [zr 0 0 0, zi (m0 2 0 0 1)] m (fun v m' => v = some (zi 1) ∧ zQ m0 m') := by
  refine zMet_introF (by decide +kernel) (Nat.le_of_ble_eq_true rfl) (ls0 := [some (zr 0 0 0), some (zi (m0 2 0 0 1)), none, none, none, none, none, none, none, none, none, none, none, none, none, none, none]) rfl fun X hG hE => ?_
  have hG : zGood X l g RL cL_schedule 8 17 := hG
  have hE : zEnd X (some .boolean) _ := hE
  have hI0 := zInv0 hI
  obtain ⟨hday, hhan, hing, hrcp, hrec, hboo, hrow, hrow2, hstp⟩ := id hI0
  have hEk := zEc_ok hI0
  obtain ⟨⟨s1, s2, s3, s4, s5⟩, hEd⟩ := lz_run hEk (show 0 ≤ m0 2 0 0 1 by omega)
  obtain ⟨nr, hnr⟩ := Int.eq_ofNat_of_zero_le hrcp.1
  obtain ⟨fW, hW⟩ : ∃ f : Int → Int, f = zwf (zEc m0) := ⟨_, rfl⟩
  obtain ⟨fT, hT'⟩ : ∃ f : Int → Int, f = fun p => if zEc m0 0 p = 1 then zEc m0 4 p else 0 := ⟨_, rfl⟩
  obtain ⟨fL, hL'⟩ : ∃ f : Int → Int, f = fun p => if zEc m0 0 p = 1 then (if zrb (zEc m0) (m0 2 0 0 1) p = -6 then 0 else zrb (zEc m0) (m0 2 0 0 1) p + zEc m0 1 p) else 0 := ⟨_, rfl⟩
  obtain ⟨fN, hN'⟩ : ∃ f : Int → Int, f = fun p => if zEc m0 0 p = 1 then (if zrb (zEc m0) (m0 2 0 0 1) p = -6 then 1 else 0) else 0 := ⟨_, rfl⟩
  have hT : ∀ p : Int, fT p = if zEc m0 0 p = 1 then zEc m0 4 p else 0 := fun p => by rw [hT']
  have hL : ∀ p : Int, fL p = if zEc m0 0 p = 1 then (if zrb (zEc m0) (m0 2 0 0 1) p = -6 then 0 else zrb (zEc m0) (m0 2 0 0 1) p + zEc m0 1 p) else 0 := fun p => by rw [hL']
  have hN : ∀ p : Int, fN p = if zEc m0 0 p = 1 then (if zrb (zEc m0) (m0 2 0 0 1) p = -6 then 1 else 0) else 0 := fun p => by rw [hN']
  have hW0 : ∀ p : Int, zEc m0 0 p = 0 → fW p = 0 := fun p q => by rw [hW]; exact if_neg (by omega)
  have hT0 : ∀ p : Int, zEc m0 0 p = 0 → fT p = 0 := fun p q => by rw [hT, if_neg (by omega)]
  have hL0 : ∀ p : Int, zEc m0 0 p = 0 → fL p = 0 := fun p q => by rw [hL, if_neg (by omega)]
  have hN0 : ∀ p : Int, zEc m0 0 p = 0 → fN p = 0 := fun p q => by rw [hN, if_neg (by omega)]
  have hTg : zmxs fT 32 = zgre (zEc m0) := by rw [hT']; rfl
  have hWbd : ∀ p : Int, 0 ≤ p → p < 32 → 0 ≤ fW p ∧ fW p ≤ 15000 := fun p p0 p1 => by
    rw [hW]
    unfold zwf
    split
    · next q =>
      have h1 := hEk p p0 p1 q
      exact zmulb (A := 5000) (B := 3) (by omega) (by omega) (by omega) (by omega)
    · omega
  have hWt : 0 ≤ zsum 32 (zwf (zEc m0)) ∧ zsum 32 (zwf (zEc m0)) ≤ 480000 := by
    have := zsum_le (f := fW) (B := 15000) 32 (fun p p0 p1 => hWbd p p0 (by omega))
    rw [hW] at this
    omega
  have hcb := zCe_bd (a := zsum 32 (zwf (zEc m0))) (b := m0 2 0 0 1) hWt.1 (by omega)
  have hend : zre (zEc m0) (m0 2 0 0 1) = (if lz_any fN 32 = 0 then zmxs fL 32 else -6) := by
    rcases lz_any_at fN 32 with ⟨h1, h2⟩ | ⟨h1, p, p0, p1, h2⟩
    · rw [h1, if_pos rfl]
      have hall : ∀ p : Int, 0 ≤ p → p < 32 → zEc m0 0 p = 1 → zrb (zEc m0) (m0 2 0 0 1) p ≠ -6 := fun p p0 p1 q z => by
        have := h2 p p0 p1
        rw [hN, if_pos q, if_pos z] at this
        omega
      rcases hEd with ⟨-, p, p0, p1, q, z⟩ | ⟨-, d2, d3, d4⟩
      · exact absurd z (hall p p0 p1 q)
      · obtain ⟨a1, a2, a3⟩ := zmxs_at (f := fL) 32
        have l1 : zmxs fL 32 ≤ zre (zEc m0) (m0 2 0 0 1) := by
          rcases a2 with z | ⟨p, p0, p1, z⟩
          · omega
          · rw [← z, hL]
            split
            · next q =>
              rw [if_neg (hall p p0 p1 q)]
              exact d3 p p0 p1 q
            · exact d2
        have l2 : zre (zEc m0) (m0 2 0 0 1) ≤ zmxs fL 32 := by
          rcases d4 with z | ⟨p, p0, p1, q, z⟩
          · omega
          · have := a1 p p0 p1
            rw [hL, if_pos q, if_neg (hall p p0 p1 q)] at this
            omega
        omega
    · rw [h1, if_neg (by decide)]
      rcases hEd with ⟨z, -⟩ | ⟨d1, -⟩
      · exact z
      · exfalso
        rw [hN] at h2
        split at h2
        · next q =>
          have := d1 p p0 p1 q
          rw [if_neg this] at h2
          omega
        · omega
  have hbnd : lz_any fN 32 = 0 → zgre (zEc m0) ≤ zmxs fL 32 ∧ zCe (zsum 32 (zwf (zEc m0))) (m0 2 0 0 1) ≤ zmxs fL 32 := fun q => by
    rw [if_pos q] at hend
    have h0 := (zmxs_at (f := fL) 32).2.2
    have ht := lz_tail hI0 (h := m0 2 0 0 1) (by omega) hend (by omega)
    exact ⟨ht.1, zCe_le (by omega) ht.2.1⟩
  have loopR : ∀ (N r : Nat) (mm : zM) (v7 v8 v9 v10 v11 v12 v13 v14 v15 v16 : Option zV), r + N = nr → zQ m0 mm → zZ X 13 [some (zr 0 0 0), some (zi (m0 2 0 0 1)), some (zi (zmxs fL (8 * r))), some (zi (zsum (8 * r) fW)), some (zi (zmxs fT (8 * r))), some (zi (lz_any fN (8 * r))), some (zi r), v7, v8, v9, v10, v11, v12, v13, v14, v15, v16] [] mm := by
    intro N
    induction N with
    | zero =>
      intro r mm v7 v8 v9 v10 v11 v12 v13 v14 v15 v16 hrn hQ
      have hz : ∀ p : Int, ((8 * r : Nat) : Int) ≤ p → p < ((32 : Nat) : Int) → zEc m0 0 p = 0 := fun p p0 p1 => lz_off (fun z => by
        have := (hrow2 (p / 8) (by omega) (by omega)).2.1 (by omega)
        omega)
      have f1 : zsum (8 * r) fW = zsum 32 fW := lz_ext0 _ (by omega) (fun _ _ _ => rfl) (fun p p0 p1 => hW0 p (hz p p0 p1))
      have f2 : zmxs fT (8 * r) = zgre (zEc m0) := (lz_mx0 _ (by omega) (fun p p0 p1 => hT0 p (hz p p0 p1))).trans hTg
      have f3 : zmxs fL (8 * r) = zmxs fL 32 := lz_mx0 _ (by omega) (fun p p0 p1 => hL0 p (hz p p0 p1))
      have f4 : lz_any fN (8 * r) = lz_any fN 32 := lz_an0 _ (by omega) (fun p p0 p1 => hN0 p (hz p p0 p1))
      rw [f1, f2, f3, f4, hW]
      refine z_iload hG dL_schedule_13 rfl ?_
      refine z_aload_n (i := 0) hG dL_schedule_15 rfl rfl ?_
      refine z_iconst hG dL_schedule_16 rfl ?_
      refine z_callV hG dL_schedule_17 LV_L_68 (cqc_2 l g hI hB hQ) (by decide) rfl rfl rfl (Nat.le_of_ble_eq_true rfl) ?_
      intro v9 mm h9
      rw [h9.1]
      replace hQ := h9.2
      clear h9 v9
      refine z_icmp_ge hG dL_schedule_20 (tgt := 474) rfl (fun zcq20 => ?_) (fun zcq20 => ?_)
      · refine z_iload_n (i := 3) hG dL_schedule_474 rfl rfl ?_
        refine z_iload_n (i := 1) hG dL_schedule_475 rfl rfl ?_
        refine z_callS hG dL_schedule_476 LS_L_123 (ct_L_ceil l g (by omega) (by omega) (by omega)) (by decide) rfl rfl (Nat.le_of_ble_eq_true rfl) ?_
        intro v9 m9 h9
        rw [h9.1, h9.2]
        clear h9 m9 v9
        refine z_iload hG dL_schedule_479 rfl ?_
        refine z_icmp_le hG dL_schedule_481 (tgt := 492) rfl (fun zcq481 => ?_) (fun zcq481 => ?_)
        · refine z_iload hG dL_schedule_492 rfl ?_
          refine z_istore hG dL_schedule_494 (by decide) (ls2 := [_, _, _, _, _, _, _, _, _, _, _, _, _, _, _, _, _]) rfl ?_
          refine z_aload_n (i := 0) hG dL_schedule_496 rfl rfl ?_
          refine z_bipush hG dL_schedule_497 rfl ?_
          refine z_callV hG dL_schedule_499 LV_L_68 (cqc_10 l g hI hB hQ) (by decide) rfl rfl rfl (Nat.le_of_ble_eq_true rfl) ?_
          intro v9 mm h9
          rw [h9.1]
          replace hQ := h9.2
          clear h9 v9
          refine z_iload_n (i := 3) hG dL_schedule_502 rfl rfl ?_
          refine z_icmp_ne hG dL_schedule_503 (tgt := 552) rfl (fun zcq503 => ?_) (fun zcq503 => ?_)
          · exact absurd rfl zcq503
          · refine z_aload_n (i := 0) hG dL_schedule_506 rfl rfl ?_
            refine z_bipush hG dL_schedule_507 rfl ?_
            refine z_callV hG dL_schedule_509 LV_L_68 (cqc_9 l g hI hB hQ) (by decide) rfl rfl rfl (Nat.le_of_ble_eq_true rfl) ?_
            intro v9 mm h9
            rw [h9.1]
            replace hQ := h9.2
            clear h9 v9
            refine z_iload hG dL_schedule_512 rfl ?_
            refine z_icmp_ne hG dL_schedule_514 (tgt := 552) rfl (fun zcq514 => ?_) (fun zcq514 => ?_)
            · exfalso
              change ¬ ((if zgre (zEc m0) < zCe (zsum 32 (zwf (zEc m0))) (m0 2 0 0 1) then zCe (zsum 32 (zwf (zEc m0))) (m0 2 0 0 1) else zgre (zEc m0)) = _) at zcq514
              split at zcq514 <;> omega
            · refine z_aload_n (i := 0) hG dL_schedule_517 rfl rfl ?_
              refine z_bipush hG dL_schedule_518 rfl ?_
              refine z_callV hG dL_schedule_520 LV_L_68 (cqc_8 l g hI hB hQ) (by decide) rfl rfl rfl (Nat.le_of_ble_eq_true rfl) ?_
              intro v9 mm h9
              rw [h9.1]
              replace hQ := h9.2
              clear h9 v9
              refine z_iload hG dL_schedule_523 rfl ?_
              refine z_tif_eq hG dL_schedule_525 (tgt := 533) (j := 534) rfl (fun K => (z_iload_n (i := 2) hG dL_schedule_533 rfl rfl K)) (fun K => (z_bipush hG dL_schedule_528 rfl (z_goto hG dL_schedule_530 (tgt := 534) rfl K))) ?_
              refine z_icmp_ne hG dL_schedule_534 (tgt := 552) rfl (fun zcq534 => ?_) (fun zcq534 => ?_)
              · exact absurd hend zcq534
              · refine z_iload hG dL_schedule_537 rfl ?_
                refine z_if_ne hG dL_schedule_539 (tgt := 548) rfl (fun zcq539 => ?_) (fun zcq539 => ?_)
                · try simp only [zite_eq0, ne_eq, Classical.not_not] at zcq539
                  refine z_iconst hG dL_schedule_548 rfl ?_
                  refine z_goto hG dL_schedule_549 (tgt := 553) rfl ?_
                  refine z_iret hG hE dL_schedule_553 (by first | exact Or.inl rfl | exact Or.inr rfl | (show _ ∨ _; omega)) ?_
                  exact ⟨rfl, hQ⟩
                · try simp only [zite_eq0, ne_eq, Classical.not_not] at zcq539
                  refine z_iload hG dL_schedule_542 rfl ?_
                  refine z_iload_n (i := 2) hG dL_schedule_544 rfl rfl ?_
                  refine z_icmp_gt hG dL_schedule_545 (tgt := 552) rfl (fun zcq545 => ?_) (fun zcq545 => ?_)
                  · exfalso
                    have := hbnd (by omega)
                    omega
                  · refine z_iconst hG dL_schedule_548 rfl ?_
                    refine z_goto hG dL_schedule_549 (tgt := 553) rfl ?_
                    refine z_iret hG hE dL_schedule_553 (by first | exact Or.inl rfl | exact Or.inr rfl | (show _ ∨ _; omega)) ?_
                    exact ⟨rfl, hQ⟩
        · refine z_iload_n (i := 3) hG dL_schedule_484 rfl rfl ?_
          refine z_iload_n (i := 1) hG dL_schedule_485 rfl rfl ?_
          refine z_callS hG dL_schedule_486 LS_L_123 (ct_L_ceil l g (by omega) (by omega) (by omega)) (by decide) rfl rfl (Nat.le_of_ble_eq_true rfl) ?_
          intro v9 m9 h9
          rw [h9.1, h9.2]
          clear h9 m9 v9
          refine z_goto hG dL_schedule_489 (tgt := 494) rfl ?_
          refine z_istore hG dL_schedule_494 (by decide) (ls2 := [_, _, _, _, _, _, _, _, _, _, _, _, _, _, _, _, _]) rfl ?_
          refine z_aload_n (i := 0) hG dL_schedule_496 rfl rfl ?_
          refine z_bipush hG dL_schedule_497 rfl ?_
          refine z_callV hG dL_schedule_499 LV_L_68 (cqc_10 l g hI hB hQ) (by decide) rfl rfl rfl (Nat.le_of_ble_eq_true rfl) ?_
          intro v9 mm h9
          rw [h9.1]
          replace hQ := h9.2
          clear h9 v9
          refine z_iload_n (i := 3) hG dL_schedule_502 rfl rfl ?_
          refine z_icmp_ne hG dL_schedule_503 (tgt := 552) rfl (fun zcq503 => ?_) (fun zcq503 => ?_)
          · exact absurd rfl zcq503
          · refine z_aload_n (i := 0) hG dL_schedule_506 rfl rfl ?_
            refine z_bipush hG dL_schedule_507 rfl ?_
            refine z_callV hG dL_schedule_509 LV_L_68 (cqc_9 l g hI hB hQ) (by decide) rfl rfl rfl (Nat.le_of_ble_eq_true rfl) ?_
            intro v9 mm h9
            rw [h9.1]
            replace hQ := h9.2
            clear h9 v9
            refine z_iload hG dL_schedule_512 rfl ?_
            refine z_icmp_ne hG dL_schedule_514 (tgt := 552) rfl (fun zcq514 => ?_) (fun zcq514 => ?_)
            · exfalso
              change ¬ ((if zgre (zEc m0) < zCe (zsum 32 (zwf (zEc m0))) (m0 2 0 0 1) then zCe (zsum 32 (zwf (zEc m0))) (m0 2 0 0 1) else zgre (zEc m0)) = _) at zcq514
              split at zcq514 <;> omega
            · refine z_aload_n (i := 0) hG dL_schedule_517 rfl rfl ?_
              refine z_bipush hG dL_schedule_518 rfl ?_
              refine z_callV hG dL_schedule_520 LV_L_68 (cqc_8 l g hI hB hQ) (by decide) rfl rfl rfl (Nat.le_of_ble_eq_true rfl) ?_
              intro v9 mm h9
              rw [h9.1]
              replace hQ := h9.2
              clear h9 v9
              refine z_iload hG dL_schedule_523 rfl ?_
              refine z_tif_eq hG dL_schedule_525 (tgt := 533) (j := 534) rfl (fun K => (z_iload_n (i := 2) hG dL_schedule_533 rfl rfl K)) (fun K => (z_bipush hG dL_schedule_528 rfl (z_goto hG dL_schedule_530 (tgt := 534) rfl K))) ?_
              refine z_icmp_ne hG dL_schedule_534 (tgt := 552) rfl (fun zcq534 => ?_) (fun zcq534 => ?_)
              · exact absurd hend zcq534
              · refine z_iload hG dL_schedule_537 rfl ?_
                refine z_if_ne hG dL_schedule_539 (tgt := 548) rfl (fun zcq539 => ?_) (fun zcq539 => ?_)
                · try simp only [zite_eq0, ne_eq, Classical.not_not] at zcq539
                  refine z_iconst hG dL_schedule_548 rfl ?_
                  refine z_goto hG dL_schedule_549 (tgt := 553) rfl ?_
                  refine z_iret hG hE dL_schedule_553 (by first | exact Or.inl rfl | exact Or.inr rfl | (show _ ∨ _; omega)) ?_
                  exact ⟨rfl, hQ⟩
                · try simp only [zite_eq0, ne_eq, Classical.not_not] at zcq539
                  refine z_iload hG dL_schedule_542 rfl ?_
                  refine z_iload_n (i := 2) hG dL_schedule_544 rfl rfl ?_
                  refine z_icmp_gt hG dL_schedule_545 (tgt := 552) rfl (fun zcq545 => ?_) (fun zcq545 => ?_)
                  · exfalso
                    have := hbnd (by omega)
                    omega
                  · refine z_iconst hG dL_schedule_548 rfl ?_
                    refine z_goto hG dL_schedule_549 (tgt := 553) rfl ?_
                    refine z_iret hG hE dL_schedule_553 (by first | exact Or.inl rfl | exact Or.inr rfl | (show _ ∨ _; omega)) ?_
                    exact ⟨rfl, hQ⟩
      · exact absurd zcq20 (by omega)
    | succ N ih1 =>
      intro r mm v7 v8 v9 v10 v11 v12 v13 v14 v15 v16 hrn hQ
      have hc := (hrec r (by omega) (by omega)).2.2.1
      have hpb := (hrec r (by omega) (by omega)).1
      obtain ⟨c, hcc⟩ := Int.eq_ofNat_of_zero_le hc.1
      have loopE : ∀ (M e : Nat) (mm : zM) (v9 v10 v11 v12 v13 v14 v15 v16 : Option zV), e + M = c → zQ m0 mm → zZ X 35 [some (zr 0 0 0), some (zi (m0 2 0 0 1)), some (zi (zmxs fL (8 * r + e))), some (zi (zsum (8 * r + e) fW)), some (zi (zmxs fT (8 * r + e))), some (zi (lz_any fN (8 * r + e))), some (zi r), some (zi (m0 4 0 r 1)), some (zi e), v9, v10, v11, v12, v13, v14, v15, v16] [] mm := by
        intro M
        induction M with
        | zero =>
          intro e mm v9 v10 v11 v12 v13 v14 v15 v16 hec hQ
          have hz : ∀ p : Int, ((8 * r + e : Nat) : Int) ≤ p → p < ((8 * (r + 1) : Nat) : Int) → zEc m0 0 p = 0 := fun p p0 p1 => lz_off (fun z => by
            rw [show p / 8 = (r : Int) by omega] at z
            omega)
          have f1 : zsum (8 * r + e) fW = zsum (8 * (r + 1)) fW := lz_ext0 _ (by omega) (fun _ _ _ => rfl) (fun p p0 p1 => hW0 p (hz p p0 p1))
          have f2 : zmxs fT (8 * r + e) = zmxs fT (8 * (r + 1)) := lz_mx0 _ (by omega) (fun p p0 p1 => hT0 p (hz p p0 p1))
          have f3 : zmxs fL (8 * r + e) = zmxs fL (8 * (r + 1)) := lz_mx0 _ (by omega) (fun p p0 p1 => hL0 p (hz p p0 p1))
          have f4 : lz_any fN (8 * r + e) = lz_any fN (8 * (r + 1)) := lz_an0 _ (by omega) (fun p p0 p1 => hN0 p (hz p p0 p1))
          rw [f1, f2, f3, f4]
          refine z_iload hG dL_schedule_35 rfl ?_
          refine z_aload_n (i := 0) hG dL_schedule_37 rfl rfl ?_
          refine z_iload hG dL_schedule_38 rfl ?_
          refine z_iconst hG dL_schedule_40 rfl ?_
          refine z_callV hG dL_schedule_41 LV_L_90 (cqr_1 l g hI hB hQ (by omega)) (by decide) rfl rfl rfl (Nat.le_of_ble_eq_true rfl) ?_
          intro v9 mm h9
          rw [h9.1]
          replace hQ := h9.2
          clear h9 v9
          refine z_icmp_ge hG dL_schedule_44 (tgt := 468) rfl (fun zcq44 => ?_) (fun zcq44 => ?_)
          · refine z_iinc hG dL_schedule_468 (by decide) rfl (by omega) (by omega) (ls2 := [_, _, _, _, _, _, _, _, _, _, _, _, _, _, _, _, _]) rfl ?_
            refine z_goto hG dL_schedule_471 (tgt := 13) rfl ?_
            exact ih1 (r + 1) mm _ _ _ _ _ _ _ _ _ _ (by omega) hQ
          · exact absurd zcq44 (by omega)
        | succ M ih =>
          intro e mm v9 v10 v11 v12 v13 v14 v15 v16 hec hQ
          have hP : ((8 * r + e : Nat) : Int) = (8 * (r : Int) + e) := by omega
          by_cases hp : m0 4 0 r 1 = 0
          · have hoff : zEc m0 0 (8 * (r : Int) + e) = 0 := lz_off (fun z => by rw [show (8 * (r : Int) + e) / 8 = (r : Int) by omega] at z; omega)
            have f1 : zsum (8 * r + e + 1) fW = zsum (8 * r + e) fW := by
              show zsum (8 * r + e) fW + fW ((8 * r + e : Nat) : Int) = _
              rw [hP, hW0 _ hoff]; omega
            have f2 : zmxs fT (8 * r + e + 1) = zmxs fT (8 * r + e) := by rw [lz_mx, hP, hT0 _ hoff, if_pos (zmxs_at (f := fT) (8 * r + e)).2.2]
            have f3 : zmxs fL (8 * r + e + 1) = zmxs fL (8 * r + e) := by rw [lz_mx, hP, hL0 _ hoff, if_pos (zmxs_at (f := fL) (8 * r + e)).2.2]
            have f4 : lz_any fN (8 * r + e + 1) = lz_any fN (8 * r + e) := (lz_an0 (n := 8 * r + e) (8 * r + e + 1) (by omega) (fun p p0 p1 => by rw [show p = (8 * (r : Int) + e) by omega]; exact hN0 _ hoff)).symm
            refine z_iload hG dL_schedule_35 rfl ?_
            refine z_aload_n (i := 0) hG dL_schedule_37 rfl rfl ?_
            refine z_iload hG dL_schedule_38 rfl ?_
            refine z_iconst hG dL_schedule_40 rfl ?_
            refine z_callV hG dL_schedule_41 LV_L_90 (cqr_1 l g hI hB hQ (by omega)) (by decide) rfl rfl rfl (Nat.le_of_ble_eq_true rfl) ?_
            intro v9 mm h9
            rw [h9.1]
            replace hQ := h9.2
            clear h9 v9
            refine z_icmp_ge hG dL_schedule_44 (tgt := 468) rfl (fun zcq44 => ?_) (fun zcq44 => ?_)
            · exact absurd zcq44 (by omega)
            · refine z_aload_n (i := 0) hG dL_schedule_47 rfl rfl ?_
              refine z_iload hG dL_schedule_48 rfl ?_
              refine z_iload hG dL_schedule_50 rfl ?_
              refine z_iconst hG dL_schedule_52 rfl ?_
              refine z_callV hG dL_schedule_53 LV_L_93 (cqs_5 l g hI hB hQ (by omega) (by omega)) (by decide) rfl rfl rfl (Nat.le_of_ble_eq_true rfl) ?_
              intro v9 mm h9
              rw [h9.1, if_pos hp]
              replace hQ := h9.2
              clear h9 v9
              refine z_istore hG dL_schedule_56 (by decide) (ls2 := [_, _, _, _, _, _, _, _, _, _, _, _, _, _, _, _, _]) rfl ?_
              refine z_aload_n (i := 0) hG dL_schedule_58 rfl rfl ?_
              refine z_iload hG dL_schedule_59 rfl ?_
              refine z_iload hG dL_schedule_61 rfl ?_
              refine z_iconst hG dL_schedule_63 rfl ?_
              refine z_callV hG dL_schedule_64 LV_L_93 (cqs_0 l g hI hB hQ (by omega) (by omega)) (by decide) rfl rfl rfl (Nat.le_of_ble_eq_true rfl) ?_
              intro v9 mm h9
              rw [h9.1, if_pos hp]
              replace hQ := h9.2
              clear h9 v9
              refine z_istore hG dL_schedule_67 (by decide) (ls2 := [_, _, _, _, _, _, _, _, _, _, _, _, _, _, _, _, _]) rfl ?_
              refine z_aload_n (i := 0) hG dL_schedule_69 rfl rfl ?_
              refine z_iload hG dL_schedule_70 rfl ?_
              refine z_iload hG dL_schedule_72 rfl ?_
              refine z_iconst hG dL_schedule_74 rfl ?_
              refine z_callV hG dL_schedule_75 LV_L_93 (cqs_4 l g hI hB hQ (by omega) (by omega)) (by decide) rfl rfl rfl (Nat.le_of_ble_eq_true rfl) ?_
              intro v9 mm h9
              rw [h9.1, if_pos hp]
              replace hQ := h9.2
              clear h9 v9
              refine z_istore hG dL_schedule_78 (by decide) (ls2 := [_, _, _, _, _, _, _, _, _, _, _, _, _, _, _, _, _]) rfl ?_
              refine z_iload hG dL_schedule_80 rfl ?_
              refine z_if_ne hG dL_schedule_82 (tgt := 101) rfl (fun zcq82 => ?_) (fun zcq82 => ?_)
              · try simp only [zite_eq0, ne_eq, Classical.not_not] at zcq82
                exact absurd hp zcq82
              · try simp only [zite_eq0, ne_eq, Classical.not_not] at zcq82
                refine z_iload hG dL_schedule_85 rfl ?_
                refine z_bipush hG dL_schedule_87 rfl ?_
                refine z_icmp_ne hG dL_schedule_89 (tgt := 99) rfl (fun zcq89 => ?_) (fun zcq89 => ?_)
                · exact absurd rfl zcq89
                · refine z_iload hG dL_schedule_92 rfl ?_
                  refine z_bipush hG dL_schedule_94 rfl ?_
                  refine z_icmp_eq hG dL_schedule_96 (tgt := 462) rfl (fun zcq96 => ?_) (fun zcq96 => ?_)
                  · refine z_iinc hG dL_schedule_462 (by decide) rfl (by omega) (by omega) (ls2 := [_, _, _, _, _, _, _, _, _, _, _, _, _, _, _, _, _]) rfl ?_
                    refine z_goto hG dL_schedule_465 (tgt := 35) rfl ?_
                    have h9 := fun v9 v10 v11 v12 v13 v14 v15 v16 => ih (e + 1) mm v9 v10 v11 v12 v13 v14 v15 v16 (by omega) hQ
                    rw [show 8 * r + (e + 1) = 8 * r + e + 1 by omega, f1, f2, f3, f4] at h9
                    exact h9 _ _ _ _ _ _ _ _
                  · exact absurd rfl zcq96
          · have hEon : ∀ k : Int, 0 ≤ k → k < c → zEc m0 0 (8 * r + k) = 1 := fun k k0 k1 => by
              show (if 0 < m0 4 0 ((8 * (r : Int) + k) / 8) 1 ∧ (8 * (r : Int) + k) % 8 < m0 4 0 ((8 * (r : Int) + k) / 8) 2 then (1 : Int) else 0) = 1
              rw [show (8 * (r : Int) + k) / 8 = r by omega, show (8 * (r : Int) + k) % 8 = k by omega]
              exact if_pos (by omega)
            have hon : zEc m0 0 (8 * (r : Int) + e) = 1 := hEon e (by omega) (by omega)
            have hEe := hEk (8 * (r : Int) + e) (by omega) (by omega) hon
            have hse := s1 (8 * (r : Int) + e) (by omega) (by omega)
            have eW : zsum (8 * r + e + 1) fW = zsum (8 * r + e) fW + (zEc m0 1 (8 * (r : Int) + e)) * (zEc m0 2 (8 * (r : Int) + e)) := by
              show zsum (8 * r + e) fW + fW ((8 * r + e : Nat) : Int) = _
              rw [hP, hW]
              show _ + (if zEc m0 0 (8 * (r : Int) + e) = 1 then _ else _) = _
              rw [if_pos hon]
            have eT : zmxs fT (8 * r + e + 1) = if (zEc m0 4 (8 * (r : Int) + e)) ≤ zmxs fT (8 * r + e) then zmxs fT (8 * r + e) else (zEc m0 4 (8 * (r : Int) + e)) := by
              rw [lz_mx, hP, hT, if_pos hon]
            have eN : lz_any fN (8 * r + e + 1) = zor (lz_any fN (8 * r + e)) (if 0 ≤ (zrb (zEc m0) (m0 2 0 0 1) (8 * (r : Int) + e)) then 0 else 1) := by
              show zor (lz_any fN (8 * r + e)) (if fN ((8 * r + e : Nat) : Int) ≤ 0 then 0 else 1) = _
              rw [hP, hN, if_pos hon]
              by_cases q : (zrb (zEc m0) (m0 2 0 0 1) (8 * (r : Int) + e)) = -6
              · rw [if_pos q, if_neg (by omega), if_neg (by omega)]
              · rw [if_neg q, if_pos (by omega), if_pos (by omega)]
            have eL : 0 ≤ (zrb (zEc m0) (m0 2 0 0 1) (8 * (r : Int) + e)) → zmxs fL (8 * r + e + 1) = if (zrb (zEc m0) (m0 2 0 0 1) (8 * (r : Int) + e)) + (zEc m0 1 (8 * (r : Int) + e)) ≤ zmxs fL (8 * r + e) then zmxs fL (8 * r + e) else (zrb (zEc m0) (m0 2 0 0 1) (8 * (r : Int) + e)) + (zEc m0 1 (8 * (r : Int) + e)) := fun q => by
              rw [lz_mx, hP, show fL (8 * (r : Int) + e) = (zrb (zEc m0) (m0 2 0 0 1) (8 * (r : Int) + e)) + (zEc m0 1 (8 * (r : Int) + e)) by rw [hL, if_pos hon, if_neg (by omega)]]
            have eL' : (zrb (zEc m0) (m0 2 0 0 1) (8 * (r : Int) + e)) < 0 → zmxs fL (8 * r + e + 1) = zmxs fL (8 * r + e) := fun q => by
              rw [lz_mx, hP, show fL (8 * (r : Int) + e) = 0 by rw [hL, if_pos hon, if_pos (by omega)], if_pos (zmxs_at (f := fL) (8 * r + e)).2.2]
            have hm1 := zmulb (x := (zEc m0 1 (8 * (r : Int) + e))) (y := (zEc m0 2 (8 * (r : Int) + e))) (A := 5000) (B := 3) (by omega) (by omega) (by omega) (by omega)
            have hWb := zsum_le (f := fW) (B := 15000) (8 * r + e) (fun p p0 p1 => hWbd p p0 (by omega))
            obtain ⟨x, hx⟩ : ∃ x : Int, x = (zEc m0 3 (8 * (r : Int) + e)) := ⟨_, rfl⟩
            obtain ⟨fb, hfb0⟩ : ∃ f : Int → Int, f = fun k => (zrb (zEc m0) (m0 2 0 0 1) (8 * r + k)) := ⟨_, rfl⟩
            obtain ⟨ge, hge0⟩ : ∃ f : Int → Int, f = fun k => (zrb (zEc m0) (m0 2 0 0 1) (8 * r + k)) + zEc m0 1 (8 * r + k) := ⟨_, rfl⟩
            obtain ⟨fB, hfB0⟩ : ∃ f : Int → Int, f = fun j => if zbit (zEc m0 3 (8 * r + (e + 1 + j))) e then zEc m0 4 (8 * r + (e + 1 + j)) else 0 := ⟨_, rfl⟩
            have hfb : ∀ k : Int, fb k = (zrb (zEc m0) (m0 2 0 0 1) (8 * r + k)) := fun k => by rw [hfb0]
            have hge : ∀ k : Int, ge k = (zrb (zEc m0) (m0 2 0 0 1) (8 * r + k)) + zEc m0 1 (8 * r + k) := fun k => by rw [hge0]
            have hfB : ∀ j : Int, fB j = if zbit (zEc m0 3 (8 * r + (e + 1 + j))) e then zEc m0 4 (8 * r + (e + 1 + j)) else 0 := fun j => by rw [hfB0]
            obtain ⟨w0, hw0⟩ : ∃ w : Int, w = if (zEc m0 2 (8 * (r : Int) + e)) ≤ m0 2 0 0 1 then 0 else 1 := ⟨_, rfl⟩
            have hw01 : w0 = 0 ∨ w0 = 1 := by rw [hw0]; split <;> omega
            have hT4 : (zEc m0 4 (8 * (r : Int) + e)) = (zEc m0 1 (8 * (r : Int) + e)) + zmxs fB (c - e - 1) := by
              have h4 := ((zEc_rc (m := m0) (r := r) (by omega) (by omega) hc e (by omega) (by omega)).1 (by omega)).2.2.2.2
              have e8 : ∀ z : Int, (r : Int) * 8 + z = 8 * r + z := fun z => by omega
              simp only [e8] at h4
              rw [h4, show (m0 4 0 r 2 - (e : Int) - 1).toNat = c - e - 1 by omega, hfB0]
            have e88 : (8 * (r : Int) + e) - (8 * (r : Int) + e) % 8 = 8 * (r : Int) := by omega
            have hbits : ∀ k : Int, 0 ≤ k → k < 8 → zbit x k → k < e := fun k k0 k1 kb => by
              rw [hx] at kb
              have := (hEe.2.2.1 k k0 k1 kb).1
              omega
            have hE2us : 0 ≤ (zrb (zEc m0) (m0 2 0 0 1) (8 * (r : Int) + e)) → (zEc m0 2 (8 * (r : Int) + e)) ≤ m0 2 0 0 1 := fun q => by
              have h1 := lz_sum_ge (f := fun p => if zEc m0 0 p = 1 then (if zrb (zEc m0) (m0 2 0 0 1) p ≠ -6 ∧ zrb (zEc m0) (m0 2 0 0 1) p ≤ (zrb (zEc m0) (m0 2 0 0 1) (8 * (r : Int) + e)) ∧ (zrb (zEc m0) (m0 2 0 0 1) (8 * (r : Int) + e)) < zrb (zEc m0) (m0 2 0 0 1) p + zEc m0 1 p then zEc m0 2 p else 0) else 0) (q := (8 * (r : Int) + e)) (by omega) 32 (by omega) (fun p p0 p1 => by
                split
                · next q2 => have := hEk p p0 (by omega) q2; split <;> omega
                · omega)
              rw [if_pos hon, if_pos (by omega)] at h1
              have h2 := s3 (zrb (zEc m0) (m0 2 0 0 1) (8 * (r : Int) + e))
              unfold lz_us at h2
              omega
            have hwait : lz_wt x w0 fb e = (if 0 ≤ (zrb (zEc m0) (m0 2 0 0 1) (8 * (r : Int) + e)) then 0 else 1) := by
              rcases lz_wt_at (x := x) (f := fb) hw01 e with ⟨h1, h2, h3⟩ | ⟨h1, h2⟩
              · rw [h1]
                by_cases q : 0 ≤ (zrb (zEc m0) (m0 2 0 0 1) (8 * (r : Int) + e))
                · rw [if_pos q]
                · exfalso
                  have hq : (zrb (zEc m0) (m0 2 0 0 1) (8 * (r : Int) + e)) = -6 := by omega
                  rcases s5 (8 * (r : Int) + e) (by omega) (by omega) hon hq with h4 | ⟨k, k0, k1, kb, h4⟩
                  · rw [hw0, if_neg (by omega)] at h2; omega
                  · rw [← hx] at kb
                    have := h3 k k0 (hbits k k0 k1 kb) kb
                    rw [hfb] at this
                    rw [e88] at h4
                    omega
              · rw [h1]
                by_cases q : 0 ≤ (zrb (zEc m0) (m0 2 0 0 1) (8 * (r : Int) + e))
                · exfalso
                  rcases h2 with h2 | ⟨k, k0, k1, kb, h2⟩
                  · rw [hw0, if_pos (hE2us q)] at h2; omega
                  · rw [hx] at kb
                    have h4 := (s2 (8 * (r : Int) + e) (by omega) (by omega) (by omega) k k0 (by omega) kb).1
                    rw [e88] at h4
                    rw [hfb] at h2
                    have := s1 (8 * r + k) (by omega) (by omega)
                    omega
                · rw [if_neg q]
            have hrd := lz_rd_at (x := x) (f := ge) e
            have hS2 : 0 ≤ (zrb (zEc m0) (m0 2 0 0 1) (8 * (r : Int) + e)) → lz_rd x ge e ≤ (zrb (zEc m0) (m0 2 0 0 1) (8 * (r : Int) + e)) := fun q => by
              rcases hrd.2.2 with h4 | ⟨k, k0, k1, kb, h4⟩
              · omega
              · rw [hx] at kb
                have h5 := (s2 (8 * (r : Int) + e) (by omega) (by omega) (by omega) k k0 (by omega) kb).2
                rw [e88] at h5
                rw [hge] at h4
                omega
            have hS4 : 0 ≤ (zrb (zEc m0) (m0 2 0 0 1) (8 * (r : Int) + e)) → (zrb (zEc m0) (m0 2 0 0 1) (8 * (r : Int) + e)) ≤ lz_rd x ge e ∨ m0 2 0 0 1 < (zEc m0 2 (8 * (r : Int) + e)) + lz_us (zEc m0) (zrb (zEc m0) (m0 2 0 0 1)) ((zrb (zEc m0) (m0 2 0 0 1) (8 * (r : Int) + e)) - 1) := fun q => by
              rcases s4 (8 * (r : Int) + e) (by omega) (by omega) (by omega) with h4 | ⟨k, k0, k1, kb, h4⟩ | h4
              · exact Or.inl (by omega)
              · left
                rw [← hx] at kb
                have h5 := hrd.2.1 k k0 (hbits k k0 k1 kb) kb
                rw [hge] at h5
                rw [e88] at h4
                omega
              · exact Or.inr h4
            clear hrd
            have hus1 := s3 (zrb (zEc m0) (m0 2 0 0 1) (8 * (r : Int) + e))
            have hus2 := s3 ((zrb (zEc m0) (m0 2 0 0 1) (8 * (r : Int) + e)) - 1)
            have hnn1 := lz_us_nn hEk (b := zrb (zEc m0) (m0 2 0 0 1)) (τ := (zrb (zEc m0) (m0 2 0 0 1) (8 * (r : Int) + e)) - 1)
            have loopQ : ∀ (y12 : Int) (M k : Nat) (mm : zM) (v16 : Option zV), k + M = e → zQ m0 mm → zZ X 266 [some (zr 0 0 0), some (zi (m0 2 0 0 1)), some (zi (zmxs fL (8 * r + e))), some (zi (zsum (8 * r + e + 1) fW)), some (zi (zmxs fT (8 * r + e + 1))), some (zi (lz_any fN (8 * r + e + 1))), some (zi r), some (zi (m0 4 0 r 1)), some (zi e), some (zi (zrb (zEc m0) (m0 2 0 0 1) (8 * (r : Int) + e))), some (zi (zEc m0 1 (8 * (r : Int) + e))), some (zi (zEc m0 4 (8 * (r : Int) + e))), some (zi y12), some (zi (lz_wt x w0 fb k)), some (zi (lz_rd x ge k)), some (zi k), v16] [] mm := by
              intro y12 M
              induction M with
              | zero =>
                intro k mm v16 hke hQ
                have e3 : k = e := by omega
                rw [e3]
                refine z_iload hG dL_schedule_266 rfl ?_
                refine z_iload hG dL_schedule_268 rfl ?_
                refine z_icmp_ge hG dL_schedule_270 (tgt := 356) rfl (fun zcq270 => ?_) (fun zcq270 => ?_)
                · 
                  refine z_iload hG dL_schedule_356 rfl ?_
                  refine z_iload hG dL_schedule_358 rfl ?_
                  refine z_tif_ge hG dL_schedule_360 (tgt := 367) (j := 368) rfl (fun K => (z_iconst hG dL_schedule_367 rfl K)) (fun K => (z_iconst hG dL_schedule_363 rfl (z_goto hG dL_schedule_364 (tgt := 368) rfl K))) ?_
                  refine z_icmp_eq hG dL_schedule_368 (tgt := 373) rfl (fun zcq368 => ?_) (fun zcq368 => ?_)
                  · refine z_iload hG dL_schedule_373 rfl ?_
                    refine z_if_ge hG dL_schedule_375 (tgt := 381) rfl (fun zcq375 => ?_) (fun zcq375 => ?_)
                    · have hq2 := hS2 (by omega)
                      have hq4 := hS4 (by omega)
                      refine z_iload hG dL_schedule_381 rfl ?_
                      refine z_iload hG dL_schedule_383 rfl ?_
                      refine z_iadd hG dL_schedule_385 (by omega) (by omega) ?_
                      refine z_iload_n (i := 2) hG dL_schedule_386 rfl rfl ?_
                      refine z_ticmp_le hG dL_schedule_387 (tgt := 398) (j := 399) rfl (fun K => (z_iload_n (i := 2) hG dL_schedule_398 rfl rfl K)) (fun K => (z_iload hG dL_schedule_390 rfl (z_iload hG dL_schedule_392 rfl (z_iadd hG dL_schedule_394 (by omega) (by omega) (z_goto hG dL_schedule_395 (tgt := 399) rfl K))))) ?_
                      rw [← eL (by omega)]
                      refine z_istore_n (i := 2) hG dL_schedule_399 rfl (by decide) (ls2 := [_, _, _, _, _, _, _, _, _, _, _, _, _, _, _, _, _]) rfl ?_
                      
                      refine z_iload hG dL_schedule_400 rfl ?_
                      refine z_iload hG dL_schedule_402 rfl ?_
                      refine z_icmp_lt hG dL_schedule_404 (tgt := 417) rfl (fun zcq404 => ?_) (fun zcq404 => ?_)
                      · exfalso; omega
                      · refine z_aload_n (i := 0) hG dL_schedule_407 rfl rfl ?_
                        refine z_iload hG dL_schedule_408 rfl ?_
                        refine z_callS hG dL_schedule_410 LS_L_141 (ct_L_used l g hI hB hQ) (by decide) rfl rfl (Nat.le_of_ble_eq_true rfl) ?_
                        intro v9 mm h9
                        rw [h9.1]
                        replace hQ := h9.2
                        clear h9 v9
                        refine z_iload_n (i := 1) hG dL_schedule_413 rfl rfl ?_
                        refine z_icmp_le hG dL_schedule_414 (tgt := 419) rfl (fun zcq414 => ?_) (fun zcq414 => ?_)
                        · refine z_iload hG dL_schedule_419 rfl ?_
                          refine z_iload hG dL_schedule_421 rfl ?_
                          refine z_icmp_le hG dL_schedule_423 (tgt := 462) rfl (fun zcq423 => ?_) (fun zcq423 => ?_)
                          · refine z_iinc hG dL_schedule_462 (by decide) rfl (by omega) (by omega) (ls2 := [_, _, _, _, _, _, _, _, _, _, _, _, _, _, _, _, _]) rfl ?_
                            refine z_goto hG dL_schedule_465 (tgt := 35) rfl ?_
                            have h9 := fun v9 v10 v11 v12 v13 v14 v15 v16 => ih (e + 1) mm v9 v10 v11 v12 v13 v14 v15 v16 (by omega) hQ
                            rw [show 8 * r + (e + 1) = 8 * r + e + 1 by omega] at h9
                            exact h9 _ _ _ _ _ _ _ _
                          · refine z_aload_n (i := 0) hG dL_schedule_426 rfl rfl ?_
                            refine z_iload hG dL_schedule_427 rfl ?_
                            refine z_iload hG dL_schedule_429 rfl ?_
                            refine z_iconst hG dL_schedule_431 rfl ?_
                            refine z_callV hG dL_schedule_432 LV_L_93 (cqp_1 l g hI hB hQ hp (by omega) (by omega)) (by decide) rfl rfl rfl (Nat.le_of_ble_eq_true rfl) ?_
                            intro v9 mm h9
                            rw [h9.1]
                            replace hQ := h9.2
                            clear h9 v9
                            refine z_if_eq hG dL_schedule_435 (tgt := 460) rfl (fun zcq435 => ?_) (fun zcq435 => ?_)
                            · try simp only [zite_eq0, ne_eq, Classical.not_not] at zcq435
                              exfalso; omega
                            · try simp only [zite_eq0, ne_eq, Classical.not_not] at zcq435
                              refine z_aload_n (i := 0) hG dL_schedule_438 rfl rfl ?_
                              refine z_iload hG dL_schedule_439 rfl ?_
                              refine z_iconst hG dL_schedule_441 rfl ?_
                              refine z_isub hG dL_schedule_442 (by omega) (by omega) ?_
                              refine z_callS hG dL_schedule_443 LS_L_141 (ct_L_used l g hI hB hQ) (by decide) rfl rfl (Nat.le_of_ble_eq_true rfl) ?_
                              intro v9 mm h9
                              rw [h9.1]
                              replace hQ := h9.2
                              clear h9 v9
                              refine z_aload_n (i := 0) hG dL_schedule_446 rfl rfl ?_
                              refine z_iload hG dL_schedule_447 rfl ?_
                              refine z_iload hG dL_schedule_449 rfl ?_
                              refine z_iconst hG dL_schedule_451 rfl ?_
                              refine z_callV hG dL_schedule_452 LV_L_93 (cqp_1 l g hI hB hQ hp (by omega) (by omega)) (by decide) rfl rfl rfl (Nat.le_of_ble_eq_true rfl) ?_
                              intro v9 mm h9
                              rw [h9.1]
                              replace hQ := h9.2
                              clear h9 v9
                              refine z_iadd hG dL_schedule_455 (by omega) (by omega) ?_
                              refine z_iload_n (i := 1) hG dL_schedule_456 rfl rfl ?_
                              refine z_icmp_gt hG dL_schedule_457 (tgt := 462) rfl (fun zcq457 => ?_) (fun zcq457 => ?_)
                              · refine z_iinc hG dL_schedule_462 (by decide) rfl (by omega) (by omega) (ls2 := [_, _, _, _, _, _, _, _, _, _, _, _, _, _, _, _, _]) rfl ?_
                                refine z_goto hG dL_schedule_465 (tgt := 35) rfl ?_
                                have h9 := fun v9 v10 v11 v12 v13 v14 v15 v16 => ih (e + 1) mm v9 v10 v11 v12 v13 v14 v15 v16 (by omega) hQ
                                rw [show 8 * r + (e + 1) = 8 * r + e + 1 by omega] at h9
                                exact h9 _ _ _ _ _ _ _ _
                              · exfalso; omega
                        · exfalso; omega
                    · refine z_goto hG dL_schedule_378 (tgt := 462) rfl ?_
                      refine z_iinc hG dL_schedule_462 (by decide) rfl (by omega) (by omega) (ls2 := [_, _, _, _, _, _, _, _, _, _, _, _, _, _, _, _, _]) rfl ?_
                      refine z_goto hG dL_schedule_465 (tgt := 35) rfl ?_
                      have h9 := fun v9 v10 v11 v12 v13 v14 v15 v16 => ih (e + 1) mm v9 v10 v11 v12 v13 v14 v15 v16 (by omega) hQ
                      rw [show 8 * r + (e + 1) = 8 * r + e + 1 by omega, eL' (by omega)] at h9
                      exact h9 _ _ _ _ _ _ _ _
                  · exact absurd hwait zcq368
                · exact absurd zcq270 (by omega)
              | succ M ihQ =>
                intro k mm v16 hke hQ
                have hkon := hEon k (by omega) (by omega)
                have hEk2 := hEk (8 * r + k) (by omega) (by omega) hkon
                have hsk := s1 (8 * r + k) (by omega) (by omega)
                have ew : lz_wt x w0 fb (k + 1) = if zbit x k then zor (lz_wt x w0 fb k) (if 0 ≤ fb k then 0 else 1) else lz_wt x w0 fb k := rfl
                have er : lz_rd x ge (k + 1) = if zbit x k then (if ge k ≤ lz_rd x ge k then lz_rd x ge k else ge k) else lz_rd x ge k := rfl
                rw [hfb] at ew
                rw [hge] at er
                have hQX : zEc m0 3 (8 * (r : Int) + e) = x := hx.symm
                refine z_iload hG dL_schedule_266 rfl ?_
                refine z_iload hG dL_schedule_268 rfl ?_
                refine z_icmp_ge hG dL_schedule_270 (tgt := 356) rfl (fun zcq270 => ?_) (fun zcq270 => ?_)
                · exact absurd zcq270 (by omega)
                · refine z_aload_n (i := 0) hG dL_schedule_273 rfl rfl ?_
                  refine z_iload hG dL_schedule_274 rfl ?_
                  refine z_iload hG dL_schedule_276 rfl ?_
                  refine z_iconst hG dL_schedule_278 rfl ?_
                  refine z_callV hG dL_schedule_279 LV_L_93 (cqp_2 l g hI hB hQ hp (by omega) (by omega)) (by decide) rfl rfl rfl (Nat.le_of_ble_eq_true rfl) ?_
                  intro v9 mm h9
                  rw [h9.1]
                  replace hQ := h9.2
                  clear h9 v9
                  refine z_iload hG dL_schedule_282 rfl ?_
                  refine z_ishr hG dL_schedule_284 ?_
                  refine z_iconst hG dL_schedule_285 rfl ?_
                  refine z_iand hG dL_schedule_286 ?_
                  refine z_iconst hG dL_schedule_287 rfl ?_
                  refine z_icmp_ne hG dL_schedule_288 (tgt := 350) rfl (fun zcq288 => ?_) (fun zcq288 => ?_)
                  · refine z_iinc hG dL_schedule_350 (by decide) rfl (by omega) (by omega) (ls2 := [_, _, _, _, _, _, _, _, _, _, _, _, _, _, _, _, _]) rfl ?_
                    refine z_goto hG dL_schedule_353 (tgt := 266) rfl ?_
                    rw [hQX] at zcq288
                    rw [if_neg zcq288] at ew er
                    have h9 := fun v16 => ihQ (k + 1) mm v16 (by omega) hQ
                    rw [ew, er] at h9
                    exact h9 _
                  · refine z_iload hG dL_schedule_291 rfl ?_
                    refine z_aload_n (i := 0) hG dL_schedule_293 rfl rfl ?_
                    refine z_iload hG dL_schedule_294 rfl ?_
                    refine z_iload hG dL_schedule_296 rfl ?_
                    refine z_iconst hG dL_schedule_298 rfl ?_
                    refine z_callV hG dL_schedule_299 LV_L_93 (cqp_5 l g hI hB hQ hp (by omega) (by omega)) (by decide) rfl rfl rfl (Nat.le_of_ble_eq_true rfl) ?_
                    intro v9 mm h9
                    rw [h9.1]
                    replace hQ := h9.2
                    clear h9 v9
                    refine z_tif_ge hG dL_schedule_302 (tgt := 309) (j := 310) rfl (fun K => (z_iconst hG dL_schedule_309 rfl K)) (fun K => (z_iconst hG dL_schedule_305 rfl (z_goto hG dL_schedule_306 (tgt := 310) rfl K))) ?_
                    refine z_ior hG dL_schedule_310 ?_
                    refine z_istore hG dL_schedule_311 (by decide) (ls2 := [_, _, _, _, _, _, _, _, _, _, _, _, _, _, _, _, _]) rfl ?_
                    refine z_aload_n (i := 0) hG dL_schedule_313 rfl rfl ?_
                    refine z_iload hG dL_schedule_314 rfl ?_
                    refine z_iload hG dL_schedule_316 rfl ?_
                    refine z_iconst hG dL_schedule_318 rfl ?_
                    refine z_callV hG dL_schedule_319 LV_L_93 (cqp_5 l g hI hB hQ hp (by omega) (by omega)) (by decide) rfl rfl rfl (Nat.le_of_ble_eq_true rfl) ?_
                    intro v9 mm h9
                    rw [h9.1]
                    replace hQ := h9.2
                    clear h9 v9
                    refine z_aload_n (i := 0) hG dL_schedule_322 rfl rfl ?_
                    refine z_iload hG dL_schedule_323 rfl ?_
                    refine z_iload hG dL_schedule_325 rfl ?_
                    refine z_iconst hG dL_schedule_327 rfl ?_
                    refine z_callV hG dL_schedule_328 LV_L_93 (cqp_0 l g hI hB hQ hp (by omega) (by omega)) (by decide) rfl rfl rfl (Nat.le_of_ble_eq_true rfl) ?_
                    intro v9 mm h9
                    rw [h9.1]
                    replace hQ := h9.2
                    clear h9 v9
                    refine z_iadd hG dL_schedule_331 (by omega) (by omega) ?_
                    refine z_istore hG dL_schedule_332 (by decide) (ls2 := [_, _, _, _, _, _, _, _, _, _, _, _, _, _, _, _, _]) rfl ?_
                    refine z_iload hG dL_schedule_334 rfl ?_
                    refine z_iload hG dL_schedule_336 rfl ?_
                    refine z_ticmp_le hG dL_schedule_338 (tgt := 346) (j := 348) rfl (fun K => (z_iload hG dL_schedule_346 rfl K)) (fun K => (z_iload hG dL_schedule_341 rfl (z_goto hG dL_schedule_343 (tgt := 348) rfl K))) ?_
                    refine z_istore hG dL_schedule_348 (by decide) (ls2 := [_, _, _, _, _, _, _, _, _, _, _, _, _, _, _, _, _]) rfl ?_
                    refine z_iinc hG dL_schedule_350 (by decide) rfl (by omega) (by omega) (ls2 := [_, _, _, _, _, _, _, _, _, _, _, _, _, _, _, _, _]) rfl ?_
                    refine z_goto hG dL_schedule_353 (tgt := 266) rfl ?_
                    rw [hQX] at zcq288
                    rw [if_pos zcq288] at ew er
                    have h9 := fun v16 => ihQ (k + 1) mm v16 (by omega) hQ
                    rw [ew, er] at h9
                    exact h9 _
            have loopK : ∀ (M j : Nat) (mm : zM) (v14 v15 v16 : Option zV), e + 1 + j + M = c → zQ m0 mm → zZ X 156 [some (zr 0 0 0), some (zi (m0 2 0 0 1)), some (zi (zmxs fL (8 * r + e))), some (zi (zsum (8 * r + e + 1) fW)), some (zi (zmxs fT (8 * r + e + 1))), some (zi (lz_any fN (8 * r + e + 1))), some (zi r), some (zi (m0 4 0 r 1)), some (zi e), some (zi (zrb (zEc m0) (m0 2 0 0 1) (8 * (r : Int) + e))), some (zi (zEc m0 1 (8 * (r : Int) + e))), some (zi (zEc m0 4 (8 * (r : Int) + e))), some (zi (zmxs fB j)), some (zi ((e : Int) + 1 + j)), v14, v15, v16] [] mm := by
              intro M
              induction M with
              | zero =>
                intro j mm v14 v15 v16 hjc hQ
                have e3 : j = c - e - 1 := by omega
                rw [e3]
                refine z_iload hG dL_schedule_156 rfl ?_
                refine z_aload_n (i := 0) hG dL_schedule_158 rfl rfl ?_
                refine z_iload hG dL_schedule_159 rfl ?_
                refine z_iconst hG dL_schedule_161 rfl ?_
                refine z_callV hG dL_schedule_162 LV_L_90 (cqr_1 l g hI hB hQ (by omega)) (by decide) rfl rfl rfl (Nat.le_of_ble_eq_true rfl) ?_
                intro v9 mm h9
                rw [h9.1]
                replace hQ := h9.2
                clear h9 v9
                refine z_icmp_ge hG dL_schedule_165 (tgt := 222) rfl (fun zcq165 => ?_) (fun zcq165 => ?_)
                · refine z_iload hG dL_schedule_222 rfl ?_
                  refine z_iload hG dL_schedule_224 rfl ?_
                  refine z_iload hG dL_schedule_226 rfl ?_
                  refine z_iadd hG dL_schedule_228 (by omega) (by omega) ?_
                  refine z_icmp_ne hG dL_schedule_229 (tgt := 238) rfl (fun zcq229 => ?_) (fun zcq229 => ?_)
                  · exact absurd hT4 zcq229
                  · refine z_iload hG dL_schedule_232 rfl ?_
                    refine z_iconst hG dL_schedule_234 rfl ?_
                    refine z_icmp_ge hG dL_schedule_235 (tgt := 240) rfl (fun zcq235 => ?_) (fun zcq235 => ?_)
                    · refine z_aload_n (i := 0) hG dL_schedule_240 rfl rfl ?_
                      refine z_iload hG dL_schedule_241 rfl ?_
                      refine z_iload hG dL_schedule_243 rfl ?_
                      refine z_iconst hG dL_schedule_245 rfl ?_
                      refine z_callV hG dL_schedule_246 LV_L_93 (cqp_1 l g hI hB hQ hp (by omega) (by omega)) (by decide) rfl rfl rfl (Nat.le_of_ble_eq_true rfl) ?_
                      intro v9 mm h9
                      rw [h9.1]
                      replace hQ := h9.2
                      clear h9 v9
                      refine z_iload_n (i := 1) hG dL_schedule_249 rfl rfl ?_
                      refine z_ticmp_le hG dL_schedule_250 (tgt := 257) (j := 258) rfl (fun K => (z_iconst hG dL_schedule_257 rfl K)) (fun K => (z_iconst hG dL_schedule_253 rfl (z_goto hG dL_schedule_254 (tgt := 258) rfl K))) ?_
                      rw [← hw0]
                      refine z_istore hG dL_schedule_258 (by decide) (ls2 := [_, _, _, _, _, _, _, _, _, _, _, _, _, _, _, _, _]) rfl ?_
                      refine z_iconst hG dL_schedule_260 rfl ?_
                      refine z_istore hG dL_schedule_261 (by decide) (ls2 := [_, _, _, _, _, _, _, _, _, _, _, _, _, _, _, _, _]) rfl ?_
                      refine z_iconst hG dL_schedule_263 rfl ?_
                      refine z_istore hG dL_schedule_264 (by decide) (ls2 := [_, _, _, _, _, _, _, _, _, _, _, _, _, _, _, _, _]) rfl ?_
                      exact loopQ _ e 0 mm _ (by omega) hQ
                    · exfalso; omega
                · exact absurd zcq165 (by omega)
              | succ M ihK =>
                intro j mm v14 v15 v16 hjc hQ
                have hjon := hEon (e + 1 + j : Nat) (by omega) (by omega)
                have ej : 8 * (r : Int) + (e + 1 + j) = 8 * r + ((e + 1 + j : Nat) : Int) := by omega
                rw [← ej] at hjon
                have hEj := hEk (8 * r + (e + 1 + j)) (by omega) (by omega) hjon
                have eb : zmxs fB (j + 1) = if fB j ≤ zmxs fB j then zmxs fB j else fB j := lz_mx
                have hz0 := (zmxs_at (f := fB) j).2.2
                rw [hfB] at eb
                refine z_iload hG dL_schedule_156 rfl ?_
                refine z_aload_n (i := 0) hG dL_schedule_158 rfl rfl ?_
                refine z_iload hG dL_schedule_159 rfl ?_
                refine z_iconst hG dL_schedule_161 rfl ?_
                refine z_callV hG dL_schedule_162 LV_L_90 (cqr_1 l g hI hB hQ (by omega)) (by decide) rfl rfl rfl (Nat.le_of_ble_eq_true rfl) ?_
                intro v9 mm h9
                rw [h9.1]
                replace hQ := h9.2
                clear h9 v9
                refine z_icmp_ge hG dL_schedule_165 (tgt := 222) rfl (fun zcq165 => ?_) (fun zcq165 => ?_)
                · exact absurd zcq165 (by omega)
                · refine z_aload_n (i := 0) hG dL_schedule_168 rfl rfl ?_
                  refine z_iload hG dL_schedule_169 rfl ?_
                  refine z_iload hG dL_schedule_171 rfl ?_
                  refine z_iconst hG dL_schedule_173 rfl ?_
                  refine z_callV hG dL_schedule_174 LV_L_93 (cqp_2 l g hI hB hQ hp (by omega) (by omega)) (by decide) rfl rfl rfl (Nat.le_of_ble_eq_true rfl) ?_
                  intro v9 mm h9
                  rw [h9.1]
                  replace hQ := h9.2
                  clear h9 v9
                  refine z_iload hG dL_schedule_177 rfl ?_
                  refine z_ishr hG dL_schedule_179 ?_
                  refine z_iconst hG dL_schedule_180 rfl ?_
                  refine z_iand hG dL_schedule_181 ?_
                  refine z_iconst hG dL_schedule_182 rfl ?_
                  refine z_icmp_ne hG dL_schedule_183 (tgt := 216) rfl (fun zcq183 => ?_) (fun zcq183 => ?_)
                  · refine z_iinc hG dL_schedule_216 (by decide) rfl (by omega) (by omega) (ls2 := [_, _, _, _, _, _, _, _, _, _, _, _, _, _, _, _, _]) rfl ?_
                    refine z_goto hG dL_schedule_219 (tgt := 156) rfl ?_
                    have h9 := fun v14 v15 v16 => ihK (j + 1) mm v14 v15 v16 (by omega) hQ
                    rw [if_neg zcq183, if_pos hz0] at eb
                    rw [eb, show ((e : Int) + 1 + ((j + 1 : Nat) : Int)) = (e : Int) + 1 + j + 1 by omega] at h9
                    exact h9 _ _ _
                  · refine z_aload_n (i := 0) hG dL_schedule_186 rfl rfl ?_
                    refine z_iload hG dL_schedule_187 rfl ?_
                    refine z_iload hG dL_schedule_189 rfl ?_
                    refine z_iconst hG dL_schedule_191 rfl ?_
                    refine z_callV hG dL_schedule_192 LV_L_93 (cqp_4 l g hI hB hQ hp (by omega) (by omega)) (by decide) rfl rfl rfl (Nat.le_of_ble_eq_true rfl) ?_
                    intro v9 mm h9
                    rw [h9.1]
                    replace hQ := h9.2
                    clear h9 v9
                    refine z_iload hG dL_schedule_195 rfl ?_
                    refine z_icmp_le hG dL_schedule_197 (tgt := 212) rfl (fun zcq197 => ?_) (fun zcq197 => ?_)
                    · refine z_iload hG dL_schedule_212 rfl ?_
                      refine z_istore hG dL_schedule_214 (by decide) (ls2 := [_, _, _, _, _, _, _, _, _, _, _, _, _, _, _, _, _]) rfl ?_
                      refine z_iinc hG dL_schedule_216 (by decide) rfl (by omega) (by omega) (ls2 := [_, _, _, _, _, _, _, _, _, _, _, _, _, _, _, _, _]) rfl ?_
                      refine z_goto hG dL_schedule_219 (tgt := 156) rfl ?_
                      have h9 := fun v14 v15 v16 => ihK (j + 1) mm v14 v15 v16 (by omega) hQ
                      rw [if_pos zcq183, if_pos zcq197] at eb
                      rw [eb, show ((e : Int) + 1 + ((j + 1 : Nat) : Int)) = (e : Int) + 1 + j + 1 by omega] at h9
                      exact h9 _ _ _
                    · refine z_aload_n (i := 0) hG dL_schedule_200 rfl rfl ?_
                      refine z_iload hG dL_schedule_201 rfl ?_
                      refine z_iload hG dL_schedule_203 rfl ?_
                      refine z_iconst hG dL_schedule_205 rfl ?_
                      refine z_callV hG dL_schedule_206 LV_L_93 (cqp_4 l g hI hB hQ hp (by omega) (by omega)) (by decide) rfl rfl rfl (Nat.le_of_ble_eq_true rfl) ?_
                      intro v9 mm h9
                      rw [h9.1]
                      replace hQ := h9.2
                      clear h9 v9
                      refine z_goto hG dL_schedule_209 (tgt := 214) rfl ?_
                      refine z_istore hG dL_schedule_214 (by decide) (ls2 := [_, _, _, _, _, _, _, _, _, _, _, _, _, _, _, _, _]) rfl ?_
                      refine z_iinc hG dL_schedule_216 (by decide) rfl (by omega) (by omega) (ls2 := [_, _, _, _, _, _, _, _, _, _, _, _, _, _, _, _, _]) rfl ?_
                      refine z_goto hG dL_schedule_219 (tgt := 156) rfl ?_
                      have h9 := fun v14 v15 v16 => ihK (j + 1) mm v14 v15 v16 (by omega) hQ
                      rw [if_pos zcq183, if_neg (by omega)] at eb
                      rw [eb, show ((e : Int) + 1 + ((j + 1 : Nat) : Int)) = (e : Int) + 1 + j + 1 by omega] at h9
                      exact h9 _ _ _
            refine z_iload hG dL_schedule_35 rfl ?_
            refine z_aload_n (i := 0) hG dL_schedule_37 rfl rfl ?_
            refine z_iload hG dL_schedule_38 rfl ?_
            refine z_iconst hG dL_schedule_40 rfl ?_
            refine z_callV hG dL_schedule_41 LV_L_90 (cqr_1 l g hI hB hQ (by omega)) (by decide) rfl rfl rfl (Nat.le_of_ble_eq_true rfl) ?_
            intro v9 mm h9
            rw [h9.1]
            replace hQ := h9.2
            clear h9 v9
            refine z_icmp_ge hG dL_schedule_44 (tgt := 468) rfl (fun zcq44 => ?_) (fun zcq44 => ?_)
            · exact absurd zcq44 (by omega)
            · refine z_aload_n (i := 0) hG dL_schedule_47 rfl rfl ?_
              refine z_iload hG dL_schedule_48 rfl ?_
              refine z_iload hG dL_schedule_50 rfl ?_
              refine z_iconst hG dL_schedule_52 rfl ?_
              refine z_callV hG dL_schedule_53 LV_L_93 (cqp_5 l g hI hB hQ hp (by omega) (by omega)) (by decide) rfl rfl rfl (Nat.le_of_ble_eq_true rfl) ?_
              intro v9 mm h9
              rw [h9.1]
              replace hQ := h9.2
              clear h9 v9
              refine z_istore hG dL_schedule_56 (by decide) (ls2 := [_, _, _, _, _, _, _, _, _, _, _, _, _, _, _, _, _]) rfl ?_
              refine z_aload_n (i := 0) hG dL_schedule_58 rfl rfl ?_
              refine z_iload hG dL_schedule_59 rfl ?_
              refine z_iload hG dL_schedule_61 rfl ?_
              refine z_iconst hG dL_schedule_63 rfl ?_
              refine z_callV hG dL_schedule_64 LV_L_93 (cqp_0 l g hI hB hQ hp (by omega) (by omega)) (by decide) rfl rfl rfl (Nat.le_of_ble_eq_true rfl) ?_
              intro v9 mm h9
              rw [h9.1]
              replace hQ := h9.2
              clear h9 v9
              refine z_istore hG dL_schedule_67 (by decide) (ls2 := [_, _, _, _, _, _, _, _, _, _, _, _, _, _, _, _, _]) rfl ?_
              refine z_aload_n (i := 0) hG dL_schedule_69 rfl rfl ?_
              refine z_iload hG dL_schedule_70 rfl ?_
              refine z_iload hG dL_schedule_72 rfl ?_
              refine z_iconst hG dL_schedule_74 rfl ?_
              refine z_callV hG dL_schedule_75 LV_L_93 (cqp_4 l g hI hB hQ hp (by omega) (by omega)) (by decide) rfl rfl rfl (Nat.le_of_ble_eq_true rfl) ?_
              intro v9 mm h9
              rw [h9.1]
              replace hQ := h9.2
              clear h9 v9
              refine z_istore hG dL_schedule_78 (by decide) (ls2 := [_, _, _, _, _, _, _, _, _, _, _, _, _, _, _, _, _]) rfl ?_
              refine z_iload hG dL_schedule_80 rfl ?_
              refine z_if_ne hG dL_schedule_82 (tgt := 101) rfl (fun zcq82 => ?_) (fun zcq82 => ?_)
              · try simp only [zite_eq0, ne_eq, Classical.not_not] at zcq82
                refine z_iload_n (i := 3) hG dL_schedule_101 rfl rfl ?_
                refine z_iload hG dL_schedule_102 rfl ?_
                refine z_aload_n (i := 0) hG dL_schedule_104 rfl rfl ?_
                refine z_iload hG dL_schedule_105 rfl ?_
                refine z_iload hG dL_schedule_107 rfl ?_
                refine z_iconst hG dL_schedule_109 rfl ?_
                refine z_callV hG dL_schedule_110 LV_L_93 (cqp_1 l g hI hB hQ hp (by omega) (by omega)) (by decide) rfl rfl rfl (Nat.le_of_ble_eq_true rfl) ?_
                intro v9 mm h9
                rw [h9.1]
                replace hQ := h9.2
                clear h9 v9
                refine z_imul hG dL_schedule_113 (by omega) (by omega) ?_
                refine z_iadd hG dL_schedule_114 (by omega) (by omega) ?_
                rw [← eW]
                refine z_istore_n (i := 3) hG dL_schedule_115 rfl (by decide) (ls2 := [_, _, _, _, _, _, _, _, _, _, _, _, _, _, _, _, _]) rfl ?_
                refine z_iload hG dL_schedule_116 rfl ?_
                refine z_iload hG dL_schedule_118 rfl ?_
                refine z_ticmp_le hG dL_schedule_120 (tgt := 128) (j := 130) rfl (fun K => (z_iload hG dL_schedule_128 rfl K)) (fun K => (z_iload hG dL_schedule_123 rfl (z_goto hG dL_schedule_125 (tgt := 130) rfl K))) ?_
                rw [← eT]
                refine z_istore hG dL_schedule_130 (by decide) (ls2 := [_, _, _, _, _, _, _, _, _, _, _, _, _, _, _, _, _]) rfl ?_
                refine z_iload hG dL_schedule_132 rfl ?_
                refine z_iload hG dL_schedule_134 rfl ?_
                refine z_tif_ge hG dL_schedule_136 (tgt := 143) (j := 144) rfl (fun K => (z_iconst hG dL_schedule_143 rfl K)) (fun K => (z_iconst hG dL_schedule_139 rfl (z_goto hG dL_schedule_140 (tgt := 144) rfl K))) ?_
                refine z_ior hG dL_schedule_144 ?_
                rw [← eN]
                refine z_istore hG dL_schedule_145 (by decide) (ls2 := [_, _, _, _, _, _, _, _, _, _, _, _, _, _, _, _, _]) rfl ?_
                refine z_iconst hG dL_schedule_147 rfl ?_
                refine z_istore hG dL_schedule_148 (by decide) (ls2 := [_, _, _, _, _, _, _, _, _, _, _, _, _, _, _, _, _]) rfl ?_
                refine z_iload hG dL_schedule_150 rfl ?_
                refine z_iconst hG dL_schedule_152 rfl ?_
                refine z_iadd hG dL_schedule_153 (by omega) (by omega) ?_
                refine z_istore hG dL_schedule_154 (by decide) (ls2 := [_, _, _, _, _, _, _, _, _, _, _, _, _, _, _, _, _]) rfl ?_
                exact loopK (c - e - 1) 0 mm _ _ _ (by omega) hQ
              · try simp only [zite_eq0, ne_eq, Classical.not_not] at zcq82
                exact absurd zcq82 hp
      refine z_iload hG dL_schedule_13 rfl ?_
      refine z_aload_n (i := 0) hG dL_schedule_15 rfl rfl ?_
      refine z_iconst hG dL_schedule_16 rfl ?_
      refine z_callV hG dL_schedule_17 LV_L_68 (cqc_2 l g hI hB hQ) (by decide) rfl rfl rfl (Nat.le_of_ble_eq_true rfl) ?_
      intro v9 mm h9
      rw [h9.1]
      replace hQ := h9.2
      clear h9 v9
      refine z_icmp_ge hG dL_schedule_20 (tgt := 474) rfl (fun zcq20 => ?_) (fun zcq20 => ?_)
      · exact absurd zcq20 (by omega)
      · refine z_aload_n (i := 0) hG dL_schedule_23 rfl rfl ?_
        refine z_iload hG dL_schedule_24 rfl ?_
        refine z_iconst hG dL_schedule_26 rfl ?_
        refine z_callV hG dL_schedule_27 LV_L_90 (cqr_2 l g hI hB hQ (by omega)) (by decide) rfl rfl rfl (Nat.le_of_ble_eq_true rfl) ?_
        intro v9 mm h9
        rw [h9.1]
        replace hQ := h9.2
        clear h9 v9
        refine z_istore hG dL_schedule_30 (by decide) (ls2 := [_, _, _, _, _, _, _, _, _, _, _, _, _, _, _, _, _]) rfl ?_
        refine z_iconst hG dL_schedule_32 rfl ?_
        refine z_istore hG dL_schedule_33 (by decide) (ls2 := [_, _, _, _, _, _, _, _, _, _, _, _, _, _, _, _, _]) rfl ?_
        exact loopE c 0 mm _ _ _ _ _ _ _ _ (by omega) hQ
  refine z_iconst hG dL_schedule_0 rfl ?_
  refine z_istore_n (i := 2) hG dL_schedule_1 rfl (by decide) (ls2 := [_, _, _, _, _, _, _, _, _, _, _, _, _, _, _, _, _]) rfl ?_
  refine z_iconst hG dL_schedule_2 rfl ?_
  refine z_istore_n (i := 3) hG dL_schedule_3 rfl (by decide) (ls2 := [_, _, _, _, _, _, _, _, _, _, _, _, _, _, _, _, _]) rfl ?_
  refine z_iconst hG dL_schedule_4 rfl ?_
  refine z_istore hG dL_schedule_5 (by decide) (ls2 := [_, _, _, _, _, _, _, _, _, _, _, _, _, _, _, _, _]) rfl ?_
  refine z_iconst hG dL_schedule_7 rfl ?_
  refine z_istore hG dL_schedule_8 (by decide) (ls2 := [_, _, _, _, _, _, _, _, _, _, _, _, _, _, _, _, _]) rfl ?_
  refine z_iconst hG dL_schedule_10 rfl ?_
  refine z_istore hG dL_schedule_11 (by decide) (ls2 := [_, _, _, _, _, _, _, _, _, _, _, _, _, _, _, _, _]) rfl ?_
  exact loopR nr 0 m _ _ _ _ _ _ _ _ _ _ (by omega) hQ
