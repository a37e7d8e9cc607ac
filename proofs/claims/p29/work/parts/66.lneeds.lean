theorem lz_nf {m : zM} {W : zPl} {i : Int} (hk : zkin m 0 i) (hb : m 3 0 i 1 = 0 ∨ m 3 0 i 1 = 1) (h : zPF m W i) :
    W 2 i + W 3 i - W 4 i + W 5 i + W 6 i = W 0 i ∧ (if W 3 i ≤ 0 then (0 : Int) else 1) + (if W 5 i ≤ 0 then 0 else 1) + (if W 6 i ≤ 0 then 0 else 1) = (if W 0 i ≤ W 2 i then 0 else 1) ∧ (0 < W 3 i ↔ (W 2 i < W 0 i ∧ m 3 0 i 1 = 1 ∧ 0 < m 3 0 i 2)) ∧ (0 < W 5 i → 0 ≤ m 3 0 i 5) ∧ (0 ≤ W 5 i ∧ W 5 i ≤ 100000) ∧ (0 ≤ W 6 i ∧ W 6 i ≤ 100000) ∧ (0 ≤ W 2 i ∧ W 2 i ≤ W 0 i) ∧ (0 ≤ W 3 i ∧ W 3 i ≤ 102000) ∧ (0 ≤ W 4 i ∧ W 4 i ≤ 2000) := by
  obtain ⟨-, -, -, -, -, -, t7, t8⟩ := zTF_of hk h
  obtain ⟨f1, f0, g1, g0, gp, f2, fc⟩ := h
  have hW2 : 0 ≤ W 2 i ∧ W 2 i ≤ W 0 i := by rw [f2]; split <;> omega
  rcases fc with ⟨zcq1, a3, a4, a5, a6, -⟩ | ⟨zcq1, zcq2, zcq3, a3, a4, a7, a5, a6⟩ | ⟨zcq1, zcq2, a5, zcq3, a3, a4, a6, -⟩ | ⟨zcq1, zcq2, a6, a3, a4, a5, -⟩
  · refine ⟨by omega, ?_, by omega, by omega, by omega, by omega, hW2, by omega, t7⟩
    rw [if_pos (by omega), if_pos (by omega), if_pos (by omega), if_pos (by omega)]; rfl
  · refine ⟨by omega, ?_, by omega, by omega, by omega, by omega, hW2, by omega, t7⟩
    rw [if_neg (by omega), if_pos (by omega), if_pos (by omega), if_neg (by omega)]; rfl
  · refine ⟨by omega, ?_, by omega, by omega, by omega, by omega, hW2, by omega, t7⟩
    rw [if_pos (by omega), if_neg (by omega), if_pos (by omega), if_neg (by omega)]; rfl
  · refine ⟨by omega, ?_, by omega, by omega, by omega, by omega, hW2, by omega, t7⟩
    rw [if_pos (by omega), if_pos (by omega), if_neg (by omega), if_neg (by omega)]; rfl
theorem lz_ext0 {F G : Int → Int} {n : Nat} : ∀ N : Nat, n ≤ N → (∀ j : Int, 0 ≤ j → j < n → F j = G j) → (∀ j : Int, (n : Int) ≤ j → j < N → G j = 0) → zsum n F = zsum N G
  | N, hn, h1, h2 => by
    rw [zsum_congr n h1]
    induction N with
    | zero => rw [show n = 0 by omega]
    | succ N ih =>
      by_cases q : n = N + 1
      · rw [q]
      · rw [ih (by omega) (fun j j0 j1 => h2 j j0 (by omega))]
        show _ = zsum N G + G N
        rw [h2 N (by omega) (by omega)]
        omega
theorem lz_scal {m : zM} {s r x : Int} (hb : 1 ≤ m 4 s r 0) : zscal m s r x = zCe (x * m 4 s r 1) (m 4 s r 0) := by
  unfold zscal zCe
  rw [if_neg (by omega)]
theorem lz_scal0 {m : zM} {s r x : Int} (hp : m 4 s r 1 = 0) : zscal m s r x = 0 := by
  unfold zscal
  split
  · rfl
  · rw [hp, Int.mul_zero]
    exact Int.ediv_eq_zero_of_lt (by omega) (by omega)
theorem lz_or0 {x : Int} (h : zin x) : zor x 0 = x := by
  unfold zor
  have : Int32.ofInt x ||| Int32.ofInt 0 = Int32.ofInt x := Int32.or_zero
  rw [this, zti h]
theorem lz_mssin (f : Int → Int) : ∀ n : Nat, zin (zmss f n)
  | 0 => z0in
  | n + 1 => by
    unfold zmss
    split
    · exact zinT _
    · exact lz_mssin f n
theorem lz_mss {f : Int → Int} {n : Nat} : zor (zmss f n) (if f n ≤ 0 then 0 else zshl 1 n) = zmss f (n + 1) := by
  show _ = if 0 < f n then zor (zmss f n) (zshl 1 n) else zmss f n
  by_cases c : f n ≤ 0
  · rw [if_pos c, if_neg (by omega), lz_or0 (lz_mssin f n)]
  · rw [if_neg c, if_pos (by omega)]
theorem lz_mss0 {f : Int → Int} {n : Nat} : ∀ N : Nat, n ≤ N → (∀ j : Int, (n : Int) ≤ j → j < N → f j = 0) → zmss f n = zmss f N
  | N, hn, h2 => by
    induction N with
    | zero => rw [show n = 0 by omega]
    | succ N ih =>
      by_cases q : n = N + 1
      · rw [q]
      · rw [ih (by omega) (fun j j0 j1 => h2 j j0 (by omega))]
        show _ = if 0 < f N then zor (zmss f N) (zshl 1 N) else zmss f N
        rw [if_neg (by rw [h2 N (by omega) (by omega)]; omega)]
/-- whether there is one above 0 -/
def lz_any (f : Int → Int) : Nat → Int
  | 0 => 0
  | n + 1 => zor (lz_any f n) (if f n ≤ 0 then 0 else 1)
theorem lz_or01 : zor 0 0 = 0 ∧ zor 0 1 = 1 ∧ zor 1 0 = 1 ∧ zor 1 1 = 1 := by decide
theorem lz_any_at (f : Int → Int) : ∀ n : Nat, (lz_any f n = 0 ∧ ∀ k : Int, 0 ≤ k → k < n → f k ≤ 0) ∨ (lz_any f n = 1 ∧ ∃ k : Int, 0 ≤ k ∧ k < n ∧ 0 < f k)
  | 0 => Or.inl ⟨rfl, fun k k0 k1 => by omega⟩
  | n + 1 => by
    obtain ⟨o1, o2, o3, o4⟩ := lz_or01
    show (zor _ _ = 0 ∧ _) ∨ (zor _ _ = 1 ∧ _)
    rcases lz_any_at f n with ⟨h1, h2⟩ | ⟨h1, k, k0, k1, k2⟩
    · rw [h1]
      by_cases c : f n ≤ 0
      · rw [if_pos c]
        refine Or.inl ⟨o1, fun k k0 k1 => ?_⟩
        rcases (show k < n ∨ k = n by omega) with q | q
        · exact h2 k k0 q
        · rw [q]; exact c
      · rw [if_neg c]
        exact Or.inr ⟨o2, n, by omega, by omega, by omega⟩
    · rw [h1]
      refine Or.inr ⟨?_, k, k0, by omega, k2⟩
      split
      · exact o3
      · exact o4
set_option maxRecDepth 20000 in
theorem ct_L_needs (l : Launch) (g : zG) {m0 m : zM} {B : Int} (hI : zInv B m0) (hB : B ≤ 11900000) (hQ : zQ m0 m) : zMet l g Y_L_needs [zr 0 0 0] m (fun v m' => v = some (zi 1) ∧ zQ m0 m') := by
  refine zMet_introF (by decide +kernel) (Nat.le_of_ble_eq_true rfl) (ls0 := [some (zr 0 0 0), none, none, none, none, none, none, none, none, none, none, none]) rfl fun X hG hE => ?_
  have hG : zGood X l g RL cL_needs 8 12 := hG
  have hE : zEnd X (some .boolean) _ := hE
  have hI0 := zInv0 hI
  have hp := zIS_pc hI0 (by omega)
  obtain ⟨hday, hhan, hing, hrcp, hrec, hboo, hrow, hrow2, hstp⟩ := id hI0
  obtain ⟨n, hn⟩ := Int.eq_ofNat_of_zero_le hing.1
  obtain ⟨nr, hnr⟩ := Int.eq_ofNat_of_zero_le hrcp.1
  have e7 : zsum n (zPl0 m0 7) = zsum 8 (zPl0 m0 7) := lz_ext0 8 (by omega) (fun _ _ _ => rfl) (fun j j0 j1 => zPl0_out hp (by omega) (by omega) (by omega))
  have e4 : zsum n (zPl0 m0 4) = zsum 8 (zPl0 m0 4) := lz_ext0 8 (by omega) (fun _ _ _ => rfl) (fun j j0 j1 => zPl0_out hp (by omega) (by omega) (by omega))
  have e6 : zmss (zPl0 m0 6) n = zmss (zPl0 m0 6) 8 := lz_mss0 8 (by omega) (fun j j0 j1 => zPl0_out hp (by omega) (by omega) (by omega))
  have q1 : lz_any (fun r => m0 4 0 r 1) nr = 0 → (if zmss (zPl0 m0 6) 8 = 0 ∧ zhp m0 then (1 : Int) else 0) = 0 := fun z => if_neg (fun z2 => by
    obtain ⟨k, k0, k1, k2⟩ := zhp_iff.mpr z2.2
    rcases lz_any_at (fun r => m0 4 0 r 1) nr with ⟨-, h2⟩ | ⟨h1, -⟩
    · have h3 := (hrow2 k k0 k1).2.1
      by_cases q : k < nr
      · have : m0 4 0 k 1 ≤ 0 := h2 k k0 q
        omega
      · have := h3 (by omega)
        omega
    · omega)
  have q2 : zmss (zPl0 m0 6) 8 ≠ 0 → (if zmss (zPl0 m0 6) 8 = 0 ∧ zhp m0 then (1 : Int) else 0) = 0 := fun z => if_neg (fun z2 => z z2.1)
  have q3 : lz_any (fun r => m0 4 0 r 1) nr ≠ 0 → zmss (zPl0 m0 6) 8 = 0 → (if zmss (zPl0 m0 6) 8 = 0 ∧ zhp m0 then (1 : Int) else 0) = 1 := fun z z3 => if_pos ⟨z3, by
    rcases lz_any_at (fun r => m0 4 0 r 1) nr with ⟨h1, -⟩ | ⟨-, k, k0, k1, k2⟩
    · exact absurd h1 z
    · exact zhp_iff.mp ⟨k, k0, by omega, k2⟩⟩
  have loopI : ∀ (N i : Nat) (mm : zM) (v6 v7 v8 v9 v10 v11 : Option zV), i + N = n → zQ m0 mm → zZ X 51 [some (zr 0 0 0), some (zi (zsum i (zPl0 m0 7))), some (zi (zsum i (zPl0 m0 4))), some (zi (zmss (zPl0 m0 6) i)), some (zi (lz_any (fun r => m0 4 0 r 1) nr)), some (zi i), v6, v7, v8, v9, v10, v11] [] mm := by
    intro N
    induction N with
    | zero =>
      intro i mm v6 v7 v8 v9 v10 v11 hin hQ
      have e3 : i = n := by omega
      rw [e3, e7, e4, e6]
      refine z_iload hG dL_needs_51 rfl ?_
      refine z_aload_n (i := 0) hG dL_needs_53 rfl rfl ?_
      refine z_iconst hG dL_needs_54 rfl ?_
      refine z_callV hG dL_needs_55 LV_L_68 (cqc_1 l g hI hB hQ) (by decide) rfl rfl rfl (Nat.le_of_ble_eq_true rfl) ?_
      intro v9 mm h9
      rw [h9.1]
      replace hQ := h9.2
      clear h9 v9
      refine z_icmp_ge hG dL_needs_58 (tgt := 489) rfl (fun zcq58 => ?_) (fun zcq58 => ?_)
      · refine z_aload_n (i := 0) hG dL_needs_489 rfl rfl ?_
        refine z_iconst hG dL_needs_490 rfl ?_
        refine z_callV hG dL_needs_491 LV_L_68 (cqc_4 l g hI hB hQ) (by decide) rfl rfl rfl (Nat.le_of_ble_eq_true rfl) ?_
        intro v9 mm h9
        rw [h9.1]
        replace hQ := h9.2
        clear h9 v9
        refine z_iload_n (i := 1) hG dL_needs_494 rfl rfl ?_
        refine z_icmp_ne hG dL_needs_495 (tgt := 544) rfl (fun zcq495 => ?_) (fun zcq495 => ?_)
        · exact absurd rfl zcq495
        · refine z_aload_n (i := 0) hG dL_needs_498 rfl rfl ?_
          refine z_iconst hG dL_needs_499 rfl ?_
          refine z_callV hG dL_needs_500 LV_L_68 (cqc_5 l g hI hB hQ) (by decide) rfl rfl rfl (Nat.le_of_ble_eq_true rfl) ?_
          intro v9 mm h9
          rw [h9.1]
          replace hQ := h9.2
          clear h9 v9
          refine z_iload_n (i := 2) hG dL_needs_503 rfl rfl ?_
          refine z_icmp_ne hG dL_needs_504 (tgt := 544) rfl (fun zcq504 => ?_) (fun zcq504 => ?_)
          · exact absurd rfl zcq504
          · refine z_aload_n (i := 0) hG dL_needs_507 rfl rfl ?_
            refine z_bipush hG dL_needs_508 rfl ?_
            refine z_callV hG dL_needs_510 LV_L_68 (cqc_6 l g hI hB hQ) (by decide) rfl rfl rfl (Nat.le_of_ble_eq_true rfl) ?_
            intro v9 mm h9
            rw [h9.1]
            replace hQ := h9.2
            clear h9 v9
            refine z_iload_n (i := 3) hG dL_needs_513 rfl rfl ?_
            refine z_icmp_ne hG dL_needs_514 (tgt := 544) rfl (fun zcq514 => ?_) (fun zcq514 => ?_)
            · exact absurd rfl zcq514
            · refine z_aload_n (i := 0) hG dL_needs_517 rfl rfl ?_
              refine z_bipush hG dL_needs_518 rfl ?_
              refine z_callV hG dL_needs_520 LV_L_68 (cqc_7 l g hI hB hQ) (by decide) rfl rfl rfl (Nat.le_of_ble_eq_true rfl) ?_
              intro v9 mm h9
              rw [h9.1]
              replace hQ := h9.2
              clear h9 v9
              refine z_iload hG dL_needs_523 rfl ?_
              refine z_if_eq hG dL_needs_525 (tgt := 536) rfl (fun zcq525 => ?_) (fun zcq525 => ?_)
              · try simp only [zite_eq0, ne_eq, Classical.not_not] at zcq525
                refine z_iconst hG dL_needs_536 rfl ?_
                refine z_icmp_ne hG dL_needs_537 (tgt := 544) rfl (fun zcq537 => ?_) (fun zcq537 => ?_)
                · first | exact absurd (q1 zcq525) zcq537 | exact absurd (q2 zcq529) zcq537 | exact absurd (q3 zcq525 zcq529) zcq537
                · refine z_iconst hG dL_needs_540 rfl ?_
                  refine z_goto hG dL_needs_541 (tgt := 545) rfl ?_
                  refine z_iret hG hE dL_needs_545 (by first | exact Or.inl rfl | exact Or.inr rfl | (show _ ∨ _; omega)) ?_
                  exact ⟨rfl, hQ⟩
              · try simp only [zite_eq0, ne_eq, Classical.not_not] at zcq525
                refine z_iload_n (i := 3) hG dL_needs_528 rfl rfl ?_
                refine z_if_ne hG dL_needs_529 (tgt := 536) rfl (fun zcq529 => ?_) (fun zcq529 => ?_)
                · try simp only [zite_eq0, ne_eq, Classical.not_not] at zcq529
                  refine z_iconst hG dL_needs_536 rfl ?_
                  refine z_icmp_ne hG dL_needs_537 (tgt := 544) rfl (fun zcq537 => ?_) (fun zcq537 => ?_)
                  · first | exact absurd (q1 zcq525) zcq537 | exact absurd (q2 zcq529) zcq537 | exact absurd (q3 zcq525 zcq529) zcq537
                  · refine z_iconst hG dL_needs_540 rfl ?_
                    refine z_goto hG dL_needs_541 (tgt := 545) rfl ?_
                    refine z_iret hG hE dL_needs_545 (by first | exact Or.inl rfl | exact Or.inr rfl | (show _ ∨ _; omega)) ?_
                    exact ⟨rfl, hQ⟩
                · try simp only [zite_eq0, ne_eq, Classical.not_not] at zcq529
                  refine z_iconst hG dL_needs_532 rfl ?_
                  refine z_goto hG dL_needs_533 (tgt := 537) rfl ?_
                  refine z_icmp_ne hG dL_needs_537 (tgt := 544) rfl (fun zcq537 => ?_) (fun zcq537 => ?_)
                  · first | exact absurd (q1 zcq525) zcq537 | exact absurd (q2 zcq529) zcq537 | exact absurd (q3 zcq525 zcq529) zcq537
                  · refine z_iconst hG dL_needs_540 rfl ?_
                    refine z_goto hG dL_needs_541 (tgt := 545) rfl ?_
                    refine z_iret hG hE dL_needs_545 (by first | exact Or.inl rfl | exact Or.inr rfl | (show _ ∨ _; omega)) ?_
                    exact ⟨rfl, hQ⟩
      · exact absurd zcq58 (by omega)
    | succ N ih =>
      intro i mm v6 v7 v8 v9 v10 v11 hin hQ
      have hP := zPF_of hp (i := i) (by omega)
      have hb := zplb_Pl0 hp i (by omega) (by omega)
      obtain ⟨w1, hw, w3, w5, wb5, wb6, wb2, wb3, wb4⟩ := lz_nf (hp.2.2 i (by omega) (by omega)).1 (hboo.1 i (by omega) (by omega)) hP
      have hb1 := hboo.1 i (by omega) (by omega)
      obtain ⟨f1, f0, g1, g0, gp, f2, -⟩ := hP
      rw [Int.toNat_natCast] at f1
      obtain ⟨F, hF⟩ : ∃ F : Int → Int, F = fun k => if m0 3 0 k 5 = (i : Int) then (zPl0 m0 5 k * m0 3 0 k 6 + 100 - 1) / 100 else 0 := ⟨_, rfl⟩
      obtain ⟨G, hGG⟩ : ∃ G : Int → Int, G = fun r => zCe (m0 17 0 r i * m0 4 0 r 1) (m0 4 0 r 0) := ⟨_, rfl⟩
      have hFk : ∀ k : Int, F k = if m0 3 0 k 5 = (i : Int) then zCe (zPl0 m0 5 k * m0 3 0 k 6) 100 else 0 := fun k => by rw [hF]; rfl
      have hGk : ∀ r : Int, G r = zCe (m0 17 0 r i * m0 4 0 r 1) (m0 4 0 r 0) := fun r => by rw [hGG]
      have hGs : ∀ r : Int, 0 ≤ r → r < nr → G r = zscal m0 0 r (m0 17 0 r i) := fun r r0 r1 => by rw [hGk, lz_scal ((hrow2 r r0 (by omega)).2.2 (by omega))]
      have hGb : ∀ r : Int, 0 ≤ r → r < nr → 0 ≤ G r ∧ G r ≤ 10020 := fun r r0 r1 => by
        rw [hGs r r0 r1]
        exact zscal_le ((hrec r r0 (by omega)).2.2.2 i (by omega) (by omega)) (hrec r r0 (by omega)).1 (hrec r r0 (by omega)).2.1.2
      have hFb : ∀ k : Int, 0 ≤ k → k < i → 0 ≤ F k ∧ F k ≤ 200002 := fun k k0 k1 => by
        rw [hFk]
        split
        · next q =>
          obtain ⟨k2, rfl⟩ := Int.eq_ofNat_of_zero_le k0
          obtain ⟨-, -, -, -, wk5, -⟩ := lz_nf (hp.2.2 k2 (by omega) (by omega)).1 (hboo.1 k2 (by omega) (by omega)) (zPF_of hp (i := k2) (by omega))
          have hsub := (hrow k2 (by omega) (by omega)).2.2.2.1 (by omega)
          have hm1 := zmulb (x := zPl0 m0 5 k2) (y := m0 3 0 k2 6) (A := 100000) (B := 200) (by omega) (by omega) (by omega) (by omega)
          unfold zCe
          omega
        · omega
      have hG4 : zsum nr G = zsum 4 (fun r => zscal m0 0 r (m0 17 0 r i)) := lz_ext0 4 (by omega) hGs (fun j j0 j1 => lz_scal0 ((hrow2 j (by omega) (by omega)).2.1 (by omega)))
      rw [← hG4] at f0
      rw [← hF] at f1
      have sG := (zsum_le (f := G) (B := 10020) nr hGb)
      have sF := (zsum_le (f := F) (B := 200002) i hFb)
      have s7 := (zsum_le (f := zPl0 m0 7) (B := 200000000) i (fun j j0 j1 => (zplb_Pl0 hp j j0 (by omega)).2.2.2.2.2.2.1))
      have s4 := (zsum_le (f := zPl0 m0 4) (B := 2000) i (fun j j0 j1 => (zplb_Pl0 hp j j0 (by omega)).2.2.2.2.1))
      have f2' : (zsum 30 (m0 14 0 i) < zPl0 m0 0 i ∧ zPl0 m0 2 i = zsum 30 (m0 14 0 i)) ∨ (zPl0 m0 0 i ≤ zsum 30 (m0 14 0 i) ∧ zPl0 m0 2 i = zPl0 m0 0 i) := by
        split at f2
        · exact Or.inl ⟨by assumption, f2⟩
        · exact Or.inr ⟨by omega, f2⟩
      have h429 : ∀ (mm : zM) (v6 v7 v11 : Option zV), zQ m0 mm → zZ X 429 [some (zr 0 0 0), some (zi (zsum i (zPl0 m0 7))), some (zi (zsum i (zPl0 m0 4))), some (zi (zmss (zPl0 m0 6) i)), some (zi (lz_any (fun r => m0 4 0 r 1) nr)), some (zi i), v6, v7, some (zi (zPl0 m0 0 i)), some (zi (zPl0 m0 2 i)), some (zi (zPl0 m0 3 i)), v11] [] mm := by
        intro mm v6 v7 v11 hQ
        refine z_aload_n (i := 0) hG dL_needs_429 rfl rfl ?_
        refine z_iload hG dL_needs_430 rfl ?_
        refine z_callS hG dL_needs_432 LS_L_126 (ct_L_tins l g hI hB hQ (by omega)) (by decide) rfl rfl (Nat.le_of_ble_eq_true rfl) ?_
        intro v9 mm h9
        rw [h9.1]
        replace hQ := h9.2
        clear h9 v9
        refine z_if_ne hG dL_needs_435 (tgt := 440) rfl (fun zcq435 => ?_) (fun zcq435 => ?_)
        · try simp only [zite_eq0, ne_eq, Classical.not_not] at zcq435
          refine z_iload_n (i := 1) hG dL_needs_440 rfl rfl ?_
          refine z_aload_n (i := 0) hG dL_needs_441 rfl rfl ?_
          refine z_iload hG dL_needs_442 rfl ?_
          refine z_bipush hG dL_needs_444 rfl ?_
          refine z_callV hG dL_needs_446 LV_L_118 (cqn_7 l g hI hB hQ (by omega)) (by decide) rfl rfl rfl (Nat.le_of_ble_eq_true rfl) ?_
          intro v9 mm h9
          rw [h9.1]
          replace hQ := h9.2
          clear h9 v9
          refine z_iadd hG dL_needs_449 (by omega) (by omega) ?_
          refine z_istore_n (i := 1) hG dL_needs_450 rfl (by decide) (ls2 := [_, _, _, _, _, _, _, _, _, _, _, _]) rfl ?_
          refine z_iload_n (i := 2) hG dL_needs_451 rfl rfl ?_
          refine z_aload_n (i := 0) hG dL_needs_452 rfl rfl ?_
          refine z_iload hG dL_needs_453 rfl ?_
          refine z_iconst hG dL_needs_455 rfl ?_
          refine z_callV hG dL_needs_456 LV_L_118 (cqn_4 l g hI hB hQ (by omega)) (by decide) rfl rfl rfl (Nat.le_of_ble_eq_true rfl) ?_
          intro v9 mm h9
          rw [h9.1]
          replace hQ := h9.2
          clear h9 v9
          refine z_iadd hG dL_needs_459 (by omega) (by omega) ?_
          refine z_istore_n (i := 2) hG dL_needs_460 rfl (by decide) (ls2 := [_, _, _, _, _, _, _, _, _, _, _, _]) rfl ?_
          refine z_iload_n (i := 3) hG dL_needs_461 rfl rfl ?_
          refine z_aload_n (i := 0) hG dL_needs_462 rfl rfl ?_
          refine z_iload hG dL_needs_463 rfl ?_
          refine z_bipush hG dL_needs_465 rfl ?_
          refine z_callV hG dL_needs_467 LV_L_118 (cqn_6 l g hI hB hQ (by omega)) (by decide) rfl rfl rfl (Nat.le_of_ble_eq_true rfl) ?_
          intro v9 mm h9
          rw [h9.1]
          replace hQ := h9.2
          clear h9 v9
          refine z_tif_le hG dL_needs_470 (tgt := 480) (j := 481) rfl (fun K => (z_iconst hG dL_needs_480 rfl K)) (fun K => (z_iconst hG dL_needs_473 rfl (z_iload hG dL_needs_474 rfl (z_ishl hG dL_needs_476 (z_goto hG dL_needs_477 (tgt := 481) rfl K))))) ?_
          refine z_ior hG dL_needs_481 ?_
          rw [lz_mss]
          refine z_istore_n (i := 3) hG dL_needs_482 rfl (by decide) (ls2 := [_, _, _, _, _, _, _, _, _, _, _, _]) rfl ?_
          refine z_iinc hG dL_needs_483 (by decide) rfl (by omega) (by omega) (ls2 := [_, _, _, _, _, _, _, _, _, _, _, _]) rfl ?_
          refine z_goto hG dL_needs_486 (tgt := 51) rfl ?_
          exact ih (i + 1) mm _ _ _ _ _ _ (by omega) hQ
        · try simp only [zite_eq0, ne_eq, Classical.not_not] at zcq435
          exact absurd zcq435 (by decide)
      have h407 : ∀ (mm : zM) (v6 v7 v11 : Option zV), zQ m0 mm → zZ X 407 [some (zr 0 0 0), some (zi (zsum i (zPl0 m0 7))), some (zi (zsum i (zPl0 m0 4))), some (zi (zmss (zPl0 m0 6) i)), some (zi (lz_any (fun r => m0 4 0 r 1) nr)), some (zi i), v6, v7, some (zi (zPl0 m0 0 i)), some (zi (zPl0 m0 2 i)), some (zi (zPl0 m0 3 i)), v11] [] mm := by
        intro mm v6 v7 v11 hQ
        refine z_aload_n (i := 0) hG dL_needs_407 rfl rfl ?_
        refine z_iload hG dL_needs_408 rfl ?_
        refine z_iconst hG dL_needs_410 rfl ?_
        refine z_callV hG dL_needs_411 LV_L_118 (cqn_5 l g hI hB hQ (by omega)) (by decide) rfl rfl rfl (Nat.le_of_ble_eq_true rfl) ?_
        intro v9 mm h9
        rw [h9.1]
        replace hQ := h9.2
        clear h9 v9
        refine z_if_le hG dL_needs_414 (tgt := 429) rfl (fun zcq414 => ?_) (fun zcq414 => ?_)
        · exact h429 mm _ _ _ hQ
        · refine z_aload_n (i := 0) hG dL_needs_417 rfl rfl ?_
          refine z_iload hG dL_needs_418 rfl ?_
          refine z_iconst hG dL_needs_420 rfl ?_
          refine z_callV hG dL_needs_421 LV_L_96 (cqa_3 l g hI hB hQ (by omega)) (by decide) rfl rfl rfl (Nat.le_of_ble_eq_true rfl) ?_
          intro v9 mm h9
          rw [h9.1]
          replace hQ := h9.2
          clear h9 v9
          refine z_if_ge hG dL_needs_424 (tgt := 429) rfl (fun zcq424 => ?_) (fun zcq424 => ?_)
          · exact h429 mm _ _ _ hQ
          · exfalso; omega
      have h252 : ∀ (mm : zM) (v6 v7 v11 : Option zV), zQ m0 mm → zZ X 252 [some (zr 0 0 0), some (zi (zsum i (zPl0 m0 7))), some (zi (zsum i (zPl0 m0 4))), some (zi (zmss (zPl0 m0 6) i)), some (zi (lz_any (fun r => m0 4 0 r 1) nr)), some (zi i), v6, v7, some (zi (zPl0 m0 0 i)), some (zi (zPl0 m0 2 i)), some (zi (zPl0 m0 3 i)), v11] [] mm := by
        intro mm v6 v7 v11 hQ
        refine z_iload hG dL_needs_252 rfl ?_
        refine z_iload hG dL_needs_254 rfl ?_
        refine z_iadd hG dL_needs_256 (by omega) (by omega) ?_
        refine z_aload_n (i := 0) hG dL_needs_257 rfl rfl ?_
        refine z_iload hG dL_needs_258 rfl ?_
        refine z_iconst hG dL_needs_260 rfl ?_
        refine z_callV hG dL_needs_261 LV_L_118 (cqn_4 l g hI hB hQ (by omega)) (by decide) rfl rfl rfl (Nat.le_of_ble_eq_true rfl) ?_
        intro v9 mm h9
        rw [h9.1]
        replace hQ := h9.2
        clear h9 v9
        refine z_isub hG dL_needs_264 (by omega) (by omega) ?_
        refine z_aload_n (i := 0) hG dL_needs_265 rfl rfl ?_
        refine z_iload hG dL_needs_266 rfl ?_
        refine z_iconst hG dL_needs_268 rfl ?_
        refine z_callV hG dL_needs_269 LV_L_118 (cqn_5 l g hI hB hQ (by omega)) (by decide) rfl rfl rfl (Nat.le_of_ble_eq_true rfl) ?_
        intro v9 mm h9
        rw [h9.1]
        replace hQ := h9.2
        clear h9 v9
        refine z_iadd hG dL_needs_272 (by omega) (by omega) ?_
        refine z_aload_n (i := 0) hG dL_needs_273 rfl rfl ?_
        refine z_iload hG dL_needs_274 rfl ?_
        refine z_bipush hG dL_needs_276 rfl ?_
        refine z_callV hG dL_needs_278 LV_L_118 (cqn_6 l g hI hB hQ (by omega)) (by decide) rfl rfl rfl (Nat.le_of_ble_eq_true rfl) ?_
        intro v9 mm h9
        rw [h9.1]
        replace hQ := h9.2
        clear h9 v9
        refine z_iadd hG dL_needs_281 (by omega) (by omega) ?_
        refine z_iload hG dL_needs_282 rfl ?_
        refine z_icmp_ne hG dL_needs_284 (tgt := 297) rfl (fun zcq284 => ?_) (fun zcq284 => ?_)
        · exfalso; omega
        · refine z_aload_n (i := 0) hG dL_needs_287 rfl rfl ?_
          refine z_iload hG dL_needs_288 rfl ?_
          refine z_iconst hG dL_needs_290 rfl ?_
          refine z_callV hG dL_needs_291 LV_L_118 (cqn_4 l g hI hB hQ (by omega)) (by decide) rfl rfl rfl (Nat.le_of_ble_eq_true rfl) ?_
          intro v9 mm h9
          rw [h9.1]
          replace hQ := h9.2
          clear h9 v9
          refine z_if_ge hG dL_needs_294 (tgt := 299) rfl (fun zcq294 => ?_) (fun zcq294 => ?_)
          · refine z_iload hG dL_needs_299 rfl ?_
            refine z_tif_le hG dL_needs_301 (tgt := 308) (j := 309) rfl (fun K => (z_iconst hG dL_needs_308 rfl K)) (fun K => (z_iconst hG dL_needs_304 rfl (z_goto hG dL_needs_305 (tgt := 309) rfl K))) ?_
            refine z_aload_n (i := 0) hG dL_needs_309 rfl rfl ?_
            refine z_iload hG dL_needs_310 rfl ?_
            refine z_iconst hG dL_needs_312 rfl ?_
            refine z_callV hG dL_needs_313 LV_L_118 (cqn_5 l g hI hB hQ (by omega)) (by decide) rfl rfl rfl (Nat.le_of_ble_eq_true rfl) ?_
            intro v9 mm h9
            rw [h9.1]
            replace hQ := h9.2
            clear h9 v9
            refine z_tif_le hG dL_needs_316 (tgt := 323) (j := 324) rfl (fun K => (z_iconst hG dL_needs_323 rfl K)) (fun K => (z_iconst hG dL_needs_319 rfl (z_goto hG dL_needs_320 (tgt := 324) rfl K))) ?_
            refine z_iadd hG dL_needs_324 (by ((repeat' split) <;> omega)) (by ((repeat' split) <;> omega)) ?_
            refine z_aload_n (i := 0) hG dL_needs_325 rfl rfl ?_
            refine z_iload hG dL_needs_326 rfl ?_
            refine z_bipush hG dL_needs_328 rfl ?_
            refine z_callV hG dL_needs_330 LV_L_118 (cqn_6 l g hI hB hQ (by omega)) (by decide) rfl rfl rfl (Nat.le_of_ble_eq_true rfl) ?_
            intro v9 mm h9
            rw [h9.1]
            replace hQ := h9.2
            clear h9 v9
            refine z_tif_le hG dL_needs_333 (tgt := 340) (j := 341) rfl (fun K => (z_iconst hG dL_needs_340 rfl K)) (fun K => (z_iconst hG dL_needs_336 rfl (z_goto hG dL_needs_337 (tgt := 341) rfl K))) ?_
            refine z_iadd hG dL_needs_341 (by ((repeat' split) <;> omega)) (by ((repeat' split) <;> omega)) ?_
            refine z_istore hG dL_needs_342 (by decide) (ls2 := [_, _, _, _, _, _, _, _, _, _, _, _]) rfl ?_
            refine z_iload hG dL_needs_344 rfl ?_
            refine z_iload hG dL_needs_346 rfl ?_
            refine z_iload hG dL_needs_348 rfl ?_
            refine z_ticmp_le hG dL_needs_350 (tgt := 357) (j := 358) rfl (fun K => (z_iconst hG dL_needs_357 rfl K)) (fun K => (z_iconst hG dL_needs_353 rfl (z_goto hG dL_needs_354 (tgt := 358) rfl K))) ?_
            refine z_icmp_ne hG dL_needs_358 (tgt := 427) rfl (fun zcq358 => ?_) (fun zcq358 => ?_)
            · exact absurd hw zcq358
            · refine z_iload hG dL_needs_361 rfl ?_
              refine z_tif_le hG dL_needs_363 (tgt := 370) (j := 371) rfl (fun K => (z_iconst hG dL_needs_370 rfl K)) (fun K => (z_iconst hG dL_needs_366 rfl (z_goto hG dL_needs_367 (tgt := 371) rfl K))) ?_
              refine z_iload hG dL_needs_371 rfl ?_
              refine z_iload hG dL_needs_373 rfl ?_
              refine z_icmp_le hG dL_needs_375 (tgt := 403) rfl (fun zcq375 => ?_) (fun zcq375 => ?_)
              · refine z_iconst hG dL_needs_403 rfl ?_
                refine z_icmp_ne hG dL_needs_404 (tgt := 427) rfl (fun zcq404 => ?_) (fun zcq404 => ?_)
                · exfalso
                  split at zcq404 <;> omega
                · exact h407 mm _ _ _ hQ
              · refine z_aload_n (i := 0) hG dL_needs_378 rfl rfl ?_
                refine z_iload hG dL_needs_379 rfl ?_
                refine z_iconst hG dL_needs_381 rfl ?_
                refine z_callV hG dL_needs_382 LV_L_96 (cqa_1 l g hI hB hQ (by omega)) (by decide) rfl rfl rfl (Nat.le_of_ble_eq_true rfl) ?_
                intro v9 mm h9
                rw [h9.1]
                replace hQ := h9.2
                clear h9 v9
                refine z_iconst hG dL_needs_385 rfl ?_
                refine z_icmp_ne hG dL_needs_386 (tgt := 403) rfl (fun zcq386 => ?_) (fun zcq386 => ?_)
                · refine z_iconst hG dL_needs_403 rfl ?_
                  refine z_icmp_ne hG dL_needs_404 (tgt := 427) rfl (fun zcq404 => ?_) (fun zcq404 => ?_)
                  · exfalso
                    split at zcq404 <;> omega
                  · exact h407 mm _ _ _ hQ
                · refine z_aload_n (i := 0) hG dL_needs_389 rfl rfl ?_
                  refine z_iload hG dL_needs_390 rfl ?_
                  refine z_iconst hG dL_needs_392 rfl ?_
                  refine z_callV hG dL_needs_393 LV_L_96 (cqa_2 l g hI hB hQ (by omega)) (by decide) rfl rfl rfl (Nat.le_of_ble_eq_true rfl) ?_
                  intro v9 mm h9
                  rw [h9.1]
                  replace hQ := h9.2
                  clear h9 v9
                  refine z_if_le hG dL_needs_396 (tgt := 403) rfl (fun zcq396 => ?_) (fun zcq396 => ?_)
                  · refine z_iconst hG dL_needs_403 rfl ?_
                    refine z_icmp_ne hG dL_needs_404 (tgt := 427) rfl (fun zcq404 => ?_) (fun zcq404 => ?_)
                    · exfalso
                      split at zcq404 <;> omega
                    · exact h407 mm _ _ _ hQ
                  · refine z_iconst hG dL_needs_399 rfl ?_
                    refine z_goto hG dL_needs_400 (tgt := 404) rfl ?_
                    refine z_icmp_ne hG dL_needs_404 (tgt := 427) rfl (fun zcq404 => ?_) (fun zcq404 => ?_)
                    · exfalso
                      split at zcq404 <;> omega
                    · exact h407 mm _ _ _ hQ
          · exfalso; omega
      have loopK : ∀ (N k : Nat) (mm : zM) (v9 v10 v11 : Option zV), k + N = i → zQ m0 mm → zZ X 122 [some (zr 0 0 0), some (zi (zsum i (zPl0 m0 7))), some (zi (zsum i (zPl0 m0 4))), some (zi (zmss (zPl0 m0 6) i)), some (zi (lz_any (fun r => m0 4 0 r 1) nr)), some (zi i), some (zi (zsum nr G)), some (zi (zsum k F)), some (zi k), v9, v10, v11] [] mm := by
        intro N
        induction N with
        | zero =>
          intro k mm v9 v10 v11 hki hQ
          have e3 : k = i := by omega
          rw [e3]
          refine z_iload hG dL_needs_122 rfl ?_
          refine z_iload hG dL_needs_124 rfl ?_
          refine z_icmp_ge hG dL_needs_126 (tgt := 172) rfl (fun zcq126 => ?_) (fun zcq126 => ?_)
          · refine z_aload_n (i := 0) hG dL_needs_172 rfl rfl ?_
            refine z_iload hG dL_needs_173 rfl ?_
            refine z_iconst hG dL_needs_175 rfl ?_
            refine z_callV hG dL_needs_176 LV_L_118 (cqn_0 l g hI hB hQ (by omega)) (by decide) rfl rfl rfl (Nat.le_of_ble_eq_true rfl) ?_
            intro v9 mm h9
            rw [h9.1]
            replace hQ := h9.2
            clear h9 v9
            refine z_istore hG dL_needs_179 (by decide) (ls2 := [_, _, _, _, _, _, _, _, _, _, _, _]) rfl ?_
            refine z_aload_n (i := 0) hG dL_needs_181 rfl rfl ?_
            refine z_iload hG dL_needs_182 rfl ?_
            refine z_iconst hG dL_needs_184 rfl ?_
            refine z_callV hG dL_needs_185 LV_L_118 (cqn_2 l g hI hB hQ (by omega)) (by decide) rfl rfl rfl (Nat.le_of_ble_eq_true rfl) ?_
            intro v9 mm h9
            rw [h9.1]
            replace hQ := h9.2
            clear h9 v9
            refine z_istore hG dL_needs_188 (by decide) (ls2 := [_, _, _, _, _, _, _, _, _, _, _, _]) rfl ?_
            refine z_aload_n (i := 0) hG dL_needs_190 rfl rfl ?_
            refine z_iload hG dL_needs_191 rfl ?_
            refine z_iconst hG dL_needs_193 rfl ?_
            refine z_callV hG dL_needs_194 LV_L_118 (cqn_3 l g hI hB hQ (by omega)) (by decide) rfl rfl rfl (Nat.le_of_ble_eq_true rfl) ?_
            intro v9 mm h9
            rw [h9.1]
            replace hQ := h9.2
            clear h9 v9
            refine z_istore hG dL_needs_197 (by decide) (ls2 := [_, _, _, _, _, _, _, _, _, _, _, _]) rfl ?_
            refine z_aload_n (i := 0) hG dL_needs_199 rfl rfl ?_
            refine z_iload hG dL_needs_200 rfl ?_
            refine z_iconst hG dL_needs_202 rfl ?_
            refine z_callV hG dL_needs_203 LV_L_118 (cqn_1 l g hI hB hQ (by omega)) (by decide) rfl rfl rfl (Nat.le_of_ble_eq_true rfl) ?_
            intro v9 mm h9
            rw [h9.1]
            replace hQ := h9.2
            clear h9 v9
            refine z_iload hG dL_needs_206 rfl ?_
            refine z_icmp_ne hG dL_needs_208 (tgt := 250) rfl (fun zcq208 => ?_) (fun zcq208 => ?_)
            · exfalso; omega
            · refine z_iload hG dL_needs_211 rfl ?_
              refine z_iload hG dL_needs_213 rfl ?_
              refine z_iload hG dL_needs_215 rfl ?_
              refine z_iadd hG dL_needs_217 (by omega) (by omega) ?_
              refine z_icmp_ne hG dL_needs_218 (tgt := 250) rfl (fun zcq218 => ?_) (fun zcq218 => ?_)
              · exfalso; omega
              · refine z_iload hG dL_needs_221 rfl ?_
                refine z_iload hG dL_needs_223 rfl ?_
                refine z_aload_n (i := 0) hG dL_needs_225 rfl rfl ?_
                refine z_iload hG dL_needs_226 rfl ?_
                refine z_iconst hG dL_needs_228 rfl ?_
                refine z_callV hG dL_needs_229 LV_L_96 (cqa_5 l g hI hB hQ (by omega)) (by decide) rfl rfl rfl (Nat.le_of_ble_eq_true rfl) ?_
                intro v9 mm h9
                rw [h9.1]
                replace hQ := h9.2
                clear h9 v9
                refine z_icmp_ge hG dL_needs_232 (tgt := 240) rfl (fun zcq232 => ?_) (fun zcq232 => ?_)
                · refine z_aload_n (i := 0) hG dL_needs_240 rfl rfl ?_
                  refine z_iload hG dL_needs_241 rfl ?_
                  refine z_iconst hG dL_needs_243 rfl ?_
                  refine z_callV hG dL_needs_244 LV_L_96 (cqa_5 l g hI hB hQ (by omega)) (by decide) rfl rfl rfl (Nat.le_of_ble_eq_true rfl) ?_
                  intro v9 mm h9
                  rw [h9.1]
                  replace hQ := h9.2
                  clear h9 v9
                  refine z_icmp_eq hG dL_needs_247 (tgt := 252) rfl (fun zcq247 => ?_) (fun zcq247 => ?_)
                  · exact h252 mm _ _ _ hQ
                  · exfalso; omega
                · refine z_iload hG dL_needs_235 rfl ?_
                  refine z_goto hG dL_needs_237 (tgt := 247) rfl ?_
                  refine z_icmp_eq hG dL_needs_247 (tgt := 252) rfl (fun zcq247 => ?_) (fun zcq247 => ?_)
                  · exact h252 mm _ _ _ hQ
                  · exfalso; omega
          · exact absurd zcq126 (by omega)
        | succ N ih =>
          intro k mm v9 v10 v11 hki hQ
          obtain ⟨-, -, -, -, wk5, -⟩ := lz_nf (hp.2.2 k (by omega) (by omega)).1 (hboo.1 k (by omega) (by omega)) (zPF_of hp (i := k) (by omega))
          have hsub := (hrow k (by omega) (by omega)).2.2.2.1 (by omega)
          have sk := (zsum_le (f := F) (B := 200002) k (fun j j0 j1 => hFb j j0 (by omega)))
          refine z_iload hG dL_needs_122 rfl ?_
          refine z_iload hG dL_needs_124 rfl ?_
          refine z_icmp_ge hG dL_needs_126 (tgt := 172) rfl (fun zcq126 => ?_) (fun zcq126 => ?_)
          · exact absurd zcq126 (by omega)
          · refine z_aload_n (i := 0) hG dL_needs_129 rfl rfl ?_
            refine z_iload hG dL_needs_130 rfl ?_
            refine z_iconst hG dL_needs_132 rfl ?_
            refine z_callV hG dL_needs_133 LV_L_96 (cqa_3 l g hI hB hQ (by omega)) (by decide) rfl rfl rfl (Nat.le_of_ble_eq_true rfl) ?_
            intro v9 mm h9
            rw [h9.1]
            replace hQ := h9.2
            clear h9 v9
            refine z_iload hG dL_needs_136 rfl ?_
            refine z_icmp_ne hG dL_needs_138 (tgt := 166) rfl (fun zcq138 => ?_) (fun zcq138 => ?_)
            · refine z_iinc hG dL_needs_166 (by decide) rfl (by omega) (by omega) (ls2 := [_, _, _, _, _, _, _, _, _, _, _, _]) rfl ?_
              refine z_goto hG dL_needs_169 (tgt := 122) rfl ?_
              have e9 : zsum (k + 1) F = zsum k F := by
                show zsum k F + F k = _
                rw [hFk, if_neg zcq138]
                omega
              have h9 := ih (k + 1) mm v9 v10 v11 (by omega) hQ
              rw [e9] at h9
              exact h9
            · have hm1 := zmulb (x := zPl0 m0 5 k) (y := m0 3 0 k 6) (A := 100000) (B := 200) (by omega) (by omega) (by omega) (by omega)
              have hc := zCe_bd (a := zPl0 m0 5 k * m0 3 0 k 6) (b := 100) (by omega) (by omega)
              refine z_iload hG dL_needs_141 rfl ?_
              refine z_aload_n (i := 0) hG dL_needs_143 rfl rfl ?_
              refine z_iload hG dL_needs_144 rfl ?_
              refine z_iconst hG dL_needs_146 rfl ?_
              refine z_callV hG dL_needs_147 LV_L_118 (cqn_5 l g hI hB hQ (by omega)) (by decide) rfl rfl rfl (Nat.le_of_ble_eq_true rfl) ?_
              intro v9 mm h9
              rw [h9.1]
              replace hQ := h9.2
              clear h9 v9
              refine z_aload_n (i := 0) hG dL_needs_150 rfl rfl ?_
              refine z_iload hG dL_needs_151 rfl ?_
              refine z_iconst hG dL_needs_153 rfl ?_
              refine z_callV hG dL_needs_154 LV_L_96 (cqa_4 l g hI hB hQ (by omega)) (by decide) rfl rfl rfl (Nat.le_of_ble_eq_true rfl) ?_
              intro v9 mm h9
              rw [h9.1]
              replace hQ := h9.2
              clear h9 v9
              refine z_imul hG dL_needs_157 (by omega) (by omega) ?_
              refine z_bipush hG dL_needs_158 rfl ?_
              refine z_callS hG dL_needs_160 LS_L_123 (ct_L_ceil l g (by omega) (by omega) (by omega)) (by decide) rfl rfl (Nat.le_of_ble_eq_true rfl) ?_
              intro v9 m9 h9
              rw [h9.1, h9.2]
              clear h9 m9 v9
              refine z_iadd hG dL_needs_163 (by omega) (by omega) ?_
              refine z_istore hG dL_needs_164 (by decide) (ls2 := [_, _, _, _, _, _, _, _, _, _, _, _]) rfl ?_
              refine z_iinc hG dL_needs_166 (by decide) rfl (by omega) (by omega) (ls2 := [_, _, _, _, _, _, _, _, _, _, _, _]) rfl ?_
              refine z_goto hG dL_needs_169 (tgt := 122) rfl ?_
              have e9 : zsum (k + 1) F = zsum k F + zCe (zPl0 m0 5 k * m0 3 0 k 6) 100 := by
                show zsum k F + F k = _
                rw [hFk, if_pos zcq138]
              have h9 := ih (k + 1) mm v9 v10 v11 (by omega) hQ
              rw [e9] at h9
              exact h9
      have loopR : ∀ (N r : Nat) (mm : zM) (v8 v9 v10 v11 : Option zV), r + N = nr → zQ m0 mm → zZ X 67 [some (zr 0 0 0), some (zi (zsum i (zPl0 m0 7))), some (zi (zsum i (zPl0 m0 4))), some (zi (zmss (zPl0 m0 6) i)), some (zi (lz_any (fun r => m0 4 0 r 1) nr)), some (zi i), some (zi (zsum r G)), some (zi r), v8, v9, v10, v11] [] mm := by
        intro N
        induction N with
        | zero =>
          intro r mm v8 v9 v10 v11 hrn hQ
          have e3 : r = nr := by omega
          rw [e3]
          refine z_iload hG dL_needs_67 rfl ?_
          refine z_aload_n (i := 0) hG dL_needs_69 rfl rfl ?_
          refine z_iconst hG dL_needs_70 rfl ?_
          refine z_callV hG dL_needs_71 LV_L_68 (cqc_2 l g hI hB hQ) (by decide) rfl rfl rfl (Nat.le_of_ble_eq_true rfl) ?_
          intro v9 mm h9
          rw [h9.1]
          replace hQ := h9.2
          clear h9 v9
          refine z_icmp_ge hG dL_needs_74 (tgt := 116) rfl (fun zcq74 => ?_) (fun zcq74 => ?_)
          · refine z_iconst hG dL_needs_116 rfl ?_
            refine z_istore hG dL_needs_117 (by decide) (ls2 := [_, _, _, _, _, _, _, _, _, _, _, _]) rfl ?_
            refine z_iconst hG dL_needs_119 rfl ?_
            refine z_istore hG dL_needs_120 (by decide) (ls2 := [_, _, _, _, _, _, _, _, _, _, _, _]) rfl ?_
            exact loopK i 0 mm _ _ _ (by omega) hQ
          · exact absurd zcq74 (by omega)
        | succ N ih =>
          intro r mm v8 v9 v10 v11 hrn hQ
          have hr1 := hrec r (by omega) (by omega)
          have hr2 := hrow2 r (by omega) (by omega)
          have ha := hr1.2.2.2 i (by omega) (by omega)
          have hm1 := zmulb (x := m0 17 0 r i) (y := m0 4 0 r 1) (A := 500) (B := 20) ha.1 ha.2 hr1.1.1 hr1.1.2
          have hc := zCe_bd (a := m0 17 0 r i * m0 4 0 r 1) (b := m0 4 0 r 0) (by omega) (by omega)
          have sr := (zsum_le (f := G) (B := 10020) r (fun j j0 j1 => hGb j j0 (by omega)))
          have hGr := hGk r
          refine z_iload hG dL_needs_67 rfl ?_
          refine z_aload_n (i := 0) hG dL_needs_69 rfl rfl ?_
          refine z_iconst hG dL_needs_70 rfl ?_
          refine z_callV hG dL_needs_71 LV_L_68 (cqc_2 l g hI hB hQ) (by decide) rfl rfl rfl (Nat.le_of_ble_eq_true rfl) ?_
          intro v9 mm h9
          rw [h9.1]
          replace hQ := h9.2
          clear h9 v9
          refine z_icmp_ge hG dL_needs_74 (tgt := 116) rfl (fun zcq74 => ?_) (fun zcq74 => ?_)
          · exact absurd zcq74 (by omega)
          · refine z_iload hG dL_needs_77 rfl ?_
            refine z_aload_n (i := 0) hG dL_needs_79 rfl rfl ?_
            refine z_iload hG dL_needs_80 rfl ?_
            refine z_iconst hG dL_needs_82 rfl ?_
            refine z_iload hG dL_needs_83 rfl ?_
            refine z_iadd hG dL_needs_85 (by omega) (by omega) ?_
            refine z_callV hG dL_needs_86 LV_L_90 (cqr_i l g hI hB hQ (by omega) (by omega)) (by decide) rfl rfl rfl (Nat.le_of_ble_eq_true rfl) ?_
            intro v9 mm h9
            rw [h9.1]
            replace hQ := h9.2
            clear h9 v9
            refine z_aload_n (i := 0) hG dL_needs_89 rfl rfl ?_
            refine z_iload hG dL_needs_90 rfl ?_
            refine z_iconst hG dL_needs_92 rfl ?_
            refine z_callV hG dL_needs_93 LV_L_90 (cqr_2 l g hI hB hQ (by omega)) (by decide) rfl rfl rfl (Nat.le_of_ble_eq_true rfl) ?_
            intro v9 mm h9
            rw [h9.1]
            replace hQ := h9.2
            clear h9 v9
            refine z_imul hG dL_needs_96 (by omega) (by omega) ?_
            refine z_aload_n (i := 0) hG dL_needs_97 rfl rfl ?_
            refine z_iload hG dL_needs_98 rfl ?_
            refine z_iconst hG dL_needs_100 rfl ?_
            refine z_callV hG dL_needs_101 LV_L_90 (cqr_0 l g hI hB hQ (by omega)) (by decide) rfl rfl rfl (Nat.le_of_ble_eq_true rfl) ?_
            intro v9 mm h9
            rw [h9.1]
            replace hQ := h9.2
            clear h9 v9
            refine z_callS hG dL_needs_104 LS_L_123 (ct_L_ceil l g (by omega) (by omega) (by omega)) (by decide) rfl rfl (Nat.le_of_ble_eq_true rfl) ?_
            intro v9 m9 h9
            rw [h9.1, h9.2]
            clear h9 m9 v9
            refine z_iadd hG dL_needs_107 (by omega) (by omega) ?_
            refine z_istore hG dL_needs_108 (by decide) (ls2 := [_, _, _, _, _, _, _, _, _, _, _, _]) rfl ?_
            refine z_iinc hG dL_needs_110 (by decide) rfl (by omega) (by omega) (ls2 := [_, _, _, _, _, _, _, _, _, _, _, _]) rfl ?_
            refine z_goto hG dL_needs_113 (tgt := 67) rfl ?_
            have h9 := ih (r + 1) mm v8 v9 v10 v11 (by omega) hQ
            rw [show zsum (r + 1) G = zsum r G + zCe (m0 17 0 r i * m0 4 0 r 1) (m0 4 0 r 0) by rw [← hGk]; rfl] at h9
            exact h9
      refine z_iload hG dL_needs_51 rfl ?_
      refine z_aload_n (i := 0) hG dL_needs_53 rfl rfl ?_
      refine z_iconst hG dL_needs_54 rfl ?_
      refine z_callV hG dL_needs_55 LV_L_68 (cqc_1 l g hI hB hQ) (by decide) rfl rfl rfl (Nat.le_of_ble_eq_true rfl) ?_
      intro v9 mm h9
      rw [h9.1]
      replace hQ := h9.2
      clear h9 v9
      refine z_icmp_ge hG dL_needs_58 (tgt := 489) rfl (fun zcq58 => ?_) (fun zcq58 => ?_)
      · exact absurd zcq58 (by omega)
      · refine z_iconst hG dL_needs_61 rfl ?_
        refine z_istore hG dL_needs_62 (by decide) (ls2 := [_, _, _, _, _, _, _, _, _, _, _, _]) rfl ?_
        refine z_iconst hG dL_needs_64 rfl ?_
        refine z_istore hG dL_needs_65 (by decide) (ls2 := [_, _, _, _, _, _, _, _, _, _, _, _]) rfl ?_
        exact loopR nr 0 mm _ _ _ _ (by omega) hQ
  have loopA : ∀ (N r : Nat) (mm : zM) (v6 v7 v8 v9 v10 v11 : Option zV), r + N = nr → zQ m0 mm → zZ X 12 [some (zr 0 0 0), some (zi 0), some (zi 0), some (zi 0), some (zi (lz_any (fun r => m0 4 0 r 1) r)), some (zi r), v6, v7, v8, v9, v10, v11] [] mm := by
    intro N
    induction N with
    | zero =>
      intro r mm v6 v7 v8 v9 v10 v11 hrn hQ
      have e3 : r = nr := by omega
      rw [e3]
      refine z_iload hG dL_needs_12 rfl ?_
      refine z_aload_n (i := 0) hG dL_needs_14 rfl rfl ?_
      refine z_iconst hG dL_needs_15 rfl ?_
      refine z_callV hG dL_needs_16 LV_L_68 (cqc_2 l g hI hB hQ) (by decide) rfl rfl rfl (Nat.le_of_ble_eq_true rfl) ?_
      intro v9 mm h9
      rw [h9.1]
      replace hQ := h9.2
      clear h9 v9
      refine z_icmp_ge hG dL_needs_19 (tgt := 48) rfl (fun zcq19 => ?_) (fun zcq19 => ?_)
      · refine z_iconst hG dL_needs_48 rfl ?_
        refine z_istore hG dL_needs_49 (by decide) (ls2 := [_, _, _, _, _, _, _, _, _, _, _, _]) rfl ?_
        exact loopI n 0 mm _ _ _ _ _ _ (by omega) hQ
      · exact absurd zcq19 (by omega)
    | succ N ih =>
      intro r mm v6 v7 v8 v9 v10 v11 hrn hQ
      refine z_iload hG dL_needs_12 rfl ?_
      refine z_aload_n (i := 0) hG dL_needs_14 rfl rfl ?_
      refine z_iconst hG dL_needs_15 rfl ?_
      refine z_callV hG dL_needs_16 LV_L_68 (cqc_2 l g hI hB hQ) (by decide) rfl rfl rfl (Nat.le_of_ble_eq_true rfl) ?_
      intro v9 mm h9
      rw [h9.1]
      replace hQ := h9.2
      clear h9 v9
      refine z_icmp_ge hG dL_needs_19 (tgt := 48) rfl (fun zcq19 => ?_) (fun zcq19 => ?_)
      · exact absurd zcq19 (by omega)
      · refine z_iload hG dL_needs_22 rfl ?_
        refine z_aload_n (i := 0) hG dL_needs_24 rfl rfl ?_
        refine z_iload hG dL_needs_25 rfl ?_
        refine z_iconst hG dL_needs_27 rfl ?_
        refine z_callV hG dL_needs_28 LV_L_90 (cqr_2 l g hI hB hQ (by omega)) (by decide) rfl rfl rfl (Nat.le_of_ble_eq_true rfl) ?_
        intro v9 mm h9
        rw [h9.1]
        replace hQ := h9.2
        clear h9 v9
        refine z_tif_le hG dL_needs_31 (tgt := 38) (j := 39) rfl (fun K => (z_iconst hG dL_needs_38 rfl K)) (fun K => (z_iconst hG dL_needs_34 rfl (z_goto hG dL_needs_35 (tgt := 39) rfl K))) ?_
        refine z_ior hG dL_needs_39 ?_
        refine z_istore hG dL_needs_40 (by decide) (ls2 := [_, _, _, _, _, _, _, _, _, _, _, _]) rfl ?_
        refine z_iinc hG dL_needs_42 (by decide) rfl (by omega) (by omega) (ls2 := [_, _, _, _, _, _, _, _, _, _, _, _]) rfl ?_
        refine z_goto hG dL_needs_45 (tgt := 12) rfl ?_
        exact ih (r + 1) mm _ _ _ _ _ _ (by omega) hQ
  refine z_iconst hG dL_needs_0 rfl ?_
  refine z_istore_n (i := 1) hG dL_needs_1 rfl (by decide) (ls2 := [_, _, _, _, _, _, _, _, _, _, _, _]) rfl ?_
  refine z_iconst hG dL_needs_2 rfl ?_
  refine z_istore_n (i := 2) hG dL_needs_3 rfl (by decide) (ls2 := [_, _, _, _, _, _, _, _, _, _, _, _]) rfl ?_
  refine z_iconst hG dL_needs_4 rfl ?_
  refine z_istore_n (i := 3) hG dL_needs_5 rfl (by decide) (ls2 := [_, _, _, _, _, _, _, _, _, _, _, _]) rfl ?_
  refine z_iconst hG dL_needs_6 rfl ?_
  refine z_istore hG dL_needs_7 (by decide) (ls2 := [_, _, _, _, _, _, _, _, _, _, _, _]) rfl ?_
  refine z_iconst hG dL_needs_9 rfl ?_
  refine z_istore hG dL_needs_10 (by decide) (ls2 := [_, _, _, _, _, _, _, _, _, _, _, _]) rfl ?_
  exact loopA nr 0 m _ _ _ _ _ _ (by omega) hQ
