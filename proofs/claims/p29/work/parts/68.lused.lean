theorem zCe_le {a b T : Int} (hb : 0 < b) (h : a ≤ T * b) : zCe a b ≤ T := by
  unfold zCe
  have := Int.ediv_lt_of_lt_mul hb (show a + b - 1 < (T + 1) * b by rw [Int.add_mul]; omega)
  omega
theorem lz_zsum0 : ∀ n : Nat, zsum n (fun _ => (0 : Int)) = 0
  | 0 => rfl
  | n + 1 => by show zsum n _ + 0 = 0; rw [lz_zsum0 n]; rfl
theorem lz_add {f g : Int → Int} : ∀ n : Nat, zsum n f + zsum n g = zsum n (fun j => f j + g j)
  | 0 => rfl
  | n + 1 => by
    have := lz_add (f := f) (g := g) n
    show zsum n f + f n + (zsum n g + g n) = zsum n _ + (f n + g n)
    omega
theorem lz_comm {f : Int → Int → Int} : ∀ n k : Nat, zsum n (fun i => zsum k (fun j => f i j)) = zsum k (fun j => zsum n (fun i => f i j))
  | 0, k => (lz_zsum0 k).symm
  | n + 1, k => by
    show zsum n (fun i => zsum k (fun j => f i j)) + zsum k (fun j => f n j) = _
    rw [lz_comm n k, lz_add]
    rfl
theorem lz_span {a d e : Int} (ha : 0 ≤ a) (hd : 0 ≤ d) : ∀ T : Nat, zsum T (fun τ => if a ≤ τ ∧ τ < a + d then e else 0) = (if (T : Int) ≤ a then 0 else if (T : Int) ≤ a + d then (T - a) * e else d * e)
  | 0 => by rw [if_pos (by omega)]; rfl
  | T + 1 => by
    show zsum T (fun τ => if a ≤ τ ∧ τ < a + d then e else 0) + (if a ≤ (T : Int) ∧ (T : Int) < a + d then e else 0) = _
    rw [lz_span ha hd T]
    by_cases zcq1 : ((T + 1 : Nat) : Int) ≤ a
    · rw [if_pos (by omega), if_pos zcq1, if_neg (by omega)]; rfl
    · rw [if_neg zcq1]
      by_cases zcq2 : ((T + 1 : Nat) : Int) ≤ a + d
      · rw [if_pos zcq2, if_pos (show a ≤ (T : Int) ∧ (T : Int) < a + d by omega)]
        by_cases zcq3 : (T : Int) ≤ a
        · rw [if_pos zcq3, show ((T + 1 : Nat) : Int) - a = 1 by omega]; omega
        · rw [if_neg zcq3, if_pos (by omega), show ((T + 1 : Nat) : Int) - a = (T - a) + 1 by omega, Int.add_mul]; omega
      · rw [if_neg zcq2, if_neg (show ¬ (a ≤ (T : Int) ∧ (T : Int) < a + d) by omega)]
        by_cases zcq3 : (T : Int) ≤ a
        · rw [if_pos zcq3, show d = 0 by omega]; omega
        · rw [if_neg zcq3]
          by_cases zcq4 : (T : Int) ≤ a + d
          · rw [if_pos zcq4, show (T : Int) - a = d by omega]; omega
          · rw [if_neg zcq4]; omega
/-- all the work is done by the hands that there are -/
theorem lz_work {E : zE} (hE : zEok E) {b : Int → Int} {h : Int} {T : Nat} (hu : ∀ τ : Int, lz_us E b τ ≤ h) (hb : ∀ p : Int, 0 ≤ p → p < 32 → E 0 p = 1 → 0 ≤ b p ∧ b p + E 1 p ≤ T) : zsum 32 (zwf E) ≤ T * h := by
  have e : zsum T (fun τ => lz_us E b τ) = zsum 32 (zwf E) := by
    unfold lz_us
    rw [lz_comm]
    refine zsum_congr 32 (fun p p0 p1 => ?_)
    unfold zwf
    by_cases c : E 0 p = 1
    · have h1 := hb p p0 (by omega) c
      have h2 := hE p p0 (by omega) c
      have hs := lz_span (a := b p) (d := E 1 p) (e := E 2 p) h1.1 (by omega) T
      rw [if_neg (by omega)] at hs
      have ef : zsum T (fun τ => if E 0 p = 1 then (if b p ≠ -6 ∧ b p ≤ τ ∧ τ < b p + E 1 p then E 2 p else 0) else 0) = zsum T (fun τ => if b p ≤ τ ∧ τ < b p + E 1 p then E 2 p else 0) := zsum_congr T (fun τ _ _ => by
        rw [if_pos c]
        by_cases d : b p ≤ τ ∧ τ < b p + E 1 p
        · rw [if_pos d, if_pos (by omega)]
        · rw [if_neg d, if_neg (by omega)])
      rw [if_pos c, ef, hs]
      split
      · rw [show (T : Int) - b p = E 1 p by omega]
      · rfl
    · rw [if_neg c]
      have ef : zsum T (fun τ => if E 0 p = 1 then (if b p ≠ -6 ∧ b p ≤ τ ∧ τ < b p + E 1 p then E 2 p else 0) else 0) = zsum T (fun _ => (0 : Int)) := zsum_congr T (fun τ _ _ => if_neg c)
      rw [ef, lz_zsum0]
  rw [← e]
  clear hb e
  induction T with
  | zero => simp [zsum]
  | succ T ih =>
    show zsum T (fun τ => lz_us E b τ) + lz_us E b T ≤ _
    have h3 := hu T
    have h4 : ((T + 1 : Nat) : Int) * h = T * h + h := by rw [show ((T + 1 : Nat) : Int) = (T : Int) + 1 by omega, Int.add_mul]; omega
    omega
theorem lz_on {m : zM} {p : Int} (h : zEc m 0 p = 1) : 0 < m 4 0 (p / 8) 1 ∧ p % 8 < m 4 0 (p / 8) 2 := by
  simp only [zEc] at h
  apply Classical.byContradiction
  intro z
  rw [if_neg z] at h
  omega
theorem lz_01 {m : zM} {p : Int} : zEc m 0 p = 0 ∨ zEc m 0 p = 1 := by
  simp only [zEc]
  split
  · exact Or.inr rfl
  · exact Or.inl rfl
theorem lz_off {m : zM} {p : Int} (h : ¬ (0 < m 4 0 (p / 8) 1 ∧ p % 8 < m 4 0 (p / 8) 2)) : zEc m 0 p = 0 := by
  simp only [zEc]
  exact if_neg h
/-- no tail is longer than the whole -/
theorem lz_tail {B : Int} {m : zM} (hI0 : zIS B m 0) {h r : Int} (hh : 0 ≤ h) (hr : zre (zEc m) h = r) (h6 : r ≠ -6) : zgre (zEc m) ≤ r ∧ zsum 32 (zwf (zEc m)) ≤ r * h ∧ 0 ≤ r := by
  have hE := zEc_ok hI0
  obtain ⟨⟨s1, s2, s3, s4, s5⟩, hd⟩ := lz_run hE hh
  rw [hr] at hd
  rcases hd with ⟨c, -⟩ | ⟨d1, d2, d3, -⟩
  · exact absurd c h6
  · obtain ⟨hday, hhan, hing, hrcp, hrec, hboo, hrow, hrow2, hstp⟩ := id hI0
    have key : ∀ (ρ : Int), 0 ≤ ρ → ρ < 4 → 0 < m 4 0 ρ 1 → ∀ (d : Nat) (k : Int), 0 ≤ k → k < m 4 0 ρ 2 → m 4 0 ρ 2 - k ≤ d → zrb (zEc m) h (ρ * 8 + k) + zEc m 4 (ρ * 8 + k) ≤ r := by
      intro ρ r0 r1 hp d
      have hc := (hrec ρ r0 r1).2.2.1
      have hrc := zEc_rc ⟨r0, r1⟩ hp hc
      induction d with
      | zero => intro k k0 k1 k2; omega
      | succ d ih =>
        intro k k0 k1 k2
        obtain ⟨e0, -, -, -, e4⟩ := (hrc k k0 (by omega)).1 k1
        obtain ⟨a1, a2, a3⟩ := zmxs_at (f := fun j => if zbit (zEc m 3 (ρ * 8 + (k + 1 + j))) k then zEc m 4 (ρ * 8 + (k + 1 + j)) else 0) (m 4 0 ρ 2 - k - 1).toNat
        have hdp := d3 (ρ * 8 + k) (by omega) (by omega) e0
        rw [e4]
        rcases a2 with z | ⟨j, j0, j1, z⟩
        · rw [z]; omega
        · rw [← z]
          by_cases q : zbit (zEc m 3 (ρ * 8 + (k + 1 + j))) k
          · rw [if_pos q]
            obtain ⟨f0, -⟩ := (hrc (k + 1 + j) (by omega) (by omega)).1 (by omega)
            have hb := s2 (ρ * 8 + (k + 1 + j)) (by omega) (by omega) (fun z2 => d1 _ (by omega) (by omega) f0 z2) k (by omega) (by omega) q
            rw [show ρ * 8 + (k + 1 + j) - (ρ * 8 + (k + 1 + j)) % 8 + k = ρ * 8 + k by omega] at hb
            have := ih (k + 1 + j) (by omega) (by omega) (by omega)
            omega
          · rw [if_neg q]; omega
    have hbp : ∀ p : Int, 0 ≤ p → p < 32 → zEc m 0 p = 1 → 0 ≤ zrb (zEc m) h p ∧ zrb (zEc m) h p + zEc m 1 p ≤ r := fun p p0 p1 pon => by
      have := s1 p p0 p1
      have := d1 p p0 p1 pon
      have := d3 p p0 p1 pon
      omega
    refine ⟨?_, ?_, d2⟩
    · obtain ⟨a1, a2, a3⟩ := zmxs_at (f := fun p => if zEc m 0 p = 1 then zEc m 4 p else 0) 32
      change zmxs (fun p => if zEc m 0 p = 1 then zEc m 4 p else 0) 32 ≤ r
      rcases a2 with z | ⟨p, p0, p1, z⟩
      · omega
      · rw [← z]
        by_cases q : zEc m 0 p = 1
        · rw [if_pos q]
          have ho := lz_on q
          have hc := (hrec (p / 8) (by omega) (by omega)).2.2.1
          have := key (p / 8) (by omega) (by omega) ho.1 8 (p % 8) (by omega) ho.2 (by omega)
          rw [show p / 8 * 8 + p % 8 = p by omega] at this
          have := hbp p p0 (by omega) q
          omega
        · rw [if_neg q]; omega
    · obtain ⟨n, rfl⟩ := Int.eq_ofNat_of_zero_le d2
      exact lz_work hE s3 hbp
theorem lz_div {r k : Int} (k0 : 0 ≤ k) (k1 : k < 8) : (8 * r + k) / 8 = r ∧ (8 * r + k) % 8 = k := by omega
theorem cqp_0 (l : Launch) (g : zG) {m0 m : zM} {B : Int} {r k : Int} (hI : zInv B m0) (hB : B ≤ 11900000) (hQ : zQ m0 m) (hp : m0 4 0 r 1 ≠ 0) (hr : 0 ≤ r ∧ r < m0 2 0 0 5) (hk : 0 ≤ k ∧ k < m0 4 0 r 2) : zMet l g Y_X10_step [zr 0 0 0, zi r, zi k, zi 0] m (fun v m' => v = some (zi (zEc m0 1 (8 * r + k))) ∧ zQ m0 m') := by
  have h3 := ((zInv0 hI).2.2.2.2.1 r hr.1 (by have := (zInv0 hI).2.2.2.1; omega)).2.2.1
  have hd := lz_div (r := r) (k := k) hk.1 (by omega)
  refine zMet_mono (cqs_0 l g hI hB hQ hr hk) (fun v m' h => ⟨?_, h.2⟩)
  rw [h.1]
  refine congrArg (fun x : Int => some (zi x)) ?_
  rw [if_neg hp]
  show _ = zlast m0 0 ((8 * r + k) / 8) ((8 * r + k) % 8)
  rw [hd.1, hd.2]
theorem cqp_1 (l : Launch) (g : zG) {m0 m : zM} {B : Int} {r k : Int} (hI : zInv B m0) (hB : B ≤ 11900000) (hQ : zQ m0 m) (hp : m0 4 0 r 1 ≠ 0) (hr : 0 ≤ r ∧ r < m0 2 0 0 5) (hk : 0 ≤ k ∧ k < m0 4 0 r 2) : zMet l g Y_X10_step [zr 0 0 0, zi r, zi k, zi 1] m (fun v m' => v = some (zi (zEc m0 2 (8 * r + k))) ∧ zQ m0 m') := by
  have h3 := ((zInv0 hI).2.2.2.2.1 r hr.1 (by have := (zInv0 hI).2.2.2.1; omega)).2.2.1
  have hd := lz_div (r := r) (k := k) hk.1 (by omega)
  refine zMet_mono (cqs_1 l g hI hB hQ hr hk) (fun v m' h => ⟨?_, h.2⟩)
  rw [h.1]
  refine congrArg (fun x : Int => some (zi x)) ?_
  rfl
theorem cqp_2 (l : Launch) (g : zG) {m0 m : zM} {B : Int} {r k : Int} (hI : zInv B m0) (hB : B ≤ 11900000) (hQ : zQ m0 m) (hp : m0 4 0 r 1 ≠ 0) (hr : 0 ≤ r ∧ r < m0 2 0 0 5) (hk : 0 ≤ k ∧ k < m0 4 0 r 2) : zMet l g Y_X10_step [zr 0 0 0, zi r, zi k, zi 2] m (fun v m' => v = some (zi (zEc m0 3 (8 * r + k))) ∧ zQ m0 m') := by
  have h3 := ((zInv0 hI).2.2.2.2.1 r hr.1 (by have := (zInv0 hI).2.2.2.1; omega)).2.2.1
  have hd := lz_div (r := r) (k := k) hk.1 (by omega)
  refine zMet_mono (cqs_2 l g hI hB hQ hr hk) (fun v m' h => ⟨?_, h.2⟩)
  rw [h.1]
  refine congrArg (fun x : Int => some (zi x)) ?_
  rfl
theorem cqp_4 (l : Launch) (g : zG) {m0 m : zM} {B : Int} {r k : Int} (hI : zInv B m0) (hB : B ≤ 11900000) (hQ : zQ m0 m) (hp : m0 4 0 r 1 ≠ 0) (hr : 0 ≤ r ∧ r < m0 2 0 0 5) (hk : 0 ≤ k ∧ k < m0 4 0 r 2) : zMet l g Y_X10_step [zr 0 0 0, zi r, zi k, zi 4] m (fun v m' => v = some (zi (zEc m0 4 (8 * r + k))) ∧ zQ m0 m') := by
  have h3 := ((zInv0 hI).2.2.2.2.1 r hr.1 (by have := (zInv0 hI).2.2.2.1; omega)).2.2.1
  have hd := lz_div (r := r) (k := k) hk.1 (by omega)
  refine zMet_mono (cqs_4 l g hI hB hQ hr hk) (fun v m' h => ⟨?_, h.2⟩)
  rw [h.1]
  refine congrArg (fun x : Int => some (zi x)) ?_
  rw [if_neg hp, show r * 8 + k = 8 * r + k by omega]
theorem cqp_5 (l : Launch) (g : zG) {m0 m : zM} {B : Int} {r k : Int} (hI : zInv B m0) (hB : B ≤ 11900000) (hQ : zQ m0 m) (hp : m0 4 0 r 1 ≠ 0) (hr : 0 ≤ r ∧ r < m0 2 0 0 5) (hk : 0 ≤ k ∧ k < m0 4 0 r 2) : zMet l g Y_X10_step [zr 0 0 0, zi r, zi k, zi 5] m (fun v m' => v = some (zi (zrb (zEc m0) (m0 2 0 0 1) (8 * r + k))) ∧ zQ m0 m') := by
  have h3 := ((zInv0 hI).2.2.2.2.1 r hr.1 (by have := (zInv0 hI).2.2.2.1; omega)).2.2.1
  have hd := lz_div (r := r) (k := k) hk.1 (by omega)
  refine zMet_mono (cqs_5 l g hI hB hQ hr hk) (fun v m' h => ⟨?_, h.2⟩)
  rw [h.1]
  refine congrArg (fun x : Int => some (zi x)) ?_
  rw [if_neg hp, show r * 8 + k = 8 * r + k by omega]
set_option maxRecDepth 20000 in
theorem ct_L_used (l : Launch) (g : zG) {m0 m : zM} {B τ : Int} (hI : zInv B m0) (hB : B ≤ 11900000) (hQ : zQ m0 m) : zMet l g Y_L_used [zr 0 0 0, zi τ] m (fun v m' => v = some (zi (lz_us (zEc m0) (zrb (zEc m0) (m0 2 0 0 1)) τ)) ∧ zQ m0 m') := by
  refine zMet_introF (by decide +kernel) (Nat.le_of_ble_eq_true rfl) (ls0 := [some (zr 0 0 0), some (zi τ), none, none, none, none]) rfl fun X hG hE => ?_
  have hG : zGood X l g RL cL_used 7 6 := hG
  have hE : zEnd X (some .int) _ := hE
  have hI0 := zInv0 hI
  obtain ⟨hday, hhan, hing, hrcp, hrec, hboo, hrow, hrow2, hstp⟩ := id hI0
  have hEk := zEc_ok hI0
  obtain ⟨⟨s1, s2, s3, s4, s5⟩, -⟩ := lz_run hEk (show 0 ≤ m0 2 0 0 1 by omega)
  obtain ⟨nr, hnr⟩ := Int.eq_ofNat_of_zero_le hrcp.1
  obtain ⟨f, hff⟩ : ∃ f : Int → Int, f = (fun p => if zEc m0 0 p = 1 then (if zrb (zEc m0) (m0 2 0 0 1) p ≠ -6 ∧ zrb (zEc m0) (m0 2 0 0 1) p ≤ τ ∧ τ < zrb (zEc m0) (m0 2 0 0 1) p + zEc m0 1 p then zEc m0 2 p else 0) else 0) := ⟨_, rfl⟩
  have hf : ∀ p : Int, f p = if zEc m0 0 p = 1 then (if zrb (zEc m0) (m0 2 0 0 1) p ≠ -6 ∧ zrb (zEc m0) (m0 2 0 0 1) p ≤ τ ∧ τ < zrb (zEc m0) (m0 2 0 0 1) p + zEc m0 1 p then zEc m0 2 p else 0) else 0 := fun p => by rw [hff]
  have hfb : ∀ p : Int, 0 ≤ p → p < 32 → 0 ≤ f p ∧ f p ≤ 3 := fun p p0 p1 => by
    rw [hf]
    split
    · next q => have := hEk p p0 p1 q; split <;> omega
    · omega
  have hf0 : ∀ p : Int, zEc m0 0 p = 0 → f p = 0 := fun p q => by rw [hf, if_neg (by omega)]
  have loopR : ∀ (N r : Nat) (mm : zM) (v4 v5 : Option zV), r + N = nr → zQ m0 mm → zZ X 4 [some (zr 0 0 0), some (zi τ), some (zi (zsum (8 * r) f)), some (zi r), v4, v5] [] mm := by
    intro N
    induction N with
    | zero =>
      intro r mm v4 v5 hrn hQ
      have e3 : zsum (8 * r) f = zsum 32 f := lz_ext0 32 (by omega) (fun _ _ _ => rfl) (fun p p0 p1 => hf0 p (lz_off (fun z => by
        have := (hrow2 (p / 8) (by omega) (by omega)).2.1 (by omega)
        omega)))
      rw [e3]
      refine z_iload_n (i := 3) hG dL_used_4 rfl rfl ?_
      refine z_aload_n (i := 0) hG dL_used_5 rfl rfl ?_
      refine z_iconst hG dL_used_6 rfl ?_
      refine z_callV hG dL_used_7 LV_L_68 (cqc_2 l g hI hB hQ) (by decide) rfl rfl rfl (Nat.le_of_ble_eq_true rfl) ?_
      intro v9 mm h9
      rw [h9.1]
      replace hQ := h9.2
      clear h9 v9
      refine z_icmp_ge hG dL_used_10 (tgt := 86) rfl (fun zcq10 => ?_) (fun zcq10 => ?_)
      · refine z_iload_n (i := 2) hG dL_used_86 rfl rfl ?_
        refine z_iret hG hE dL_used_87 trivial ?_
        rw [hff]
        exact ⟨rfl, hQ⟩
      · exact absurd zcq10 (by omega)
    | succ N ih1 =>
      intro r mm v4 v5 hrn hQ
      have hc := (hrec r (by omega) (by omega)).2.2.1
      have hpb := (hrec r (by omega) (by omega)).1
      obtain ⟨c, hcc⟩ := Int.eq_ofNat_of_zero_le hc.1
      have loopE : ∀ (M e : Nat) (mm : zM) (v5 : Option zV), e + M = c → zQ m0 mm → zZ X 16 [some (zr 0 0 0), some (zi τ), some (zi (zsum (8 * r + e) f)), some (zi r), some (zi e), v5] [] mm := by
        intro M
        induction M with
        | zero =>
          intro e mm v5 hec hQ
          have e3 : zsum (8 * r + e) f = zsum (8 * (r + 1)) f := lz_ext0 (8 * (r + 1)) (by omega) (fun _ _ _ => rfl) (fun p p0 p1 => hf0 p (lz_off (fun z => by
            rw [show p / 8 = (r : Int) by omega] at z
            omega)))
          rw [e3]
          refine z_iload hG dL_used_16 rfl ?_
          refine z_aload_n (i := 0) hG dL_used_18 rfl rfl ?_
          refine z_iload_n (i := 3) hG dL_used_19 rfl rfl ?_
          refine z_iconst hG dL_used_20 rfl ?_
          refine z_callV hG dL_used_21 LV_L_90 (cqr_1 l g hI hB hQ (by omega)) (by decide) rfl rfl rfl (Nat.le_of_ble_eq_true rfl) ?_
          intro v9 mm h9
          rw [h9.1]
          replace hQ := h9.2
          clear h9 v9
          refine z_icmp_ge hG dL_used_24 (tgt := 80) rfl (fun zcq24 => ?_) (fun zcq24 => ?_)
          · refine z_iinc hG dL_used_80 (by decide) rfl (by omega) (by omega) (ls2 := [_, _, _, _, _, _]) rfl ?_
            refine z_goto hG dL_used_83 (tgt := 4) rfl ?_
            exact ih1 (r + 1) mm _ _ (by omega) hQ
          · exact absurd zcq24 (by omega)
        | succ M ih =>
          intro e mm v5 hec hQ
          have hsb := (zsum_le (f := f) (B := 3) (8 * r + e) (fun p p0 p1 => hfb p p0 (by omega)))
          have hfe := hfb (8 * r + e) (by omega) (by omega)
          have hse := s1 (8 * r + e) (by omega) (by omega)
          by_cases hp : m0 4 0 r 1 = 0
          · have hoff : zEc m0 0 (8 * r + e) = 0 := lz_off (fun z => by rw [show (8 * (r : Int) + e) / 8 = r by omega] at z; omega)
            refine z_iload hG dL_used_16 rfl ?_
            refine z_aload_n (i := 0) hG dL_used_18 rfl rfl ?_
            refine z_iload_n (i := 3) hG dL_used_19 rfl rfl ?_
            refine z_iconst hG dL_used_20 rfl ?_
            refine z_callV hG dL_used_21 LV_L_90 (cqr_1 l g hI hB hQ (by omega)) (by decide) rfl rfl rfl (Nat.le_of_ble_eq_true rfl) ?_
            intro v9 mm h9
            rw [h9.1]
            replace hQ := h9.2
            clear h9 v9
            refine z_icmp_ge hG dL_used_24 (tgt := 80) rfl (fun zcq24 => ?_) (fun zcq24 => ?_)
            · exact absurd zcq24 (by omega)
            · refine z_aload_n (i := 0) hG dL_used_27 rfl rfl ?_
              refine z_iload_n (i := 3) hG dL_used_28 rfl rfl ?_
              refine z_iload hG dL_used_29 rfl ?_
              refine z_iconst hG dL_used_31 rfl ?_
              refine z_callV hG dL_used_32 LV_L_93 (cqs_5 l g hI hB hQ (by omega) (by omega)) (by decide) rfl rfl rfl (Nat.le_of_ble_eq_true rfl) ?_
              intro v9 mm h9
              rw [h9.1, if_pos hp]
              replace hQ := h9.2
              clear h9 v9
              refine z_istore hG dL_used_35 (by decide) (ls2 := [_, _, _, _, _, _]) rfl ?_
              refine z_iload hG dL_used_37 rfl ?_
              refine z_if_lt hG dL_used_39 (tgt := 74) rfl (fun zcq39 => ?_) (fun zcq39 => ?_)
              · refine z_iinc hG dL_used_74 (by decide) rfl (by omega) (by omega) (ls2 := [_, _, _, _, _, _]) rfl ?_
                refine z_goto hG dL_used_77 (tgt := 16) rfl ?_
                have e9 : zsum (8 * r + e + 1) f = zsum (8 * r + e) f + 0 := by
                  show zsum (8 * r + e) f + f ((8 * r + e : Nat) : Int) = _
                  rw [hf, show ((8 * r + e : Nat) : Int) = 8 * (r : Int) + e by omega]
                  rw [if_neg (by omega)]
                have h9 := fun v5 => ih (e + 1) mm v5 (by omega) hQ
                rw [show 8 * r + (e + 1) = 8 * r + e + 1 by omega, e9] at h9
                rw [Int.add_zero] at h9
                exact h9 _
              · exact absurd zcq39 (by decide)
          · have hon : zEc m0 0 (8 * r + e) = 1 := by
              show (if 0 < m0 4 0 ((8 * (r : Int) + e) / 8) 1 ∧ (8 * (r : Int) + e) % 8 < m0 4 0 ((8 * (r : Int) + e) / 8) 2 then (1 : Int) else 0) = 1
              rw [show (8 * (r : Int) + e) / 8 = r by omega, show (8 * (r : Int) + e) % 8 = e by omega]
              exact if_pos (by omega)
            have hEe := hEk (8 * r + e) (by omega) (by omega) hon
            refine z_iload hG dL_used_16 rfl ?_
            refine z_aload_n (i := 0) hG dL_used_18 rfl rfl ?_
            refine z_iload_n (i := 3) hG dL_used_19 rfl rfl ?_
            refine z_iconst hG dL_used_20 rfl ?_
            refine z_callV hG dL_used_21 LV_L_90 (cqr_1 l g hI hB hQ (by omega)) (by decide) rfl rfl rfl (Nat.le_of_ble_eq_true rfl) ?_
            intro v9 mm h9
            rw [h9.1]
            replace hQ := h9.2
            clear h9 v9
            refine z_icmp_ge hG dL_used_24 (tgt := 80) rfl (fun zcq24 => ?_) (fun zcq24 => ?_)
            · exact absurd zcq24 (by omega)
            · refine z_aload_n (i := 0) hG dL_used_27 rfl rfl ?_
              refine z_iload_n (i := 3) hG dL_used_28 rfl rfl ?_
              refine z_iload hG dL_used_29 rfl ?_
              refine z_iconst hG dL_used_31 rfl ?_
              refine z_callV hG dL_used_32 LV_L_93 (cqp_5 l g hI hB hQ hp (by omega) (by omega)) (by decide) rfl rfl rfl (Nat.le_of_ble_eq_true rfl) ?_
              intro v9 mm h9
              rw [h9.1]
              replace hQ := h9.2
              clear h9 v9
              refine z_istore hG dL_used_35 (by decide) (ls2 := [_, _, _, _, _, _]) rfl ?_
              refine z_iload hG dL_used_37 rfl ?_
              refine z_if_lt hG dL_used_39 (tgt := 74) rfl (fun zcq39 => ?_) (fun zcq39 => ?_)
              · refine z_iinc hG dL_used_74 (by decide) rfl (by omega) (by omega) (ls2 := [_, _, _, _, _, _]) rfl ?_
                refine z_goto hG dL_used_77 (tgt := 16) rfl ?_
                have e9 : zsum (8 * r + e + 1) f = zsum (8 * r + e) f + 0 := by
                  show zsum (8 * r + e) f + f ((8 * r + e : Nat) : Int) = _
                  rw [hf, show ((8 * r + e : Nat) : Int) = 8 * (r : Int) + e by omega]
                  rw [if_pos hon, if_neg (by omega)]
                have h9 := fun v5 => ih (e + 1) mm v5 (by omega) hQ
                rw [show 8 * r + (e + 1) = 8 * r + e + 1 by omega, e9] at h9
                rw [Int.add_zero] at h9
                exact h9 _
              · refine z_iload hG dL_used_42 rfl ?_
                refine z_iload_n (i := 1) hG dL_used_44 rfl rfl ?_
                refine z_icmp_gt hG dL_used_45 (tgt := 74) rfl (fun zcq45 => ?_) (fun zcq45 => ?_)
                · refine z_iinc hG dL_used_74 (by decide) rfl (by omega) (by omega) (ls2 := [_, _, _, _, _, _]) rfl ?_
                  refine z_goto hG dL_used_77 (tgt := 16) rfl ?_
                  have e9 : zsum (8 * r + e + 1) f = zsum (8 * r + e) f + 0 := by
                    show zsum (8 * r + e) f + f ((8 * r + e : Nat) : Int) = _
                    rw [hf, show ((8 * r + e : Nat) : Int) = 8 * (r : Int) + e by omega]
                    rw [if_pos hon, if_neg (by omega)]
                  have h9 := fun v5 => ih (e + 1) mm v5 (by omega) hQ
                  rw [show 8 * r + (e + 1) = 8 * r + e + 1 by omega, e9] at h9
                  rw [Int.add_zero] at h9
                  exact h9 _
                · refine z_iload_n (i := 1) hG dL_used_48 rfl rfl ?_
                  refine z_iload hG dL_used_49 rfl ?_
                  refine z_aload_n (i := 0) hG dL_used_51 rfl rfl ?_
                  refine z_iload_n (i := 3) hG dL_used_52 rfl rfl ?_
                  refine z_iload hG dL_used_53 rfl ?_
                  refine z_iconst hG dL_used_55 rfl ?_
                  refine z_callV hG dL_used_56 LV_L_93 (cqp_0 l g hI hB hQ hp (by omega) (by omega)) (by decide) rfl rfl rfl (Nat.le_of_ble_eq_true rfl) ?_
                  intro v9 mm h9
                  rw [h9.1]
                  replace hQ := h9.2
                  clear h9 v9
                  refine z_iadd hG dL_used_59 (by omega) (by omega) ?_
                  refine z_icmp_ge hG dL_used_60 (tgt := 74) rfl (fun zcq60 => ?_) (fun zcq60 => ?_)
                  · refine z_iinc hG dL_used_74 (by decide) rfl (by omega) (by omega) (ls2 := [_, _, _, _, _, _]) rfl ?_
                    refine z_goto hG dL_used_77 (tgt := 16) rfl ?_
                    have e9 : zsum (8 * r + e + 1) f = zsum (8 * r + e) f + 0 := by
                      show zsum (8 * r + e) f + f ((8 * r + e : Nat) : Int) = _
                      rw [hf, show ((8 * r + e : Nat) : Int) = 8 * (r : Int) + e by omega]
                      rw [if_pos hon, if_neg (by omega)]
                    have h9 := fun v5 => ih (e + 1) mm v5 (by omega) hQ
                    rw [show 8 * r + (e + 1) = 8 * r + e + 1 by omega, e9] at h9
                    rw [Int.add_zero] at h9
                    exact h9 _
                  · refine z_iload_n (i := 2) hG dL_used_63 rfl rfl ?_
                    refine z_aload_n (i := 0) hG dL_used_64 rfl rfl ?_
                    refine z_iload_n (i := 3) hG dL_used_65 rfl rfl ?_
                    refine z_iload hG dL_used_66 rfl ?_
                    refine z_iconst hG dL_used_68 rfl ?_
                    refine z_callV hG dL_used_69 LV_L_93 (cqp_1 l g hI hB hQ hp (by omega) (by omega)) (by decide) rfl rfl rfl (Nat.le_of_ble_eq_true rfl) ?_
                    intro v9 mm h9
                    rw [h9.1]
                    replace hQ := h9.2
                    clear h9 v9
                    refine z_iadd hG dL_used_72 (by omega) (by omega) ?_
                    refine z_istore_n (i := 2) hG dL_used_73 rfl (by decide) (ls2 := [_, _, _, _, _, _]) rfl ?_
                    refine z_iinc hG dL_used_74 (by decide) rfl (by omega) (by omega) (ls2 := [_, _, _, _, _, _]) rfl ?_
                    refine z_goto hG dL_used_77 (tgt := 16) rfl ?_
                    have e9 : zsum (8 * r + e + 1) f = zsum (8 * r + e) f + zEc m0 2 (8 * r + e) := by
                      show zsum (8 * r + e) f + f ((8 * r + e : Nat) : Int) = _
                      rw [hf, show ((8 * r + e : Nat) : Int) = 8 * (r : Int) + e by omega]
                      rw [if_pos hon, if_pos (by omega)]
                    have h9 := fun v5 => ih (e + 1) mm v5 (by omega) hQ
                    rw [show 8 * r + (e + 1) = 8 * r + e + 1 by omega, e9] at h9
                    exact h9 _
      refine z_iload_n (i := 3) hG dL_used_4 rfl rfl ?_
      refine z_aload_n (i := 0) hG dL_used_5 rfl rfl ?_
      refine z_iconst hG dL_used_6 rfl ?_
      refine z_callV hG dL_used_7 LV_L_68 (cqc_2 l g hI hB hQ) (by decide) rfl rfl rfl (Nat.le_of_ble_eq_true rfl) ?_
      intro v9 mm h9
      rw [h9.1]
      replace hQ := h9.2
      clear h9 v9
      refine z_icmp_ge hG dL_used_10 (tgt := 86) rfl (fun zcq10 => ?_) (fun zcq10 => ?_)
      · exact absurd zcq10 (by omega)
      · refine z_iconst hG dL_used_13 rfl ?_
        refine z_istore hG dL_used_14 (by decide) (ls2 := [_, _, _, _, _, _]) rfl ?_
        exact loopE c 0 mm _ (by omega) hQ
  refine z_iconst hG dL_used_0 rfl ?_
  refine z_istore_n (i := 2) hG dL_used_1 rfl (by decide) (ls2 := [_, _, _, _, _, _]) rfl ?_
  refine z_iconst hG dL_used_2 rfl ?_
  refine z_istore_n (i := 3) hG dL_used_3 rfl (by decide) (ls2 := [_, _, _, _, _, _]) rfl ?_
  exact loopR nr 0 m _ _ (by omega) hQ
