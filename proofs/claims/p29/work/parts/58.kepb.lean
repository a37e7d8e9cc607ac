theorem zthrow_l {d j k : Int} : ∀ (n : Nat) (i acc : Int) (A : zM), (zthrow 0 d n i acc A).2 14 0 j k = A 14 0 j k ∨ (zthrow 0 d n i acc A).2 14 0 j k = 0
  | 0, _, _, _ => Or.inl rfl
  | n + 1, i, acc, A => by
    rw [zthrow]
    rcases zthrow_l n (i + 1) (zwr (acc + A 14 0 i (d % 30))) (zset (zset A 14 0 i (d % 30) 0) 3 0 i 10 (zwr (A 3 0 i 10 + A 14 0 i (d % 30)))) with h | h
    · rw [h]
      simp only [zset]
      rw [if_neg (by omega)]
      split
      · exact Or.inr rfl
      · exact Or.inl rfl
    · exact Or.inr h
theorem zpass_o {t' : Nat} {s' j k : Int} : ∀ (n : Nat) (acc : Int) (A : zM), ((t' ≠ 14 ∧ t' ≠ 3 ∧ t' ≠ 2) ∨ s' ≠ 0 ∨ (t' = 3 ∧ k ≠ 10) ∨ (t' = 2 ∧ k ≠ 0)) → (zpass 0 n acc A).2 t' s' j k = A t' s' j k
  | 0, _, _, _ => rfl
  | n + 1, acc, A, h => by
    rw [zpass, zpass_o n _ _ h, zthrow_o 8 0 _ _ (by omega)]
    simp only [zset]
    rw [if_neg (by omega)]
theorem zpass_d : ∀ (n : Nat) (acc : Int) (A : zM), (zpass 0 n acc A).2 2 0 0 0 = A 2 0 0 0 + n
  | 0, _, _ => (Int.add_zero _).symm
  | n + 1, acc, A => by
    rw [zpass, zpass_d n, zthrow_day]
    simp only [zset]
    rw [if_pos (by simp)]
    omega
theorem zpass_l {j k : Int} : ∀ (n : Nat) (acc : Int) (A : zM), (zpass 0 n acc A).2 14 0 j k = A 14 0 j k ∨ (zpass 0 n acc A).2 14 0 j k = 0
  | 0, _, _ => Or.inl rfl
  | n + 1, acc, A => by
    rw [zpass]
    rcases zpass_l n (zthrow 0 (A 2 0 0 0 + 1) 8 0 acc (zset A 2 0 0 0 (A 2 0 0 0 + 1))).1 (zthrow 0 (A 2 0 0 0 + 1) 8 0 acc (zset A 2 0 0 0 (A 2 0 0 0 + 1))).2 with h | h
    · rw [h]
      rcases zthrow_l (d := A 2 0 0 0 + 1) (j := j) (k := k) 8 0 acc (zset A 2 0 0 0 (A 2 0 0 0 + 1)) with q | q
      · rw [q]
        exact Or.inl (by simp [zset])
      · exact Or.inr q
    · exact Or.inr h
/-- a state whose lots, whose counts and whose portions alone are others -/
theorem zIS_l {B B' : Int} {b a' : zM} (h : zIS B b 0) (ha : ∀ (t : Nat) (j k : Int), ((t = 2 ∧ k ≠ 0 ∧ k ≠ 2 ∧ k ≠ 3) ∨ (t = 3 ∧ k ≠ 8 ∧ k ≠ 9 ∧ k ≠ 10) ∨ t = 12 ∨ t = 13 ∨ (t = 4 ∧ k ≠ 1) ∨ t = 5 ∨ t = 17) → a' t 0 j k = b t 0 j k) (hd : 0 ≤ a' 2 0 0 0 ∧ a' 2 0 0 0 ≤ 3000) (h4 : ∀ r : Int, 0 ≤ r → r < 4 → a' 4 0 r 1 = b 4 0 r 1 ∨ a' 4 0 r 1 = 0) (h14 : ∀ j k : Int, 0 ≤ j → j < 8 → 0 ≤ k → k < 30 → (0 ≤ a' 14 0 j k ∧ a' 14 0 j k ≤ B') ∧ (b 2 0 0 4 ≤ j → a' 14 0 j k = 0)) : zIS B' a' 0 := by
  obtain ⟨hday, hhan, hing, hrcp, hrec, hboo, hrow, hrow2, hstp⟩ := h
  have f30 : ∀ j, a' 3 0 j 0 = b 3 0 j 0 := fun j => ha 3 j 0 (by omega)
  have f31 : ∀ j, a' 3 0 j 1 = b 3 0 j 1 := fun j => ha 3 j 1 (by omega)
  have f32 : ∀ j, a' 3 0 j 2 = b 3 0 j 2 := fun j => ha 3 j 2 (by omega)
  have f35 : ∀ j, a' 3 0 j 5 = b 3 0 j 5 := fun j => ha 3 j 5 (by omega)
  have f36 : ∀ j, a' 3 0 j 6 = b 3 0 j 6 := fun j => ha 3 j 6 (by omega)
  have f12 : ∀ j k, a' 12 0 j k = b 12 0 j k := fun j k => ha 12 j k (by omega)
  have f13 : ∀ j k, a' 13 0 j k = b 13 0 j k := fun j k => ha 13 j k (by omega)
  have f17 : ∀ j k, a' 17 0 j k = b 17 0 j k := fun j k => ha 17 j k (by omega)
  have f5 : ∀ j k, a' 5 0 j k = b 5 0 j k := fun j k => ha 5 j k (by omega)
  have f40 : ∀ j, a' 4 0 j 0 = b 4 0 j 0 := fun j => ha 4 j 0 (by omega)
  have f42 : ∀ j, a' 4 0 j 2 = b 4 0 j 2 := fun j => ha 4 j 2 (by omega)
  unfold zIS zrec zbool zkin
  simp only [ha 2 0 1 (by omega), ha 2 0 4 (by omega), ha 2 0 5 (by omega), f30, f31, f32, f35, f36, f12, f13, f17, f5, f40, f42]
  refine ⟨hd, hhan, hing, hrcp, fun r r0 r1 => ?_, hboo, fun j j0 j1 => ?_, fun r r0 r1 => ?_, hstp⟩
  · obtain ⟨q1, q2, q3⟩ := hrec r r0 r1
    exact ⟨by rcases h4 r r0 r1 with e | e <;> rw [e] <;> omega, q2, q3⟩
  · obtain ⟨q1, q2, q3, q4, q5, q6⟩ := hrow j j0 j1
    exact ⟨q1, fun k k0 k1 => (h14 j k j0 j1 k0 k1).1, q3, q4, fun z => ⟨(q5 z).1, fun k k0 k1 => (h14 j k j0 j1 k0 k1).2 z⟩, q6⟩
  · obtain ⟨q1, q2, q3⟩ := hrow2 r r0 r1
    exact ⟨q1, fun z => by rcases h4 r r0 r1 with e | e <;> rw [e]; exact q2 z, q3⟩
set_option maxRecDepth 20000 in
theorem zki_pass {B : Int} {m : zM} {d : Int} (h : zInv B m) : zInv (B + 22000) (zk_pass d m).2 ∧ zOt (zk_pass d m).2 m := by
  have h22 : zInv (B + 22000) m := zInv_B (by omega) h
  have hb := zInv_recd h
  have h0 := zInv0 h
  have hb0 := zInv0 hb
  have hr0 : ∀ (t : Nat) (i k : Int), t ≠ 1 → zrecd m t 0 i k = m t 0 i k := fun t i k ht => zrecd_0 h.1.1.1 ht
  have hbo := zOt_recd (zOt_rf (m := m))
  unfold zk_pass
  split
  · exact ⟨h22, zOt_rf⟩
  split
  · exact ⟨h22, zOt_rf⟩
  next zcq1 zcq2 =>
  have hc1 := Classical.not_not.mp zcq1
  have e0 : zrecd m 2 0 0 0 = m 2 0 0 0 := hr0 2 0 0 (by decide)
  generalize zrecd m = b at *
  obtain ⟨hday, hhan, hing, hrcp, hrec, hboo, hrow, hrow2, hstp⟩ := id hb0
  try dsimp only
  refine ⟨zInv_now hb (B' := B + 22000) (by omega) (fun t s i k hh => zpass_o _ _ _ (by omega)) (zIS_l hb0 (fun t j k hh => zpass_o _ _ _ (by omega)) ?_ (fun r r0 r1 => Or.inl (zpass_o _ _ _ (by omega))) (fun j k j0 j1 k0 k1 => ?_)), fun t s i k hh => by rw [zpass_o _ _ _ (by omega)]; exact hbo t s i k hh⟩
  · rw [zpass_d]
    omega
  · obtain ⟨q1, q2, q3, q4, q5, q6⟩ := hrow j j0 j1
    have hq := q2 k k0 k1
    rcases zpass_l (j := j) (k := k) d.toNat 0 b with e | e
    · rw [e]
      exact ⟨⟨hq.1, by omega⟩, fun z => (q5 z).2 k k0 k1⟩
    · rw [e]
      exact ⟨⟨by decide, by omega⟩, fun _ => rfl⟩
/-- nothing is left over of what is no ingredient -/
theorem zpN_z4 {m : zM} (hp : zpc m) : ∀ n : Nat, n ≤ 8 → ∀ j : Int, m 2 0 0 4 ≤ j → zpN (zDc m) n 4 j = 0
  | 0, _, j, hj => by
    show (if (4 : Nat) = 0 then zDc m 0 j 0 else 0) = 0
    rw [if_neg (by decide)]
  | n + 1, hn, j, hj => by
    have ih := zpN_z4 hp n (by omega)
    have h0 := zpN_z hp n (by omega)
    have hI := hp.2.2 n (by omega) (by omega)
    have hpan := zsum_le (f := m 14 0 n) (B := 12000000) 30 (fun j h0 h1 => hI.2.1 j h0 (by omega))
    have e1 : zDc m 1 n 0 = zsum 30 (m 14 0 n) := rfl
    have e6 : zDc m 6 n 0 = m 3 0 n 5 := rfl
    show zps (zDc m) n (zpN (zDc m) n) 4 j = 0
    by_cases q : m 2 0 0 4 ≤ (n : Int)
    · rw [zps_eq, if_pos (by rw [h0 n q, e1, if_neg (by omega)]; decide)]
      simp [zps0, ih j hj]
    · rw [zps_eq, e6]
      generalize (if zDc m 1 (n : Int) 0 < zpN (zDc m) n 0 (n : Int) then zDc m 1 (n : Int) 0 else zpN (zDc m) n 0 (n : Int)) = fr
      have hjn : j ≠ (n : Int) := by omega
      split
      · simp [zps0, ih j hj]
      · split
        · simp [zbuyW, zps0, ih j hj, hjn]
        · split
          · simp [zps0, ih j hj]
          · simp [zps0, ih j hj]
theorem zcarry_bd {W : zPl} {B : Int} (hW : zplb W) : ∀ (n : Nat), n ≤ 8 → ∀ (m : zM), (∀ i j : Int, 0 ≤ i → i < 8 → 0 ≤ j → j < 30 → 0 ≤ m 14 0 i j ∧ m 14 0 i j ≤ B) → ∀ i j : Int, 0 ≤ i → i < n → 0 ≤ j → j < 30 → 0 ≤ zcarry W n m 14 0 i j ∧ zcarry W n m 14 0 i j ≤ B + 2000
  | 0, _, _, _, i, j, i0, i1, _, _ => absurd i1 (by omega)
  | n + 1, hn, m, hm, i, j, i0, i1, j0, j1 => by
    rw [zcarry]
    by_cases e : i = n
    · have hw := hW n (by omega) (by omega)
      rw [e]
      exact zcar1_bd ⟨hw.2.2.1.1, hw.2.2.2.2.1⟩ (fun j j0 j1 => by rw [zcarry_out n m (by omega)]; exact hm n j (by omega) (by omega) j0 j1) j j0 j1
    · rw [zcar1_out (by omega)]
      exact zcarry_bd hW n (by omega) m hm i j i0 (by omega) j0 j1
theorem zcarry_z {W : zPl} {c : Int} (hW : zplb W) (h4 : ∀ j : Int, c ≤ j → W 4 j = 0) : ∀ (n : Nat), n ≤ 8 → ∀ (m : zM), (∀ i j : Int, 0 ≤ i → i < 8 → c ≤ i → 0 ≤ j → j < 30 → m 14 0 i j = 0) → ∀ i j : Int, 0 ≤ i → i < 8 → c ≤ i → 0 ≤ j → j < 30 → zcarry W n m 14 0 i j = 0
  | 0, _, m, hm, i, j, i0, i1, i2, j0, j1 => hm i j i0 i1 i2 j0 j1
  | n + 1, hn, m, hm, i, j, i0, i1, i2, j0, j1 => by
    have ih := zcarry_z hW h4 n (by omega) m hm
    rw [zcarry]
    by_cases e : i = n
    · have hw := hW n (by omega) (by omega)
      have h4n := h4 i i2
      rw [← e] at hw ⊢
      generalize zcarry W n m = M at *
      have hb := ztake_bd (s := 0) (i := i) (t := M 2 0 0 0) 30 1 (W 2 i) M hw.2.2.1.1 (fun j h0 h1 => by rw [ih i j i0 i1 i2 h0 h1]; decide)
      simp only [zcar1]
      generalize ztake 0 i (M 2 0 0 0) 30 1 (W 2 i) M = m1 at hb
      have hz : ∀ j : Int, 0 ≤ j → j < 30 → m1 14 0 i j = 0 := fun j j0 j1 => by
        have := hb j j0 j1
        rw [ih i j i0 i1 i2 j0 j1] at this
        omega
      simp only [zset]
      rw [if_neg (by omega), if_neg (by omega)]
      split
      · rw [hz _ (by omega) (by omega), h4n]
        rfl
      · exact hz j j0 j1
    · rw [zcar1_out (by omega)]
      exact ih i j i0 i1 i2 j0 j1
set_option maxRecDepth 20000 in
theorem zki_cook {B : Int} {m : zM} (h : zInv B m) (hW : zplb (zPl0 m)) (hB : B ≤ 11900000) : zInv (B + 22000) (zk_cook m).2 ∧ zOt (zk_cook m).2 m := by
  have h22 : zInv (B + 22000) m := zInv_B (by omega) h
  have hb := zInv_recd h
  have h0 := zInv0 h
  have hb0 := zInv0 hb
  have hr0 : ∀ (t : Nat) (i k : Int), t ≠ 1 → zrecd m t 0 i k = m t 0 i k := fun t i k ht => zrecd_0 h.1.1.1 ht
  have hbo := zOt_recd (zOt_rf (m := m))
  unfold zk_cook
  split
  · exact ⟨h22, zOt_rf⟩
  have hp := zIS_pc h0 (by omega)
  have e0 : ∀ k, zrecd m 2 0 0 k = m 2 0 0 k := fun k => hr0 2 0 k (by decide)
  have h4 : ∀ j : Int, m 2 0 0 4 ≤ j → zPl0 m 4 j = 0 := fun j hj => zpN_z4 hp 8 (by decide) j hj
  rw [← e0] at h4
  generalize zPl0 m = W at *
  generalize zrecd m = b at *
  obtain ⟨hday, hhan, hing, hrcp, hrec, hboo, hrow, hrow2, hstp⟩ := id hb0
  try dsimp only
  have hcb := zcarry_bd hW 8 (by decide) b (fun i j i0 i1 j0 j1 => (hrow i i0 i1).2.1 j j0 j1)
  have hcz := zcarry_z hW h4 8 (by decide) b (fun i j i0 i1 i2 j0 j1 => ((hrow i i0 i1).2.2.2.2.1 i2).2 j j0 j1)
  have hco : ∀ (t : Nat) (s i k : Int), ((t ≠ 14 ∧ t ≠ 3) ∨ s ≠ 0 ∨ (t = 3 ∧ k ≠ 8 ∧ k ≠ 9)) → zcarry W 8 b t s i k = b t s i k := fun t s i k hh => zcarry_out 8 b (by omega)
  clear hr0 h4
  generalize zcarry W 8 b = n at *
  have ho : ∀ (v w : Int) (t : Nat) (s i k : Int), ((t ≠ 14 ∧ t ≠ 3) ∨ s ≠ 0 ∨ (t = 3 ∧ k ≠ 8 ∧ k ≠ 9)) → (t ≠ 2 ∨ s ≠ 0 ∨ (k ≠ 2 ∧ k ≠ 3)) → (t ≠ 4 ∨ s ≠ 0 ∨ k ≠ 1) → zempty (zset (zset n 2 0 0 2 v) 2 0 0 3 w) 0 4 t s i k = b t s i k := fun v w t s i k h1 h2 h3 => by
    simp only [zempty, zset]
    rw [if_neg (by omega), if_neg (by omega), if_neg (by omega)]
    exact hco t s i k h1
  refine ⟨zInv_now hb (B' := B + 22000) (by omega) (fun t s i k hh => ho _ _ t s i k (by omega) (by omega) (by omega)) (zIS_l hb0 (fun t j k hh => ho _ _ t 0 j k (by omega) (by omega) (by omega)) (by rw [ho _ _ 2 0 0 0 (by omega) (by omega) (by omega)]; exact hday) (fun r r0 r1 => Or.inr (by simp only [zempty]; rw [if_pos (by first | omega | (simp; done) | (simp; omega))])) (fun j k j0 j1 k0 k1 => ?_)), fun t s i k hh => by rw [ho _ _ t s i k (by omega) (by omega) (by omega)]; exact hbo t s i k hh⟩
  have e : ∀ v w : Int, zempty (zset (zset n 2 0 0 2 v) 2 0 0 3 w) 0 4 14 0 j k = n 14 0 j k := fun v w => by simp [zempty, zset]
  rw [e]
  have := hcb j k j0 (by omega) k0 k1
  exact ⟨by omega, fun z => hcz j k j0 j1 z k0 k1⟩
/-- another state of now, another place in the history -/
theorem zInv_n1 {B B' : Int} {b a' : zM} (h : zInv B b) (hB : B ≤ B') (h1 : (0 ≤ a' 1 0 0 1 ∧ a' 1 0 0 1 < 6) ∧ (0 ≤ a' 1 0 0 0 ∧ a' 1 0 0 0 ≤ 6)) (ha : ∀ (t : Nat) (s i k : Int), t ≠ 1 → (s ≠ 0 ∨ t = 6 ∨ t = 21 ∨ t = 22 ∨ t = 36 ∨ t = 37) → a' t s i k = b t s i k) (h0 : zIS B' a' 0) : zInv B' a' := by
  obtain ⟨q1, hsea, hs, hp, ht, hi, h9⟩ := h
  refine ⟨h1, fun j j0 j1 => ?_, fun s s0 s1 => ?_, ?_, fun j j0 j1 => ?_, fun s s0 s1 => ?_, fun j j0 j1 => ?_⟩
  · rw [ha 36 0 0 j (by omega) (by omega), ha 37 0 0 j (by omega) (by omega)]
    exact hsea j j0 j1
  · by_cases e : s = 0
    · rw [e]
      exact h0
    · exact zIS_B hB (zIS_cp (fun t i k ht => ha t s i k (by simp [zSt] at ht; omega) (Or.inl e)) (hs s s0 s1))
  · rw [ha 6 0 0 0 (by omega) (by omega)]
    exact hp
  · rw [ha 22 0 0 j (by omega) (by omega)]
    exact ht j j0 j1
  · rw [ha 21 0 0 s (by omega) (by omega)]
    exact hi s s0 s1
  · rw [ha 5 9 j 3 (by omega) (by omega)]
    exact h9 j j0 j1
theorem zcS_hit {m : zM} {s s2 : Int} {t : Nat} {i k : Int} (h : zSt t i k 8 4 = true) : zcS m s s2 8 4 t s i k = m t s2 i k := by
  simp only [zcS]
  rw [if_pos ⟨trivial, h⟩]
theorem zcS_s {m : zM} {s s2 : Int} {t : Nat} {s' i k : Int} (h : s' ≠ s) : zcS m s s2 8 4 t s' i k = m t s' i k := by
  simp only [zcS]
  rw [if_neg (fun z => h z.1)]
theorem zcS_t {m : zM} {s s2 : Int} {t : Nat} {s' i k : Int} (h : ¬ ((2 ≤ t ∧ t ≤ 5) ∨ (12 ≤ t ∧ t ≤ 14) ∨ t = 17)) : zcS m s s2 8 4 t s' i k = m t s' i k := by
  simp only [zcS]
  rw [if_neg (fun z => by have := z.2; simp [zSt] at this; omega)]
theorem zSt_n1 {t : Nat} {i k : Int} (h : zSt t i k 8 4 = true) : t ≠ 1 ∧ t ≠ 21 := by simp [zSt] at h; omega
set_option maxRecDepth 20000 in
theorem zki_undo {B : Int} {m : zM} (h : zInv B m) : zInv (B + 22000) (zk_undo m).2 ∧ zOt (zk_undo m).2 m := by
  have h22 : zInv (B + 22000) m := zInv_B (by omega) h
  have hb := zInv_recd h
  have h0 := zInv0 h
  have hb0 := zInv0 hb
  have hr0 : ∀ (t : Nat) (i k : Int), t ≠ 1 → zrecd m t 0 i k = m t 0 i k := fun t i k ht => zrecd_0 h.1.1.1 ht
  have hbo := zOt_recd (zOt_rf (m := m))
  unfold zk_undo
  split
  · exact ⟨h22, zOt_rf⟩
  next zcq1 =>
  clear hr0 hb hb0 hbo
  obtain ⟨⟨g1, g2⟩, hsea, hs, hp, ht, hi, h9⟩ := id h
  dsimp only
  unfold zback
  have ho : ∀ (t : Nat) (s i k : Int), t ≠ 1 → zset (zset (zcS m 0 (1 + m 1 0 0 1 % 6) 8 4) 1 0 0 1 ((m 1 0 0 1 - 1) % 6)) 1 0 0 0 (m 1 0 0 0 - 1) t s i k = zcS m 0 (1 + m 1 0 0 1 % 6) 8 4 t s i k := fun t s i k hh => by
    simp only [zset]
    rw [if_neg (by omega), if_neg (by omega)]
  refine ⟨zInv_n1 h (B' := B + 22000) (by omega) ⟨?_, ?_⟩ (fun t s i k h1 hh => ?_) (zIS_B (B := B) (by omega) (zIS_cp (fun t i k ht => ?_) (hs (1 + m 1 0 0 1 % 6) (by omega) (by omega)))), zOt_set (zOt_set (zOt_cS zOt_rf) (by omega)) (by omega)⟩
  · simp only [zset]
    rw [if_neg (by simp), if_pos (by simp)]
    omega
  · simp only [zset]
    rw [if_pos (by simp)]
    omega
  · rw [ho t s i k h1]
    rcases hh with e | e
    · exact zcS_s e
    · exact zcS_t (by omega)
  · rw [ho t 0 i k (zSt_n1 ht).1]
    exact zcS_hit ht
set_option maxRecDepth 20000 in
theorem zki_save {B : Int} {m : zM} {p : Int} (h : zInv B m) : zInv (B + 22000) (zk_save p m).2 ∧ zOt (zk_save p m).2 m := by
  have h22 : zInv (B + 22000) m := zInv_B (by omega) h
  have hb := zInv_recd h
  have h0 := zInv0 h
  have hb0 := zInv0 hb
  have hr0 : ∀ (t : Nat) (i k : Int), t ≠ 1 → zrecd m t 0 i k = m t 0 i k := fun t i k ht => zrecd_0 h.1.1.1 ht
  have hbo := zOt_recd (zOt_rf (m := m))
  unfold zk_save
  split
  · exact ⟨h22, zOt_rf⟩
  next zcq1 =>
  have hc1 := Classical.not_not.mp zcq1
  clear hr0 hb hb0 hbo
  obtain ⟨⟨g1, g2⟩, hsea, hs, hp, ht, hi, h9⟩ := id h22
  dsimp only
  have ho : ∀ (t : Nat) (s i k : Int), t ≠ 21 → zset (zcS m (7 + p) 0 8 4) 21 0 0 p 1 t s i k = zcS m (7 + p) 0 8 4 t s i k := fun t s i k hh => by
    simp only [zset]
    rw [if_neg (by omega)]
  refine ⟨⟨by rw [ho 1 _ _ _ (by decide), ho 1 _ _ _ (by decide), zcS_t (by omega), zcS_t (by omega)]; exact ⟨g1, g2⟩, fun j j0 j1 => ?_, fun s s0 s1 => ?_, ?_, fun j j0 j1 => ?_, fun s s0 s1 => ?_, fun j j0 j1 => ?_⟩, zOt_set (zOt_cS zOt_rf) (by omega)⟩
  · rw [ho 36 _ _ _ (by decide), ho 37 _ _ _ (by decide), zcS_t (by omega), zcS_t (by omega)]
    exact hsea j j0 j1
  · by_cases e : s = 7 + p
    · subst e
      exact zIS_cp (fun t i k ht => by rw [ho t _ _ _ (zSt_n1 ht).2]; exact zcS_hit ht) (hs 0 (by decide) (by decide))
    · exact zIS_cp (fun t i k ht => by rw [ho t _ _ _ (zSt_n1 ht).2]; exact zcS_s e) (hs s s0 s1)
  · rw [ho 6 _ _ _ (by decide), zcS_t (by omega)]
    exact hp
  · rw [ho 22 _ _ _ (by decide), zcS_t (by omega)]
    exact ht j j0 j1
  · simp only [zset]
    split
    · exact Or.inr rfl
    · rw [zcS_t (by omega)]
      exact hi s s0 s1
  · rw [ho 5 _ _ _ (by decide), zcS_s (by omega)]
    exact h9 j j0 j1
set_option maxRecDepth 20000 in
theorem zki_restore {B : Int} {m : zM} {p : Int} (h : zInv B m) : zInv (B + 22000) (zk_restore p m).2 ∧ zOt (zk_restore p m).2 m := by
  have h22 : zInv (B + 22000) m := zInv_B (by omega) h
  have hb := zInv_recd h
  have h0 := zInv0 h
  have hb0 := zInv0 hb
  have hr0 : ∀ (t : Nat) (i k : Int), t ≠ 1 → zrecd m t 0 i k = m t 0 i k := fun t i k ht => zrecd_0 h.1.1.1 ht
  have hbo := zOt_recd (zOt_rf (m := m))
  unfold zk_restore
  split
  · exact ⟨h22, zOt_rf⟩
  split
  · exact ⟨h22, zOt_rf⟩
  next zcq1 zcq2 =>
  have hc1 := Classical.not_not.mp zcq1
  clear hr0 hb0
  dsimp only
  generalize zrecd m = b at *
  refine ⟨zInv_now hb (by omega) (fun t s i k hh => ?_) (zIS_B (B := B) (by omega) (zIS_cp (fun t i k ht => zcS_hit ht) (hb.2.2.1 (7 + p) (by omega) (by omega)))), zOt_cS hbo⟩
  rcases hh with e | e
  · exact zcS_s e
  · exact zcS_t (by omega)
/-- only the text is another -/
theorem zInv_tx {B B' : Int} {b a' : zM} (h : zInv B b) (hB : B ≤ B') (ha : ∀ (t : Nat) (s i k : Int), t ≠ 6 → t ≠ 22 → a' t s i k = b t s i k) (hT : zTx a') : zInv B' a' := by
  obtain ⟨q1, hsea, hs, hp, ht, hi, h9⟩ := h
  refine ⟨by rw [ha 1 _ _ _ (by decide) (by decide), ha 1 _ _ _ (by decide) (by decide)]; exact q1, fun j j0 j1 => ?_, fun s s0 s1 => zIS_B hB (zIS_cp (fun t i k ht => ha t s i k (by simp [zSt] at ht; omega) (by simp [zSt] at ht; omega)) (hs s s0 s1)), hT.1, hT.2, fun s s0 s1 => ?_, fun j j0 j1 => ?_⟩
  · rw [ha 36 _ _ _ (by decide) (by decide), ha 37 _ _ _ (by decide) (by decide)]
    exact hsea j j0 j1
  · rw [ha 21 _ _ _ (by decide) (by decide)]
    exact hi s s0 s1
  · rw [ha 5 _ _ _ (by decide) (by decide)]
    exact h9 j j0 j1
theorem zlen_by : ∀ (n u : Nat) (c : Int), 0 ≤ c → zlen n u c ≠ 0 → ∀ k : Nat, (k : Int) < zlen n u c - c → 33 ≤ zby u k ∧ zby u k ≤ 126
  | 0, _, c, _, _, k, hk => by
    simp only [zlen] at hk
    omega
  | n + 1, u, c, hc, h, k, hk => by
    rw [zlen] at h hk
    split at h
    · next e =>
      rw [if_pos e] at hk
      omega
    · next e =>
      rw [if_neg e] at hk
      split at h
      · exact absurd rfl h
      · next e2 =>
        rw [if_neg e2] at hk
        have e3 := Classical.not_not.mp e2
        cases k with
        | zero =>
          simp only [zby, Nat.pow_zero, Nat.div_one]
          omega
        | succ k =>
          have := zlen_by n (u / 256) (c + 1) (by omega) h k (by omega)
          have e4 : zby u (k + 1) = zby (u / 256) k := by
            unfold zby
            rw [Nat.pow_succ, Nat.mul_comm, ← Nat.div_div_eq_div_mul]
          rw [e4]
          exact this
set_option maxRecDepth 20000 in
theorem zki_wipe {B : Int} {m : zM} (h : zInv B m) : zInv (B + 22000) (zk_wipe m).2 ∧ zOt (zk_wipe m).2 m := by
  have h22 : zInv (B + 22000) m := zInv_B (by omega) h
  have hb := zInv_recd h
  have h0 := zInv0 h
  have hb0 := zInv0 hb
  have hr0 : ∀ (t : Nat) (i k : Int), t ≠ 1 → zrecd m t 0 i k = m t 0 i k := fun t i k ht => zrecd_0 h.1.1.1 ht
  have hbo := zOt_recd (zOt_rf (m := m))
  unfold zk_wipe
  dsimp only
  refine ⟨zInv_tx h (by omega) (fun t s i k h6 h2 => by simp [zset, h6]) ⟨by simp [zset], fun j j0 j1 => by simpa [zset] using h.2.2.2.2.1 j j0 j1⟩, zOt_set zOt_rf (by omega)⟩
set_option maxRecDepth 20000 in
theorem zki_put {B : Int} {m : zM} {x : Int64} (h : zInv B m) : zInv (B + 22000) (zk_put x m).2 ∧ zOt (zk_put x m).2 m := by
  have h22 : zInv (B + 22000) m := zInv_B (by omega) h
  have hb := zInv_recd h
  have h0 := zInv0 h
  have hb0 := zInv0 hb
  have hr0 : ∀ (t : Nat) (i k : Int), t ≠ 1 → zrecd m t 0 i k = m t 0 i k := fun t i k ht => zrecd_0 h.1.1.1 ht
  have hbo := zOt_recd (zOt_rf (m := m))
  unfold zk_put
  split
  · exact ⟨h22, zOt_rf⟩
  split
  · exact ⟨h22, zOt_rf⟩
  next zcq1 zcq2 =>
  clear hr0 hb hb0 hbo
  dsimp only
  have hl := zlen_bd 8 (zu x) 0 (by decide)
  have hby := zlen_by 8 (zu x) 0 (by decide) zcq1
  obtain ⟨q1, hsea, hs, hp, ht, hi, h9⟩ := id h
  generalize zu x = u at *
  refine ⟨zInv_tx h (by omega) (fun t s i k h6 h2 => zapp_o h6 h2 _ _) ⟨by rw [zapp_6]; omega, fun j j0 j1 => ?_⟩, fun t s i k hh => zapp_o (by omega) (by omega) _ _⟩
  rw [zapp_22]
  split
  · next c =>
    have := hby ((zlen 8 u 0).toNat - 1 - (j - m 6 0 0 0).toNat) (by omega)
    omega
  · exact ht j j0 j1
set_option maxRecDepth 20000 in
theorem zki_fault {B : Int} {m : zM} (h : zInv B m) : zInv (B + 22000) (zk_fault m).2 ∧ zOt (zk_fault m).2 m := by
  have h22 : zInv (B + 22000) m := zInv_B (by omega) h
  have hb := zInv_recd h
  have h0 := zInv0 h
  have hb0 := zInv0 hb
  have hr0 : ∀ (t : Nat) (i k : Int), t ≠ 1 → zrecd m t 0 i k = m t 0 i k := fun t i k ht => zrecd_0 h.1.1.1 ht
  have hbo := zOt_recd (zOt_rf (m := m))
  unfold zk_fault
  dsimp only
  clear hr0 hb hb0 hbo
  obtain ⟨q1, hsea, hs, hp, ht, hi, h9⟩ := id h22
  refine ⟨⟨by rw [zRdm_o (by decide) (by omega), zRdm_o (by decide) (by omega)]; exact q1, fun j j0 j1 => ?_, fun s s0 s1 => zIS_cp (fun t i k ht => zRdm_o (by simp [zSt] at ht; omega) (by omega)) (hs s s0 s1), ?_, fun j j0 j1 => ?_, fun s s0 s1 => ?_, zRdm_b h9⟩, fun t s i k hh => zRdm_o (by omega) (by omega)⟩
  · rw [zRdm_o (by decide) (by omega), zRdm_o (by decide) (by omega)]
    exact hsea j j0 j1
  · rw [zRdm_o (by decide) (by omega)]
    exact hp
  · rw [zRdm_o (by decide) (by omega)]
    exact ht j j0 j1
  · rw [zRdm_o (by decide) (by omega)]
    exact hi s s0 s1
