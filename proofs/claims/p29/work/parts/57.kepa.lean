/-- the cells that calls change beside the kitchen's state are as they were -/
def zOt (a' m : zM) : Prop := ∀ (t : Nat) (s i k : Int), (t = 0 ∨ (8 ≤ t ∧ t ≤ 11) ∨ t = 15 ∨ t = 16 ∨ (18 ≤ t ∧ t ≤ 20) ∨ 23 ≤ t) → a' t s i k = m t s i k
theorem zOt_rf {m : zM} : zOt m m := fun _ _ _ _ _ => rfl
theorem zOt_set {a m : zM} (h : zOt a m) {t : Nat} {s i k v : Int} (ht : (1 ≤ t ∧ t ≤ 7) ∨ (12 ≤ t ∧ t ≤ 14) ∨ t = 17 ∨ t = 21 ∨ t = 22) : zOt (zset a t s i k v) m := fun t' s' i' k' h' => by
  simp only [zset]
  rw [if_neg (by omega)]
  exact h t' s' i' k' h'
theorem zOt_cS {a m : zM} (h : zOt a m) {s s2 : Int} : zOt (zcS a s s2 8 4) m := fun t' s' i' k' h' => by
  have hz : zSt t' i' k' 8 4 = false := by simp [zSt]; omega
  simp only [zcS, hz]
  rw [if_neg (by simp)]
  exact h t' s' i' k' h'
theorem zOt_recd {a m : zM} (h : zOt a m) : zOt (zrecd a) m := by
  unfold zrecd
  exact zOt_set (zOt_cS (zOt_set h (by omega))) (by omega)
theorem zIS_cp {B : Int} {m m' : zM} {s s' : Int} (h : ∀ (t : Nat) (i k : Int), zSt t i k 8 4 = true → m' t s' i k = m t s i k) (hI : zIS B m s) : zIS B m' s' := by
  have e2 : ∀ k : Int, 0 ≤ k → k < 6 → m' 2 s' 0 k = m 2 s 0 k := fun k k0 k1 => h 2 0 k (by simp [zSt]; omega)
  have e3 : ∀ i k : Int, 0 ≤ i → i < 8 → (k = 0 ∨ k = 1 ∨ k = 2 ∨ k = 5 ∨ k = 6 ∨ (8 ≤ k ∧ k ≤ 11)) → m' 3 s' i k = m 3 s i k := fun i k i0 i1 hk => h 3 i k (by simp [zSt]; omega)
  have e12 : ∀ i k : Int, 0 ≤ i → i < 8 → 0 ≤ k → k < 3 → m' 12 s' i k = m 12 s i k := fun i k i0 i1 k0 k1 => h 12 i k (by simp [zSt]; omega)
  have e13 : ∀ i k : Int, 0 ≤ i → i < 8 → 0 ≤ k → k < 3 → m' 13 s' i k = m 13 s i k := fun i k i0 i1 k0 k1 => h 13 i k (by simp [zSt]; omega)
  have e14 : ∀ i k : Int, 0 ≤ i → i < 8 → 0 ≤ k → k < 30 → m' 14 s' i k = m 14 s i k := fun i k i0 i1 k0 k1 => h 14 i k (by simp [zSt]; omega)
  have e4 : ∀ i k : Int, 0 ≤ i → i < 4 → 0 ≤ k → k < 3 → m' 4 s' i k = m 4 s i k := fun i k i0 i1 k0 k1 => h 4 i k (by simp [zSt]; omega)
  have e17 : ∀ i k : Int, 0 ≤ i → i < 4 → 0 ≤ k → k < 8 → m' 17 s' i k = m 17 s i k := fun i k i0 i1 k0 k1 => h 17 i k (by simp [zSt]; omega)
  have e5 : ∀ i k : Int, 0 ≤ i → i < 32 → 0 ≤ k → k < 4 → m' 5 s' i k = m 5 s i k := fun i k i0 i1 k0 k1 => h 5 i k (by simp [zSt]; omega)
  obtain ⟨hday, hhan, hing, hrcp, hrec, hboo, hrow, hrow2, hstp⟩ := hI
  unfold zIS
  rw [e2 0 (by decide) (by decide), e2 1 (by decide) (by decide), e2 4 (by decide) (by decide), e2 5 (by decide) (by decide)]
  refine ⟨hday, hhan, hing, hrcp, fun r r0 r1 => ?_, ⟨fun i i0 i1 => ?_, fun i i0 i1 => ?_⟩, fun i i0 i1 => ?_, fun r r0 r1 => ?_, fun j j0 j1 => ?_⟩
  · have := hrec r r0 r1
    rw [e4 r 0 r0 r1 (by decide) (by decide), e4 r 1 r0 r1 (by decide) (by decide), e4 r 2 r0 r1 (by decide) (by decide)]
    exact ⟨this.1, this.2.1, this.2.2.1, fun k k0 k1 => by rw [e17 r k r0 r1 k0 k1]; exact this.2.2.2 k k0 k1⟩
  · rw [e3 i 1 i0 i1 (by omega)]
    exact hboo.1 i i0 i1
  · rw [e5 i 3 i0 i1 (by decide) (by decide)]
    exact hboo.2 i i0 i1
  · have := hrow i i0 i1
    obtain ⟨⟨k1, k2, k3, k4⟩, q2, q3, q4, q5, q6⟩ := this
    rw [e3 i 0 i0 i1 (by omega), e3 i 2 i0 i1 (by omega), e3 i 5 i0 i1 (by omega), e3 i 6 i0 i1 (by omega)]
    refine ⟨⟨by rw [e3 i 2 i0 i1 (by omega)]; exact k1, fun k p0 p1 => ?_, fun k p0 p1 => ?_, fun k o p0 p1 p2 p3 p4 => ?_⟩, fun j j0 j1 => by rw [e14 i j i0 i1 j0 j1]; exact q2 j j0 j1, q3, q4, fun z => ⟨(q5 z).1, fun j j0 j1 => by rw [e14 i j i0 i1 j0 j1]; exact (q5 z).2 j j0 j1⟩, q6⟩
    · rw [e3 i 2 i0 i1 (by omega)] at p1
      rw [e12 i k i0 i1 p0 (by omega)]
      exact k2 k p0 p1
    · rw [e3 i 2 i0 i1 (by omega)] at p1
      rw [e13 i k i0 i1 p0 (by omega)]
      exact k3 k p0 p1
    · rw [e3 i 2 i0 i1 (by omega)] at p1 p3
      rw [e12 i k i0 i1 p0 (by omega), e12 i o i0 i1 p2 (by omega)]
      exact k4 k o p0 p1 p2 p3 p4
  · have := hrow2 r r0 r1
    rw [e4 r 1 r0 r1 (by decide) (by decide), e4 r 0 r0 r1 (by decide) (by decide)]
    exact ⟨fun k k0 k1 => by rw [e17 r k r0 r1 (by omega) k1]; exact this.1 k k0 k1, this.2⟩
  · intro j2
    rw [e4 (j / 8) 2 (by omega) (by omega) (by decide) (by decide)] at j2
    have := hstp j j0 j1 j2
    rw [e5 j 0 j0 j1 (by decide) (by decide), e5 j 1 j0 j1 (by decide) (by decide), e5 j 2 j0 j1 (by decide) (by decide)]
    exact this
theorem zIS_B {B B' : Int} {m : zM} {s : Int} (hB : B ≤ B') (h : zIS B m s) : zIS B' m s := by
  obtain ⟨hday, hhan, hing, hrcp, hrec, hboo, hrow, hrow2, hstp⟩ := h
  refine ⟨hday, hhan, hing, hrcp, hrec, hboo, fun i i0 i1 => ?_, hrow2, hstp⟩
  obtain ⟨q1, q2, q3⟩ := hrow i i0 i1
  exact ⟨q1, fun j j0 j1 => by have := q2 j j0 j1; omega, q3⟩
theorem zInv_recd {B : Int} {m : zM} (h : zInv B m) : zInv B (zrecd m) := by
  obtain ⟨⟨h1, h2⟩, hsea, hs, hp, ht, hi, h9⟩ := h
  have h0 := hs 0 (by decide) (by decide)
  refine ⟨⟨by rw [zrecd_L]; omega, by rw [zrecd_k]; split <;> omega⟩, fun j j0 j1 => ?_, fun s s0 s1 => ?_, ?_, fun j j0 j1 => ?_, fun s s0 s1 => ?_, fun j j0 j1 => ?_⟩
  · rw [zrecd_0 h1.1 (by decide), zrecd_0 h1.1 (by decide)]
    exact hsea j j0 j1
  · by_cases e : s = 1 + (m 1 0 0 1 + 1) % 6
    · rw [e]
      exact zIS_cp (fun t i k ht => zrecd_new ht) h0
    · exact zIS_cp (fun t i k ht => zrecd_old (zSt_1 ht) e) (hs s s0 s1)
  · rw [zrecd_0 h1.1 (by decide)]
    exact hp
  · rw [zrecd_0 h1.1 (by decide)]
    exact ht j j0 j1
  · rw [zrecd_0 h1.1 (by decide)]
    exact hi s s0 s1
  · rw [zrecd_7 h1.1 (by decide)]
    exact h9 j j0 j1
/-- only the state of now is another -/
theorem zInv_now {B B' : Int} {b a' : zM} (h : zInv B b) (hB : B ≤ B') (ha : ∀ (t : Nat) (s i k : Int), (s ≠ 0 ∨ t = 1 ∨ t = 6 ∨ t = 21 ∨ t = 22 ∨ t = 36 ∨ t = 37) → a' t s i k = b t s i k) (h0 : zIS B' a' 0) : zInv B' a' := by
  obtain ⟨⟨h1, h2⟩, hsea, hs, hp, ht, hi, h9⟩ := h
  refine ⟨⟨by rw [ha 1 0 0 1 (by omega)]; exact h1, by rw [ha 1 0 0 0 (by omega)]; exact h2⟩, fun j j0 j1 => ?_, fun s s0 s1 => ?_, ?_, fun j j0 j1 => ?_, fun s s0 s1 => ?_, fun j j0 j1 => ?_⟩
  · rw [ha 36 0 0 j (by omega), ha 37 0 0 j (by omega)]
    exact hsea j j0 j1
  · by_cases e : s = 0
    · rw [e]
      exact h0
    · exact zIS_B hB (zIS_cp (fun t i k _ => ha t s i k (Or.inl e)) (hs s s0 s1))
  · rw [ha 6 0 0 0 (by omega)]
    exact hp
  · rw [ha 22 0 0 j (by omega)]
    exact ht j j0 j1
  · rw [ha 21 0 0 s (by omega)]
    exact hi s s0 s1
  · rw [ha 5 9 j 3 (by omega)]
    exact h9 j j0 j1
theorem zInv_B {B B' : Int} {m : zM} (hB : B ≤ B') (h : zInv B m) : zInv B' m := zInv_now h hB (fun _ _ _ _ _ => rfl) (zIS_B hB (zInv0 h))
set_option maxRecDepth 20000 in
theorem zki_hands {B : Int} {m : zM} {x : Int} (h : zInv B m) : zInv (B + 22000) (zk_hands x m).2 ∧ zOt (zk_hands x m).2 m := by
  have h22 : zInv (B + 22000) m := zInv_B (by omega) h
  have hb := zInv_recd h
  have h0 := zInv0 h
  have hb0 := zInv0 hb
  have hr0 : ∀ (t : Nat) (i k : Int), t ≠ 1 → zrecd m t 0 i k = m t 0 i k := fun t i k ht => zrecd_0 h.1.1.1 ht
  have hbo := zOt_recd (zOt_rf (m := m))
  unfold zk_hands
  split
  · exact ⟨h22, zOt_rf⟩
  next zcq1 =>
  have hx : 1 ≤ x ∧ x ≤ 6 := Classical.not_not.mp zcq1
  generalize zrecd m = b at *
  obtain ⟨hday, hhan, hing, hrcp, hrec, hboo, hrow, hrow2, hstp⟩ := id hb0
  dsimp only
  refine ⟨zInv_now hb (by omega) (fun t s i k hh => by simp only [zset]; rw [if_neg (by omega)]) (zIS_B (B := B) (by omega) ⟨by simpa [zset] using hday, by simp [zset]; omega, by simpa [zset] using hing, by simpa [zset] using hrcp, fun r r0 r1 => by simpa [zset] using hrec r r0 r1, ⟨fun i i0 i1 => by simpa [zset] using hboo.1 i i0 i1, fun i i0 i1 => by simpa [zset] using hboo.2 i i0 i1⟩, fun i i0 i1 => by simpa [zset, zkin] using hrow i i0 i1, fun r r0 r1 => by simpa [zset] using hrow2 r r0 r1, fun j j0 j1 => by simpa [zset] using hstp j j0 j1⟩), zOt_set hbo (by omega)⟩
set_option maxRecDepth 20000 in
theorem zki_menu {B : Int} {m : zM} {r p : Int} (h : zInv B m) : zInv (B + 22000) (zk_menu r p m).2 ∧ zOt (zk_menu r p m).2 m := by
  have h22 : zInv (B + 22000) m := zInv_B (by omega) h
  have hb := zInv_recd h
  have h0 := zInv0 h
  have hb0 := zInv0 hb
  have hr0 : ∀ (t : Nat) (i k : Int), t ≠ 1 → zrecd m t 0 i k = m t 0 i k := fun t i k ht => zrecd_0 h.1.1.1 ht
  have hbo := zOt_recd (zOt_rf (m := m))
  unfold zk_menu
  split
  · exact ⟨h22, zOt_rf⟩
  split
  · exact ⟨h22, zOt_rf⟩
  next zcq1 zcq2 =>
  have hc1 := Classical.not_not.mp zcq1
  have hc2 := Classical.not_not.mp zcq2
  have e5 : zrecd m 2 0 0 5 = m 2 0 0 5 := hr0 2 0 5 (by decide)
  generalize zrecd m = b at *
  obtain ⟨hday, hhan, hing, hrcp, hrec, hboo, hrow, hrow2, hstp⟩ := id hb0
  dsimp only
  refine ⟨zInv_now hb (by omega) (fun t s i k hh => by simp only [zset]; rw [if_neg (by omega)]) (zIS_B (B := B) (by omega) ⟨by simpa [zset] using hday, by simpa [zset] using hhan, by simpa [zset] using hing, by simpa [zset] using hrcp, fun q q0 q1 => ?_, ⟨fun i i0 i1 => by simpa [zset] using hboo.1 i i0 i1, fun i i0 i1 => by simpa [zset] using hboo.2 i i0 i1⟩, fun i i0 i1 => by simpa [zset, zkin] using hrow i i0 i1, fun q q0 q1 => ?_, fun j j0 j1 => by simpa [zset] using hstp j j0 j1⟩), zOt_set hbo (by omega)⟩
  · have := hrec q q0 q1
    refine ⟨?_, by simpa [zset] using this.2.1, by simpa [zset] using this.2.2.1, fun k k0 k1 => by simpa [zset] using this.2.2.2 k k0 k1⟩
    simp only [zset]
    split
    · exact hc2
    · exact this.1
  · have := hrow2 q q0 q1
    refine ⟨fun k k0 k1 => ?_, fun z => ?_, fun z => ?_⟩
    · have k2 : b 2 0 0 4 ≤ k := by simpa [zset] using k0
      simpa [zset] using this.1 k k2 k1
    · have z2 : b 2 0 0 5 ≤ q := by simpa [zset] using z
      simp only [zset]
      rw [if_neg (by omega)]
      exact this.2.1 z2
    · have z2 : q < b 2 0 0 5 := by simpa [zset] using z
      simpa [zset] using this.2.2 z2
set_option maxRecDepth 20000 in
theorem zki_amount {B : Int} {m : zM} {r i x : Int} (h : zInv B m) : zInv (B + 22000) (zk_amount r i x m).2 ∧ zOt (zk_amount r i x m).2 m := by
  have h22 : zInv (B + 22000) m := zInv_B (by omega) h
  have hb := zInv_recd h
  have h0 := zInv0 h
  have hb0 := zInv0 hb
  have hr0 : ∀ (t : Nat) (i k : Int), t ≠ 1 → zrecd m t 0 i k = m t 0 i k := fun t i k ht => zrecd_0 h.1.1.1 ht
  have hbo := zOt_recd (zOt_rf (m := m))
  unfold zk_amount
  split
  · exact ⟨h22, zOt_rf⟩
  split
  · exact ⟨h22, zOt_rf⟩
  next zcq1 zcq2 =>
  have hc1 := Classical.not_not.mp zcq1
  have hc2 := Classical.not_not.mp zcq2
  have e4 : zrecd m 2 0 0 4 = m 2 0 0 4 := hr0 2 0 4 (by decide)
  generalize zrecd m = b at *
  obtain ⟨hday, hhan, hing, hrcp, hrec, hboo, hrow, hrow2, hstp⟩ := id hb0
  dsimp only
  refine ⟨zInv_now hb (by omega) (fun t s j k hh => by simp only [zset]; rw [if_neg (by omega)]) (zIS_B (B := B) (by omega) ⟨by simpa [zset] using hday, by simpa [zset] using hhan, by simpa [zset] using hing, by simpa [zset] using hrcp, fun q q0 q1 => ?_, ⟨fun j j0 j1 => by simpa [zset] using hboo.1 j j0 j1, fun j j0 j1 => by simpa [zset] using hboo.2 j j0 j1⟩, fun j j0 j1 => by simpa [zset, zkin] using hrow j j0 j1, fun q q0 q1 => ?_, fun j j0 j1 => by simpa [zset] using hstp j j0 j1⟩), zOt_set hbo (by omega)⟩
  · have := hrec q q0 q1
    refine ⟨by simpa [zset] using this.1, by simpa [zset] using this.2.1, by simpa [zset] using this.2.2.1, fun k k0 k1 => ?_⟩
    simp only [zset]
    split
    · exact hc2
    · exact this.2.2.2 k k0 k1
  · have := hrow2 q q0 q1
    refine ⟨fun k k0 k1 => ?_, by simpa [zset] using this.2.1, by simpa [zset] using this.2.2⟩
    have k2 : b 2 0 0 4 ≤ k := by simpa [zset] using k0
    simp only [zset]
    rw [if_neg (by omega)]
    exact this.1 k k2 k1
/-- a state whose ingredient i alone is another -/
theorem zIS_i {B : Int} {b a' : zM} {i : Int} (h : zIS B b 0) (hi : 0 ≤ i ∧ i < 8) (ha : ∀ (t : Nat) (j k : Int), (t = 2 ∧ k ≠ 4) ∨ ((t = 3 ∨ t = 12 ∨ t = 13 ∨ t = 14) ∧ j ≠ i) ∨ t = 4 ∨ t = 5 ∨ t = 17 → a' t 0 j k = b t 0 j k) (hn : a' 2 0 0 4 = b 2 0 0 4 ∨ (a' 2 0 0 4 = b 2 0 0 4 + 1 ∧ i = b 2 0 0 4)) (hb : a' 3 0 i 1 = 0 ∨ a' 3 0 i 1 = 1)
  (hr : zkin a' 0 i ∧ (∀ j : Int, 0 ≤ j → j < 30 → 0 ≤ a' 14 0 i j ∧ a' 14 0 i j ≤ B) ∧ (0 ≤ a' 3 0 i 0 ∧ a' 3 0 i 0 ≤ 30) ∧ (i < a' 2 0 0 4 → a' 3 0 i 5 = -6 ∨ (i < a' 3 0 i 5 ∧ a' 3 0 i 5 < a' 2 0 0 4 ∧ 10 ≤ a' 3 0 i 6 ∧ a' 3 0 i 6 ≤ 200)) ∧ (a' 2 0 0 4 ≤ i → a' 3 0 i 2 = 0 ∧ ∀ j : Int, 0 ≤ j → j < 30 → a' 14 0 i j = 0) ∧ (i < a' 2 0 0 4 → 1 ≤ a' 3 0 i 0)) : zIS B a' 0 := by
  obtain ⟨hday, hhan, hing, hrcp, hrec, hboo, hrow, hrow2, hstp⟩ := h
  have e4 : ∀ j k, a' 4 0 j k = b 4 0 j k := fun j k => ha 4 j k (by omega)
  have e5 : ∀ j k, a' 5 0 j k = b 5 0 j k := fun j k => ha 5 j k (by omega)
  have e17 : ∀ j k, a' 17 0 j k = b 17 0 j k := fun j k => ha 17 j k (by omega)
  unfold zIS zrec zbool
  simp only [ha 2 0 0 (by omega), ha 2 0 1 (by omega), ha 2 0 5 (by omega), e4, e5, e17]
  refine ⟨hday, hhan, by omega, hrcp, hrec, ⟨fun j j0 j1 => ?_, hboo.2⟩, fun j j0 j1 => ?_, fun r r0 r1 => ?_, hstp⟩
  · by_cases e : j = i
    · rw [e]; exact hb
    · rw [ha 3 j 1 (by omega)]
      exact hboo.1 j j0 j1
  · by_cases e : j = i
    · rw [e]; exact hr
    · have f3 : ∀ k, a' 3 0 j k = b 3 0 j k := fun k => ha 3 j k (by omega)
      have f12 : ∀ k, a' 12 0 j k = b 12 0 j k := fun k => ha 12 j k (by omega)
      have f13 : ∀ k, a' 13 0 j k = b 13 0 j k := fun k => ha 13 j k (by omega)
      have f14 : ∀ k, a' 14 0 j k = b 14 0 j k := fun k => ha 14 j k (by omega)
      obtain ⟨q1, q2, q3, q4, q5, q6⟩ := hrow j j0 j1
      unfold zkin at q1 ⊢
      simp only [f3, f12, f13, f14]
      exact ⟨q1, q2, q3, fun z => by have := q4 (by omega); omega, fun z => q5 (by omega), fun z => q6 (by omega)⟩
  · have := hrow2 r r0 r1
    exact ⟨fun k k0 k1 => this.1 k (by omega) k1, this.2⟩
set_option maxRecDepth 20000 in
theorem zki_buyable {B : Int} {m : zM} {i x : Int} (h : zInv B m) : zInv (B + 22000) (zk_buyable i x m).2 ∧ zOt (zk_buyable i x m).2 m := by
  have h22 : zInv (B + 22000) m := zInv_B (by omega) h
  have hb := zInv_recd h
  have h0 := zInv0 h
  have hb0 := zInv0 hb
  have hr0 : ∀ (t : Nat) (i k : Int), t ≠ 1 → zrecd m t 0 i k = m t 0 i k := fun t i k ht => zrecd_0 h.1.1.1 ht
  have hbo := zOt_recd (zOt_rf (m := m))
  unfold zk_buyable
  split
  · exact ⟨h22, zOt_rf⟩
  split
  · exact ⟨h22, zOt_rf⟩
  next zcq1 zcq2 =>
  have hc1 := Classical.not_not.mp zcq1
  have hc2 := Classical.not_not.mp zcq2
  have e4 : zrecd m 2 0 0 4 = m 2 0 0 4 := hr0 2 0 4 (by decide)
  generalize zrecd m = b at *
  obtain ⟨hday, hhan, hing, hrcp, hrec, hboo, hrow, hrow2, hstp⟩ := id hb0
  dsimp only
  obtain ⟨q1, q2, q3, q4, q5, q6⟩ := hrow i (by omega) (by omega)
  refine ⟨zInv_now hb (by omega) (fun t s j k hh => by simp only [zset]; (repeat rw [if_neg (by omega)])) (zIS_B (by omega) (zIS_i hb0 (i := i) (by omega) (fun t j k hh => by simp only [zset]; (repeat rw [if_neg (by omega)])) (by simp [zset]) (by simp [zset]; omega) ?_)), zOt_set hbo (by omega)⟩
  simpa [zset, zkin] using hrow i (by omega) (by omega)
set_option maxRecDepth 20000 in
theorem zki_substitute {B : Int} {m : zM} {i o q : Int} (h : zInv B m) : zInv (B + 22000) (zk_substitute i o q m).2 ∧ zOt (zk_substitute i o q m).2 m := by
  have h22 : zInv (B + 22000) m := zInv_B (by omega) h
  have hb := zInv_recd h
  have h0 := zInv0 h
  have hb0 := zInv0 hb
  have hr0 : ∀ (t : Nat) (i k : Int), t ≠ 1 → zrecd m t 0 i k = m t 0 i k := fun t i k ht => zrecd_0 h.1.1.1 ht
  have hbo := zOt_recd (zOt_rf (m := m))
  unfold zk_substitute
  split
  · exact ⟨h22, zOt_rf⟩
  split
  · exact ⟨h22, zOt_rf⟩
  next zcq1 zcq2 =>
  have hc1 := Classical.not_not.mp zcq1
  have e4 : zrecd m 2 0 0 4 = m 2 0 0 4 := hr0 2 0 4 (by decide)
  generalize zrecd m = b at *
  obtain ⟨hday, hhan, hing, hrcp, hrec, hboo, hrow, hrow2, hstp⟩ := id hb0
  dsimp only
  obtain ⟨q1, q2, q3, q4, q5, q6⟩ := hrow i (by omega) (by omega)
  have hbb := hboo.1 i (by omega) (by omega)
  refine ⟨zInv_now hb (by omega) (fun t s j k hh => by simp only [zset]; (repeat rw [if_neg (by omega)])) (zIS_B (by omega) (zIS_i hb0 (i := i) (by omega) (fun t j k hh => by simp only [zset]; (repeat rw [if_neg (by omega)])) (by simp [zset]) (by simpa [zset] using hbb) ⟨by simpa [zset, zkin] using q1, by simpa [zset] using q2, by simpa [zset] using q3, ?_, by simpa [zset] using q5, by simpa [zset] using q6⟩)), zOt_set (zOt_set hbo (by omega)) (by omega)⟩
  intro z
  simp [zset]
  by_cases e : o = -6
  · exact Or.inl e
  · rw [if_neg e]
    have := hc1.2 e
    omega
set_option maxRecDepth 20000 in
theorem zki_ingredient {B : Int} {m : zM} {d : Int} (h : zInv B m) : zInv (B + 22000) (zk_ingredient d m).2 ∧ zOt (zk_ingredient d m).2 m := by
  have h22 : zInv (B + 22000) m := zInv_B (by omega) h
  have hb := zInv_recd h
  have h0 := zInv0 h
  have hb0 := zInv0 hb
  have hr0 : ∀ (t : Nat) (i k : Int), t ≠ 1 → zrecd m t 0 i k = m t 0 i k := fun t i k ht => zrecd_0 h.1.1.1 ht
  have hbo := zOt_recd (zOt_rf (m := m))
  unfold zk_ingredient
  split
  · exact ⟨h22, zOt_rf⟩
  split
  · exact ⟨h22, zOt_rf⟩
  next zcq1 zcq2 =>
  have hc1 := Classical.not_not.mp zcq1
  have hc2 := Classical.not_not.mp zcq2
  have e4 : zrecd m 2 0 0 4 = m 2 0 0 4 := hr0 2 0 4 (by decide)
  generalize zrecd m = b at *
  obtain ⟨hday, hhan, hing, hrcp, hrec, hboo, hrow, hrow2, hstp⟩ := id hb0
  dsimp only
  have hi0 : 0 ≤ m 2 0 0 4 := by omega
  generalize m 2 0 0 4 = i at *
  have h14 : ∀ j : Int, 0 ≤ j → j < 30 → zset (zset (zset (zset (zset (zfill (zset (zset (zset (zset (zset b 3 0 i 0 d) 3 0 i 1 1) 3 0 i 2 0) 3 0 i 5 (-6)) 3 0 i 6 (-6)) 14 0 i 30 0) 3 0 i 8 0) 3 0 i 9 0) 3 0 i 10 0) 3 0 i 11 0) 2 0 0 4 (i + 1) 14 0 i j = 0 := fun j j0 j1 => by
    simp only [zset, zfill]
    rw [if_neg (by omega), if_neg (by omega), if_neg (by omega), if_neg (by omega), if_neg (by omega), if_pos (by simp; omega)]
  refine ⟨zInv_now hb (by omega) (fun t s j k hh => by simp only [zset, zfill]; (repeat rw [if_neg (by omega)])) (zIS_i (zIS_B (B' := B + 22000) (by omega) hb0) (i := i) (by omega) (fun t j k hh => by simp only [zset, zfill]; (repeat rw [if_neg (by omega)])) (Or.inr ⟨by simp [zset, e4], e4.symm⟩) (by simp [zset, zfill]) ⟨?_, fun j j0 j1 => by rw [h14 j j0 j1]; have := (hrow 0 (by decide) (by decide)).2.1 0 (by decide) (by decide); omega, by simp [zset, zfill]; omega, fun _ => by simp [zset, zfill], fun z => by simp [zset] at z; omega, fun _ => by simp [zset, zfill]; omega⟩), ?_⟩
  · refine ⟨by simp [zset, zfill], fun k k0 k1 => ?_, fun k k0 k1 => ?_, fun k o k0 k1 => ?_⟩
    · simp [zset, zfill] at k1
      omega
    · simp [zset, zfill] at k1
      omega
    · simp [zset, zfill] at k1
      omega
  · refine zOt_set (zOt_set (zOt_set (zOt_set (zOt_set ?_ (by omega)) (by omega)) (by omega)) (by omega)) (by omega)
    intro t s j k hh
    simp only [zfill]
    rw [if_neg (by omega)]
    exact zOt_set (zOt_set (zOt_set (zOt_set (zOt_set hbo (by omega)) (by omega)) (by omega)) (by omega)) (by omega) t s j k hh
set_option maxRecDepth 20000 in
theorem zki_tin {B : Int} {m : zM} {i z p : Int} (h : zInv B m) : zInv (B + 22000) (zk_tin i z p m).2 ∧ zOt (zk_tin i z p m).2 m := by
  have h22 : zInv (B + 22000) m := zInv_B (by omega) h
  have hb := zInv_recd h
  have h0 := zInv0 h
  have hb0 := zInv0 hb
  have hr0 : ∀ (t : Nat) (i k : Int), t ≠ 1 → zrecd m t 0 i k = m t 0 i k := fun t i k ht => zrecd_0 h.1.1.1 ht
  have hbo := zOt_recd (zOt_rf (m := m))
  unfold zk_tin
  split
  · exact ⟨h22, zOt_rf⟩
  split
  · exact ⟨h22, zOt_rf⟩
  split
  · exact ⟨h22, zOt_rf⟩
  split
  · exact ⟨h22, zOt_rf⟩
  next zcq1 zcq2 zcq3 zcq4 =>
  have hc1 := Classical.not_not.mp zcq1
  have hc2 := Classical.not_not.mp zcq2
  have hc3 := Classical.not_not.mp zcq3
  have e4 : zrecd m 2 0 0 4 = m 2 0 0 4 := hr0 2 0 4 (by decide)
  have e32 : zrecd m 3 0 i 2 = m 3 0 i 2 := hr0 3 i 2 (by decide)
  have e12 : ∀ k, zrecd m 12 0 i k = m 12 0 i k := fun k => hr0 12 i k (by decide)
  generalize zrecd m = b at *
  obtain ⟨hday, hhan, hing, hrcp, hrec, hboo, hrow, hrow2, hstp⟩ := id hb0
  dsimp only
  obtain ⟨⟨k1, k2, k3, k4⟩, q2, q3, q4, q5, q6⟩ := hrow i (by omega) (by omega)
  have hbb := hboo.1 i (by omega) (by omega)
  have hno : ∀ k : Int, 0 ≤ k → k < b 3 0 i 2 → b 12 0 i k ≠ z := fun k k0 k1 => by
    rw [e12]
    intro y
    apply zcq4
    rcases (show k = 0 ∨ k = 1 ∨ k = 2 by omega) with rfl | rfl | rfl
    · exact Or.inl ⟨by omega, y⟩
    · exact Or.inr (Or.inl ⟨by omega, y⟩)
    · exact Or.inr (Or.inr ⟨by omega, y⟩)
  rw [← e32] at hc3 ⊢
  have v12 : ∀ k : Int, zset (zset (zset b 12 0 i (b 3 0 i 2) z) 13 0 i (b 3 0 i 2) p) 3 0 i 2 (b 3 0 i 2 + 1) 12 0 i k = if k = b 3 0 i 2 then z else b 12 0 i k := fun k => by simp [zset]
  have v13 : ∀ k : Int, zset (zset (zset b 12 0 i (b 3 0 i 2) z) 13 0 i (b 3 0 i 2) p) 3 0 i 2 (b 3 0 i 2 + 1) 13 0 i k = if k = b 3 0 i 2 then p else b 13 0 i k := fun k => by simp [zset]
  have v32 : zset (zset (zset b 12 0 i (b 3 0 i 2) z) 13 0 i (b 3 0 i 2) p) 3 0 i 2 (b 3 0 i 2 + 1) 3 0 i 2 = b 3 0 i 2 + 1 := by simp [zset]
  refine ⟨zInv_now hb (by omega) (fun t s j k hh => by simp only [zset]; (repeat rw [if_neg (by omega)])) (zIS_B (by omega) (zIS_i hb0 (i := i) (by omega) (fun t j k hh => by simp only [zset]; (repeat rw [if_neg (by omega)])) (by simp [zset]) (by simpa [zset] using hbb) ⟨⟨?_, fun k p0 p1 => ?_, fun k p0 p1 => ?_, fun k o p0 p1 p2 p3 p4 => ?_⟩, by simpa [zset] using q2, by simpa [zset] using q3, by simpa [zset] using q4, ?_, by simpa [zset] using q6⟩)), zOt_set (zOt_set (zOt_set hbo (by omega)) (by omega)) (by omega)⟩
  · rw [v32]
    omega
  · rw [v32] at p1
    rw [v12]
    by_cases e : k = b 3 0 i 2
    · rw [if_pos e]
      exact hc2.1
    · rw [if_neg e]
      exact k2 k p0 (by omega)
  · rw [v32] at p1
    rw [v13]
    by_cases e : k = b 3 0 i 2
    · rw [if_pos e]
      exact hc2.2
    · rw [if_neg e]
      exact k3 k p0 (by omega)
  · rw [v32] at p1 p3
    rw [v12, v12]
    by_cases e : k = b 3 0 i 2
    · rw [if_pos e, if_neg (by omega)]
      exact fun y => hno o p2 (by omega) y.symm
    · rw [if_neg e]
      by_cases e2 : o = b 3 0 i 2
      · rw [if_pos e2]
        exact hno k p0 (by omega)
      · rw [if_neg e2]
        exact k4 k o p0 (by omega) p2 (by omega) p4
  · intro y
    have y2 : b 2 0 0 4 ≤ i := by simpa [zset] using y
    omega
set_option maxRecDepth 20000 in
theorem zki_stock {B : Int} {m : zM} {i x : Int} (h : zInv B m) : zInv (B + 22000) (zk_stock i x m).2 ∧ zOt (zk_stock i x m).2 m := by
  have h22 : zInv (B + 22000) m := zInv_B (by omega) h
  have hb := zInv_recd h
  have h0 := zInv0 h
  have hb0 := zInv0 hb
  have hr0 : ∀ (t : Nat) (i k : Int), t ≠ 1 → zrecd m t 0 i k = m t 0 i k := fun t i k ht => zrecd_0 h.1.1.1 ht
  have hbo := zOt_recd (zOt_rf (m := m))
  unfold zk_stock
  split
  · exact ⟨h22, zOt_rf⟩
  split
  · exact ⟨h22, zOt_rf⟩
  split
  · exact ⟨h22, zOt_rf⟩
  next zcq1 zcq2 zcq3 =>
  have hc1 := Classical.not_not.mp zcq1
  have hc2 := Classical.not_not.mp zcq2
  have e4 : zrecd m 2 0 0 4 = m 2 0 0 4 := hr0 2 0 4 (by decide)
  have e14 : ∀ k, zrecd m 14 0 i k = m 14 0 i k := fun k => hr0 14 i k (by decide)
  generalize zrecd m = b at *
  obtain ⟨hday, hhan, hing, hrcp, hrec, hboo, hrow, hrow2, hstp⟩ := id hb0
  dsimp only
  obtain ⟨q1, q2, q3, q4, q5, q6⟩ := hrow i (by omega) (by omega)
  have hbb := hboo.1 i (by omega) (by omega)
  refine ⟨zInv_now hb (by omega) (fun t s j k hh => by simp only [zset]; (repeat rw [if_neg (by omega)])) (zIS_i (zIS_B (B' := B + 22000) (by omega) hb0) (i := i) (by omega) (fun t j k hh => by simp only [zset]; (repeat rw [if_neg (by omega)])) (by simp [zset]) (by simpa [zset] using hbb) ⟨by simpa [zset, zkin] using q1, fun j j0 j1 => ?_, by simpa [zset] using q3, by simpa [zset] using q4, fun y => ?_, by simpa [zset] using q6⟩), zOt_set (zOt_set hbo (by omega)) (by omega)⟩
  · have h1 := q2 j j0 j1
    have h2 := q2 ((m 2 0 0 0 + m 3 0 i 0) % 30) (by omega) (by omega)
    rw [← e14]
    simp only [zset]
    rw [if_neg (by omega)]
    split
    · omega
    · omega
  · have y2 : b 2 0 0 4 ≤ i := by simpa [zset] using y
    omega
