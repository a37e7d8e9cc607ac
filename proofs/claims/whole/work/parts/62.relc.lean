/-- the kitchen's cells are as they were -/
def zKt (m' m : zM) : Prop := ∀ (t : Nat) (s i k : Int), t ≠ 11 → t < 45 → m' t s i k = m t s i k
theorem zKt_rf {m : zM} : zKt m m := fun _ _ _ _ _ _ => rfl
theorem zKt_tr {a b c : zM} (h : zKt a b) (h2 : zKt b c) : zKt a c := fun t s i k h1 h3 => by rw [h t s i k h1 h3, h2 t s i k h1 h3]
theorem zKt_set {a b : zM} (h : zKt a b) {t : Nat} {s i k v : Int} (ht : t = 11 ∨ 45 ≤ t) : zKt (zset a t s i k v) b := fun t' s' i' k' h1 h3 => by
  simp only [zset]
  rw [if_neg (by omega)]
  exact h t' s' i' k' h1 h3
theorem zKt_kp {m : zM} : zKt (zkp m) m := fun t s i k h1 h2 => zkp_o (by omega) (by omega)
abbrev zrt (t : Nat) : Prop := t = 2 ∨ t = 3 ∨ t = 4 ∨ t = 5 ∨ t = 12 ∨ t = 13 ∨ t = 14 ∨ t = 17
theorem zRel_congr {a a' : zM} {s : Int} {f : Int → Int} (h : ∀ (t : Nat), zrt t → a' t s = a t s) : zRel a' s f ↔ zRel a s f := by
  have h2 := h 2 (by decide)
  have h3 := h 3 (by decide)
  have h4 := h 4 (by decide)
  have h5 := h 5 (by decide)
  have h12 := h 12 (by decide)
  have h13 := h 13 (by decide)
  have h14 := h 14 (by decide)
  have h17 := h 17 (by decide)
  simp only [zRel, zRi, zRr, h2, h3, h4, h5, h12, h13, h14, h17]
/-- only the pad is another -/
theorem zRM_pad {a a' m m' : zM} (h : zRM a m) (ha : ∀ (t : Nat) (s i k : Int), s < 9 → (t = 1 ∨ t = 21 ∨ zrt t) → a' t s i k = a t s i k) (hm : ∀ (t : Nat) (k : Int), (45 ≤ t ∧ t ≤ 48) ∨ (t = 11 ∧ k = 2) → m' t 0 0 k = m t 0 0 k) (h6 : m' 11 0 0 6 = a' 6 0 0 0) (hT : ∀ j : Int, 0 ≤ j → j < a' 6 0 0 0 → m' 49 0 0 j = a' 22 0 0 j) : zRM a' m' := by
  obtain ⟨h0, hn, hp, hs, -, -⟩ := h
  have c : ∀ (s : Int) (f : Int → Int), s < 9 → zRel a s f → zRel a' s f := fun s f h1 h2 => (zRel_congr (fun t ht => by funext i k; exact ha t s i k h1 (Or.inr (Or.inr ht)))).mpr h2
  refine ⟨?_, ?_, fun j j0 j1 => ?_, fun p p0 p1 => ⟨?_, fun hne => ?_⟩, h6, hT⟩
  · rw [show m' 45 0 0 = m 45 0 0 from funext fun q => hm 45 q (by omega)]
    exact c _ _ (by decide) h0
  · rw [hm 11 2 (by omega), ha 1 0 0 0 (by decide) (Or.inl rfl), hn]
  · rw [ha 1 0 0 0 (by decide) (Or.inl rfl)] at j1
    rw [ha 1 0 0 0 (by decide) (Or.inl rfl), ha 1 0 0 1 (by decide) (Or.inl rfl)]
    refine c _ _ (by omega) ?_
    rw [show (fun q => m' 46 0 0 (546 * (a 1 0 0 0 - 1 - j) + q)) = fun q => m 46 0 0 (546 * (a 1 0 0 0 - 1 - j) + q) from funext fun q => hm 46 _ (by omega)]
    exact hp j j0 j1
  · rw [hm 48 p (by omega), ha 21 0 0 p (by decide) (Or.inr (Or.inl rfl))]
    exact (hs p p0 p1).1
  · rw [ha 21 0 0 p (by decide) (Or.inr (Or.inl rfl))] at hne
    refine c _ _ (by omega) ?_
    rw [show (fun q => m' 47 0 0 (546 * p + q)) = fun q => m 47 0 0 (546 * p + q) from funext fun q => hm 47 _ (by omega)]
    exact (hs p p0 p1).2 hne
/-- only the state of now is another -/
theorem zRM_now {a a' m m' : zM} (h : zRM a m) (ha : ∀ (t : Nat) (s i k : Int), (s ≠ 0 ∨ t = 1 ∨ t = 6 ∨ t = 21 ∨ t = 22) → a' t s i k = a t s i k) (hm : ∀ (t : Nat) (k : Int), (46 ≤ t ∧ t ≤ 49) ∨ (t = 11 ∧ (k = 2 ∨ k = 6)) → m' t 0 0 k = m t 0 0 k) (h0 : zRel a' 0 (m' 45 0 0)) : zRM a' m' := by
  obtain ⟨-, hn, hp, hs, h6, ht⟩ := h
  have c : ∀ (s : Int) (f : Int → Int), s ≠ 0 → zRel a s f → zRel a' s f := fun s f h1 h2 => (zRel_congr (fun t _ => by funext i k; exact ha t s i k (Or.inl h1))).mpr h2
  refine ⟨h0, ?_, fun j j0 j1 => ?_, fun p p0 p1 => ⟨?_, fun hne => ?_⟩, ?_, fun j j0 j1 => ?_⟩
  · rw [hm 11 2 (by omega), ha 1 0 0 0 (by omega), hn]
  · rw [ha 1 0 0 0 (by omega)] at j1
    rw [ha 1 0 0 0 (by omega), ha 1 0 0 1 (by omega)]
    refine c _ _ (by omega) ?_
    rw [show (fun q => m' 46 0 0 (546 * (a 1 0 0 0 - 1 - j) + q)) = fun q => m 46 0 0 (546 * (a 1 0 0 0 - 1 - j) + q) from funext fun q => hm 46 _ (by omega)]
    exact hp j j0 j1
  · rw [hm 48 p (by omega), ha 21 0 0 p (by omega)]
    exact (hs p p0 p1).1
  · rw [ha 21 0 0 p (by omega)] at hne
    refine c _ _ (by omega) ?_
    rw [show (fun q => m' 47 0 0 (546 * p + q)) = fun q => m 47 0 0 (546 * p + q) from funext fun q => hm 47 _ (by omega)]
    exact (hs p p0 p1).2 hne
  · rw [hm 11 6 (by omega), ha 6 0 0 0 (by omega), h6]
  · rw [ha 6 0 0 0 (by omega)] at j1
    rw [hm 49 j (by omega), ha 22 0 0 j (by omega)]
    exact ht j j0 j1
theorem zRi_mv {a a' : zM} {s i : Int} {f f' : Int → Int} (hf : ∀ q : Int, 6 + 46 * i ≤ q → q < 52 + 46 * i → f' q = f q) (ha : ∀ (t : Nat) (k : Int), t = 3 ∨ t = 12 ∨ t = 13 ∨ t = 14 → a' t s i k = a t s i k) (hd : a' 2 s 0 0 = a 2 s 0 0) (h : zRi a s i f) : zRi a' s i f' := by
  obtain ⟨a0, a1, a2, a3, a4, a5, a6, a7, a8, a9, a10, a11, a12⟩ := h
  have e3 : ∀ k, a' 3 s i k = a 3 s i k := fun k => ha 3 k (by omega)
  have e12 : ∀ k, a' 12 s i k = a 12 s i k := fun k => ha 12 k (by omega)
  have e13 : ∀ k, a' 13 s i k = a 13 s i k := fun k => ha 13 k (by omega)
  have e14 : ∀ k, a' 14 s i k = a 14 s i k := fun k => ha 14 k (by omega)
  simp only [zRi, hd, e3, e12, e13, e14]
  rw [hf _ (by omega) (by omega), hf (6 + 46 * i + 1) (by omega) (by omega), hf (6 + 46 * i + 2) (by omega) (by omega), hf (6 + 46 * i + 3) (by omega) (by omega), hf (6 + 46 * i + 4) (by omega) (by omega), hf (6 + 46 * i + 5) (by omega) (by omega), hf (6 + 46 * i + 6) (by omega) (by omega), hf (6 + 46 * i + 7) (by omega) (by omega), hf (6 + 46 * i + 8) (by omega) (by omega), hf (6 + 46 * i + (15 + a 2 s 0 0 % 31)) (by omega) (by omega)]
  refine ⟨a0, a1, a2, a3, a4, a5, a6, a7, a8, a9, fun k k0 k1 k2 => ?_, fun d d0 d1 => ?_, a12⟩
  · rw [hf _ (by omega) (by omega), hf (6 + 46 * i + (9 + 2 * k + 1)) (by omega) (by omega)]
    exact a10 k k0 k1 k2
  · rw [hf _ (by omega) (by omega)]
    exact a11 d d0 d1
theorem zRr_mv {a a' : zM} {s r : Int} {f f' : Int → Int} (hf : ∀ q : Int, 374 + 43 * r ≤ q → q < 417 + 43 * r → f' q = f q) (ha : ∀ (t : Nat) (k : Int), t = 4 ∨ t = 17 → a' t s r k = a t s r k) (h5 : ∀ k w : Int, 0 ≤ k → k < 8 → a' 5 s (8 * r + k) w = a 5 s (8 * r + k) w) (h : zRr a s r f) : zRr a' s r f' := by
  obtain ⟨a0, a1, a2, a3, a4⟩ := h
  have e4 : ∀ k, a' 4 s r k = a 4 s r k := fun k => ha 4 k (by omega)
  have e17 : ∀ k, a' 17 s r k = a 17 s r k := fun k => ha 17 k (by omega)
  simp only [zRr, e4, e17]
  rw [hf _ (by omega) (by omega), hf (374 + 43 * r + 1) (by omega) (by omega), hf (374 + 43 * r + 2) (by omega) (by omega)]
  refine ⟨a0, a1, a2, fun k k0 k1 => ?_, fun k w k0 k1 k2 w0 w1 => ?_⟩
  · rw [hf _ (by omega) (by omega)]
    exact a3 k k0 k1
  · rw [hf _ (by omega) (by omega), h5 k w k0 k1]
    exact a4 k w k0 k1 k2 w0 w1
/-- only recipe r's numbers are others -/
theorem zRel_r {a a' : zM} {s : Int} {f f' : Int → Int} (r : Int) (hr0 : 0 ≤ r) (h : zRel a s f) (hf : ∀ q : Int, (q < 374 + 43 * r ∨ 417 + 43 * r ≤ q) → q ≠ 2 → f' q = f q) (ha : ∀ (t : Nat) (i k : Int), (t = 2 ∧ k ≠ 5) ∨ t = 3 ∨ t = 12 ∨ t = 13 ∨ t = 14 ∨ ((t = 4 ∨ t = 17) ∧ i ≠ r) ∨ (t = 5 ∧ (i < 8 * r ∨ 8 * r + 8 ≤ i)) → a' t s i k = a t s i k) (hn : f' 2 = a' 2 s 0 5) (hn2 : ∀ q : Int, q ≠ r → q < a' 2 s 0 5 → q < a 2 s 0 5) (hr : r < 4 → r < a' 2 s 0 5 → zRr a' s r f') : zRel a' s f' := by
  obtain ⟨h0, h1, h2, h3, h4, h5, hi, hz, hrr⟩ := h
  have e2 : ∀ k, k ≠ 5 → a' 2 s 0 k = a 2 s 0 k := fun k hk => ha 2 0 k (by omega)
  refine ⟨?_, ?_, hn, ?_, ?_, ?_, fun i i0 i1 i2 => ?_, fun i k i0 i1 i2 k0 k1 => ?_, fun q q0 q1 q2 => ?_⟩
  · rw [hf 0 (by omega) (by decide), e2 0 (by decide), h0]
  · rw [hf 1 (by omega) (by decide), e2 4 (by decide), h1]
  · rw [hf 3 (by omega) (by decide), e2 1 (by decide), h3]
  · rw [hf 4 (by omega) (by decide), e2 2 (by decide), h4]
  · rw [hf 5 (by omega) (by decide), e2 3 (by decide), h5]
  · rw [e2 4 (by decide)] at i2
    exact zRi_mv (fun q q0 q1 => hf q (by omega) (by omega)) (fun t k ht => ha t i k (by omega)) (e2 0 (by decide)) (hi i i0 i1 i2)
  · rw [e2 4 (by decide)] at i2
    rw [hf _ (by omega) (by omega)]
    exact hz i k i0 i1 i2 k0 k1
  · by_cases e : q = r
    · subst e
      exact hr q1 q2
    · exact zRr_mv (fun p p0 p1 => hf p (by omega) (by omega)) (fun t k ht => ha t q k (by omega)) (fun k w k0 k1 => ha 5 _ w (by omega)) (hrr q q0 q1 (hn2 q e q2))
/-- only ingredient i's numbers are others -/
theorem zRel_i {a a' : zM} {s : Int} {f f' : Int → Int} (i : Int) (hi0 : 0 ≤ i ∧ i < 8) (h : zRel a s f) (hf : ∀ q : Int, (q < 6 + 46 * i ∨ 52 + 46 * i ≤ q) → q ≠ 1 → f' q = f q) (ha : ∀ (t : Nat) (j k : Int), (t = 2 ∧ k ≠ 4) ∨ ((t = 3 ∨ t = 12 ∨ t = 13 ∨ t = 14) ∧ j ≠ i) ∨ t = 4 ∨ t = 5 ∨ t = 17 → a' t s j k = a t s j k) (hn : f' 1 = a' 2 s 0 4) (hn2 : ∀ q : Int, q ≠ i → (q < a' 2 s 0 4 ↔ q < a 2 s 0 4)) (hlt : i < a' 2 s 0 4) (hi : zRi a' s i f') : zRel a' s f' := by
  obtain ⟨h0, h1, h2, h3, h4, h5, hii, hz, hrr⟩ := h
  have e2 : ∀ k, k ≠ 4 → a' 2 s 0 k = a 2 s 0 k := fun k hk => ha 2 0 k (by omega)
  refine ⟨?_, hn, ?_, ?_, ?_, ?_, fun j j0 j1 j2 => ?_, fun j k j0 j1 j2 k0 k1 => ?_, fun q q0 q1 q2 => ?_⟩
  · rw [hf 0 (by omega) (by decide), e2 0 (by decide), h0]
  · rw [hf 2 (by omega) (by decide), e2 5 (by decide), h2]
  · rw [hf 3 (by omega) (by decide), e2 1 (by decide), h3]
  · rw [hf 4 (by omega) (by decide), e2 2 (by decide), h4]
  · rw [hf 5 (by omega) (by decide), e2 3 (by decide), h5]
  · by_cases e : j = i
    · subst e
      exact hi
    · exact zRi_mv (fun q q0 q1 => hf q (by omega) (by omega)) (fun t k ht => ha t j k (by omega)) (e2 0 (by decide)) (hii j j0 j1 ((hn2 j e).mp j2))
  · by_cases e : j = i
    · omega
    · rw [hf _ (by omega) (by omega)]
      have := hn2 j e
      exact hz j k j0 j1 (by omega) k0 k1
  · rw [e2 5 (by decide)] at q2
    exact zRr_mv (fun p p0 p1 => hf p (by omega) (by omega)) (fun t k ht => ha t q k (by omega)) (fun k w k0 k1 => ha 5 _ w (by omega)) (hrr q q0 q1 q2)
/-- only hands, spent, cooked are others -/
theorem zRel_0 {a a' : zM} {s : Int} {f f' : Int → Int} (h : zRel a s f) (hf : ∀ q : Int, (q < 3 ∨ 5 < q) → f' q = f q) (ha : ∀ (t : Nat) (j k : Int), (t = 2 ∧ k ≠ 1 ∧ k ≠ 2 ∧ k ≠ 3) ∨ t = 3 ∨ t = 12 ∨ t = 13 ∨ t = 14 ∨ t = 4 ∨ t = 5 ∨ t = 17 → a' t s j k = a t s j k) (h3 : f' 3 = a' 2 s 0 1) (h4 : f' 4 = a' 2 s 0 2) (h5 : f' 5 = a' 2 s 0 3) : zRel a' s f' := by
  obtain ⟨h0, h1, h2, -, -, -, hii, hz, hrr⟩ := h
  have e2 : ∀ k, (k ≠ 1 ∧ k ≠ 2 ∧ k ≠ 3) → a' 2 s 0 k = a 2 s 0 k := fun k hk => ha 2 0 k (by omega)
  refine ⟨?_, ?_, ?_, h3, h4, h5, fun j j0 j1 j2 => ?_, fun j k j0 j1 j2 k0 k1 => ?_, fun q q0 q1 q2 => ?_⟩
  · rw [hf 0 (by omega), e2 0 (by decide), h0]
  · rw [hf 1 (by omega), e2 4 (by decide), h1]
  · rw [hf 2 (by omega), e2 5 (by decide), h2]
  · rw [e2 4 (by decide)] at j2
    exact zRi_mv (fun q q0 q1 => hf q (by omega)) (fun t k ht => ha t j k (by omega)) (e2 0 (by decide)) (hii j j0 j1 j2)
  · rw [e2 4 (by decide)] at j2
    rw [hf _ (by omega)]
    exact hz j k j0 j1 j2 k0 k1
  · rw [e2 5 (by decide)] at q2
    exact zRr_mv (fun p p0 p1 => hf p (by omega)) (fun t k ht => ha t q k (by omega)) (fun k w k0 k1 => ha 5 _ w (by omega)) (hrr q q0 q1 q2)
