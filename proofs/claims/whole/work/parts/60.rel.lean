/-- a row of numbers of the model stands for state s of the kitchen: an ingredient's numbers -/
def zRi (a : zM) (s i : Int) (f : Int → Int) : Prop := f (6 + 46 * i) = a 3 s i 0 ∧ f (6 + 46 * i + 1) = a 3 s i 1 ∧ f (6 + 46 * i + 2) = a 3 s i 2 ∧ f (6 + 46 * i + 3) = a 3 s i 5 ∧ (0 ≤ a 3 s i 5 → f (6 + 46 * i + 4) = a 3 s i 6) ∧ (a 3 s i 5 < 0 → a 3 s i 6 = -6) ∧ f (6 + 46 * i + 5) = a 3 s i 8 ∧ f (6 + 46 * i + 6) = a 3 s i 9 ∧ f (6 + 46 * i + 7) = a 3 s i 10 ∧ f (6 + 46 * i + 8) = a 3 s i 11 ∧
  (∀ k : Int, 0 ≤ k → k < 3 → k < a 3 s i 2 → f (6 + 46 * i + (9 + 2 * k)) = a 12 s i k ∧ f (6 + 46 * i + (9 + 2 * k + 1)) = a 13 s i k) ∧
  (∀ d : Int, 1 ≤ d → d ≤ 30 → f (6 + 46 * i + (15 + (a 2 s 0 0 + d) % 31)) = a 14 s i ((a 2 s 0 0 + d) % 30)) ∧ f (6 + 46 * i + (15 + a 2 s 0 0 % 31)) = 0
/-- a recipe's numbers -/
def zRr (a : zM) (s r : Int) (f : Int → Int) : Prop := f (374 + 43 * r) = a 4 s r 0 ∧ f (374 + 43 * r + 1) = a 4 s r 2 ∧ f (374 + 43 * r + 2) = a 4 s r 1 ∧ (∀ k : Int, 0 ≤ k → k < 8 → f (374 + 43 * r + (3 + k)) = a 17 s r k) ∧
  (∀ k w : Int, 0 ≤ k → k < 8 → k < a 4 s r 2 → 0 ≤ w → w < 4 → f (374 + 43 * r + (11 + 4 * k + w)) = a 5 s (8 * r + k) w)
def zRel (a : zM) (s : Int) (f : Int → Int) : Prop := f 0 = a 2 s 0 0 ∧ f 1 = a 2 s 0 4 ∧ f 2 = a 2 s 0 5 ∧ f 3 = a 2 s 0 1 ∧ f 4 = a 2 s 0 2 ∧ f 5 = a 2 s 0 3 ∧ (∀ i : Int, 0 ≤ i → i < 8 → i < a 2 s 0 4 → zRi a s i f) ∧ (∀ i k : Int, 0 ≤ i → i < 8 → a 2 s 0 4 ≤ i → 0 ≤ k → k < 46 → f (6 + 46 * i + k) = 0) ∧ (∀ r : Int, 0 ≤ r → r < 4 → r < a 2 s 0 5 → zRr a s r f)
theorem zRel_mv {a a' : zM} {s s' : Int} {f f' : Int → Int} (h : ∀ (t : Nat) (i k : Int), zSt t i k 8 4 = true → a' t s' i k = a t s i k) (hf : ∀ q : Int, 0 ≤ q → q < 546 → f' q = f q) (hd : 0 ≤ a 2 s 0 0) (hR : zRel a s f) : zRel a' s' f' := by
  have e2 : ∀ k : Int, 0 ≤ k → k < 6 → a' 2 s' 0 k = a 2 s 0 k := fun k k0 k1 => h 2 0 k (by simp [zSt]; omega)
  have e3 : ∀ i k : Int, 0 ≤ i → i < 8 → (k = 0 ∨ k = 1 ∨ k = 2 ∨ k = 5 ∨ k = 6 ∨ (8 ≤ k ∧ k ≤ 11)) → a' 3 s' i k = a 3 s i k := fun i k i0 i1 hk => h 3 i k (by simp [zSt]; omega)
  have e12 : ∀ i k : Int, 0 ≤ i → i < 8 → 0 ≤ k → k < 3 → a' 12 s' i k = a 12 s i k := fun i k i0 i1 k0 k1 => h 12 i k (by simp [zSt]; omega)
  have e13 : ∀ i k : Int, 0 ≤ i → i < 8 → 0 ≤ k → k < 3 → a' 13 s' i k = a 13 s i k := fun i k i0 i1 k0 k1 => h 13 i k (by simp [zSt]; omega)
  have e14 : ∀ i k : Int, 0 ≤ i → i < 8 → 0 ≤ k → k < 30 → a' 14 s' i k = a 14 s i k := fun i k i0 i1 k0 k1 => h 14 i k (by simp [zSt]; omega)
  have e4 : ∀ i k : Int, 0 ≤ i → i < 4 → 0 ≤ k → k < 3 → a' 4 s' i k = a 4 s i k := fun i k i0 i1 k0 k1 => h 4 i k (by simp [zSt]; omega)
  have e17 : ∀ i k : Int, 0 ≤ i → i < 4 → 0 ≤ k → k < 8 → a' 17 s' i k = a 17 s i k := fun i k i0 i1 k0 k1 => h 17 i k (by simp [zSt]; omega)
  have e5 : ∀ i k : Int, 0 ≤ i → i < 32 → 0 ≤ k → k < 4 → a' 5 s' i k = a 5 s i k := fun i k i0 i1 k0 k1 => h 5 i k (by simp [zSt]; omega)
  obtain ⟨h0, h1, h2, h3, h4, h5, hi, hz, hr⟩ := hR
  refine ⟨?_, ?_, ?_, ?_, ?_, ?_, fun i i0 i1 i2 => ?_, fun i k i0 i1 i2 k0 k1 => ?_, fun r r0 r1 r2 => ?_⟩
  · rw [hf 0 (by decide) (by decide), e2 0 (by decide) (by decide), h0]
  · rw [hf 1 (by decide) (by decide), e2 4 (by decide) (by decide), h1]
  · rw [hf 2 (by decide) (by decide), e2 5 (by decide) (by decide), h2]
  · rw [hf 3 (by decide) (by decide), e2 1 (by decide) (by decide), h3]
  · rw [hf 4 (by decide) (by decide), e2 2 (by decide) (by decide), h4]
  · rw [hf 5 (by decide) (by decide), e2 3 (by decide) (by decide), h5]
  · rw [e2 4 (by decide) (by decide)] at i2
    obtain ⟨a0, a1, a2, a3, a4, a5, a6, a7, a8, a9, a10, a11, a12⟩ := hi i i0 i1 i2
    rw [zRi, e2 0 (by decide) (by decide), e3 i 0 i0 i1 (by omega), e3 i 1 i0 i1 (by omega), e3 i 2 i0 i1 (by omega), e3 i 5 i0 i1 (by omega), e3 i 6 i0 i1 (by omega), e3 i 8 i0 i1 (by omega), e3 i 9 i0 i1 (by omega), e3 i 10 i0 i1 (by omega), e3 i 11 i0 i1 (by omega)]
    rw [hf _ (by omega) (by omega), hf _ (by omega) (by omega), hf _ (by omega) (by omega), hf _ (by omega) (by omega), hf (6 + 46 * i + 4) (by omega) (by omega), hf (6 + 46 * i + 5) (by omega) (by omega), hf (6 + 46 * i + 6) (by omega) (by omega), hf (6 + 46 * i + 7) (by omega) (by omega), hf (6 + 46 * i + 8) (by omega) (by omega), hf (6 + 46 * i + (15 + a 2 s 0 0 % 31)) (by omega) (by omega)]
    refine ⟨a0, a1, a2, a3, a4, a5, a6, a7, a8, a9, fun k k0 k1 k2 => ?_, fun d d0 d1 => ?_, a12⟩
    · rw [hf _ (by omega) (by omega), hf (6 + 46 * i + (9 + 2 * k + 1)) (by omega) (by omega), e12 i k i0 i1 k0 k1, e13 i k i0 i1 k0 k1]
      exact a10 k k0 k1 k2
    · rw [hf _ (by omega) (by omega), e14 i _ i0 i1 (by omega) (by omega)]
      exact a11 d d0 d1
  · rw [e2 4 (by decide) (by decide)] at i2
    rw [hf _ (by omega) (by omega)]
    exact hz i k i0 i1 i2 k0 k1
  · rw [e2 5 (by decide) (by decide)] at r2
    obtain ⟨a0, a1, a2, a3, a4⟩ := hr r r0 r1 r2
    rw [zRr, e4 r 0 r0 r1 (by decide) (by decide), e4 r 1 r0 r1 (by decide) (by decide), e4 r 2 r0 r1 (by decide) (by decide)]
    rw [hf _ (by omega) (by omega), hf (374 + 43 * r + 1) (by omega) (by omega), hf (374 + 43 * r + 2) (by omega) (by omega)]
    refine ⟨a0, a1, a2, fun k k0 k1 => ?_, fun k w k0 k1 k2 w0 w1 => ?_⟩
    · rw [hf _ (by omega) (by omega), e17 r k r0 r1 k0 k1]
      exact a3 k k0 k1
    · rw [hf _ (by omega) (by omega), e5 _ w (by omega) (by omega) w0 w1]
      exact a4 k w k0 k1 k2 w0 w1
