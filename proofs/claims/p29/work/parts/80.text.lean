/-! A RECIPE'S TEXT AND WHAT THE READER FINDS IN IT -/
/-- the text from place p to the end L -/
def zAt (N : Int → Int) (L : Int) : Int → List Int → Prop
  | p, [] => p = L
  | p, c :: T => N p = c ∧ zAt N L (p + 1) T
theorem zAt_hd {N : Int → Int} {L p : Int} {R : List Int} (hL : N L = 0) (h : zAt N L p R) : N p = R.headD 0 := by
  cases R with
  | nil => rw [show p = L from h]; exact hL
  | cons c T => exact h.1
def zdig (v : Int) : List Int := (if 99 < v then [48 + v / 100] else []) ++ ((if 9 < v then [48 + v / 10 % 10] else []) ++ [48 + v % 10])
theorem zdig_len {v : Int} : (zdig v).length ≤ 3 := by
  unfold zdig
  split <;> split <;> simp
theorem zNm_dig {N : Int → Int} {most p v d : Int} {n : Nat} (h : zdg N p = d) (hd : 0 ≤ d) (hm : v * 10 + d ≤ most) : zNm N most (n + 1) p v = zNm N most n (p + 1) (v * 10 + d) := by
  rw [zNm, h, if_neg (by omega), if_pos hm]
theorem zNm_end {N : Int → Int} {most p v : Int} {n : Nat} (h : zdg N p < 0) : zNm N most (n + 1) p v = (p, v, 1) := by
  rw [zNm, if_pos h]
theorem zdg_at {N : Int → Int} {p d : Int} (h : N p = 48 + d) (hd : 0 ≤ d ∧ d ≤ 9) : zdg N p = d := by
  unfold zdg
  rw [if_pos (by omega)]
  omega
theorem zdg_no {N : Int → Int} {p : Int} (h : ¬ (48 ≤ N p ∧ N p ≤ 57)) : zdg N p = -6 := by
  unfold zdg
  rw [if_neg h]
theorem zNum_at {N : Int → Int} {L p v most : Int} {R : List Int} (hL : N L = 0) (hv : 1 ≤ v ∧ v ≤ most ∧ v ≤ 500) (hR : ¬ (48 ≤ R.headD 0 ∧ R.headD 0 ≤ 57)) (h : zAt N L p (zdig v ++ R)) : ∃ p', zNum N most p = (p', v, 1) ∧ zAt N L p' R := by
  unfold zdig at h
  unfold zNum
  by_cases c1 : 99 < v
  · rw [if_pos c1, if_pos (by omega)] at h
    obtain ⟨h1, h2, h3, h4⟩ : N p = 48 + v / 100 ∧ N (p + 1) = 48 + v / 10 % 10 ∧ N (p + 1 + 1) = 48 + v % 10 ∧ zAt N L (p + 1 + 1 + 1) R := h
    have e1 := zdg_at h1 (by omega)
    have e2 := zdg_at h2 (by omega)
    have e3 := zdg_at h3 (by omega)
    have e4 := zdg_no (N := N) (p := p + 1 + 1 + 1) (by rw [zAt_hd hL h4]; exact hR)
    refine ⟨p + 1 + 1 + 1, ?_, h4⟩
    rw [e1, if_pos (by omega), zNm_dig (n := 78) e2 (by omega) (by omega), zNm_dig (n := 77) e3 (by omega) (by omega), zNm_end (n := 76) (by omega)]
    congr 2
    omega
  · by_cases c2 : 9 < v
    · rw [if_neg c1, if_pos c2] at h
      obtain ⟨h1, h2, h4⟩ : N p = 48 + v / 10 % 10 ∧ N (p + 1) = 48 + v % 10 ∧ zAt N L (p + 1 + 1) R := h
      have e1 := zdg_at h1 (by omega)
      have e2 := zdg_at h2 (by omega)
      have e4 := zdg_no (N := N) (p := p + 1 + 1) (by rw [zAt_hd hL h4]; exact hR)
      refine ⟨p + 1 + 1, ?_, h4⟩
      rw [e1, if_pos (by omega), zNm_dig (n := 78) e2 (by omega) (by omega), zNm_end (n := 77) (by omega)]
      congr 2
      omega
    · rw [if_neg c1, if_neg c2] at h
      obtain ⟨h1, h4⟩ : N p = 48 + v % 10 ∧ zAt N L (p + 1) R := h
      have e1 := zdg_at h1 (by omega)
      have e4 := zdg_no (N := N) (p := p + 1) (by rw [zAt_hd hL h4]; exact hR)
      refine ⟨p + 1, ?_, h4⟩
      rw [e1, if_pos (by omega), zNm_end (n := 78) (by omega)]
      congr 2
      omega
/-- the amounts of the ingredients below i, the last first -/
def zTxA (A : Int → Int) : Nat → List Int
  | 0 => []
  | i + 1 => (if A i = 0 then [] else (97 + (i : Int)) :: zdig (A i)) ++ zTxA A i
theorem zTxA_len {A : Int → Int} : ∀ i : Nat, (zTxA A i).length ≤ 4 * i
  | 0 => Nat.le_refl _
  | i + 1 => by
    have := zTxA_len (A := A) i
    have h2 := zdig_len (v := A i)
    rw [zTxA, List.length_append]
    split <;> simp only [List.length_nil, List.length_cons] <;> omega
theorem zTxA_hd {A : Int → Int} {R : List Int} (hR : ¬ (48 ≤ R.headD 0 ∧ R.headD 0 ≤ 57)) : ∀ i : Nat, ¬ (48 ≤ (zTxA A i ++ R).headD 0 ∧ (zTxA A i ++ R).headD 0 ≤ 57)
  | 0 => hR
  | i + 1 => by
    rw [zTxA]
    by_cases c : A i = 0
    · rw [if_pos c]
      exact zTxA_hd hR i
    · rw [if_neg c]
      show ¬ (48 ≤ 97 + (i : Int) ∧ 97 + (i : Int) ≤ 57)
      omega
theorem zAmL_at {L : Int} {R : List Int} {A : Int → Int} (hR : ¬ (48 ≤ R.headD 0 ∧ R.headD 0 ≤ 57)) (hR2 : ¬ (97 ≤ R.headD 0 ∧ R.headD 0 < 105)) : ∀ (i fuel : Nat) (p : Int) (m : zM), i ≤ fuel → i ≤ 8 → zN m L = 0 → (∀ k : Int, 0 ≤ k → k < i → 0 ≤ A k ∧ A k ≤ 500) → (∀ k : Int, 0 ≤ k → k < i → m 17 9 0 k = 0) → zAt (zN m) L p (zTxA A i ++ R) →
    ∃ p' m', zAmL fuel p m = (p', 1, m') ∧ zN m' = zN m ∧ zAt (zN m) L p' R ∧ (∀ k : Int, m' 17 9 0 k = if 0 ≤ k ∧ k < i then A k else m 17 9 0 k) ∧ (∀ (t : Nat) (s j k : Int), t ≠ 17 → m' t s j k = m t s j k)
  | 0, fuel, p, m, _, _, hL, _, _, h => by
    have h : zAt (zN m) L p R := h
    have e : zname (zN m) (m 17 9 0) p = -6 := by
      unfold zname
      rw [zAt_hd hL h, if_neg (by omega)]
    refine ⟨p, m, ?_, rfl, h, fun k => by rw [if_neg (by omega)], fun _ _ _ _ _ => rfl⟩
    cases fuel with
    | zero => rfl
    | succ n => rw [zAmL, if_pos (by omega)]
  | i + 1, fuel, p, m, hf, h8, hL, hA, h0, h => by
    have hb := hA i (by omega) (by omega)
    rw [zTxA] at h
    by_cases c : A i = 0
    · rw [if_pos c] at h
      obtain ⟨p', m', h1, h2, h3, h4, h5⟩ := zAmL_at hR hR2 i fuel p m (by omega) (by omega) hL (fun k k0 k1 => hA k k0 (by omega)) (fun k k0 k1 => h0 k k0 (by omega)) h
      refine ⟨p', m', h1, h2, h3, fun k => ?_, h5⟩
      rw [h4]
      by_cases q : k = i
      · rw [if_neg (by omega), if_pos (by omega), q, c]
        exact h0 i (by omega) (by omega)
      · by_cases q2 : 0 ≤ k ∧ k < i
        · rw [if_pos q2, if_pos (by omega)]
        · rw [if_neg q2, if_neg (by omega)]
    · rw [if_neg c] at h
      obtain ⟨h1, h2⟩ : zN m p = 97 + (i : Int) ∧ zAt (zN m) L (p + 1) ((zdig (A i) ++ zTxA A i) ++ R) := h
      rw [List.append_assoc] at h2
      obtain ⟨p1, e1, e2⟩ := zNum_at hL (most := 500) (by omega) (zTxA_hd hR i) h2
      have e3 : zname (zN m) (m 17 9 0) p = i := by
        unfold zname
        rw [h1, if_pos ⟨by omega, by omega, by rw [show 97 + (i : Int) - 97 = i by omega]; exact h0 i (by omega) (by omega)⟩]
        omega
      obtain ⟨f, rfl⟩ : ∃ f, fuel = f + 1 := ⟨fuel - 1, by omega⟩
      have eN : zN (zset m 17 9 0 i (A i)) = zN m := zN_set (by decide) (by decide)
      obtain ⟨p', m', g1, g2, g3, g4, g5⟩ := zAmL_at hR hR2 i f p1 (zset m 17 9 0 i (A i)) (by omega) (by omega) (by rw [eN]; exact hL) (fun k k0 k1 => hA k k0 (by omega)) (fun k k0 k1 => by
        simp only [zset]
        rw [if_neg (by omega)]
        exact h0 k k0 (by omega)) (by rw [eN]; exact e2)
      rw [eN] at g2 g3
      refine ⟨p', m', ?_, g2, g3, fun k => ?_, fun t s j k ht => ?_⟩
      · rw [zAmL, e3, if_neg (by omega), e1, if_pos rfl]
        exact g1
      · rw [g4]
        by_cases q : k = i
        · rw [if_neg (by omega), if_pos (by omega), q]
          simp [zset]
        · by_cases q2 : 0 ≤ k ∧ k < i
          · rw [if_pos q2, if_pos (by omega)]
          · rw [if_neg q2, if_neg (by omega)]
            simp only [zset]
            rw [if_neg (by omega)]
      · rw [g5 t s j k ht]
        simp only [zset]
        rw [if_neg (by omega)]
/-- the steps before -/
def zTxB (b : Int → Int) : Nat → List Int
  | 0 => []
  | a + 1 => (if b a = 1 then [64, 48 + (a : Int)] else []) ++ zTxB b a
def zMk (b : Int → Int) : Nat → Int → Int
  | 0, x => x
  | a + 1, x => if b a = 1 then zMk b a (zor x (zshl 1 a)) else zMk b a x
theorem zTxB_len {b : Int → Int} : ∀ a : Nat, (zTxB b a).length ≤ 2 * a
  | 0 => Nat.le_refl _
  | a + 1 => by
    have := zTxB_len (b := b) a
    rw [zTxB, List.length_append]
    split <;> simp only [List.length_nil, List.length_cons] <;> omega
theorem zTxB_hd {b : Int → Int} {R : List Int} {c : Int} (hc : c ≠ 64) (hR : R.headD 0 ≠ c) : ∀ a : Nat, (zTxB b a ++ R).headD 0 ≠ c
  | 0 => hR
  | a + 1 => by
    rw [zTxB]
    by_cases q : b a = 1
    · rw [if_pos q]
      show (64 : Int) ≠ c
      omega
    · rw [if_neg q]
      exact zTxB_hd hc hR a
theorem lz_bit {i : Nat} {x : Int} (hi : i ≤ 3) (hx : 0 ≤ x ∧ x < 16 ∧ x % 2 ^ (i + 1) = 0) : zand (zshr x i) 1 ≠ 1 ∧ 0 ≤ zor x (zshl 1 i) ∧ zor x (zshl 1 i) < 16 ∧ zor x (zshl 1 i) % 2 ^ i = 0 := by
  obtain ⟨h0, h1, h2⟩ := hx
  rcases (show i = 0 ∨ i = 1 ∨ i = 2 ∨ i = 3 by omega) with rfl | rfl | rfl | rfl
  · have h2 : x % 2 = 0 := h2
    rcases (show x = 0 ∨ x = 2 ∨ x = 4 ∨ x = 6 ∨ x = 8 ∨ x = 10 ∨ x = 12 ∨ x = 14 by omega) with rfl | rfl | rfl | rfl | rfl | rfl | rfl | rfl <;> decide
  · have h2 : x % 4 = 0 := h2
    rcases (show x = 0 ∨ x = 4 ∨ x = 8 ∨ x = 12 by omega) with rfl | rfl | rfl | rfl <;> decide
  · have h2 : x % 8 = 0 := h2
    rcases (show x = 0 ∨ x = 8 by omega) with rfl | rfl <;> decide
  · have h2 : x % 16 = 0 := h2
    rcases (show x = 0 by omega) with rfl
    decide
theorem lz_bit2 {i : Nat} {x : Int} (hi : i ≤ 3) (h : x % 2 ^ (i + 1) = 0) : x % 2 ^ i = 0 := by
  rcases (show i = 0 ∨ i = 1 ∨ i = 2 ∨ i = 3 by omega) with rfl | rfl | rfl | rfl
  · show x % 1 = 0; omega
  · have h : x % 4 = 0 := h
    show x % 2 = 0; omega
  · have h : x % 8 = 0 := h
    show x % 4 = 0; omega
  · have h : x % 16 = 0 := h
    show x % 8 = 0; omega
theorem zBf_at {N : Int → Int} {L K : Int} {R : List Int} {b : Int → Int} (hL : N L = 0) (hR : R.headD 0 ≠ 64) : ∀ (a fuel : Nat) (p x : Int), a ≤ fuel → (a : Int) ≤ K → a ≤ 4 → (0 ≤ x ∧ x < 16 ∧ x % 2 ^ a = 0) → zAt N L p (zTxB b a ++ R) → ∃ p', zBf N K fuel p x = (p', zMk b a x, 1) ∧ zAt N L p' R
  | 0, fuel, p, x, _, _, _, _, h => by
    have h : zAt N L p R := h
    have := zAt_hd hL h
    refine ⟨p, ?_, h⟩
    cases fuel with
    | zero => rfl
    | succ n => rw [zBf, if_neg (by omega)]; rfl
  | a + 1, fuel, p, x, hf, hk, h4, hx, h => by
    obtain ⟨q1, q2, q3, q4⟩ := lz_bit (i := a) (by omega) hx
    rw [zTxB] at h
    by_cases c : b a = 1
    · rw [if_pos c] at h
      obtain ⟨h1, h2, h3⟩ : N p = 64 ∧ N (p + 1) = 48 + (a : Int) ∧ zAt N L (p + 1 + 1) (zTxB b a ++ R) := h
      have e2 := zdg_at h2 (by omega)
      obtain ⟨f, rfl⟩ : ∃ f, fuel = f + 1 := ⟨fuel - 1, by omega⟩
      obtain ⟨p', g1, g2⟩ := zBf_at (K := K) (b := b) hL hR a f (p + 1 + 1) (zor x (zshl 1 a)) (by omega) (by omega) (by omega) ⟨q2, q3, q4⟩ h3
      refine ⟨p', ?_, g2⟩
      rw [zBf, if_pos h1, e2, if_pos ⟨by omega, by omega, q1⟩, g1, zMk, if_pos c]
    · rw [if_neg c] at h
      obtain ⟨p', g1, g2⟩ := zBf_at (K := K) (b := b) hL hR a fuel p x (by omega) (by omega) (by omega) ⟨hx.1, hx.2.1, lz_bit2 (by omega) hx.2.2⟩ h
      refine ⟨p', ?_, g2⟩
      rw [g1, zMk, if_neg c]
/-- a step -/
def zTxE (d h g : Int) (b : Int → Int) (e : Nat) : List Int := zdig d ++ (47 :: (48 + h) :: ((if g = 1 then [42] else []) ++ zTxB b e))
def zTxS (dD dH dG : Int → Int) (dB : Int → Int → Int) : Nat → Nat → List Int
  | 0, _ => []
  | n + 1, e => 59 :: (zTxE (dD e) (dH e) (dG e) (dB e) e ++ zTxS dD dH dG dB n (e + 1))
theorem zTxE_len {d h g : Int} {b : Int → Int} {e : Nat} : (zTxE d h g b e).length ≤ 6 + 2 * e := by
  have h1 := zdig_len (v := d)
  have h2 := zTxB_len (b := b) e
  unfold zTxE
  rw [List.length_append, List.length_cons, List.length_cons, List.length_append]
  split <;> simp only [List.length_nil, List.length_cons] <;> omega
theorem zTxS_len {dD dH dG : Int → Int} {dB : Int → Int → Int} : ∀ n e : Nat, n + e ≤ 4 → (zTxS dD dH dG dB n e).length ≤ 15 * n
  | 0, _, _ => Nat.le_refl _
  | n + 1, e, h => by
    have := zTxS_len (dD := dD) (dH := dH) (dG := dG) (dB := dB) n (e + 1) (by omega)
    have h2 := zTxE_len (d := dD e) (h := dH e) (g := dG e) (b := dB e) (e := e)
    rw [zTxS, List.length_cons, List.length_append]
    omega
theorem zTxS_hd {dD dH dG : Int → Int} {dB : Int → Int → Int} {n e : Nat} : (zTxS dD dH dG dB n e).headD 0 = 0 ∨ (zTxS dD dH dG dB n e).headD 0 = 59 := by
  cases n with
  | zero => exact Or.inl rfl
  | succ n => exact Or.inr rfl
theorem zSp_at {N : Int → Int} {L p d h g : Int} {b : Int → Int} {e : Nat} {R : List Int} (hL : N L = 0) (hd : 1 ≤ d ∧ d ≤ 240) (hh : 0 ≤ h ∧ h ≤ 3) (hg : g = 0 ∨ g = 1) (he : e ≤ 4) (hR : R.headD 0 = 0 ∨ R.headD 0 = 59) (hT : zAt N L p (zTxE d h g b e ++ R)) : ∃ p', zSp N e p = (p', 1, d, h, g, zMk b e 0) ∧ zAt N L p' R := by
  unfold zTxE at hT
  rw [List.append_assoc] at hT
  obtain ⟨p1, e1, h1⟩ := zNum_at hL (most := 240) (by omega) (by show ¬ (48 ≤ (47 : Int) ∧ (47 : Int) ≤ 57); omega) hT
  rw [List.cons_append, List.cons_append] at h1
  obtain ⟨h2, h3, h4⟩ := h1
  rw [List.append_assoc] at h4
  have e2 : zs2 N p1 1 = (p1 + 1, 1) := by
    unfold zs2
    rw [if_pos ⟨rfl, h2⟩, if_pos ⟨rfl, h2⟩]
  have e3d := zdg_at h3 (by omega)
  have e3 : zs3 N (p1 + 1) 1 = (p1 + 1 + 1, h, 1) := by
    unfold zs3
    rw [e3d, if_pos ⟨rfl, by omega, by omega⟩, if_pos ⟨rfl, by omega, by omega⟩, if_pos ⟨rfl, by omega, by omega⟩]
  obtain ⟨e4, h5⟩ : zs4 N (p1 + 1 + 1) 1 = g ∧ zAt N L (p1 + 1 + 1 + g) (zTxB b e ++ R) := by
    rcases hg with rfl | rfl
    · have h4 : zAt N L (p1 + 1 + 1) (zTxB b e ++ R) := h4
      have h42 := zTxB_hd (b := b) (R := R) (c := 42) (by decide) (by omega) e
      have := zAt_hd hL h4
      refine ⟨?_, by rw [show p1 + 1 + 1 + 0 = p1 + 1 + 1 by omega]; exact h4⟩
      unfold zs4
      rw [if_neg (fun z => h42 (by rw [← this]; exact z.2))]
    · obtain ⟨q1, q2⟩ : N (p1 + 1 + 1) = 42 ∧ zAt N L (p1 + 1 + 1 + 1) (zTxB b e ++ R) := h4
      refine ⟨?_, q2⟩
      unfold zs4
      rw [if_pos ⟨rfl, q1⟩]
  obtain ⟨p', e5, h6⟩ := zBf_at (b := b) (K := e) hL (by omega) e 8 _ 0 (by omega) (by omega) he ⟨by omega, by omega, by simp⟩ h5
  refine ⟨p', ?_, h6⟩
  unfold zSp
  simp only [e1, e2, e3, e4]
  unfold zs5
  rw [if_pos rfl, e5]
theorem zStL_at {L : Int} {dD dH dG : Int → Int} {dB : Int → Int → Int} (hD : ∀ e : Int, 1 ≤ dD e ∧ dD e ≤ 240) (hH : ∀ e : Int, 0 ≤ dH e ∧ dH e ≤ 3) (hG : ∀ e : Int, dG e = 0 ∨ dG e = 1) : ∀ (n fuel e : Nat) (p : Int) (m : zM), n ≤ fuel → n + e ≤ 4 → zN m L = 0 → zAt (zN m) L p (zTxS dD dH dG dB n e) →
    ∃ m', zStL fuel e p m = (L, 1, m') ∧ (∀ k : Nat, e ≤ k → k < e + n → m' 5 9 k 0 = dD k ∧ m' 5 9 k 1 = dH k ∧ m' 5 9 k 2 = zMk (dB k) k 0 ∧ m' 5 9 k 3 = dG k) ∧ (∀ k q : Int, k < e → m' 5 9 k q = m 5 9 k q) ∧ m' 4 9 0 2 = (if n = 0 then m 4 9 0 2 else (e : Int) + n) ∧ m' 4 9 0 0 = m 4 9 0 0 ∧ m' 4 9 0 1 = m 4 9 0 1 ∧ (∀ k : Int, m' 17 9 0 k = m 17 9 0 k)
  | 0, fuel, e, p, m, _, _, hL, h => by
    have h : p = L := h
    subst h
    refine ⟨m, ?_, fun k k0 k1 => by omega, fun _ _ _ => rfl, by rw [if_pos rfl], rfl, rfl, fun _ => rfl⟩
    cases fuel with
    | zero => rfl
    | succ n => rw [zStL, if_neg (by omega)]
  | n + 1, fuel, e, p, m, hf, h4, hL, h => by
    obtain ⟨f, rfl⟩ : ∃ f, fuel = f + 1 := ⟨fuel - 1, by omega⟩
    obtain ⟨h1, h2⟩ : zN m p = 59 ∧ zAt (zN m) L (p + 1) (zTxE (dD e) (dH e) (dG e) (dB e) e ++ zTxS dD dH dG dB n (e + 1)) := h
    obtain ⟨p', e1, e2⟩ := zSp_at hL (hD e) (hH e) (hG e) (by omega) zTxS_hd h2
    have eN : zN (zSm m e (p + 1)) = zN m := zSm_N
    obtain ⟨m', g1, g2, g3, g4, g5, g6, g7⟩ := zStL_at (dB := dB) hD hH hG n f (e + 1) p' (zSm m e (p + 1)) (by omega) (by omega) (by rw [eN]; exact hL) (by rw [eN]; exact e2)
    have s : zSm m e (p + 1) = zset (zset (zset (zset (zset m 5 9 e 0 (dD e)) 5 9 e 1 (dH e)) 5 9 e 3 (dG e)) 5 9 e 2 (zMk (dB e) e 0)) 4 9 0 2 (e + 1) := by
      unfold zSm
      rw [e1]
    refine ⟨m', ?_, fun k k0 k1 => ?_, fun k q kq => ?_, ?_, ?_, ?_, fun k => ?_⟩
    · rw [zStL, if_pos h1, e1, if_pos rfl]
      exact g1
    · by_cases c : k = e
      · subst c
        rw [g3 k 0 (by omega), g3 k 1 (by omega), g3 k 2 (by omega), g3 k 3 (by omega), s]
        simp [zset]
      · exact g2 k (by omega) (by omega)
    · rw [g3 k q (by omega), s]
      simp only [zset]
      rw [if_neg (by omega), if_neg (by omega), if_neg (by omega), if_neg (by omega), if_neg (by omega)]
    · rw [g4, if_neg (show ¬ n + 1 = 0 by omega)]
      split
      · next q =>
        rw [s, q]
        simp [zset]
      · omega
    · rw [g5, s]
      simp [zset]
    · rw [g6, s]
      simp [zset]
    · rw [g7, s]
      simp [zset]
/-- the pad holds T -/
def zPt (m : zM) (T : List Int) : Prop := m 6 0 0 0 = T.length ∧ T.length ≤ 80 ∧ ∀ j : Nat, j < T.length → m 22 0 0 j = T.getD j 0
theorem zAt_of {N : Int → Int} {L : Int} : ∀ (T : List Int) (p : Int), L = p + T.length → (∀ j : Nat, j < T.length → N (p + j) = T.getD j 0) → zAt N L p T
  | [], p, hL, _ => by
    show p = L
    rw [hL]
    simp
  | c :: T, p, hL, h => by
    refine ⟨?_, zAt_of T (p + 1) (by rw [hL, List.length_cons]; omega) (fun j hj => ?_)⟩
    · have := h 0 (by simp)
      simpa using this
    · have := h (j + 1) (by rw [List.length_cons]; omega)
      rw [show p + 1 + (j : Int) = p + ((j + 1 : Nat) : Int) by omega, this]
      rfl
theorem zPt_at {m : zM} {T : List Int} (h : zPt m T) : zAt (zN m) (m 6 0 0 0) 0 T ∧ zN m (m 6 0 0 0) = 0 := by
  obtain ⟨h1, h2, h3⟩ := h
  refine ⟨zAt_of T 0 (by omega) (fun j hj => ?_), ?_⟩
  · unfold zN
    rw [if_pos (by omega), show (0 : Int) + j = j by omega]
    exact h3 j hj
  · unfold zN
    rw [if_neg (by omega)]
theorem zRead_at {m : zM} {base : Int} {A dD dH dG : Int → Int} {dB : Int → Int → Int} {n st : Nat} (hb : 1 ≤ base ∧ base ≤ 20) (hn : n ≤ 8) (hst : st ≤ 4) (hA : ∀ k : Int, 0 ≤ k → k < n → 0 ≤ A k ∧ A k ≤ 500) (hD : ∀ e : Int, 1 ≤ dD e ∧ dD e ≤ 240) (hH : ∀ e : Int, 0 ≤ dH e ∧ dH e ≤ 3) (hG : ∀ e : Int, dG e = 0 ∨ dG e = 1)
    (hP : zPt m (zdig base ++ (zTxA A n ++ zTxS dD dH dG dB st 0))) :
    zFlt m = -6 ∧ zRdm m 4 9 0 0 = base ∧ zRdm m 4 9 0 1 = 0 ∧ zRdm m 4 9 0 2 = st ∧ (∀ k : Int, 0 ≤ k → k < 8 → zRdm m 17 9 0 k = if k < n then A k else 0) ∧ (∀ k : Nat, k < st → zRdm m 5 9 k 0 = dD k ∧ zRdm m 5 9 k 1 = dH k ∧ zRdm m 5 9 k 2 = zMk (dB k) k 0 ∧ zRdm m 5 9 k 3 = dG k) := by
  obtain ⟨hT, hL⟩ := zPt_at hP
  have hS := zTxS_hd (dD := dD) (dH := dH) (dG := dG) (dB := dB) (n := st) (e := 0)
  obtain ⟨p1, e1, h1⟩ := zNum_at hL (most := 20) (by omega) (zTxA_hd (by omega) n) hT
  have eN : zN (zset (zClr m) 4 9 0 0 base) = zN m := (zN_set (by decide) (by decide)).trans zClr_N
  have eC : ∀ k : Int, 0 ≤ k → k < 8 → zset (zClr m) 4 9 0 0 base 17 9 0 k = 0 := fun k k0 k1 => by
    simp only [zset, zClr, zfill]
    rw [if_neg (by omega)]
    first | rw [if_pos (by omega)] | (simp; omega)
  obtain ⟨p2, m2, e2, n2, h2, a2, o2⟩ := zAmL_at (R := zTxS dD dH dG dB st 0) (A := A) (by omega) (by omega) n 8 p1 (zset (zClr m) 4 9 0 0 base) hn hn (by rw [eN]; exact hL) hA (fun k k0 k1 => eC k k0 (by omega)) (by rw [eN]; exact h1)
  rw [eN] at n2 h2
  obtain ⟨m3, e3, s3, -, c3, c4, c5, a3⟩ := zStL_at (dB := dB) hD hH hG st 8 0 p2 m2 (by omega) (by omega) (by rw [n2]; exact hL) (by rw [n2]; exact h2)
  have eR : zRead m = (m 6 0 0 0, 1, m3) := by
    unfold zRead
    rw [e1, if_pos rfl, e2]
    unfold zThen
    rw [if_pos rfl]
    exact e3
  have eM : ∀ (t : Nat) (s j k : Int), t ≠ 7 → zRdm m t s j k = m3 t s j k := fun t s j k ht => by
    unfold zRdm
    rw [zRd_o ht, eR]
  refine ⟨?_, ?_, ?_, ?_, fun k k0 k1 => ?_, fun k hk => ?_⟩
  · unfold zFlt
    rw [eR, if_pos ⟨rfl, rfl⟩]
  · rw [eM _ _ _ _ (by decide), c4, o2 _ _ _ _ (by decide)]
    simp [zset]
  · rw [eM _ _ _ _ (by decide), c5, o2 _ _ _ _ (by decide)]
    simp [zset, zClr, zfill]
  · rw [eM _ _ _ _ (by decide), c3]
    split
    · next q =>
      rw [q, o2 _ _ _ _ (by decide)]
      simp [zset, zClr, zfill]
    · simp
  · rw [eM _ _ _ _ (by decide), a3, a2]
    by_cases c : k < n
    · rw [if_pos ⟨k0, c⟩, if_pos c]
    · rw [if_neg (by omega), if_neg c]
      exact eC k k0 k1
  · rw [eM _ _ _ _ (by decide), eM _ _ _ _ (by decide), eM _ _ _ _ (by decide), eM _ _ _ _ (by decide)]
    exact s3 k (by omega) (by omega)
