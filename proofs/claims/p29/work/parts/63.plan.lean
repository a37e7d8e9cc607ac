/-! THE PLAN'S OWN FACTS -/
theorem zps_at (D : zD) (i : Int) (W : zPl) (fr left more : Int) (hfr : (if D 1 i 0 < W 0 i then D 1 i 0 else W 0 i) = fr) (hl : W 0 i - fr = left) (hm : (left * D 7 i 0 + 100 - 1) / 100 = more) :
    (∀ (a : Nat) (j : Int), 2 ≤ a → j ≠ i → zps D i W a j = W a j) ∧ zps D i W 2 i = fr ∧
    ((left ≤ 0 ∧ ∀ (a : Nat) (j : Int), a ≠ 2 → zps D i W a j = W a j) ∨
     (0 < left ∧ (D 2 i 0 ≠ 0 ∧ 0 < D 3 i 0) ∧ (∀ (a : Nat) (j : Int), a < 2 → zps D i W a j = W a j) ∧ zps D i W 5 i = W 5 i ∧ zps D i W 6 i = W 6 i ∧ zps D i W 3 i = zwt D i (zbt (D 3 i 0) (D 4 i) (D 5 i) left) ∧ zps D i W 4 i = zwt D i (zbt (D 3 i 0) (D 4 i) (D 5 i) left) - left ∧ zps D i W 7 i = zct D i (zbt (D 3 i 0) (D 4 i) (D 5 i) left) ∧
       zps D i W 8 i = (zbt (D 3 i 0) (D 4 i) (D 5 i) left).1 ∧ zps D i W 9 i = (zbt (D 3 i 0) (D 4 i) (D 5 i) left).2.1 ∧ zps D i W 10 i = (zbt (D 3 i 0) (D 4 i) (D 5 i) left).2.2) ∨
     (0 < left ∧ ¬ (D 2 i 0 ≠ 0 ∧ 0 < D 3 i 0) ∧ (0 ≤ D 6 i 0 ∧ W 0 (D 6 i 0) + more ≤ 100000) ∧ zps D i W 5 i = left ∧ (∀ a : Nat, a ≠ 2 → a ≠ 5 → 2 ≤ a → zps D i W a i = W a i) ∧ (∀ j : Int, zps D i W 1 j = if j = D 6 i 0 then W 1 j + more else W 1 j) ∧ (∀ j : Int, zps D i W 0 j = if j = D 6 i 0 then W 0 j + more else W 0 j)) ∨
     (0 < left ∧ ¬ (D 2 i 0 ≠ 0 ∧ 0 < D 3 i 0) ∧ ¬ (0 ≤ D 6 i 0 ∧ W 0 (D 6 i 0) + more ≤ 100000) ∧ zps D i W 6 i = left ∧ (∀ a : Nat, a ≠ 2 → a ≠ 6 → 2 ≤ a → zps D i W a i = W a i) ∧ (∀ (a : Nat) (j : Int), a < 2 → zps D i W a j = W a j))) := by
  have e : zps D i W = if left ≤ 0 then zps0 W 2 i fr else if D 2 i 0 ≠ 0 ∧ 0 < D 3 i 0 then zbuyW D i left (zps0 W 2 i fr) else if 0 ≤ D 6 i 0 ∧ W 0 (D 6 i 0) + more ≤ 100000 then zps0 (zps0 (zps0 (zps0 W 2 i fr) 5 i left) 1 (D 6 i 0) (W 1 (D 6 i 0) + more)) 0 (D 6 i 0) (W 0 (D 6 i 0) + more) else zps0 (zps0 W 2 i fr) 6 i left := by
    subst hm
    subst hl
    subst hfr
    rfl
  rw [e]
  by_cases c1 : left ≤ 0
  · rw [if_pos c1]
    exact ⟨fun a j ha hj => by simp [zps0, hj], by simp [zps0], Or.inl ⟨c1, fun a j ha => by simp [zps0, ha]⟩⟩
  · rw [if_neg c1]
    by_cases c2 : D 2 i 0 ≠ 0 ∧ 0 < D 3 i 0
    · rw [if_pos c2]
      refine ⟨fun a j ha hj => by simp [zbuyW, zps0, hj], by simp [zbuyW, zps0], Or.inr (Or.inl ⟨by omega, c2, fun a j ha => ?_, by simp [zbuyW, zps0], by simp [zbuyW, zps0], by simp [zbuyW, zps0], by simp [zbuyW, zps0], by simp [zbuyW, zps0], by simp [zbuyW, zps0], by simp [zbuyW, zps0], by simp [zbuyW, zps0]⟩)⟩
      simp only [zbuyW, zps0]
      repeat rw [if_neg (by omega)]
    · rw [if_neg c2]
      by_cases c3 : 0 ≤ D 6 i 0 ∧ W 0 (D 6 i 0) + more ≤ 100000
      · rw [if_pos c3]
        refine ⟨fun a j ha hj => ?_, by simp [zps0], Or.inr (Or.inr (Or.inl ⟨by omega, c2, c3, by simp [zps0], fun a a2 a5 a3 => ?_, fun j => ?_, fun j => ?_⟩))⟩
        · simp only [zps0]
          repeat rw [if_neg (by omega)]
        · simp only [zps0]
          repeat rw [if_neg (by omega)]
        · by_cases q : j = D 6 i 0
          · subst q; simp [zps0]
          · simp [zps0, q]
        · by_cases q : j = D 6 i 0
          · subst q; simp [zps0]
          · simp [zps0, q]
      · rw [if_neg c3]
        refine ⟨fun a j ha hj => by simp [zps0, hj], by simp [zps0], Or.inr (Or.inr (Or.inr ⟨by omega, c2, c3, by simp [zps0], fun a a2 a6 a3 => by simp [zps0, a2, a6], fun a j ha => ?_⟩))⟩
        simp only [zps0]
        repeat rw [if_neg (by omega)]
theorem zD0_bd {m : zM} (hp : zpc m) (j : Int) : 0 ≤ zDc m 0 j 0 ∧ zDc m 0 j 0 ≤ 100000 := by
  simp only [zDc]
  split
  · next h =>
    have := zsum_le (f := fun r => zscal m 0 r (m 17 0 r j)) (B := 10020) 4 (fun r r0 r1 => zscal_le ((hp.1 r r0 (by omega)).2.2.2 j h.1 h.2.2) (hp.1 r r0 (by omega)).1 (hp.1 r r0 (by omega)).2.1.2)
    omega
  · omega
/-- what one step of the plan does to the rows of what is needed -/
theorem zpN_step {m : zM} (hp : zpc m) {n : Nat} (hn : n < 8) : zpN (zDc m) (n + 1) = zps (zDc m) n (zpN (zDc m) n) := rfl
theorem zpN_sub {m : zM} (hp : zpc m) {n : Nat} (hn : n < 8) {fr left : Int} (hfr : (if zDc m 1 n 0 < zpN (zDc m) n 0 n then zDc m 1 n 0 else zpN (zDc m) n 0 n) = fr) (hl : zpN (zDc m) n 0 n - fr = left) (h : 0 < left) : (n : Int) < m 2 0 0 4 ∧ (m 3 0 n 5 = -6 ∨ ((n : Int) < m 3 0 n 5 ∧ m 3 0 n 5 < m 2 0 0 4 ∧ 10 ≤ m 3 0 n 6 ∧ m 3 0 n 6 ≤ 200)) := by
  have hI := hp.2.2 n (by omega) (by omega)
  have hpan := zsum_le (f := m 14 0 n) (B := 12000000) 30 (fun j h0 h1 => hI.2.1 j h0 (by omega))
  have e1 : zDc m 1 n 0 = zsum 30 (m 14 0 n) := rfl
  have hlt : (n : Int) < m 2 0 0 4 := by
    apply Classical.byContradiction
    intro q
    have hz := zpN_z hp n (by omega) n (by omega)
    rw [hz, e1, if_neg (by omega)] at hfr
    rw [hz] at hl
    omega
  exact ⟨hlt, hI.2.2 hlt⟩
theorem zpN_rows {m : zM} (hp : zpc m) : ∀ n : Nat, n ≤ 8 → (∀ (a : Nat) (j : Int), 2 ≤ a → (n : Int) ≤ j → zpN (zDc m) n a j = 0) ∧ (∀ j : Int, zpN (zDc m) n 0 j = zDc m 0 j 0 + zpN (zDc m) n 1 j) ∧
    (∀ j : Int, zpN (zDc m) n 1 j = zsum n (fun k => if m 3 0 k 5 = j then (zpN (zDc m) n 5 k * m 3 0 k 6 + 100 - 1) / 100 else 0)) ∧ (∀ j : Int, 0 ≤ zpN (zDc m) n 1 j ∧ zpN (zDc m) n 0 j ≤ 100000)
  | 0, _ => by
    refine ⟨fun a j ha hj => ?_, fun j => ?_, fun j => rfl, fun j => ⟨Int.le_refl 0, (zD0_bd hp j).2⟩⟩
    · show (if a = 0 then _ else _) = _
      rw [if_neg (by omega)]
    · show zDc m 0 j 0 = zDc m 0 j 0 + 0
      omega
  | n + 1, hn => by
    obtain ⟨ih1, ih2, ih3, ih4⟩ := zpN_rows hp n (by omega)
    have hst := zps_at (zDc m) n (zpN (zDc m) n) _ _ _ rfl rfl rfl
    have hsub := fun h => zpN_sub hp (n := n) (by omega) rfl rfl h
    generalize (if zDc m 1 n 0 < zpN (zDc m) n 0 n then zDc m 1 n 0 else zpN (zDc m) n 0 n) = fr at *
    generalize hleft : zpN (zDc m) n 0 n - fr = left at *
    have e7 : zDc m 7 n 0 = m 3 0 n 6 := rfl
    have e6 : zDc m 6 n 0 = m 3 0 n 5 := rfl
    rw [e7, e6] at hst
    change (∀ (a : Nat) (j : Int), 2 ≤ a → j ≠ (n : Int) → zpN (zDc m) (n + 1) a j = _) ∧ _ at hst
    change _ ∧ zpN (zDc m) (n + 1) 2 n = _ ∧ ((_ ∧ ∀ (a : Nat) (j : Int), a ≠ 2 → zpN (zDc m) (n + 1) a j = _) ∨ (_ ∧ _ ∧ (∀ (a : Nat) (j : Int), a < 2 → zpN (zDc m) (n + 1) a j = _) ∧ zpN (zDc m) (n + 1) 5 n = _ ∧ _) ∨ (_ ∧ _ ∧ _ ∧ zpN (zDc m) (n + 1) 5 n = _ ∧ _ ∧ (∀ j : Int, zpN (zDc m) (n + 1) 1 j = _) ∧ (∀ j : Int, zpN (zDc m) (n + 1) 0 j = _)) ∨ (_ ∧ _ ∧ _ ∧ _ ∧ (∀ a : Nat, a ≠ 2 → a ≠ 6 → 2 ≤ a → zpN (zDc m) (n + 1) a n = _) ∧ (∀ (a : Nat) (j : Int), a < 2 → zpN (zDc m) (n + 1) a j = _))) at hst
    obtain ⟨h1, h2, h3⟩ := hst
    have hz5 : zpN (zDc m) n 5 n = 0 := ih1 5 n (by decide) (Int.le_refl _)
    -- the sum over what was there does not change
    have hsum : ∀ j : Int, zsum (n + 1) (fun k => if m 3 0 k 5 = j then (zpN (zDc m) (n + 1) 5 k * m 3 0 k 6 + 100 - 1) / 100 else 0) = zpN (zDc m) n 1 j + (if m 3 0 n 5 = j then (zpN (zDc m) (n + 1) 5 n * m 3 0 n 6 + 100 - 1) / 100 else 0) := by
      intro j
      rw [ih3 j]
      show zsum n _ + _ = _
      congr 1
      exact zsum_congr n (fun k k0 k1 => by rw [h1 5 k (by decide) (by omega)])
    have hrest : ∀ (a : Nat) (j : Int), 2 ≤ a → ((n + 1 : Nat) : Int) ≤ j → zpN (zDc m) (n + 1) a j = 0 := fun a j ha hj => by
      rw [h1 a j ha (by omega)]
      exact ih1 a j ha (by omega)
    refine ⟨hrest, ?_⟩
    rcases h3 with ⟨c1, h4⟩ | ⟨c1, c2, h4, h5, -⟩ | ⟨c1, c2, c3, h5, -, h6, h7⟩ | ⟨c1, c2, c3, -, h5, h4⟩
    · have e5 : zpN (zDc m) (n + 1) 5 n = 0 := by rw [h4 5 n (by decide), hz5]
      refine ⟨fun j => by rw [h4 0 j (by decide), h4 1 j (by decide)]; exact ih2 j, fun j => ?_, fun j => by rw [h4 0 j (by decide), h4 1 j (by decide)]; exact ih4 j⟩
      rw [hsum, e5, h4 1 j (by decide)]
      split <;> simp
    · have e5 : zpN (zDc m) (n + 1) 5 n = 0 := by rw [h5, hz5]
      refine ⟨fun j => by rw [h4 0 j (by decide), h4 1 j (by decide)]; exact ih2 j, fun j => ?_, fun j => by rw [h4 0 j (by decide), h4 1 j (by decide)]; exact ih4 j⟩
      rw [hsum, e5, h4 1 j (by decide)]
      split <;> simp
    · have hs := hsub c1
      have hmore : 0 ≤ (left * m 3 0 n 6 + 100 - 1) / 100 := Int.ediv_nonneg (by have := Int.mul_nonneg (show 0 ≤ left by omega) (show 0 ≤ m 3 0 n 6 by omega); omega) (by decide)
      refine ⟨fun j => ?_, fun j => ?_, fun j => ⟨?_, ?_⟩⟩
      · rw [h6, h7]
        have := ih2 j
        split <;> omega
      · rw [hsum, h5, h6]
        by_cases q : m 3 0 n 5 = j
        · rw [if_pos q, if_pos q.symm]
        · rw [if_neg q, if_neg (fun z => q z.symm)]; simp
      · rw [h6]
        have := (ih4 j).1
        split <;> omega
      · rw [h7]
        have := (ih4 j).2
        split
        · next q => rw [q]; exact c3.2
        · exact this
    · have e5 : zpN (zDc m) (n + 1) 5 n = 0 := by rw [h5 5 (by decide) (by decide) (by decide), hz5]
      refine ⟨fun j => by rw [h4 0 j (by decide), h4 1 j (by decide)]; exact ih2 j, fun j => ?_, fun j => by rw [h4 0 j (by decide), h4 1 j (by decide)]; exact ih4 j⟩
      rw [hsum, e5, h4 1 j (by decide)]
      split <;> simp
/-- later steps leave what earlier ones have found -/
theorem zpN_late {m : zM} (hp : zpc m) {i : Nat} : ∀ k : Nat, i + 1 + k ≤ 8 → (∀ a : Nat, 2 ≤ a → zpN (zDc m) (i + 1 + k) a i = zpN (zDc m) (i + 1) a i) ∧ (∀ a : Nat, a < 2 → zpN (zDc m) (i + 1 + k) a i = zpN (zDc m) i a i) := by
  have hone : ∀ n : Nat, i ≤ n → n < 8 → ∀ a : Nat, a < 2 → zpN (zDc m) (n + 1) a i = zpN (zDc m) n a i := by
    intro n hin hn a ha
    have hst := zps_at (zDc m) n (zpN (zDc m) n) _ _ _ rfl rfl rfl
    have hsub := fun h => zpN_sub hp (n := n) (by omega) rfl rfl h
    show zps (zDc m) n (zpN (zDc m) n) a i = _
    obtain ⟨-, -, h3⟩ := hst
    rcases h3 with ⟨c1, h4⟩ | ⟨c1, c2, h4, -⟩ | ⟨c1, c2, c3, h5, -, h6, h7⟩ | ⟨c1, c2, c3, -, -, h4⟩
    · exact h4 a i (by omega)
    · exact h4 a i ha
    · have hs := hsub c1
      have e6 : zDc m 6 n 0 = m 3 0 n 5 := rfl
      rw [e6] at c3
      rcases (show a = 0 ∨ a = 1 by omega) with rfl | rfl
      · rw [h7, e6, if_neg (by omega)]
      · rw [h6, e6, if_neg (by omega)]
    · exact h4 a i ha
  intro k
  induction k with
  | zero => intro h; exact ⟨fun a ha => rfl, fun a ha => hone i (Nat.le_refl _) (by omega) a ha⟩
  | succ k ih =>
    intro h
    obtain ⟨h1, h2⟩ := ih (by omega)
    refine ⟨fun a ha => ?_, fun a ha => ?_⟩
    · rw [← h1 a ha]
      have hst := (zps_at (zDc m) ((i + 1 + k : Nat) : Int) (zpN (zDc m) (i + 1 + k)) _ _ _ rfl rfl rfl).1 a i ha (by omega)
      exact hst
    · rw [← h2 a ha]
      exact hone (i + 1 + k) (by omega) (by omega) a ha
/-- what the plan of now says of an ingredient -/
def zPF (m : zM) (W : zPl) (i : Int) : Prop :=
  W 1 i = zsum i.toNat (fun k => if m 3 0 k 5 = i then (W 5 k * m 3 0 k 6 + 100 - 1) / 100 else 0) ∧
  W 0 i = zsum 4 (fun r => zscal m 0 r (m 17 0 r i)) + W 1 i ∧ 0 ≤ W 1 i ∧ (0 ≤ W 0 i ∧ W 0 i ≤ 100000) ∧ 0 ≤ zsum 30 (m 14 0 i) ∧
  W 2 i = (if zsum 30 (m 14 0 i) < W 0 i then zsum 30 (m 14 0 i) else W 0 i) ∧
  ((W 0 i - W 2 i ≤ 0 ∧ W 3 i = 0 ∧ W 4 i = 0 ∧ W 5 i = 0 ∧ W 6 i = 0 ∧ W 7 i = 0 ∧ W 8 i = 0 ∧ W 9 i = 0 ∧ W 10 i = 0) ∨
   (0 < W 0 i - W 2 i ∧ (m 3 0 i 1 ≠ 0 ∧ 0 < m 3 0 i 2) ∧ (W 8 i, W 9 i, W 10 i) = zbt (m 3 0 i 2) (m 12 0 i) (m 13 0 i) (W 0 i - W 2 i) ∧ W 3 i = W 8 i * m 12 0 i 0 + W 9 i * m 12 0 i 1 + W 10 i * m 12 0 i 2 ∧ W 4 i = W 3 i - (W 0 i - W 2 i) ∧ W 7 i = W 8 i * m 13 0 i 0 + W 9 i * m 13 0 i 1 + W 10 i * m 13 0 i 2 ∧ W 5 i = 0 ∧ W 6 i = 0) ∨
   (0 < W 0 i - W 2 i ∧ ¬ (m 3 0 i 1 ≠ 0 ∧ 0 < m 3 0 i 2) ∧ W 5 i = W 0 i - W 2 i ∧ 0 ≤ m 3 0 i 5 ∧ W 3 i = 0 ∧ W 4 i = 0 ∧ W 6 i = 0 ∧ W 7 i = 0 ∧ W 8 i = 0 ∧ W 9 i = 0 ∧ W 10 i = 0) ∨
   (0 < W 0 i - W 2 i ∧ ¬ (m 3 0 i 1 ≠ 0 ∧ 0 < m 3 0 i 2) ∧ W 6 i = W 0 i - W 2 i ∧ W 3 i = 0 ∧ W 4 i = 0 ∧ W 5 i = 0 ∧ W 7 i = 0 ∧ W 8 i = 0 ∧ W 9 i = 0 ∧ W 10 i = 0))
theorem zPF_of {m : zM} (hp : zpc m) {i : Nat} (hi : (i : Int) < m 2 0 0 4) : zPF m (zPl0 m) i := by
  have hi8 : i < 8 := by have := hp.2.1; omega
  have hl := zpN_late hp (i := i) (7 - i) (by omega)
  rw [show i + 1 + (7 - i) = 8 by omega] at hl
  have hW : ∀ a : Nat, 2 ≤ a → zPl0 m a i = zpN (zDc m) (i + 1) a i := fun a ha => hl.1 a ha
  have hV : ∀ a : Nat, a < 2 → zPl0 m a i = zpN (zDc m) i a i := fun a ha => hl.2 a ha
  have hW5 : ∀ k : Nat, k < i → zPl0 m 5 k = zpN (zDc m) i 5 k := by
    intro k hk
    have a1 := (zpN_late hp (i := k) (7 - k) (by omega)).1 5 (by decide)
    have a2 := (zpN_late hp (i := k) (i - 1 - k) (by omega)).1 5 (by decide)
    rw [show k + 1 + (7 - k) = 8 by omega] at a1
    rw [show k + 1 + (i - 1 - k) = i by omega] at a2
    rw [zPl0, a1, a2]
  obtain ⟨r1, r2, r3, r4⟩ := zpN_rows hp i (by omega)
  have hst := zps_at (zDc m) i (zpN (zDc m) i) _ _ _ rfl rfl rfl
  have e0 : zDc m 0 i 0 = zsum 4 (fun r => zscal m 0 r (m 17 0 r i)) := by
    simp only [zDc]
    rw [if_pos ⟨by omega, hi, by omega⟩]
  have hz : ∀ a : Nat, 2 ≤ a → zpN (zDc m) i a i = 0 := fun a ha => r1 a i ha (Int.le_refl _)
  obtain ⟨-, h2, h3⟩ := hst
  have e2 : zPl0 m 2 i = (if zDc m 1 i 0 < zpN (zDc m) i 0 i then zDc m 1 i 0 else zpN (zDc m) i 0 i) := by rw [hW 2 (by decide)]; exact h2
  have el : zpN (zDc m) i 0 i - (if zDc m 1 i 0 < zpN (zDc m) i 0 i then zDc m 1 i 0 else zpN (zDc m) i 0 i) = zPl0 m 0 i - zPl0 m 2 i := by rw [e2, hV 0 (by decide)]
  rw [el] at h3
  have d0 := zD0_bd hp i
  have q4 := r4 i
  have q2 := r2 i
  have hpan := zsum_le (f := m 14 0 i) (B := 12000000) 30 (fun j h0 h1 => (hp.2.2 i (by omega) (by omega)).2.1 j h0 (by omega))
  refine ⟨?_, ?_, ?_, ?_, hpan.1, ?_, ?_⟩
  · rw [hV 1 (by decide), r3 i, Int.toNat_natCast]
    refine zsum_congr i (fun k k0 k1 => ?_)
    obtain ⟨k2, rfl⟩ := Int.eq_ofNat_of_zero_le k0
    rw [hW5 k2 (by omega)]
  · rw [hV 0 (by decide), hV 1 (by decide), r2 i, e0]
  · rw [hV 1 (by decide)]; exact q4.1
  · rw [hV 0 (by decide)]; omega
  · rw [e2, hV 0 (by decide)]; rfl
  · rcases h3 with ⟨c1, h4⟩ | ⟨c1, c2, h4, h5, h6, h7, h8, h9, h10, h11, h12⟩ | ⟨c1, c2, c3, h5, h6, -⟩ | ⟨c1, c2, c3, h5, h6, -⟩
    · have g : ∀ a : Nat, 2 < a → zPl0 m a i = 0 := fun a ha => by
        rw [hW a (by omega)]
        exact (h4 a i (by omega)).trans (hz a (by omega))
      exact Or.inl ⟨c1, g 3 (by decide), g 4 (by decide), g 5 (by decide), g 6 (by decide), g 7 (by decide), g 8 (by decide), g 9 (by decide), g 10 (by decide)⟩
    · right; left
      have f3 : zPl0 m 3 i = _ := (hW 3 (by decide)).trans h7
      have f4 : zPl0 m 4 i = _ := (hW 4 (by decide)).trans h8
      have f7 : zPl0 m 7 i = _ := (hW 7 (by decide)).trans h9
      have f8 : zPl0 m 8 i = _ := (hW 8 (by decide)).trans h10
      have f9 : zPl0 m 9 i = _ := (hW 9 (by decide)).trans h11
      have f10 : zPl0 m 10 i = _ := (hW 10 (by decide)).trans h12
      refine ⟨c1, c2, ?_, ?_, ?_, ?_, ?_, ?_⟩
      · rw [f8, f9, f10]; rfl
      · rw [f3, f8, f9, f10]; rfl
      · rw [f4, f3]
      · rw [f7, f8, f9, f10]; rfl
      · exact (hW 5 (by decide)).trans (h5.trans (hz 5 (by decide)))
      · exact (hW 6 (by decide)).trans (h6.trans (hz 6 (by decide)))
    · right; right; left
      have g : ∀ a : Nat, a ≠ 2 → a ≠ 5 → 2 ≤ a → zPl0 m a i = 0 := fun a b1 b2 b3 => by
        rw [hW a b3]
        exact (h6 a b1 b2 b3).trans (hz a b3)
      exact ⟨c1, c2, (hW 5 (by decide)).trans h5, c3.1, g 3 (by decide) (by decide) (by decide), g 4 (by decide) (by decide) (by decide), g 6 (by decide) (by decide) (by decide), g 7 (by decide) (by decide) (by decide), g 8 (by decide) (by decide) (by decide), g 9 (by decide) (by decide) (by decide), g 10 (by decide) (by decide) (by decide)⟩
    · right; right; right
      have g : ∀ a : Nat, a ≠ 2 → a ≠ 6 → 2 ≤ a → zPl0 m a i = 0 := fun a b1 b2 b3 => by
        rw [hW a b3]
        exact (h6 a b1 b2 b3).trans (hz a b3)
      exact ⟨c1, c2, (hW 6 (by decide)).trans h5, g 3 (by decide) (by decide) (by decide), g 4 (by decide) (by decide) (by decide), g 5 (by decide) (by decide) (by decide), g 7 (by decide) (by decide) (by decide), g 8 (by decide) (by decide) (by decide), g 9 (by decide) (by decide) (by decide), g 10 (by decide) (by decide) (by decide)⟩
/-- nothing of what is no ingredient -/
theorem zPl0_out {m : zM} (hp : zpc m) {a : Nat} {i : Int} (h0 : 0 ≤ i) (h1 : m 2 0 0 4 ≤ i) (h2 : i < 8) : zPl0 m a i = 0 := by
  obtain ⟨n, rfl⟩ := Int.eq_ofNat_of_zero_le h0
  have hl := zpN_late hp (i := n) (7 - n) (by omega)
  rw [show n + 1 + (7 - n) = 8 by omega] at hl
  obtain ⟨r1, r2, r3, r4⟩ := zpN_rows hp n (by omega)
  have hz := zpN_z hp n (by omega) n h1
  by_cases ha : a < 2
  · rw [zPl0, hl.2 a ha]
    rcases (show a = 0 ∨ a = 1 by omega) with rfl | rfl
    · exact hz
    · have d0 := zD0_bd hp n
      have := r2 n
      have := (r4 n).1
      omega
  · rw [zPl0, hl.1 a (by omega)]
    obtain ⟨-, h4, h3⟩ := zps_at (zDc m) n (zpN (zDc m) n) _ _ _ rfl rfl rfl
    have hI := hp.2.2 n (by omega) (by omega)
    have hpan := zsum_le (f := m 14 0 n) (B := 12000000) 30 (fun j h0 h1 => hI.2.1 j h0 (by omega))
    have e1 : zDc m 1 n 0 = zsum 30 (m 14 0 n) := rfl
    have efr : (if zDc m 1 n 0 < zpN (zDc m) n 0 n then zDc m 1 n 0 else zpN (zDc m) n 0 n) = 0 := by rw [hz, e1, if_neg (by omega)]
    rw [efr, hz] at h3
    rw [efr] at h4
    by_cases ha2 : a = 2
    · subst ha2
      exact h4
    · rcases h3 with ⟨c1, h5⟩ | ⟨c1, -⟩ | ⟨c1, -⟩ | ⟨c1, -⟩
      · exact (h5 a n ha2).trans (r1 a n (by omega) (Int.le_refl _))
      · omega
      · omega
      · omega
