/-! THE SCHEDULE'S OWN FACTS -/
theorem lz_sum1 {f g : Int → Int} {q d : Int} (h0 : 0 ≤ q) (hq : f q + d = g q) : ∀ n : Nat, q < n → (∀ j : Int, 0 ≤ j → j < n → j ≠ q → f j = g j) → zsum n f + d = zsum n g
  | 0, h, _ => by omega
  | n + 1, h, he => by
    show zsum n f + f n + d = zsum n g + g n
    by_cases e : q = n
    · subst e
      rw [zsum_congr n (fun j j0 j1 => he j j0 (by omega) (by omega))]
      omega
    · have := lz_sum1 h0 hq n (by omega) (fun j j0 j1 z => he j j0 (by omega) z)
      rw [he n (by omega) (by omega) (by omega)]
      omega
theorem lz_sum_ge {f : Int → Int} {q : Int} (h0 : 0 ≤ q) : ∀ n : Nat, q < n → (∀ j : Int, 0 ≤ j → j < n → 0 ≤ f j) → f q ≤ zsum n f
  | 0, h, _ => by omega
  | n + 1, h, hp => by
    show f q ≤ zsum n f + f n
    by_cases e : q = n
    · subst e
      have : 0 ≤ zsum n f := by
        have := zsum_mono (f := fun _ => 0) (f' := f) n (fun j j0 j1 => hp j j0 (by omega))
        have z : ∀ n : Nat, zsum n (fun _ => (0 : Int)) = 0 := fun n => by
          induction n with
          | zero => rfl
          | succ n ih => show zsum n _ + 0 = 0; rw [ih]; rfl
        rw [z] at this
        exact this
      omega
    · have := lz_sum_ge h0 n (by omega) (fun j j0 j1 => hp j j0 (by omega))
      have := hp n (by omega) (by omega)
      omega
/-- the hands that steps have at a time -/
def lz_us (E : zE) (b : Int → Int) (τ : Int) : Int := zsum 32 (fun p => if E 0 p = 1 then (if b p ≠ -6 ∧ b p ≤ τ ∧ τ < b p + E 1 p then E 2 p else 0) else 0)
/-- what the greedy run leaves -/
def lz_S (E : zE) (h : Int) (b : Int → Int) : Prop :=
  (∀ p : Int, 0 ≤ p → p < 32 → b p = -6 ∨ (0 ≤ b p ∧ b p ≤ 160000 ∧ E 0 p = 1)) ∧
  (∀ p : Int, 0 ≤ p → p < 32 → b p ≠ -6 → ∀ k : Int, 0 ≤ k → k < 8 → zbit (E 3 p) k → b (p - p % 8 + k) ≠ -6 ∧ b (p - p % 8 + k) + E 1 (p - p % 8 + k) ≤ b p) ∧
  (∀ τ : Int, lz_us E b τ ≤ h) ∧
  (∀ p : Int, 0 ≤ p → p < 32 → b p ≠ -6 → b p = 0 ∨ (∃ k : Int, 0 ≤ k ∧ k < 8 ∧ zbit (E 3 p) k ∧ b p ≤ b (p - p % 8 + k) + E 1 (p - p % 8 + k)) ∨ h < E 2 p + lz_us E b (b p - 1)) ∧
  (∀ p : Int, 0 ≤ p → p < 32 → E 0 p = 1 → b p = -6 → h < E 2 p ∨ ∃ k : Int, 0 ≤ k ∧ k < 8 ∧ zbit (E 3 p) k ∧ b (p - p % 8 + k) = -6)
/-- a run on its way, ahead of the time t -/
def lz_I (E : zE) (h t : Int) (b : Int → Int) : Prop :=
  (0 ≤ t ∧ t ≤ 5000 * zcn E b t) ∧
  (∀ p : Int, 0 ≤ p → p < 32 → b p = -6 ∨ (0 ≤ b p ∧ b p < t ∧ E 0 p = 1)) ∧
  (∀ p : Int, 0 ≤ p → p < 32 → b p ≠ -6 → ∀ k : Int, 0 ≤ k → k < 8 → zbit (E 3 p) k → b (p - p % 8 + k) ≠ -6 ∧ b (p - p % 8 + k) + E 1 (p - p % 8 + k) ≤ b p) ∧
  (∀ τ : Int, τ < t → lz_us E b τ ≤ h) ∧
  (∀ p : Int, 0 ≤ p → p < 32 → b p ≠ -6 → b p = 0 ∨ (∃ k : Int, 0 ≤ k ∧ k < 8 ∧ zbit (E 3 p) k ∧ b p ≤ b (p - p % 8 + k) + E 1 (p - p % 8 + k)) ∨ h < E 2 p + lz_us E b (b p - 1)) ∧
  (∀ p : Int, 0 ≤ p → p < 32 → E 0 p = 1 → b p = -6 → t = 0 ∨ (∃ k : Int, 0 ≤ k ∧ k < 8 ∧ zbit (E 3 p) k ∧ (b (p - p % 8 + k) = -6 ∨ t ≤ b (p - p % 8 + k) + E 1 (p - p % 8 + k))) ∨ h < E 2 p + lz_us E b (t - 1))
theorem zbz_upd {E : zE} (hE : zEok E) {b : Int → Int} {q t : Int} (h0 : 0 ≤ q) (h1 : q < 32) (hon : E 0 q = 1) (hb : b q = -6) (ht : 0 ≤ t) : zbz E b t + E 2 q = zbz E (zupd b q t) t := by
  have hq := hE q h0 h1 hon
  have e1 : zupd b q t q = t := if_pos rfl
  refine lz_sum1 h0 ?_ 32 h1 (fun j j0 j1 jq => ?_)
  · show (if E 0 q = 1 then (if b q ≠ -6 ∧ t < b q + E 1 q then E 2 q else 0) else 0) + E 2 q = (if E 0 q = 1 then (if zupd b q t q ≠ -6 ∧ t < zupd b q t q + E 1 q then E 2 q else 0) else 0)
    rw [if_pos hon, if_pos hon, if_neg (by rw [hb]; omega), if_pos (by rw [e1]; omega)]
    omega
  · have e2 : zupd b q t j = b j := if_neg jq
    show (if E 0 j = 1 then (if b j ≠ -6 ∧ t < b j + E 1 j then E 2 j else 0) else 0) = (if E 0 j = 1 then (if zupd b q t j ≠ -6 ∧ t < zupd b q t j + E 1 j then E 2 j else 0) else 0)
    rw [e2]
theorem zbz_nn {E : zE} (hE : zEok E) {b : Int → Int} {t : Int} : 0 ≤ zbz E b t := by
  have := zsum_le (f := fun p => if E 0 p = 1 then (if b p ≠ -6 ∧ t < b p + E 1 p then E 2 p else 0) else 0) (B := 3) 32 (fun j j0 j1 => by
    split
    · next c =>
      have := hE j j0 (by omega) c
      split <;> omega
    · omega)
  exact this.1
/-- what a greedy turn does -/
theorem lz_Gr {E : zE} (hE : zEok E) {t : Int} (ht : 0 ≤ t) : ∀ (n : Nat) (f : Int) (b b1 : Int → Int), 0 ≤ f → (∀ p : Int, 0 ≤ p → p < 32 → b p ≤ t) → zGr E t n f b b1 →
    (∀ p : Int, b1 p = b p ∨ (b p = -6 ∧ b1 p = t ∧ (0 ≤ p ∧ p < 32) ∧ E 0 p = 1 ∧ zrdy E b p t)) ∧ zbz E b1 t ≤ f + zbz E b t ∧ ∀ q : Int, ¬ zcnd E t (f + zbz E b t - zbz E b1 t) b1 q
  | 0, f, b, b1, hf, hbt, h => by
    obtain ⟨h1, rfl⟩ := h
    refine ⟨fun p => Or.inl rfl, by omega, fun q => ?_⟩
    rw [show f + zbz E b1 t - zbz E b1 t = f by omega]
    exact h1 q
  | n + 1, f, b, b1, hf, hbt, h => by
    obtain ⟨q, ⟨hq, hon, hb, hle, hrd⟩, -, hr⟩ := h
    have hup := zbz_upd hE hq.1 hq.2 hon hb ht
    obtain ⟨a1, a2, a3⟩ := lz_Gr hE ht n (f - E 2 q) (zupd b q t) b1 (by omega) (fun p p0 p1 => by
      show (if p = q then t else b p) ≤ t
      split
      · omega
      · exact hbt p p0 p1) hr
    refine ⟨fun p => ?_, by omega, ?_⟩
    · rcases a1 p with e | ⟨e1, e2, e3, e4, e5⟩
      · by_cases c : p = q
        · subst c
          right
          refine ⟨hb, ?_, hq, hon, hrd⟩
          rw [e]
          simp [zupd]
        · left
          rw [e]
          simp [zupd, c]
      · have c : p ≠ q := fun z => by
          subst z
          simp [zupd] at e1
          omega
        right
        refine ⟨by simpa [zupd, c] using e1, e2, e3, e4, fun k k0 k1 kb => ?_⟩
        have h5 := e5 k k0 k1 kb
        have hk := (hE p e3.1 e3.2 e4).2.2.1 k k0 k1 kb
        have hd := hE (p - p % 8 + k) (by omega) (by omega) hk.2
        have ck : p - p % 8 + k ≠ q := fun z => by
          rw [z] at h5 hd
          simp only [zupd, if_true] at h5
          omega
        simpa [zupd, ck] using h5
    · rw [show f - E 2 q + zbz E (zupd b q t) t - zbz E b1 t = f + zbz E b t - zbz E b1 t by omega] at a3
      exact a3
theorem lz_us_old {E : zE} {b b1 : Int → Int} {t τ : Int} (hτ : τ < t) (h : ∀ p : Int, 0 ≤ p → p < 32 → b1 p = b p ∨ (b p = -6 ∧ b1 p = t)) : lz_us E b1 τ = lz_us E b τ := by
  unfold lz_us
  refine zsum_congr 32 (fun p p0 p1 => ?_)
  rcases h p p0 (by omega) with e | ⟨e1, e2⟩
  · rw [e]
  · rw [e1, e2]
    rw [if_neg (show ¬ (t ≠ -6 ∧ t ≤ τ ∧ τ < t + E 1 p) by omega), if_neg (show ¬ ((-6 : Int) ≠ -6 ∧ (-6 : Int) ≤ τ ∧ τ < -6 + E 1 p) by omega)]
theorem lz_us_now {E : zE} {b : Int → Int} {t τ r : Int} (h0 : t ≤ τ) (h1 : τ < r) (hb : ∀ p : Int, 0 ≤ p → p < 32 → b p ≤ t) (hr : ∀ p : Int, 0 ≤ p → p < 32 → E 0 p = 1 → b p ≠ -6 → t < b p + E 1 p → r ≤ b p + E 1 p) : lz_us E b τ = zbz E b t := by
  unfold lz_us zbz
  refine zsum_congr 32 (fun p p0 p1 => ?_)
  by_cases c : E 0 p = 1
  · rw [if_pos c, if_pos c]
    have := hb p p0 (by omega)
    by_cases d : b p ≠ -6 ∧ t < b p + E 1 p
    · have := hr p p0 (by omega) c d.1 d.2
      rw [if_pos d, if_pos (by omega)]
    · rw [if_neg d, if_neg (by omega)]
  · rw [if_neg c, if_neg c]
theorem lz_us_le {E : zE} (hE : zEok E) {b : Int → Int} {t : Int} (hb : ∀ p : Int, 0 ≤ p → p < 32 → b p < t) : zbz E b t ≤ lz_us E b (t - 1) := by
  unfold lz_us zbz
  refine zsum_mono 32 (fun p p0 p1 => ?_)
  by_cases c : E 0 p = 1
  · rw [if_pos c, if_pos c]
    have h2 := hE p p0 (by omega) c
    have := hb p p0 (by omega)
    by_cases d : b p ≠ -6 ∧ t < b p + E 1 p
    · rw [if_pos d, if_pos (by omega)]; exact Int.le_refl _
    · rw [if_neg d]
      split <;> omega
  · rw [if_neg c, if_neg c]; exact Int.le_refl _
/-- of some steps one is ahead -/
theorem lz_ahd {E : zE} (P : Int → Prop) : ∀ n : Nat, (∃ q : Int, 0 ≤ q ∧ q < n ∧ P q) → ∃ q : Int, 0 ≤ q ∧ q < n ∧ P q ∧ ∀ r : Int, 0 ≤ r → r < n → P r → r ≠ q → zahd E q r
  | 0, ⟨q, h0, h1, _⟩ => by omega
  | n + 1, h => by
    by_cases c : ∃ q : Int, 0 ≤ q ∧ q < n ∧ P q
    · obtain ⟨q, q0, q1, q2, q3⟩ := lz_ahd (E := E) P n c
      by_cases d : P n ∧ E 4 q < E 4 n
      · refine ⟨n, by omega, by omega, d.1, fun r r0 r1 r2 r3 => ?_⟩
        by_cases e : r = q
        · subst e; exact Or.inl d.2
        · have := q3 r r0 (by omega) r2 e
          unfold zahd at *
          omega
      · refine ⟨q, q0, by omega, q2, fun r r0 r1 r2 r3 => ?_⟩
        by_cases e : r = n
        · subst e
          have : ¬ E 4 q < E 4 n := fun z => d ⟨r2, z⟩
          unfold zahd
          omega
        · exact q3 r r0 (by omega) r2 r3
    · obtain ⟨q, q0, q1, q2⟩ := h
      have e : q = n := by
        apply Classical.byContradiction
        intro z
        exact c ⟨q, q0, by omega, q2⟩
      subst e
      exact ⟨n, q0, q1, q2, fun r r0 r1 r2 r3 => absurd ⟨r, r0, by omega, r2⟩ c⟩
theorem lz_Gr_ex {E : zE} {t : Int} (ht : 0 ≤ t) : ∀ (N : Nat) (f : Int) (b : Int → Int), zsum 32 (fun p => if b p = -6 then 1 else 0) ≤ N → ∃ (n : Nat) (b1 : Int → Int), zGr E t n f b b1 := by
  intro N
  induction N with
  | zero =>
    intro f b hN
    refine ⟨0, b, fun q hq => ?_, rfl⟩
    obtain ⟨⟨h0, h1⟩, -, hb, -⟩ := hq
    have := lz_sum_ge (f := fun p => if b p = -6 then (1 : Int) else 0) h0 32 h1 (fun j j0 j1 => by split <;> omega)
    simp only [hb, if_true] at this
    omega
  | succ N ih =>
    intro f b hN
    by_cases c : ∃ q : Int, 0 ≤ q ∧ q < ((32 : Nat) : Int) ∧ zcnd E t f b q
    · obtain ⟨q, q0, q1, q2, q3⟩ := lz_ahd (E := E) (zcnd E t f b) 32 c
      have hs := lz_sum1 (f := fun p => if zupd b q t p = -6 then (1 : Int) else 0) (g := fun p => if b p = -6 then (1 : Int) else 0) (q := q) (d := 1) q0 (by
        simp only [zupd, q2.2.2.1, if_true]
        rw [if_neg (by omega)]
        rfl) 32 q1 (fun j j0 j1 jq => by simp only [zupd, if_neg jq])
      obtain ⟨n, b1, h⟩ := ih (f - E 2 q) (zupd b q t) (by omega)
      exact ⟨n + 1, b1, q, q2, fun r hr rq => q3 r hr.1.1 hr.1.2 hr rq, h⟩
    · exact ⟨0, b, fun q hq => c ⟨q, hq.1.1, hq.1.2, hq⟩, rfl⟩
theorem lz_nE_ex {E : zE} {b : Int → Int} {t : Int} : ∃ r : Int, znE E b t r := by
  by_cases c : ∃ p : Int, 0 ≤ p ∧ p < 32 ∧ E 0 p = 1 ∧ b p ≠ -6 ∧ t < b p + E 1 p
  · obtain ⟨p, ⟨p0, p1, p2, p3, p4⟩, hm⟩ := zmin1 (fun p : Int => 0 ≤ p ∧ p < 32 ∧ E 0 p = 1 ∧ b p ≠ -6 ∧ t < b p + E 1 p) (fun p => b p + E 1 p - t) c (fun p hp => by have := hp.2.2.2.2; omega)
    exact ⟨b p + E 1 p, Or.inr ⟨p4, ⟨p, p0, p1, p2, p3, rfl⟩, fun q q0 q1 q2 q3 q4 => by have := hm q ⟨q0, q1, q2, q3, q4⟩; omega⟩⟩
  · refine ⟨-6, Or.inl ⟨rfl, fun p p0 p1 p2 p3 => ?_⟩⟩
    apply Classical.byContradiction
    intro z
    exact c ⟨p, p0, p1, p2, p3, by omega⟩
theorem lz_step {E : zE} (hE : zEok E) {h t : Int} {b : Int → Int} (hI : lz_I E h t b) : ∃ (n : Nat) (b1 : Int → Int) (r : Int), zGr E t n (h - zbz E b t) b b1 ∧ znE E b1 t r ∧ ((r = -6 ∧ lz_S E h b1) ∨ (r ≠ -6 ∧ lz_I E h r b1 ∧ zcn E b t < zcn E b1 r)) := by
  obtain ⟨⟨t0, tz⟩, i1, i2, i3, i4, i5⟩ := hI
  have hbt : ∀ p : Int, 0 ≤ p → p < 32 → b p < t := fun p p0 p1 => by have := i1 p p0 p1; omega
  have hz : zbz E b t ≤ h := Int.le_trans (lz_us_le hE hbt) (i3 (t - 1) (by omega))
  obtain ⟨n, b1, hg⟩ := lz_Gr_ex (E := E) t0 32 (h - zbz E b t) b (by
    have := zsum_le (f := fun p => if b p = -6 then (1 : Int) else 0) (B := 1) 32 (fun j j0 j1 => by split <;> omega)
    omega)
  obtain ⟨g1, g2, g3⟩ := lz_Gr hE t0 n _ b b1 (by omega) (fun p p0 p1 => Int.le_of_lt (hbt p p0 p1)) hg
  rw [show h - zbz E b t + zbz E b t = h by omega] at g2 g3
  obtain ⟨r, hr⟩ := lz_nE_ex (E := E) (b := b1) (t := t)
  have ch : ∀ p : Int, 0 ≤ p → p < 32 → b1 p = b p ∨ (b p = -6 ∧ b1 p = t) := fun p p0 p1 => by
    rcases g1 p with e | ⟨e1, e2, -⟩
    · exact Or.inl e
    · exact Or.inr ⟨e1, e2⟩
  have old : ∀ p : Int, 0 ≤ p → p < 32 → b p ≠ -6 → b1 p = b p := fun p p0 p1 q => by
    rcases ch p p0 p1 with e | ⟨e1, -⟩
    · exact e
    · exact absurd e1 q
  have B1 : ∀ p : Int, 0 ≤ p → p < 32 → b1 p = -6 ∨ (0 ≤ b1 p ∧ b1 p ≤ t ∧ E 0 p = 1) := fun p p0 p1 => by
    rcases g1 p with e | ⟨e1, e2, e3, e4, -⟩
    · rw [e]
      have := i1 p p0 p1
      omega
    · exact Or.inr ⟨by omega, by omega, e4⟩
  have B2 : ∀ p : Int, 0 ≤ p → p < 32 → b1 p ≠ -6 → ∀ k : Int, 0 ≤ k → k < 8 → zbit (E 3 p) k → b1 (p - p % 8 + k) ≠ -6 ∧ b1 (p - p % 8 + k) + E 1 (p - p % 8 + k) ≤ b1 p := fun p p0 p1 pb k k0 k1 kb => by
    rcases g1 p with e | ⟨e1, e2, e3, e4, e5⟩
    · rw [e] at pb ⊢
      have h2 := i2 p p0 p1 pb k k0 k1 kb
      rw [old _ (by omega) (by omega) h2.1]
      exact h2
    · have h2 := e5 k k0 k1 kb
      rw [old _ (by omega) (by omega) h2.1, e2]
      exact h2
  have U : ∀ τ : Int, τ < t → lz_us E b1 τ = lz_us E b τ := fun τ hτ => lz_us_old hτ ch
  have B4 : ∀ p : Int, 0 ≤ p → p < 32 → b1 p ≠ -6 → b1 p = 0 ∨ (∃ k : Int, 0 ≤ k ∧ k < 8 ∧ zbit (E 3 p) k ∧ b1 p ≤ b1 (p - p % 8 + k) + E 1 (p - p % 8 + k)) ∨ h < E 2 p + lz_us E b1 (b1 p - 1) := fun p p0 p1 pb => by
    rcases g1 p with e | ⟨e1, e2, e3, e4, e5⟩
    · rw [e] at pb ⊢
      have hlt := hbt p p0 p1
      rcases i4 p p0 p1 pb with h1 | ⟨k, k0, k1, kb, h1⟩ | h1
      · exact Or.inl h1
      · have h2 := i2 p p0 p1 pb k k0 k1 kb
        exact Or.inr (Or.inl ⟨k, k0, k1, kb, by rw [old _ (by omega) (by omega) h2.1]; exact h1⟩)
      · exact Or.inr (Or.inr (by rw [U _ (by omega)]; exact h1))
    · rw [e2]
      rcases i5 p p0 p1 e4 e1 with h1 | ⟨k, k0, k1, kb, h1⟩ | h1
      · exact Or.inl h1
      · have h2 := e5 k k0 k1 kb
        exact Or.inr (Or.inl ⟨k, k0, k1, kb, by rw [old _ (by omega) (by omega) h2.1]; omega⟩)
      · exact Or.inr (Or.inr (by rw [U _ (by omega)]; exact h1))
  -- who has not begun
  have N : ∀ p : Int, 0 ≤ p → p < 32 → E 0 p = 1 → b1 p = -6 → h - zbz E b1 t < E 2 p ∨ ∃ k : Int, 0 ≤ k ∧ k < 8 ∧ zbit (E 3 p) k ∧ (b1 (p - p % 8 + k) = -6 ∨ (b1 (p - p % 8 + k) ≠ -6 ∧ E 0 (p - p % 8 + k) = 1 ∧ t < b1 (p - p % 8 + k) + E 1 (p - p % 8 + k))) := fun p p0 p1 pon pb => by
    apply Classical.byContradiction
    intro z
    refine g3 p ⟨⟨p0, p1⟩, pon, pb, ?_, fun k k0 k1 kb => ?_⟩
    · apply Classical.byContradiction
      intro z2
      exact z (Or.inl (by omega))
    · have hk := (hE p p0 p1 pon).2.2.1 k k0 k1 kb
      apply Classical.byContradiction
      intro z2
      refine z (Or.inr ⟨k, k0, k1, kb, ?_⟩)
      by_cases c : b1 (p - p % 8 + k) = -6
      · exact Or.inl c
      · exact Or.inr ⟨c, hk.2, by
          apply Classical.byContradiction
          intro z3
          exact z2 ⟨c, by omega⟩⟩
  have hcn := zcn_le (E := E) (b := b) (t := t)
  have B1t : ∀ p : Int, 0 ≤ p → p < 32 → b1 p ≤ t := fun p p0 p1 => by have := B1 p p0 p1; omega
  refine ⟨n, b1, r, hg, hr, ?_⟩
  by_cases c : r = -6
  · left
    have hall : ∀ p : Int, 0 ≤ p → p < 32 → E 0 p = 1 → b1 p ≠ -6 → b1 p + E 1 p ≤ t := by
      rcases hr with ⟨-, h1⟩ | ⟨h1, -⟩
      · exact h1
      · omega
    have hb0 : zbz E b1 t ≤ 0 := by
      have := zsum_le (f := fun p => if E 0 p = 1 then (if b1 p ≠ -6 ∧ t < b1 p + E 1 p then E 2 p else 0) else 0) (B := 0) 32 (fun p p0 p1 => by
        split
        · next q =>
          split
          · next q2 => have := hall p p0 (by omega) q q2.1; omega
          · omega
        · omega)
      have e : zbz E b1 t = zsum 32 (fun p => if E 0 p = 1 then (if b1 p ≠ -6 ∧ t < b1 p + E 1 p then E 2 p else 0) else 0) := rfl
      omega
    have hb1 := zbz_nn hE (b := b1) (t := t)
    refine ⟨c, fun p p0 p1 => ?_, B2, fun τ => ?_, B4, fun p p0 p1 pon pb => ?_⟩
    · have := B1 p p0 p1
      omega
    · by_cases q : τ < t
      · rw [U τ q]; exact i3 τ q
      · rw [lz_us_now (t := t) (r := τ + 1) (by omega) (by omega) B1t (fun p p0 p1 p2 p3 p4 => by have := hall p p0 p1 p2 p3; omega)]
        omega
    · rcases N p p0 p1 pon pb with h1 | ⟨k, k0, k1, kb, h1 | ⟨h1, h2, h3⟩⟩
      · exact Or.inl (by omega)
      · exact Or.inr ⟨k, k0, k1, kb, h1⟩
      · have := hall _ (by omega) (by omega) h2 h1
        omega
  · right
    have hup := zcn_up (fun j j0 j1 => ch j j0 j1) hr c
    have hcn1 := zcn_le (E := E) (b := b1) (t := r)
    rcases hr with ⟨h1, -⟩ | ⟨h1, ⟨q, q0, q1, q2, q3, q4⟩, h3⟩
    · exact absurd h1 c
    · have hq := hE q q0 q1 q2
      have hqt := B1t q q0 q1
      refine ⟨c, ⟨⟨by omega, by omega⟩, fun p p0 p1 => by have := B1 p p0 p1; omega, B2, fun τ hτ => ?_, B4, fun p p0 p1 pon pb => ?_⟩, hup⟩
      · by_cases d : τ < t
        · rw [U τ d]; exact i3 τ d
        · rw [lz_us_now (t := t) (r := r) (by omega) hτ B1t h3]
          exact g2
      · right
        rcases N p p0 p1 pon pb with h4 | ⟨k, k0, k1, kb, h4 | ⟨h4, h5, h6⟩⟩
        · right
          rw [lz_us_now (t := t) (r := r) (by omega) (by omega) B1t h3]
          omega
        · exact Or.inl ⟨k, k0, k1, kb, Or.inl h4⟩
        · exact Or.inl ⟨k, k0, k1, kb, Or.inr (h3 _ (by omega) (by omega) h5 h4 h6)⟩
/-- the run comes to its end, and what it leaves -/
theorem lz_run0 {E : zE} (hE : zEok E) {h : Int} : ∀ (N : Nat) (t : Int) (b : Int → Int), 32 - zcn E b t ≤ N → lz_I E h t b → ∃ (k : Nat) (b' : Int → Int) (last : Int), zRn E h k t b b' last ∧ lz_S E h b' := by
  intro N
  induction N with
  | zero =>
    intro t b hN hI
    obtain ⟨n, b1, r, hg, hr, ⟨c, hS⟩ | ⟨c, hI1, hlt⟩⟩ := lz_step hE hI
    · exact ⟨1, b1, t, ⟨b1, n, r, hg, hr, Or.inl ⟨c, rfl, rfl⟩⟩, hS⟩
    · have := zcn_le (E := E) (b := b1) (t := r)
      omega
  | succ N ih =>
    intro t b hN hI
    obtain ⟨n, b1, r, hg, hr, ⟨c, hS⟩ | ⟨c, hI1, hlt⟩⟩ := lz_step hE hI
    · exact ⟨1, b1, t, ⟨b1, n, r, hg, hr, Or.inl ⟨c, rfl, rfl⟩⟩, hS⟩
    · obtain ⟨k, b', last, h1, h2⟩ := ih r b1 (by omega) hI1
      exact ⟨k + 1, b', last, ⟨b1, n, r, hg, hr, Or.inr ⟨c, h1⟩⟩, h2⟩
theorem lz_Ed_ex {E : zE} {b : Int → Int} : ∃ r : Int, zEd E b r := by
  by_cases c : ∃ p : Int, 0 ≤ p ∧ p < 32 ∧ E 0 p = 1 ∧ b p = -6
  · exact ⟨-6, Or.inl ⟨rfl, c⟩⟩
  · obtain ⟨a1, a2, a3⟩ := zmxs_at (f := fun p => if E 0 p = 1 then b p + E 1 p else 0) 32
    refine ⟨_, Or.inr ⟨fun p p0 p1 p2 p3 => c ⟨p, p0, p1, p2, p3⟩, a3, fun p p0 p1 p2 => ?_, ?_⟩⟩
    · have := a1 p p0 p1
      rw [if_pos p2] at this
      exact this
    · rcases a2 with h | ⟨p, p0, p1, h⟩
      · exact Or.inl h
      · by_cases q : E 0 p = 1
        · rw [if_pos q] at h
          exact Or.inr ⟨p, p0, p1, q, h⟩
        · rw [if_neg q] at h
          exact Or.inl h.symm
theorem lz_run {E : zE} (hE : zEok E) {h : Int} (hh : 0 ≤ h) : lz_S E h (zrb E h) ∧ zEd E (zrb E h) (zre E h) := by
  have hI : lz_I E h 0 (fun _ => -6) := by
    have hc := zsum_le (f := fun p => if E 0 p = 1 ∧ (-6 : Int) ≠ -6 ∧ (-6 : Int) + E 1 p ≤ 0 then (1 : Int) else 0) (B := 1) 32 (fun j j0 j1 => by split <;> omega)
    have hc2 : 0 ≤ zcn E (fun _ => -6) 0 := hc.1
    refine ⟨⟨by decide, by omega⟩, fun p p0 p1 => Or.inl rfl, fun p p0 p1 q => absurd rfl q, fun τ hτ => ?_, fun p p0 p1 q => absurd rfl q, fun p p0 p1 p2 p3 => Or.inl rfl⟩
    have : lz_us E (fun _ => -6) τ ≤ 0 := by
      have := zsum_le (f := fun p => if E 0 p = 1 then (if (-6 : Int) ≠ -6 ∧ (-6 : Int) ≤ τ ∧ τ < -6 + E 1 p then E 2 p else 0) else 0) (B := 0) 32 (fun p p0 p1 => by
        split
        · rw [if_neg (by omega)]; omega
        · omega)
      have e : lz_us E (fun _ => -6) τ = zsum 32 (fun p => if E 0 p = 1 then (if (-6 : Int) ≠ -6 ∧ (-6 : Int) ≤ τ ∧ τ < -6 + E 1 p then E 2 p else 0) else 0) := rfl
      omega
    omega
  obtain ⟨k, b', last, h1, h2⟩ := lz_run0 hE 32 0 (fun _ => -6) (by
    have hc := zsum_le (f := fun p => if E 0 p = 1 ∧ (-6 : Int) ≠ -6 ∧ (-6 : Int) + E 1 p ≤ 0 then (1 : Int) else 0) (B := 1) 32 (fun j j0 j1 => by split <;> omega)
    have hc2 : 0 ≤ zcn E (fun _ => -6) 0 := hc.1
    omega) hI
  rw [zrb_eq h1]
  obtain ⟨r, hr⟩ := lz_Ed_ex (E := E) (b := b')
  rw [zre_eq ⟨k, b', last, h1, hr⟩]
  exact ⟨h2, hr⟩
