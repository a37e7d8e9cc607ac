/-! THE BEST TINS: that there are such, and what they bear -/
theorem zmin1 {α : Type} (P : α → Prop) (f : α → Int) (h : ∃ x, P x) (h0 : ∀ x, P x → 0 ≤ f x) : ∃ x, P x ∧ ∀ y, P y → f x ≤ f y := by
  have key : ∀ n : Nat, ∀ x, P x → (f x).toNat = n → ∃ x, P x ∧ ∀ y, P y → f x ≤ f y := by
    intro n
    induction n using Nat.strongRecOn with
    | _ n ih =>
      intro x hx hn
      by_cases q : ∃ y, P y ∧ f y < f x
      · obtain ⟨y, hy, hlt⟩ := q
        have := h0 x hx
        have := h0 y hy
        exact ih (f y).toNat (by omega) y hy rfl
      · refine ⟨x, hx, fun y hy => ?_⟩
        apply Classical.byContradiction
        intro z
        exact q ⟨y, hy, by omega⟩
  obtain ⟨x, hx⟩ := h
  exact key _ x hx rfl
theorem zfe_nn {n : Int} {sz pr : Int → Int} {w x0 x1 x2 : Int} (hs : ∀ k : Int, 0 ≤ k → k < n → 0 < sz k) (hp : ∀ k : Int, 0 ≤ k → k < n → 1 ≤ pr k) (h : zfe n sz w x0 x1 x2) : (0 ≤ x0 * pr 0 ∧ 0 ≤ x1 * pr 1 ∧ 0 ≤ x2 * pr 2) ∧ 0 ≤ x0 * sz 0 ∧ 0 ≤ x1 * sz 1 ∧ 0 ≤ x2 * sz 2 := by
  obtain ⟨a0, a1, a2, b0, b1, b2, -⟩ := h
  have key : ∀ (x : Int) (k : Int) (f : Int → Int), 0 ≤ x → 0 ≤ k → (x ≠ 0 → k < n) → (∀ k : Int, 0 ≤ k → k < n → 0 ≤ f k) → 0 ≤ x * f k := by
    intro x k f hx hk hn hf
    by_cases q : x = 0
    · rw [q, Int.zero_mul]; exact Int.le_refl _
    · exact Int.mul_nonneg hx (hf k hk (hn q))
  have hp2 : ∀ k : Int, 0 ≤ k → k < n → 0 ≤ pr k := fun k k0 k1 => by have := hp k k0 k1; omega
  have hs2 : ∀ k : Int, 0 ≤ k → k < n → 0 ≤ sz k := fun k k0 k1 => by have := hs k k0 k1; omega
  exact ⟨⟨key x0 0 pr a0 (by decide) b0 hp2, key x1 1 pr a1 (by decide) b1 hp2, key x2 2 pr a2 (by decide) b2 hp2⟩, key x0 0 sz a0 (by decide) b0 hs2, key x1 1 sz a1 (by decide) b1 hs2, key x2 2 sz a2 (by decide) b2 hs2⟩
theorem zBest_ex {n : Int} {sz pr : Int → Int} {w : Int} (hn : 0 < n) (hs : ∀ k : Int, 0 ≤ k → k < n → 0 < sz k) (hp : ∀ k : Int, 0 ≤ k → k < n → 1 ≤ pr k) : ∃ x : Int × Int × Int, zBest n sz pr w x.1 x.2.1 x.2.2 := by
  let P : Int × Int × Int → Prop := fun x => zfe n sz w x.1 x.2.1 x.2.2
  let K : Int × Int × Int → zK5 := fun x => zky sz pr x.1 x.2.1 x.2.2
  have hP : ∃ x, P x := by
    refine ⟨(if 0 < w then w else 0, 0, 0), ?_, Int.le_refl 0, Int.le_refl 0, fun _ => hn, fun q => absurd rfl q, fun q => absurd rfl q, ?_⟩
    · show 0 ≤ (if 0 < w then w else 0)
      split <;> omega
    · show w ≤ (if 0 < w then w else 0) * sz 0 + 0 * sz 1 + 0 * sz 2
      have h1 := hs 0 (by decide) hn
      split
      · next q =>
        have := Int.mul_le_mul_of_nonneg_left (show 1 ≤ sz 0 by omega) (show 0 ≤ w by omega)
        omega
      · simp; omega
  obtain ⟨x1, p1, m1⟩ := zmin1 P (fun x => (K x).1) hP (fun x hx => by have := zfe_nn hs hp hx; show 0 ≤ x.1 * pr 0 + x.2.1 * pr 1 + x.2.2 * pr 2; omega)
  obtain ⟨x2, p2, m2⟩ := zmin1 (fun x => P x ∧ (K x).1 = (K x1).1) (fun x => (K x).2.1) ⟨x1, p1, rfl⟩ (fun x hx => by have := zfe_nn hs hp hx.1; show 0 ≤ x.1 * sz 0 + x.2.1 * sz 1 + x.2.2 * sz 2; omega)
  obtain ⟨x3, p3, m3⟩ := zmin1 (fun x => (P x ∧ (K x).1 = (K x1).1) ∧ (K x).2.1 = (K x2).2.1) (fun x => (K x).2.2.1) ⟨x2, p2, rfl⟩ (fun x hx => by have := hx.1.1.1; have := hx.1.1.2.1; have := hx.1.1.2.2.1; show 0 ≤ x.1 + x.2.1 + x.2.2; omega)
  obtain ⟨x4, p4, m4⟩ := zmin1 (fun x => ((P x ∧ (K x).1 = (K x1).1) ∧ (K x).2.1 = (K x2).2.1) ∧ (K x).2.2.1 = (K x3).2.2.1) (fun x => (K x).2.2.2.1) ⟨x3, p3, rfl⟩ (fun x hx => hx.1.1.1.1)
  obtain ⟨x5, p5, m5⟩ := zmin1 (fun x => (((P x ∧ (K x).1 = (K x1).1) ∧ (K x).2.1 = (K x2).2.1) ∧ (K x).2.2.1 = (K x3).2.2.1) ∧ (K x).2.2.2.1 = (K x4).2.2.2.1) (fun x => (K x).2.2.2.2) ⟨x4, p4, rfl⟩ (fun x hx => hx.1.1.1.1.2.1)
  refine ⟨x5, p5.1.1.1.1, fun y0 y1 y2 hy hlt => ?_⟩
  have e1 := p5.1.1.1.2
  have e2 := p5.1.1.2
  have e3 := p5.1.2
  have e4 := p5.2
  have py : P (y0, y1, y2) := hy
  change zklt (K (y0, y1, y2)) (K x5) at hlt
  have a1 := m1 _ py
  rcases hlt with h | ⟨h1, h | ⟨h2, h | ⟨h3, h | ⟨h4, h⟩⟩⟩⟩
  · omega
  · have := m2 _ ⟨py, h1.trans e1⟩; omega
  · have := m3 _ ⟨⟨py, h1.trans e1⟩, h2.trans e2⟩; omega
  · have := m4 _ ⟨⟨⟨py, h1.trans e1⟩, h2.trans e2⟩, h3.trans e3⟩; omega
  · have := m5 _ ⟨⟨⟨⟨py, h1.trans e1⟩, h2.trans e2⟩, h3.trans e3⟩, h4.trans e4⟩; omega
theorem zbt_sp {n : Int} {sz pr : Int → Int} {w x0 x1 x2 : Int} (hn : 0 < n) (hs : ∀ k : Int, 0 ≤ k → k < n → 0 < sz k) (hp : ∀ k : Int, 0 ≤ k → k < n → 1 ≤ pr k) (h : (x0, x1, x2) = zbt n sz pr w) : zBest n sz pr w x0 x1 x2 := by
  have h2 := Classical.epsilon_spec (p := fun p : Int × Int × Int => zBest n sz pr w p.1 p.2.1 p.2.2) (zBest_ex hn hs hp)
  change zBest n sz pr w (zbt n sz pr w).1 (zbt n sz pr w).2.1 (zbt n sz pr w).2.2 at h2
  rw [← h] at h2
  exact h2
/-- how many tins of a kind -/
def zx3 (x0 x1 x2 : Int) (k : Int) : Int := if k = 0 then x0 else if k = 1 then x1 else x2
theorem zx3_0 {x0 x1 x2 : Int} : zx3 x0 x1 x2 0 = x0 := rfl
theorem zx3_1 {x0 x1 x2 : Int} : zx3 x0 x1 x2 1 = x1 := rfl
theorem zx3_2 {x0 x1 x2 : Int} : zx3 x0 x1 x2 2 = x2 := rfl
theorem zfe_x3 {n : Int} {sz : Int → Int} {w : Int} {x : Int → Int} : zfe n sz w (x 0) (x 1) (x 2) ↔ (∀ k : Int, 0 ≤ k → k < 3 → 0 ≤ x k ∧ (x k ≠ 0 → k < n)) ∧ w ≤ x 0 * sz 0 + x 1 * sz 1 + x 2 * sz 2 := by
  constructor
  · rintro ⟨a0, a1, a2, b0, b1, b2, c⟩
    refine ⟨fun k k0 k1 => ?_, c⟩
    rcases (show k = 0 ∨ k = 1 ∨ k = 2 by omega) with rfl | rfl | rfl
    · exact ⟨a0, b0⟩
    · exact ⟨a1, b1⟩
    · exact ⟨a2, b2⟩
  · rintro ⟨h, c⟩
    exact ⟨(h 0 (by decide) (by decide)).1, (h 1 (by decide) (by decide)).1, (h 2 (by decide) (by decide)).1, (h 0 (by decide) (by decide)).2, (h 1 (by decide) (by decide)).2, (h 2 (by decide) (by decide)).2, c⟩
/-- one place of three is another -/
def zmv (x : Int → Int) (a u : Int) : Int → Int := fun k => if k = a then x k + u else x k
theorem zmv1 {x f : Int → Int} {a u : Int} (a0 : 0 ≤ a) (a1 : a < 3) : zmv x a u 0 * f 0 + zmv x a u 1 * f 1 + zmv x a u 2 * f 2 = x 0 * f 0 + x 1 * f 1 + x 2 * f 2 + u * f a := by
  rcases (show a = 0 ∨ a = 1 ∨ a = 2 by omega) with rfl | rfl | rfl <;> simp [zmv] <;> rw [Int.add_mul] <;> omega
/-- what the law asks of the tins of an ingredient -/
def zTF (n : Int) (sz pr x : Int → Int) (W3 W4 W7 : Int) : Prop :=
  (∀ k : Int, 0 ≤ k → k < 3 → 0 ≤ x k ∧ (x k ≠ 0 → k < n)) ∧ (∀ k : Int, 0 ≤ k → k < n → 0 < x k → W4 < sz k) ∧ x 0 * pr 0 + x 1 * pr 1 + x 2 * pr 2 = W7 ∧ x 0 * sz 0 + x 1 * sz 1 + x 2 * sz 2 = W3 ∧
  (∀ a b u : Int, 0 ≤ a → a < n → 0 ≤ b → b < n → a ≠ b → 1 ≤ u → u ≤ x a → u * pr a ≤ zCe (u * sz a - W4) (sz b) * pr b) ∧
  (0 < W3 - W4 → ∀ a : Int, 0 ≤ a → a < n → W7 ≤ zCe (W3 - W4) (sz a) * pr a ∧ (zCe (W3 - W4) (sz a) * pr a = W7 → W3 ≤ zCe (W3 - W4) (sz a) * sz a)) ∧ (0 ≤ W4 ∧ W4 ≤ 2000) ∧ (0 ≤ W3 - W4 ∧ W3 - W4 ≤ 100000)
theorem zTF_best {n w : Int} {sz pr x : Int → Int} (hn : 0 < n ∧ n ≤ 3) (hw : 1 ≤ w ∧ w ≤ 100000) (hs : ∀ k : Int, 0 ≤ k → k < n → 0 < sz k ∧ sz k ≤ 2000) (hp : ∀ k : Int, 0 ≤ k → k < n → 1 ≤ pr k) (h : zBest n sz pr w (x 0) (x 1) (x 2)) :
    zTF n sz pr x (x 0 * sz 0 + x 1 * sz 1 + x 2 * sz 2) (x 0 * sz 0 + x 1 * sz 1 + x 2 * sz 2 - w) (x 0 * pr 0 + x 1 * pr 1 + x 2 * pr 2) := by
  have ho := zBest_over h hw.1 hs hp
  obtain ⟨hf, hall⟩ := h
  obtain ⟨h1, h2⟩ := zfe_x3.mp hf
  have one : ∀ k : Int, 0 ≤ k → k < n → 0 < x k → x 0 * sz 0 + x 1 * sz 1 + x 2 * sz 2 - w < sz k := by
    intro k k0 k1 k2
    apply Classical.byContradiction
    intro q
    have y := zfe_x3 (n := n) (sz := sz) (w := w) (x := zmv x k (-1))
    rw [zmv1 k0 (by omega)] at y
    refine hall _ _ _ (y.mpr ⟨fun j j0 j1 => ?_, by omega⟩) ?_
    · have := h1 j j0 j1
      show 0 ≤ (if j = k then x j + -1 else x j) ∧ ((if j = k then x j + -1 else x j) ≠ 0 → j < n)
      by_cases e : j = k
      · subst e; rw [if_pos rfl]; exact ⟨by omega, fun _ => k1⟩
      · simp only [if_neg e]; exact this
    · left
      have e := zmv1 (x := x) (f := pr) (a := k) (u := -1) k0 (by omega)
      have := hp k k0 k1
      show (_ : Int) < _
      simp only [zky]
      omega
  refine ⟨h1, one, rfl, rfl, fun a b u a0 a1 b0 b1 hab u0 u1 => ?_, fun hW a a0 a1 => ?_, by omega, by omega⟩
  · have sa := hs a a0 a1
    have sb := hs b b0 b1
    have hlt := one a a0 a1 (by omega)
    have hus : sz a ≤ u * sz a := by have := Int.mul_le_mul_of_nonneg_right u0 (show 0 ≤ sz a by omega); omega
    generalize hW4 : x 0 * sz 0 + x 1 * sz 1 + x 2 * sz 2 - w = W4 at *
    have hc := zCe_bd (a := u * sz a - W4) (b := sz b) (by omega) sb.1
    generalize zCe (u * sz a - W4) (sz b) = c at *
    apply Classical.byContradiction
    intro q
    have e1 : ∀ f : Int → Int, zmv (zmv x a (-u)) b c 0 * f 0 + zmv (zmv x a (-u)) b c 1 * f 1 + zmv (zmv x a (-u)) b c 2 * f 2 = x 0 * f 0 + x 1 * f 1 + x 2 * f 2 + -u * f a + c * f b := fun f => by
      rw [zmv1 b0 (by omega), zmv1 a0 (by omega)]
    have y := zfe_x3 (n := n) (sz := sz) (w := w) (x := zmv (zmv x a (-u)) b c)
    rw [e1 sz] at y
    refine hall _ _ _ (y.mpr ⟨fun j j0 j1 => ?_, by rw [Int.neg_mul]; omega⟩) ?_
    · have hj := h1 j j0 j1
      show 0 ≤ (if j = b then (if j = a then x j + -u else x j) + c else (if j = a then x j + -u else x j)) ∧ ((if j = b then (if j = a then x j + -u else x j) + c else (if j = a then x j + -u else x j)) ≠ 0 → j < n)
      by_cases eb : j = b
      · subst eb
        rw [if_pos rfl, if_neg (fun z => hab z.symm)]
        exact ⟨by omega, fun _ => b1⟩
      · rw [if_neg eb]
        by_cases ea : j = a
        · subst ea; rw [if_pos rfl]; exact ⟨by omega, fun _ => a1⟩
        · rw [if_neg ea]; exact hj
    · left
      have e := e1 pr
      rw [Int.neg_mul] at e
      show (_ : Int) < _
      simp only [zky]
      omega
  · have sa := hs a a0 a1
    rw [show x 0 * sz 0 + x 1 * sz 1 + x 2 * sz 2 - (x 0 * sz 0 + x 1 * sz 1 + x 2 * sz 2 - w) = w by omega]
    have hc := zCe_bd (a := w) (b := sz a) (by omega) sa.1
    generalize zCe w (sz a) = c at *
    have e1 : ∀ f : Int → Int, zmv (fun _ => 0) a c 0 * f 0 + zmv (fun _ => 0) a c 1 * f 1 + zmv (fun _ => 0) a c 2 * f 2 = c * f a := fun f => by
      rw [zmv1 a0 (by omega)]
      simp
    have y := zfe_x3 (n := n) (sz := sz) (w := w) (x := zmv (fun _ => 0) a c)
    rw [e1 sz] at y
    have hno := hall _ _ _ (y.mpr ⟨fun j j0 j1 => by
      show 0 ≤ (if j = a then 0 + c else 0) ∧ ((if j = a then 0 + c else 0) ≠ 0 → j < n)
      by_cases ea : j = a
      · subst ea; rw [if_pos rfl]; exact ⟨by omega, fun _ => a1⟩
      · rw [if_neg ea]; exact ⟨by decide, fun z => absurd rfl z⟩, by omega⟩)
    have ep := e1 pr
    have es := e1 sz
    simp only [zklt, zky] at hno
    rw [ep, es] at hno
    constructor
    · apply Classical.byContradiction
      intro q
      exact hno (Or.inl (by omega))
    · intro q
      apply Classical.byContradiction
      intro q2
      exact hno (Or.inr ⟨q, Or.inl (by omega)⟩)
theorem zTF_of {m : zM} {W : zPl} {i : Int} (hk : zkin m 0 i) (h : zPF m W i) : zTF (m 3 0 i 2) (m 12 0 i) (m 13 0 i) (zx3 (W 8 i) (W 9 i) (W 10 i)) (W 3 i) (W 4 i) (W 7 i) := by
  obtain ⟨-, -, -, h4, hpan, h5, h6⟩ := h
  obtain ⟨k1, k2, k3, -⟩ := hk
  have z : W 3 i = 0 → W 4 i = 0 → W 7 i = 0 → W 8 i = 0 → W 9 i = 0 → W 10 i = 0 → zTF (m 3 0 i 2) (m 12 0 i) (m 13 0 i) (zx3 (W 8 i) (W 9 i) (W 10 i)) (W 3 i) (W 4 i) (W 7 i) := by
    intro a3 a4 a7 a8 a9 a10
    have e : ∀ k : Int, zx3 (W 8 i) (W 9 i) (W 10 i) k = 0 := fun k => by
      unfold zx3
      rw [a8, a9, a10]
      split
      · rfl
      · split <;> rfl
    refine ⟨fun k k0 k1 => by rw [e]; exact ⟨by decide, fun z => absurd rfl z⟩, fun k k0 k1 z => by rw [e] at z; omega, ?_, ?_, fun a b u a0 a1 b0 b1 hab u0 u1 => by rw [e] at u1; omega, fun z => by omega, by omega, by omega⟩
    · rw [e, e, e, a7]; simp
    · rw [e, e, e, a3]; simp
  rcases h6 with ⟨-, a3, a4, a5, a6, a7, a8, a9, a10⟩ | ⟨c1, c2, c3, a3, a4, a7, -⟩ | ⟨-, -, -, -, a3, a4, a6, a7, a8, a9, a10⟩ | ⟨-, -, -, a3, a4, a5, a7, a8, a9, a10⟩
  · exact z a3 a4 a7 a8 a9 a10
  · have hB := zbt_sp c2.2 (fun k k0 k1 => by have := k2 k k0 k1; omega) (fun k k0 k1 => (k3 k k0 k1).1) c3
    have hw : 1 ≤ W 0 i - W 2 i ∧ W 0 i - W 2 i ≤ 100000 := by
      have : 0 ≤ W 2 i := by rw [h5]; split <;> omega
      omega
    have := zTF_best (x := zx3 (W 8 i) (W 9 i) (W 10 i)) ⟨c2.2, k1.2⟩ hw (fun k k0 k1 => by have := k2 k k0 k1; omega) (fun k k0 k1 => (k3 k k0 k1).1) hB
    rw [zx3_0, zx3_1, zx3_2, ← a3, ← a4, ← a7] at this
    exact this
  · exact z a3 a4 a7 a8 a9 a10
  · exact z a3 a4 a7 a8 a9 a10
/-- a plan within its bounds -/
theorem zplb_Pl0 {m : zM} (hp : zpc m) : zplb (zPl0 m) := by
  intro j j0 j1
  by_cases hj : j < m 2 0 0 4
  · obtain ⟨n, rfl⟩ := Int.eq_ofNat_of_zero_le j0
    have hF := zPF_of hp (i := n) hj
    have hI := hp.2.2 n (by omega) (by omega)
    obtain ⟨t1, t2, t3, t4, t5, t6, t7, t8⟩ := zTF_of hI.1 hF
    obtain ⟨f1, f0, g1, g0, gp, f2, fc⟩ := hF
    have hW2 : 0 ≤ zPl0 m 2 n ∧ zPl0 m 2 n ≤ zPl0 m 0 n := by rw [f2]; split <;> omega
    have d4 : 0 ≤ zsum 4 (fun r => zscal m 0 r (m 17 0 r n)) := (zsum_le (B := 10020) 4 (fun r r0 r1 => zscal_le ((hp.1 r r0 (by omega)).2.2.2 n (by omega) (by omega)) (hp.1 r r0 (by omega)).1 (hp.1 r r0 (by omega)).2.1.2)).1
    have h7 : 0 ≤ zPl0 m 7 n ∧ zPl0 m 7 n ≤ 200000000 := by
      rcases fc with ⟨-, -, -, -, -, a7, -⟩ | ⟨c1, c2, c3, a3, a4, a7, -⟩ | ⟨-, -, -, -, -, -, -, a7, -⟩ | ⟨-, -, -, -, -, -, a7, -⟩
      · omega
      · have hn := (zfe_nn (n := m 3 0 n 2) (sz := m 12 0 n) (pr := m 13 0 n) (w := zPl0 m 0 n - zPl0 m 2 n) (fun k k0 k1 => by have := hI.1.2.1 k k0 k1; omega) (fun k k0 k1 => (hI.1.2.2.1 k k0 k1).1) (zbt_sp c2.2 (fun k k0 k1 => by have := hI.1.2.1 k k0 k1; omega) (fun k k0 k1 => (hI.1.2.2.1 k k0 k1).1) c3).1).1
        have h0 := t6 (by omega) 0 (by decide) c2.2
        have p0 := hI.1.2.2.1 0 (by decide) c2.2
        have s0 := hI.1.2.1 0 (by decide) c2.2
        have hc := zCe_bd (a := zPl0 m 3 n - zPl0 m 4 n) (b := m 12 0 n 0) (by omega) (by omega)
        have hm := zmulb (x := zCe (zPl0 m 3 n - zPl0 m 4 n) (m 12 0 n 0)) (y := m 13 0 n 0) (A := 102000) (B := 999) hc.1 (by omega) (by omega) p0.2
        omega
      · omega
      · omega
    have h6 : 0 ≤ zPl0 m 6 n := by
      rcases fc with ⟨-, -, -, -, a6, -⟩ | ⟨-, -, -, -, -, -, -, a6⟩ | ⟨-, -, -, -, -, -, a6, -⟩ | ⟨c1, -, a6, -⟩ <;> omega
    exact ⟨⟨by omega, g0.2⟩, ⟨g1, by omega⟩, ⟨by omega, by omega⟩, ⟨by omega, by omega⟩, t7, h6, h7, by omega⟩
  · have e : ∀ a : Nat, zPl0 m a j = 0 := fun a => zPl0_out hp j0 (by omega) j1
    rw [e, e, e, e, e, e, e]
    decide
theorem zki_cook2 {B : Int} {m : zM} (h : zInv B m) (hB : B ≤ 11900000) : zInv (B + 22000) (zk_cook m).2 ∧ zOt (zk_cook m).2 m := zki_cook h (zplb_Pl0 (zIS_pc (zInv0 h) (by omega))) hB
theorem zqc_cook {m2 m : zM} (h : zEqa m2 m) : zR2 (zk_cook m2) (zk_cook m) := by
  have e2 := zEqa_t h 2 (by omega)
  have e4 := zEqa_t h 4 (by omega)
  simp only [zk_cook, zhp, zPl0_a h, e2, e4]
  exact zR2_i (fun _ => zR2_r h) (fun _ => ⟨rfl, zEqa_empty (zEqa_set (zEqa_set (zEqa_carry (zEqa_recd h) 8)))⟩)
theorem cm_cook (l : Launch) (g : zG) {m0 m : zM} {B : Int} (hI : zInv B m0) (hB : B ≤ 11900000) (hQ : zQ m0 m) : zMet l g Y_X10_cook [zr 0 0 0] m (fun v m' => v = some (zi (zk_cook m0).1) ∧ zQ (zk_cook m0).2 m') :=
  zMet_mono (ct_X10_cook l g (zQ_inv hQ hI) hB) (fun v m' h => ⟨by rw [h.1, (zqc_cook hQ.1).1], by
    have h2 := zQ_mut hQ (zqc_cook hQ.1).2 (zki_cook2 (zQ_inv hQ hI) hB).2
    exact ⟨zEqa_tr (zEqa_1 h.2.1) h2.1, h.2.2, zsch_eq h.2.1 h2.2.2⟩⟩)
