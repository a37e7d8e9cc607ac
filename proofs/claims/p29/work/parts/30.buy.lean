/-- BUYING, in words of no program: so many tins of each kind weigh enough; the best of them -/
def zfe (n : Int) (sz : Int → Int) (w x0 x1 x2 : Int) : Prop := 0 ≤ x0 ∧ 0 ≤ x1 ∧ 0 ≤ x2 ∧ (x0 ≠ 0 → 0 < n) ∧ (x1 ≠ 0 → 1 < n) ∧ (x2 ≠ 0 → 2 < n) ∧ w ≤ x0 * sz 0 + x1 * sz 1 + x2 * sz 2
def zky (sz pr : Int → Int) (x0 x1 x2 : Int) : zK5 := (x0 * pr 0 + x1 * pr 1 + x2 * pr 2, x0 * sz 0 + x1 * sz 1 + x2 * sz 2, x0 + x1 + x2, x0, x1)
def zBest (n : Int) (sz pr : Int → Int) (w x0 x1 x2 : Int) : Prop := zfe n sz w x0 x1 x2 ∧ ∀ y0 y1 y2 : Int, zfe n sz w y0 y1 y2 → ¬ zklt (zky sz pr y0 y1 y2) (zky sz pr x0 x1 x2)
theorem zBest_uniq {n : Int} {sz pr : Int → Int} {w x0 x1 x2 y0 y1 y2 : Int} (hx : zBest n sz pr w x0 x1 x2) (hy : zBest n sz pr w y0 y1 y2) : x0 = y0 ∧ x1 = y1 ∧ x2 = y2 := by
  have h1 := hx.2 y0 y1 y2 hy.1
  have h2 := hy.2 x0 x1 x2 hx.1
  unfold zklt zky at h1 h2
  simp only at h1 h2
  omega
noncomputable def zbt (n : Int) (sz pr : Int → Int) (w : Int) : Int × Int × Int := Classical.epsilon (fun p : Int × Int × Int => zBest n sz pr w p.1 p.2.1 p.2.2)
theorem zbt_eq {n : Int} {sz pr : Int → Int} {w x0 x1 x2 : Int} (h : zBest n sz pr w x0 x1 x2) : zbt n sz pr w = (x0, x1, x2) := by
  have h2 := Classical.epsilon_spec (p := fun p : Int × Int × Int => zBest n sz pr w p.1 p.2.1 p.2.2) ⟨(x0, x1, x2), h⟩
  obtain ⟨e0, e1, e2⟩ := zBest_uniq h2 h
  show Classical.epsilon _ = _
  exact Prod.ext e0 (Prod.ext e1 e2)
/-- a size or price, 0 for a kind that there is not -/
theorem zperm {a b c : Int} (h : (0 ≤ a ∧ a < 3) ∧ (0 ≤ b ∧ b < 3) ∧ (0 ≤ c ∧ c < 3) ∧ a ≠ b ∧ a ≠ c ∧ b ≠ c) : (a = 0 ∧ b = 1 ∧ c = 2) ∨ (a = 0 ∧ b = 2 ∧ c = 1) ∨ (a = 1 ∧ b = 0 ∧ c = 2) ∨ (a = 1 ∧ b = 2 ∧ c = 0) ∨ (a = 2 ∧ b = 0 ∧ c = 1) ∨ (a = 2 ∧ b = 1 ∧ c = 0) := by omega
theorem zsum3 {R0 R1 R2 : Int} {x g h : Int → Int} (hR : (0 ≤ R0 ∧ R0 < 3) ∧ (0 ≤ R1 ∧ R1 < 3) ∧ (0 ≤ R2 ∧ R2 < 3) ∧ R0 ≠ R1 ∧ R0 ≠ R2 ∧ R1 ≠ R2) (hg : ∀ k : Int, 0 ≤ k → k < 3 → x k ≠ 0 → g k = h k) : x R0 * g R0 + x R1 * g R1 + x R2 * g R2 = x 0 * h 0 + x 1 * h 1 + x 2 * h 2 := by
  have key : ∀ k : Int, 0 ≤ k → k < 3 → x k * g k = x k * h k := by
    intro k h0 h1
    by_cases q : x k = 0
    · rw [q, Int.zero_mul, Int.zero_mul]
    · rw [hg k h0 h1 q]
  rw [key R0 hR.1.1 hR.1.2, key R1 hR.2.1.1 hR.2.1.2, key R2 hR.2.2.1.1 hR.2.2.1.2]
  rcases zperm hR with ⟨rfl, rfl, rfl⟩ | ⟨rfl, rfl, rfl⟩ | ⟨rfl, rfl, rfl⟩ | ⟨rfl, rfl, rfl⟩ | ⟨rfl, rfl, rfl⟩ | ⟨rfl, rfl, rfl⟩ <;> omega
theorem zvec_at {R0 R1 R2 f s t : Int} (hR : (0 ≤ R0 ∧ R0 < 3) ∧ (0 ≤ R1 ∧ R1 < 3) ∧ (0 ≤ R2 ∧ R2 < 3) ∧ R0 ≠ R1 ∧ R0 ≠ R2 ∧ R1 ≠ R2) : zvec R0 R1 f s t R0 = f ∧ zvec R0 R1 f s t R1 = s ∧ zvec R0 R1 f s t R2 = t := by
  unfold zvec
  refine ⟨by simp, ?_, ?_⟩
  · rw [if_neg (by omega), if_pos rfl]
  · rw [if_neg (by omega), if_neg (by omega)]
theorem zvec_of {R0 R1 R2 : Int} {y : Int → Int} (hR : (0 ≤ R0 ∧ R0 < 3) ∧ (0 ≤ R1 ∧ R1 < 3) ∧ (0 ≤ R2 ∧ R2 < 3) ∧ R0 ≠ R1 ∧ R0 ≠ R2 ∧ R1 ≠ R2) (k : Int) (h0 : 0 ≤ k) (h1 : k < 3) : zvec R0 R1 (y R0) (y R1) (y R2) k = y k := by
  unfold zvec
  by_cases e0 : k = R0
  · rw [if_pos e0, e0]
  · rw [if_neg e0]
    by_cases e1 : k = R1
    · rw [if_pos e1, e1]
    · rw [if_neg e1]
      have : k = R2 := by omega
      rw [this]
/-- rank makes ready for find -/
theorem zrk_pre {m m1 : zM} {s i w R0 R1 R2 : Int} (hk : zkin m s i) (hn : 0 < m 3 s i 2) (hr : zrkd m m1 s i R0 R1 R2) (hsea : zsea m1) (hw : 1 ≤ w ∧ w ≤ 100000) :
    zfpre m1 w R0 R1 R2 ∧ zhk m s i R0 ∧ (0 < m1 36 0 0 1 → zmost (m1 38 0 0 1) (m1 36 0 0 1) (m1 36 0 0 0) ∧ (m1 37 0 0 0 * m1 36 0 0 1 < m1 37 0 0 1 * m1 36 0 0 0 ∨ (m1 37 0 0 0 * m1 36 0 0 1 = m1 37 0 0 1 * m1 36 0 0 0 ∧ m1 36 0 0 1 < m1 36 0 0 0))) ∧
    (0 < m1 36 0 0 2 → 0 < m1 36 0 0 1 ∧ (zmost (m1 38 0 0 2) (m1 36 0 0 2) (m1 36 0 0 0) ∨ zmost (m1 38 0 0 2) (m1 36 0 0 2) (m1 36 0 0 1)) ∧ (m1 37 0 0 0 * m1 36 0 0 2 < m1 37 0 0 2 * m1 36 0 0 0 ∨ (m1 37 0 0 0 * m1 36 0 0 2 = m1 37 0 0 2 * m1 36 0 0 0 ∧ m1 36 0 0 2 < m1 36 0 0 0)) ∧ (m1 37 0 0 1 * m1 36 0 0 2 < m1 37 0 0 2 * m1 36 0 0 1 ∨ (m1 37 0 0 1 * m1 36 0 0 2 = m1 37 0 0 2 * m1 36 0 0 1 ∧ m1 36 0 0 2 < m1 36 0 0 1))) := by
  obtain ⟨⟨e0, e1, e2⟩, ⟨hR, ho1, ho2⟩, hJ⟩ := hr
  have j0 := hJ 0 (by decide) (by decide)
  have j1 := hJ 1 (by decide) (by decide)
  have j2 := hJ 2 (by decide) (by decide)
  rw [e0] at j0
  rw [e1] at j1
  rw [e2] at j2
  have h0 : zhk m s i R0 := by
    rcases Classical.em (zhk m s i R0) with h | h
    · exact h
    · exfalso
      have n1 : ¬ zhk m s i R1 := fun z => h (ho1 z).1
      have n2 : ¬ zhk m s i R2 := fun z => n1 (ho2 z).1
      unfold zhk at h n1 n2
      omega
  have f0 := j0.1 h0
  have s0 := hk.2.1 R0 h0.1 h0.2.1
  have p0 := hk.2.2.1 R0 h0.1 h0.2.1
  have sz : ∀ r, zhk m s i r → 0 < m 12 s i r ∧ m 12 s i r ≤ 2000 := fun r q => by have := hk.2.1 r q.1 q.2.1; omega
  have z1 : zhk m s i R1 → 0 ≤ m1 38 0 0 1 ∧ m1 38 0 0 1 ≤ 2000 ∧ zmost (m1 38 0 0 1) (m1 36 0 0 1) (m1 36 0 0 0) := fun q => by
    have f1 := j1.1 q
    have hp := zmo_prop (m := m1) (r := 1) (fun k k0 k1 => by
      rcases (show k = 0 ∨ k = 1 by omega) with rfl | rfl
      · rw [f0.1]; exact sz R0 h0
      · rw [f1.1]; exact sz R1 q) 1 (by decide)
    rw [show (1 : Int).toNat = 1 from rfl] at f1
    rw [f1.2.2]
    obtain ⟨k, k0, k1, k2⟩ := hp.2.2 (by decide)
    obtain rfl : k = 0 := by omega
    exact ⟨hp.1, hp.2.1, k2⟩
  have z2 : zhk m s i R2 → 0 ≤ m1 38 0 0 2 ∧ m1 38 0 0 2 ≤ 2000 ∧ (zmost (m1 38 0 0 2) (m1 36 0 0 2) (m1 36 0 0 0) ∨ zmost (m1 38 0 0 2) (m1 36 0 0 2) (m1 36 0 0 1)) := fun q => by
    have q1 := (ho2 q).1
    have f1 := j1.1 q1
    have f2 := j2.1 q
    have hp := zmo_prop (m := m1) (r := 2) (fun k k0 k1 => by
      rcases (show k = 0 ∨ k = 1 ∨ k = 2 by omega) with rfl | rfl | rfl
      · rw [f0.1]; exact sz R0 h0
      · rw [f1.1]; exact sz R1 q1
      · rw [f2.1]; exact sz R2 q) 2 (by decide)
    rw [show (2 : Int).toNat = 2 from rfl] at f2
    rw [f2.2.2]
    obtain ⟨k, k0, k1, k2⟩ := hp.2.2 (by decide)
    rcases (show k = 0 ∨ k = 1 by omega) with rfl | rfl
    · exact ⟨hp.1, hp.2.1, Or.inl k2⟩
    · exact ⟨hp.1, hp.2.1, Or.inr k2⟩
  have i1 : 0 < m1 36 0 0 1 → zhk m s i R1 := fun q => by
    rcases Classical.em (zhk m s i R1) with h | h
    · exact h
    · have := (j1.2 h).1; omega
  have i2 : 0 < m1 36 0 0 2 → zhk m s i R2 := fun q => by
    rcases Classical.em (zhk m s i R2) with h | h
    · exact h
    · have := (j2.2 h).1; omega
  refine ⟨⟨hsea, by rw [f0.1]; omega, by rw [f0.2.1]; omega, ?_, ?_, ?_, ?_, ?_, ?_, hw, ⟨e0, e1, e2⟩, hR⟩, h0, fun q => ?_, fun q => ?_⟩
  · rcases Classical.em (zhk m s i R1) with h | h
    · have := (ho1 h).2
      rw [f0.1, f0.2.1, (j1.1 h).1, (j1.1 h).2.1]
      unfold zcheap at this
      omega
    · rw [(j1.2 h).1, (j1.2 h).2.1]; omega
  · rcases Classical.em (zhk m s i R2) with h | h
    · have := (ho2 h).2.1
      rw [f0.1, f0.2.1, (j2.1 h).1, (j2.1 h).2.1]
      unfold zcheap at this
      omega
    · rw [(j2.2 h).1, (j2.2 h).2.1]; omega
  · rcases Classical.em (zhk m s i R1) with h | h
    · exact ⟨(z1 h).1, (z1 h).2.1⟩
    · rw [(j1.2 h).2.2]; omega
  · rcases Classical.em (zhk m s i R2) with h | h
    · exact ⟨(z2 h).1, (z2 h).2.1⟩
    · rw [(j2.2 h).2.2]; omega
  · intro q
    rcases Classical.em (zhk m s i R1) with h | h
    · rw [(j1.1 h).1]; exact (sz R1 h).1
    · exact absurd (j1.2 h).2.2 q
  · intro q
    rcases Classical.em (zhk m s i R2) with h | h
    · rw [(j2.1 h).1]; exact (sz R2 h).1
    · exact absurd (j2.2 h).2.2 q
  · have h := i1 q
    refine ⟨(z1 h).2.2, ?_⟩
    have := (ho1 h).2
    rw [f0.1, f0.2.1, (j1.1 h).1, (j1.1 h).2.1]
    exact this
  · have h := i2 q
    have h1 := (ho2 h).1
    refine ⟨by rw [(j1.1 h1).1]; exact (sz R1 h1).1, (z2 h).2.2, ?_, ?_⟩
    · have := (ho2 h).2.1
      rw [f0.1, f0.2.1, (j2.1 h).1, (j2.1 h).2.1]
      exact this
    · have := (ho2 h).2.2
      rw [(j1.1 h1).1, (j1.1 h1).2.1, (j2.1 h).1, (j2.1 h).2.1]
      exact this
/-- find finds the best -/
theorem zfind_best {m m1 m2 : zM} {s i w R0 R1 R2 : Int} (hk : zkin m s i) (hn : 0 < m 3 s i 2) (hr : zrkd m m1 s i R0 R1 R2) (hsea : zsea m1) (hw : 1 ≤ w ∧ w ≤ 100000) (hF : zFI m1 w R0 R1 (fun s t => s ≤ m1 38 0 0 1 ∧ t ≤ m1 38 0 0 2) m2) :
    ∃ x0 x1 x2 : Int, zBest (m 3 s i 2) (m 12 s i) (m 13 s i) w x0 x1 x2 ∧ m2 33 0 0 0 = x0 ∧ m2 33 0 0 1 = x1 ∧ m2 33 0 0 2 = x2 ∧ m2 9 0 0 0 = x0 * m 13 s i 0 + x1 * m 13 s i 1 + x2 * m 13 s i 2 ∧ m2 9 0 0 1 = x0 * m 12 s i 0 + x1 * m 12 s i 1 + x2 * m 12 s i 2 := by
  obtain ⟨hp, h0, o1, o2⟩ := zrk_pre hk hn hr hsea hw
  obtain ⟨⟨e0, e1, e2⟩, ⟨hR, ho1, ho2⟩, hJ⟩ := hr
  have j0 := hJ 0 (by decide) (by decide)
  have j1 := hJ 1 (by decide) (by decide)
  have j2 := hJ 2 (by decide) (by decide)
  rw [e0] at j0
  rw [e1] at j1
  rw [e2] at j2
  -- sizes and prices by kind
  have gS : ∃ gs : Int → Int, m1 36 0 0 0 = gs R0 ∧ m1 36 0 0 1 = gs R1 ∧ m1 36 0 0 2 = gs R2 ∧ ∀ k : Int, 0 ≤ k → k < 3 → (zhk m s i k → gs k = m 12 s i k) := by
    refine ⟨fun k => if k = R0 then m1 36 0 0 0 else if k = R1 then m1 36 0 0 1 else m1 36 0 0 2, by simp, ?_, ?_, ?_⟩
    · simp only; rw [if_neg (by omega)]; simp
    · simp only; rw [if_neg (by omega), if_neg (by omega)]
    · intro k k0 k1 q
      simp only
      by_cases q0 : k = R0
      · rw [if_pos q0]; subst q0; exact (j0.1 q).1
      · rw [if_neg q0]
        by_cases q1 : k = R1
        · rw [if_pos q1]; subst q1; exact (j1.1 q).1
        · rw [if_neg q1]
          have q2 : k = R2 := by omega
          subst q2; exact (j2.1 q).1
  have gP : ∃ gs : Int → Int, m1 37 0 0 0 = gs R0 ∧ m1 37 0 0 1 = gs R1 ∧ m1 37 0 0 2 = gs R2 ∧ ∀ k : Int, 0 ≤ k → k < 3 → (zhk m s i k → gs k = m 13 s i k) := by
    refine ⟨fun k => if k = R0 then m1 37 0 0 0 else if k = R1 then m1 37 0 0 1 else m1 37 0 0 2, by simp, ?_, ?_, ?_⟩
    · simp only; rw [if_neg (by omega)]; simp
    · simp only; rw [if_neg (by omega), if_neg (by omega)]
    · intro k k0 k1 q
      simp only
      by_cases q0 : k = R0
      · rw [if_pos q0]; subst q0; exact (j0.1 q).2.1
      · rw [if_neg q0]
        by_cases q1 : k = R1
        · rw [if_pos q1]; subst q1; exact (j1.1 q).2.1
        · rw [if_neg q1]
          have q2 : k = R2 := by omega
          subst q2; exact (j2.1 q).2.1
  obtain ⟨gs, gs0, gs1, gs2, gsk⟩ := gS
  obtain ⟨gp, gp0, gp1, gp2, gpk⟩ := gP
  have pos1 : 0 < m1 36 0 0 1 → zhk m s i R1 := fun q => by
    rcases Classical.em (zhk m s i R1) with h | h
    · exact h
    · have := (j1.2 h).1; omega
  have pos2 : 0 < m1 36 0 0 2 → zhk m s i R2 := fun q => by
    rcases Classical.em (zhk m s i R2) with h | h
    · exact h
    · have := (j2.2 h).1; omega
  have szp : ∀ r, zhk m s i r → 0 < m 12 s i r := fun r q => by have := hk.2.1 r q.1 q.2.1; omega
  -- the found one is better than all
  have hfo := zfil_ok (R0 := R0) (R1 := R1) (w := w) (f := 0) (S1 := m1 36 0 0 1) (S2 := m1 36 0 0 2) (P1 := m1 37 0 0 1) (P2 := m1 37 0 0 2) (s := 0) (t := 0) hp.2.1 hp.2.2.1 (by decide) (by decide) (fun q => absurd rfl q) (fun q => absurd rfl q)
  have hfound := (hF.2.2 _ 0 0 hfo.1 ⟨hp.2.2.2.2.2.1.1, hp.2.2.2.2.2.2.1.1⟩).1
  obtain ⟨-, f, b, t, hrf, hB, h33⟩ := hF.2.1 hfound
  have hall : ∀ f' s' t' : Int, zrfm m1 w f' s' t' → ¬ zklt (zrkm m1 R0 R1 f' s' t') (zB m2) := by
    intro f' s' t' h
    obtain ⟨f2, s2, t2, g1, g2, g3, g4⟩ := zfew (R0 := R0) (R1 := R1) (P0 := m1 37 0 0 0) (P1 := m1 37 0 0 1) (P2 := m1 37 0 0 2) hp.2.1 hp.2.2.2.2.2.1.1 hp.2.2.2.2.2.2.1.1 o1 o2 f' s' t' h
    exact zkle_trans g4 (hF.2.2 f2 s2 t2 g1 ⟨g2, g3⟩).2
  -- kinds and ranks
  have tokind : ∀ y : Int → Int, (∀ k : Int, 0 ≤ k → k < 3 → y k ≠ 0 → zhk m s i k) → y R0 * m1 36 0 0 0 + y R1 * m1 36 0 0 1 + y R2 * m1 36 0 0 2 = y 0 * m 12 s i 0 + y 1 * m 12 s i 1 + y 2 * m 12 s i 2 ∧ y R0 * m1 37 0 0 0 + y R1 * m1 37 0 0 1 + y R2 * m1 37 0 0 2 = y 0 * m 13 s i 0 + y 1 * m 13 s i 1 + y 2 * m 13 s i 2 := fun y hy => by
    rw [gs0, gs1, gs2, gp0, gp1, gp2]
    exact ⟨zsum3 hR (fun k k0 k1 q => gsk k k0 k1 (hy k k0 k1 q)), zsum3 hR (fun k k0 k1 q => gpk k k0 k1 (hy k k0 k1 q))⟩
  have sum3 : ∀ y : Int → Int, y R0 + y R1 + y R2 = y 0 + y 1 + y 2 := fun y => by
    rcases zperm hR with ⟨rfl, rfl, rfl⟩ | ⟨rfl, rfl, rfl⟩ | ⟨rfl, rfl, rfl⟩ | ⟨rfl, rfl, rfl⟩ | ⟨rfl, rfl, rfl⟩ | ⟨rfl, rfl, rfl⟩ <;> omega
  have hx := fun k => zvec R0 R1 f b t k
  have hat := zvec_at (f := f) (s := b) (t := t) hR
  have hyx : ∀ k : Int, 0 ≤ k → k < 3 → zvec R0 R1 f b t k ≠ 0 → zhk m s i k := by
    intro k k0 k1 q
    rcases (show k = R0 ∨ k = R1 ∨ k = R2 by omega) with rfl | rfl | rfl
    · exact h0
    · rw [hat.2.1] at q
      exact pos1 (hrf.2.2.2.1 q)
    · rw [hat.2.2] at q
      exact pos2 (hrf.2.2.2.2.1 q)
  have hv0 : ∀ k : Int, 0 ≤ k → k < 3 → 0 ≤ zvec R0 R1 f b t k := by
    intro k k0 k1
    unfold zvec
    split
    · exact hrf.1
    · split
      · exact hrf.2.1
      · exact hrf.2.2.1
  have hk2 := tokind (zvec R0 R1 f b t) hyx
  rw [hat.1, hat.2.1, hat.2.2] at hk2
  have hsum := sum3 (zvec R0 R1 f b t)
  rw [hat.1, hat.2.1, hat.2.2] at hsum
  have hZ : zB m2 = zky (m 12 s i) (m 13 s i) (zvec R0 R1 f b t 0) (zvec R0 R1 f b t 1) (zvec R0 R1 f b t 2) := by
    rw [hB]
    unfold zrkm zrk zky
    rw [hk2.1, hk2.2, hsum]
  refine ⟨zvec R0 R1 f b t 0, zvec R0 R1 f b t 1, zvec R0 R1 f b t 2, ⟨⟨hv0 0 (by decide) (by decide), hv0 1 (by decide) (by decide), hv0 2 (by decide) (by decide), fun q => (hyx 0 (by decide) (by decide) q).2.1, fun q => (hyx 1 (by decide) (by decide) q).2.1, fun q => (hyx 2 (by decide) (by decide) q).2.1, by rw [← hk2.1]; exact hrf.2.2.2.2.2⟩, fun y0 y1 y2 hy => ?_⟩, h33 0 (by decide) (by decide), h33 1 (by decide) (by decide), h33 2 (by decide) (by decide), ?_, ?_⟩
  · rw [← hZ]
    obtain ⟨y, e0', e1', e2'⟩ : ∃ y : Int → Int, y 0 = y0 ∧ y 1 = y1 ∧ y 2 = y2 := ⟨fun k => if k = 0 then y0 else if k = 1 then y1 else y2, by simp, by simp, by simp⟩
    subst e0' e1' e2'
    have hyk : ∀ k : Int, 0 ≤ k → k < 3 → y k ≠ 0 → zhk m s i k := by
      intro k k0 k1 q
      refine ⟨k0, ?_, k1⟩
      rcases (show k = 0 ∨ k = 1 ∨ k = 2 by omega) with rfl | rfl | rfl
      · exact hy.2.2.2.1 q
      · exact hy.2.2.2.2.1 q
      · exact hy.2.2.2.2.2.1 q
    have hyn : ∀ k : Int, 0 ≤ k → k < 3 → 0 ≤ y k := by
      intro k k0 k1
      rcases (show k = 0 ∨ k = 1 ∨ k = 2 by omega) with rfl | rfl | rfl
      · exact hy.1
      · exact hy.2.1
      · exact hy.2.2.1
    have hk3 := tokind y hyk
    have := hall (y R0) (y R1) (y R2) ⟨hyn R0 hR.1.1 hR.1.2, hyn R1 hR.2.1.1 hR.2.1.2, hyn R2 hR.2.2.1.1 hR.2.2.1.2, fun q => by rw [(j1.1 (hyk R1 hR.2.1.1 hR.2.1.2 q)).1]; exact szp R1 (hyk R1 hR.2.1.1 hR.2.1.2 q), fun q => by rw [(j2.1 (hyk R2 hR.2.2.1.1 hR.2.2.1.2 q)).1]; exact szp R2 (hyk R2 hR.2.2.1.1 hR.2.2.1.2 q), by rw [hk3.1]; exact hy.2.2.2.2.2.2⟩
    have e : zrkm m1 R0 R1 (y R0) (y R1) (y R2) = zky (m 12 s i) (m 13 s i) (y 0) (y 1) (y 2) := by
      unfold zrkm zrk zky
      rw [hk3.1, hk3.2, sum3 y, zvec_of hR 0 (by decide) (by decide), zvec_of hR 1 (by decide) (by decide)]
    rw [e] at this
    exact this
  · have := congrArg (fun q : zK5 => q.1) hZ
    exact this
  · have := congrArg (fun q : zK5 => q.2.1) hZ
    exact this
