def zrf (S0 S1 S2 w f s t : Int) : Prop := 0 ≤ f ∧ 0 ≤ s ∧ 0 ≤ t ∧ (s ≠ 0 → 0 < S1) ∧ (t ≠ 0 → 0 < S2) ∧ w ≤ f * S0 + s * S1 + t * S2
def zrk (P0 P1 P2 S0 S1 S2 R0 R1 f s t : Int) : zK5 := (f * P0 + s * P1 + t * P2, f * S0 + s * S1 + t * S2, f + s + t, zvec R0 R1 f s t 0, zvec R0 R1 f s t 1)
theorem zkle_trans {a b c : zK5} (h1 : ¬ zklt a b) (h2 : ¬ zklt b c) : ¬ zklt a c := by
  unfold zklt at *
  omega
theorem zklt_irr {a : zK5} : ¬ zklt a a := by
  unfold zklt
  omega
theorem zklt_asym {a b : zK5} (h : zklt a b) : ¬ zklt b a := by
  unfold zklt at *
  omega
theorem zmx_le (x : Int) : x ≤ zmx x ∧ 0 ≤ zmx x := by
  unfold zmx
  split <;> omega
/-- so many of the first kind fill up, no fewer do -/
theorem zfil_ok {S0 S1 S2 P0 P1 P2 R0 R1 w f s t : Int} (hS : 0 < S0) (hP : 0 < P0) (hs : 0 ≤ s) (ht : 0 ≤ t) (h1 : s ≠ 0 → 0 < S1) (h2 : t ≠ 0 → 0 < S2) :
    zrf S0 S1 S2 w ((zmx (w - s * S1 - t * S2) + S0 - 1) / S0) s t ∧ (zrf S0 S1 S2 w f s t → ¬ zklt (zrk P0 P1 P2 S0 S1 S2 R0 R1 f s t) (zrk P0 P1 P2 S0 S1 S2 R0 R1 ((zmx (w - s * S1 - t * S2) + S0 - 1) / S0) s t)) := by
  have hm := zmx_le (w - s * S1 - t * S2)
  have hq0 : 0 ≤ (zmx (w - s * S1 - t * S2) + S0 - 1) / S0 := Int.ediv_nonneg (by omega) (by omega)
  have hq1 : zmx (w - s * S1 - t * S2) ≤ (zmx (w - s * S1 - t * S2) + S0 - 1) / S0 * S0 := by
    have := Int.lt_ediv_add_one_mul_self (zmx (w - s * S1 - t * S2) + S0 - 1) hS
    rw [Int.add_mul] at this
    omega
  refine ⟨⟨hq0, hs, ht, h1, h2, by omega⟩, fun h => ?_⟩
  have hq2 : (zmx (w - s * S1 - t * S2) + S0 - 1) / S0 ≤ f := by
    have hfS : 0 ≤ f * S0 := Int.mul_nonneg h.1 (by omega)
    have hf : zmx (w - s * S1 - t * S2) ≤ f * S0 := by
      have := h.2.2.2.2.2
      unfold zmx
      split <;> omega
    have := Int.ediv_lt_of_lt_mul hS (show zmx (w - s * S1 - t * S2) + S0 - 1 < (f + 1) * S0 by rw [Int.add_mul]; omega)
    omega
  generalize (zmx (w - s * S1 - t * S2) + S0 - 1) / S0 = q at *
  rcases (show q = f ∨ q < f by omega) with rfl | hlt
  · exact zklt_irr
  · have : q * P0 < f * P0 := Int.mul_lt_mul_of_pos_right hlt hP
    unfold zklt zrk
    simp only
    omega
/-- with still more of the second and third kind it is too dear, then -/
theorem zdear {S0 S1 S2 P0 P1 P2 w f s t s2 t2 b : Int} (hS : 0 < S0) (hP : 0 < P0) (hS1 : 0 ≤ S1) (hS2 : 0 ≤ S2) (c1 : P0 * S1 ≤ P1 * S0) (c2 : P0 * S2 ≤ P2 * S0) (h : zrf S0 S1 S2 w f s2 t2) (hs : s ≤ s2) (ht : t ≤ t2) (hd : b * S0 < (s * P1 + t * P2) * S0 + zmx (w - s * S1 - t * S2) * P0) : b < f * P0 + s2 * P1 + t2 * P2 := by
  have a1 : 0 ≤ (s2 - s) * (P1 * S0 - P0 * S1) := Int.mul_nonneg (by omega) (by omega)
  have a2 : 0 ≤ (t2 - t) * (P2 * S0 - P0 * S2) := Int.mul_nonneg (by omega) (by omega)
  have a3 : 0 ≤ P0 * (f * S0 + s2 * S1 + t2 * S2 - w) := Int.mul_nonneg (by omega) (by have := h.2.2.2.2.2; omega)
  have a4 : 0 ≤ f * S0 * P0 := Int.mul_nonneg (Int.mul_nonneg h.1 (by omega)) (by omega)
  have a5 : 0 ≤ (s2 - s) * (P0 * S1) := Int.mul_nonneg (by omega) (Int.mul_nonneg (by omega) hS1)
  have a6 : 0 ≤ (t2 - t) * (P0 * S2) := Int.mul_nonneg (by omega) (Int.mul_nonneg (by omega) hS2)
  have key : (s * P1 + t * P2) * S0 + zmx (w - s * S1 - t * S2) * P0 ≤ (f * P0 + s2 * P1 + t2 * P2) * S0 := by
    unfold zmx
    split
    · simp only [Int.mul_sub, Int.sub_mul, Int.mul_add, Int.add_mul, Int.mul_assoc, Int.mul_comm, Int.mul_left_comm] at *
      omega
    · simp only [Int.mul_sub, Int.sub_mul, Int.mul_add, Int.add_mul, Int.mul_assoc, Int.mul_comm, Int.mul_left_comm, Int.mul_zero, Int.zero_mul] at *
      omega
  exact Int.lt_of_mul_lt_mul_right (a := S0) (by omega) (by omega)
/-- so many of one kind are better replaced by a cheaper one that weighs the same -/
theorem zexch {Pa Pr Sa Sr u v : Int} (hSr : 0 < Sr) (hv : 0 < v) (hc : Pa * Sr < Pr * Sa ∨ (Pa * Sr = Pr * Sa ∧ Sr < Sa)) (he : u * Sr = v * Sa) : v * Pa < u * Pr ∨ (v * Pa = u * Pr ∧ v < u) := by
  have e1 : v * (Pr * Sa) = u * Pr * Sr := by
    rw [show v * (Pr * Sa) = Pr * (v * Sa) by rw [Int.mul_left_comm], ← he]
    simp only [Int.mul_assoc, Int.mul_comm, Int.mul_left_comm]
  rcases hc with hc | ⟨hc, hs⟩
  · left
    have := Int.mul_lt_mul_of_pos_left hc hv
    rw [e1, ← Int.mul_assoc] at this
    exact Int.lt_of_mul_lt_mul_right this (by omega)
  · right
    constructor
    · have : v * (Pa * Sr) = v * (Pr * Sa) := by rw [hc]
      rw [e1, ← Int.mul_assoc] at this
      exact Int.eq_of_mul_eq_mul_right (by omega) this
    · have h1 : v * Sr < v * Sa := Int.mul_lt_mul_of_pos_left hs hv
      rw [← he] at h1
      exact Int.lt_of_mul_lt_mul_right h1 (by omega)
/-- what mostOf promises -/
def zmost (M Sr : Int) (Sa : Int) : Prop := ∃ u v : Int, 0 < u ∧ 0 < v ∧ u * Sr = v * Sa ∧ u ≤ M + 1
theorem zmost_gcd {a r : Int} (ha : 0 < a) (hr : 0 < r) : 0 < Int.gcd a r ∧ (a / (Int.gcd a r : Int)) * r = (r / (Int.gcd a r : Int)) * a ∧ 0 < a / (Int.gcd a r : Int) ∧ 0 < r / (Int.gcd a r : Int) := by
  have hg : 0 < Int.gcd a r := Int.gcd_pos_of_ne_zero_left r (by omega)
  have d1 : (Int.gcd a r : Int) ∣ a := Int.gcd_dvd_left ..
  have d2 : (Int.gcd a r : Int) ∣ r := Int.gcd_dvd_right ..
  obtain ⟨x, hx⟩ := d1
  obtain ⟨y, hy⟩ := d2
  generalize hG : (Int.gcd a r : Int) = G at *
  have hG0 : 0 < G := by omega
  have q1 : a / G = x := by rw [hx, Int.mul_ediv_cancel_left _ (by omega)]
  have q2 : r / G = y := by rw [hy, Int.mul_ediv_cancel_left _ (by omega)]
  have x0 : 0 < x := Int.pos_of_mul_pos_right (a := G) (by rw [← hx]; exact ha) (by omega) |> fun h => h
  have y0 : 0 < y := Int.pos_of_mul_pos_right (a := G) (by rw [← hy]; exact hr) (by omega) |> fun h => h
  refine ⟨hg, ?_, by rw [q1]; exact x0, by rw [q2]; exact y0⟩
  rw [q1, q2]
  conv => lhs; rw [hy]
  conv => rhs; rw [hx]
  simp only [Int.mul_assoc, Int.mul_comm, Int.mul_left_comm]
theorem zmo_prop {m : zM} {r : Int} (hpos : ∀ k : Int, 0 ≤ k → k ≤ r → 0 < m 36 0 0 k ∧ m 36 0 0 k ≤ 2000) : ∀ a : Nat, (a : Int) ≤ r → 0 ≤ zmo m r a ∧ zmo m r a ≤ 2000 ∧ (0 < a → ∃ k : Int, 0 ≤ k ∧ k < a ∧ zmost (zmo m r a) (m 36 0 0 r) (m 36 0 0 k))
  | 0, _ => by simp [zmo]
  | a + 1, ha => by
    have ih := zmo_prop (m := m) hpos a (by omega)
    have hp := hpos a (by omega) (by omega)
    have hr := hpos r (by omega) (by omega)
    have hg := zmost_gcd hp.1 hr.1
    have hle : m 36 0 0 a / (Int.gcd (m 36 0 0 a) (m 36 0 0 r) : Int) ≤ m 36 0 0 a := Int.ediv_le_self _ (by omega)
    simp only [zmo]
    rw [if_pos hg.1]
    have hmine : zmost (m 36 0 0 a / (Int.gcd (m 36 0 0 a) (m 36 0 0 r) : Int) - 1) (m 36 0 0 r) (m 36 0 0 a) := ⟨_, _, hg.2.2.1, hg.2.2.2, hg.2.1, by omega⟩
    split
    · exact ⟨by omega, by omega, fun _ => ⟨a, by omega, by omega, hmine⟩⟩
    · next hn =>
      refine ⟨ih.1, ih.2.1, fun _ => ?_⟩
      rcases Nat.eq_zero_or_pos a with h0 | h0
      · subst h0
        exfalso
        simp only [zmo] at hn
        simp at hn hle hp
        omega
      · obtain ⟨k, k0, k1, k2⟩ := ih.2.2 h0
        exact ⟨k, k0, by omega, k2⟩
/-- no need of more tins of the second and third kind -/
theorem zfew {S0 S1 S2 P0 P1 P2 R0 R1 w M1 M2 : Int} (hS0 : 0 < S0) (hM1 : 0 ≤ M1) (hM2 : 0 ≤ M2)
    (o1 : 0 < S1 → zmost M1 S1 S0 ∧ (P0 * S1 < P1 * S0 ∨ (P0 * S1 = P1 * S0 ∧ S1 < S0)))
    (o2 : 0 < S2 → 0 < S1 ∧ (zmost M2 S2 S0 ∨ zmost M2 S2 S1) ∧ (P0 * S2 < P2 * S0 ∨ (P0 * S2 = P2 * S0 ∧ S2 < S0)) ∧ (P1 * S2 < P2 * S1 ∨ (P1 * S2 = P2 * S1 ∧ S2 < S1))) :
    ∀ f s t : Int, zrf S0 S1 S2 w f s t → ∃ f' s' t' : Int, zrf S0 S1 S2 w f' s' t' ∧ s' ≤ M1 ∧ t' ≤ M2 ∧ ¬ zklt (zrk P0 P1 P2 S0 S1 S2 R0 R1 f s t) (zrk P0 P1 P2 S0 S1 S2 R0 R1 f' s' t') := by
  have less : ∀ (x y z x' y' z' : Int), x' * P0 + y' * P1 + z' * P2 < x * P0 + y * P1 + z * P2 ∨ (x' * P0 + y' * P1 + z' * P2 = x * P0 + y * P1 + z * P2 ∧ x' * S0 + y' * S1 + z' * S2 = x * S0 + y * S1 + z * S2 ∧ x' + y' + z' < x + y + z) → ¬ zklt (zrk P0 P1 P2 S0 S1 S2 R0 R1 x y z) (zrk P0 P1 P2 S0 S1 S2 R0 R1 x' y' z') := by
    intro x y z x' y' z' h
    unfold zklt zrk
    simp only
    omega
  have second : ∀ (n : Nat) (f s t : Int), s = n → t ≤ M2 → zrf S0 S1 S2 w f s t → ∃ f' s' t' : Int, zrf S0 S1 S2 w f' s' t' ∧ s' ≤ M1 ∧ t' ≤ M2 ∧ ¬ zklt (zrk P0 P1 P2 S0 S1 S2 R0 R1 f s t) (zrk P0 P1 P2 S0 S1 S2 R0 R1 f' s' t') := by
    intro n
    induction n using Nat.strongRecOn with
    | ind n ih =>
      intro f s t hs ht h
      by_cases hle : s ≤ M1
      · exact ⟨f, s, t, h, hle, ht, zklt_irr⟩
      · have hS1 := h.2.2.2.1 (by omega)
        obtain ⟨⟨u, v, hu, hv, he, hM⟩, hc⟩ := o1 hS1
        have hx := zexch (Pa := P0) (Pr := P1) hS1 hv hc he
        have e1 : (f + v) * S0 + (s - u) * S1 + t * S2 = f * S0 + s * S1 + t * S2 := by
          rw [Int.add_mul, Int.sub_mul, he]; omega
        have e2 : (f + v) * P0 + (s - u) * P1 + t * P2 = f * P0 + s * P1 + t * P2 + (v * P0 - u * P1) := by
          rw [Int.add_mul, Int.sub_mul]; omega
        obtain ⟨f', s', t', g1, g2, g3, g4⟩ := ih (s - u).toNat (by omega) (f + v) (s - u) t (by omega) ht ⟨by have := h.1; omega, by omega, h.2.2.1, fun _ => hS1, h.2.2.2.2.1, by rw [e1]; exact h.2.2.2.2.2⟩
        exact ⟨f', s', t', g1, g2, g3, zkle_trans (less _ _ _ _ _ _ (by rw [e1, e2]; omega)) g4⟩
  have third : ∀ (n : Nat) (f s t : Int), t = n → zrf S0 S1 S2 w f s t → ∃ f' s' t' : Int, zrf S0 S1 S2 w f' s' t' ∧ t' ≤ M2 ∧ ¬ zklt (zrk P0 P1 P2 S0 S1 S2 R0 R1 f s t) (zrk P0 P1 P2 S0 S1 S2 R0 R1 f' s' t') := by
    intro n
    induction n using Nat.strongRecOn with
    | ind n ih =>
      intro f s t ht h
      by_cases hle : t ≤ M2
      · exact ⟨f, s, t, h, hle, zklt_irr⟩
      · have hS2 := h.2.2.2.2.1 (by omega)
        obtain ⟨hS1, hm, hc0, hc1⟩ := o2 hS2
        rcases hm with ⟨u, v, hu, hv, he, hM⟩ | ⟨u, v, hu, hv, he, hM⟩
        · have hx := zexch (Pa := P0) (Pr := P2) hS2 hv hc0 he
          have e1 : (f + v) * S0 + s * S1 + (t - u) * S2 = f * S0 + s * S1 + t * S2 := by
            rw [Int.add_mul, Int.sub_mul, he]; omega
          have e2 : (f + v) * P0 + s * P1 + (t - u) * P2 = f * P0 + s * P1 + t * P2 + (v * P0 - u * P2) := by
            rw [Int.add_mul, Int.sub_mul]; omega
          obtain ⟨f', s', t', g1, g3, g4⟩ := ih (t - u).toNat (by omega) (f + v) s (t - u) (by omega) ⟨by have := h.1; omega, h.2.1, by omega, h.2.2.2.1, fun _ => hS2, by rw [e1]; exact h.2.2.2.2.2⟩
          exact ⟨f', s', t', g1, g3, zkle_trans (less _ _ _ _ _ _ (by rw [e1, e2]; omega)) g4⟩
        · have hx := zexch (Pa := P1) (Pr := P2) hS2 hv hc1 he
          have e1 : f * S0 + (s + v) * S1 + (t - u) * S2 = f * S0 + s * S1 + t * S2 := by
            rw [Int.add_mul, Int.sub_mul, he]; omega
          have e2 : f * P0 + (s + v) * P1 + (t - u) * P2 = f * P0 + s * P1 + t * P2 + (v * P1 - u * P2) := by
            rw [Int.add_mul, Int.sub_mul]; omega
          obtain ⟨f', s', t', g1, g3, g4⟩ := ih (t - u).toNat (by omega) f (s + v) (t - u) (by omega) ⟨h.1, by have := h.2.1; omega, by omega, fun _ => hS1, fun _ => hS2, by rw [e1]; exact h.2.2.2.2.2⟩
          exact ⟨f', s', t', g1, g3, zkle_trans (less _ _ _ _ _ _ (by rw [e1, e2]; omega)) g4⟩
  intro f s t h
  obtain ⟨f1, s1, t1, h1, h2, h3⟩ := third t.toNat f s t (by have := h.2.2.1; omega) h
  obtain ⟨f2, s2, t2, g1, g2, g3, g4⟩ := second s1.toNat f1 s1 t1 (by have := h1.2.1; omega) h2 h1
  exact ⟨f2, s2, t2, g1, g2, g3, zkle_trans h3 g4⟩
