/-- when all steps have ended, -6 if one never begins -/
def zEd (E : zE) (b : Int → Int) (r : Int) : Prop := (r = -6 ∧ ∃ p : Int, 0 ≤ p ∧ p < 32 ∧ E 0 p = 1 ∧ b p = -6) ∨ ((∀ p : Int, 0 ≤ p → p < 32 → E 0 p = 1 → b p ≠ -6) ∧ 0 ≤ r ∧ (∀ p : Int, 0 ≤ p → p < 32 → E 0 p = 1 → b p + E 1 p ≤ r) ∧ (r = 0 ∨ ∃ p : Int, 0 ≤ p ∧ p < 32 ∧ E 0 p = 1 ∧ b p + E 1 p = r))
theorem zEd_det {E : zE} {b : Int → Int} {r r' : Int} (h : zEd E b r) (h' : zEd E b r') : r = r' := by
  rcases h with ⟨h1, p, p0, p1, p2, p3⟩ | ⟨h1, h2, h3, h4⟩
  · rcases h' with ⟨k1, -⟩ | ⟨k1, -⟩
    · omega
    · exact absurd p3 (k1 p p0 p1 p2)
  · rcases h' with ⟨k1, p, p0, p1, p2, p3⟩ | ⟨k1, k2, k3, k4⟩
    · exact absurd p3 (h1 p p0 p1 p2)
    · have a : r ≤ r' := by
        rcases h4 with z | ⟨p, p0, p1, p2, p3⟩
        · omega
        · have := k3 p p0 p1 p2; omega
      have b : r' ≤ r := by
        rcases k4 with z | ⟨p, p0, p1, p2, p3⟩
        · omega
        · have := h3 p p0 p1 p2; omega
      omega
theorem zEd_ag {E : zE} {b c : Int → Int} {r : Int} (ha : zag b c) (h : zEd E c r) : zEd E b r := by
  rcases h with ⟨h1, p, p0, p1, p2, p3⟩ | ⟨h1, h2, h3, h4⟩
  · exact Or.inl ⟨h1, p, p0, p1, p2, by rw [ha p p0 p1]; exact p3⟩
  · refine Or.inr ⟨fun p p0 p1 p2 => by rw [ha p p0 p1]; exact h1 p p0 p1 p2, h2, fun p p0 p1 p2 => by rw [ha p p0 p1]; exact h3 p p0 p1 p2, ?_⟩
    rcases h4 with z | ⟨p, p0, p1, p2, p3⟩
    · exact Or.inl z
    · exact Or.inr ⟨p, p0, p1, p2, by rw [ha p p0 p1]; exact p3⟩
/-- with so many hands all ends then -/
def zRes (E : zE) (h r : Int) : Prop := ∃ (k : Nat) (b : Int → Int) (last : Int), zRn E h k 0 (fun _ => -6) b last ∧ zEd E b r
theorem zRes_det {E : zE} {h r r' : Int} (h1 : zRes E h r) (h2 : zRes E h r') : r = r' := by
  obtain ⟨k, b, last, a1, a2⟩ := h1
  obtain ⟨k', b', last', c1, c2⟩ := h2
  have e := (zRn_det _ _ _ _ _ _ _ _ (Int.le_refl _) a1 c1).1
  subst e
  exact zEd_det a2 c2
noncomputable def zre (E : zE) (h : Int) : Int := Classical.epsilon (fun r => zRes E h r)
theorem zre_eq {E : zE} {h r : Int} (hr : zRes E h r) : zre E h = r := zRes_det (Classical.epsilon_spec (p := fun r => zRes E h r) ⟨r, hr⟩) hr
theorem zmxs_at {f : Int → Int} : ∀ n : Nat, (∀ j : Int, 0 ≤ j → j < n → f j ≤ zmxs f n) ∧ (zmxs f n = 0 ∨ ∃ j : Int, 0 ≤ j ∧ j < n ∧ f j = zmxs f n) ∧ 0 ≤ zmxs f n
  | 0 => ⟨fun j h0 h1 => by omega, Or.inl rfl, Int.le_refl _⟩
  | n + 1 => by
    obtain ⟨h1, h2, h3⟩ := zmxs_at (f := f) n
    rw [zmxs]
    by_cases c : zmxs f n < f n
    · rw [if_pos c]
      refine ⟨fun j j0 j1 => ?_, Or.inr ⟨n, by omega, by omega, rfl⟩, by omega⟩
      rcases (show j < n ∨ j = n by omega) with z | z
      · have := h1 j j0 z; omega
      · rw [z]; exact Int.le_refl _
    · rw [if_neg c]
      refine ⟨fun j j0 j1 => ?_, ?_, h3⟩
      · rcases (show j < n ∨ j = n by omega) with z | z
        · exact h1 j j0 z
        · rw [z]; omega
      · rcases h2 with z | ⟨j, j0, j1, j2⟩
        · exact Or.inl z
        · exact Or.inr ⟨j, j0, by omega, j2⟩
/-- what end answers is the menu's end -/
theorem zEd_of {E : zE} {m : zM} {c : Int → Int} {r : Int} (hm : zEm E m) (ho : zodr m) (hO : zOr E m) (h : (r = -6 ∧ ∃ j : Int, 0 ≤ j ∧ j < zrw m c 10 0 0 7 ∧ zrw m c 40 0 0 (zrw m c 44 0 0 j) = -6) ∨ (r = zmxs (zed (zrw m c)) (zrw m c 10 0 0 7).toNat ∧ ∀ j : Int, 0 ≤ j → j < zrw m c 10 0 0 7 → zrw m c 40 0 0 (zrw m c 44 0 0 j) ≠ -6)) : zEd E c r := by
  simp only [zrw_b, zrw_o (show (10 : Nat) ≠ 40 by decide), zrw_o (show (44 : Nat) ≠ 40 by decide)] at h
  have h7 := ho.1
  rcases h with ⟨h1, j, j0, j1, j2⟩ | ⟨h1, h2⟩
  · exact Or.inl ⟨h1, _, (ho.2 j j0 j1).1, (ho.2 j j0 j1).2, hO.1 j j0 j1, j2⟩
  · obtain ⟨a1, a2, a3⟩ := zmxs_at (f := zed (zrw m c)) (m 10 0 0 7).toNat
    rw [← h1] at a1 a2 a3
    have ez : ∀ j : Int, 0 ≤ j → j < m 10 0 0 7 → zed (zrw m c) j = c (m 44 0 0 j) + E 1 (m 44 0 0 j) := fun j j0 j1 => by
      have := hm _ (ho.2 j j0 j1).1 (ho.2 j j0 j1).2 (hO.1 j j0 j1)
      simp only [zed, zrw_b, zrw_o (show (44 : Nat) ≠ 40 by decide), zrw_o (show (41 : Nat) ≠ 40 by decide), this.1]
    refine Or.inr ⟨fun p p0 p1 p2 => ?_, a3, fun p p0 p1 p2 => ?_, ?_⟩
    · obtain ⟨j, j0, j1, rfl⟩ := hO.2.1 p p0 p1 p2
      exact h2 j j0 j1
    · obtain ⟨j, j0, j1, rfl⟩ := hO.2.1 p p0 p1 p2
      have := a1 j j0 (by omega)
      rw [ez j j0 j1] at this
      exact this
    · rcases a2 with z | ⟨j, j0, j1, j2⟩
      · exact Or.inl z
      · rw [ez j j0 (by omega)] at j2
        exact Or.inr ⟨_, (ho.2 j j0 (by omega)).1, (ho.2 j j0 (by omega)).2, hO.1 j j0 (by omega), j2⟩
