/-- the first end behind t, -6 without one -/
def znE (E : zE) (b : Int → Int) (t r : Int) : Prop := (r = -6 ∧ ∀ p : Int, 0 ≤ p → p < 32 → E 0 p = 1 → b p ≠ -6 → b p + E 1 p ≤ t) ∨ (t < r ∧ (∃ p : Int, 0 ≤ p ∧ p < 32 ∧ E 0 p = 1 ∧ b p ≠ -6 ∧ b p + E 1 p = r) ∧ ∀ p : Int, 0 ≤ p → p < 32 → E 0 p = 1 → b p ≠ -6 → t < b p + E 1 p → r ≤ b p + E 1 p)
def zag (b c : Int → Int) : Prop := ∀ p : Int, 0 ≤ p → p < 32 → b p = c p
/-- all is done from time t on -/
def zRn (E : zE) (h : Int) : Nat → Int → (Int → Int) → (Int → Int) → Int → Prop
  | 0, _, _, _, _ => False
  | n + 1, t, b, b', last => ∃ (b1 : Int → Int) (k : Nat) (r : Int), zGr E t k (h - zbz E b t) b b1 ∧ znE E b1 t r ∧ ((r = -6 ∧ b' = b1 ∧ last = t) ∨ (r ≠ -6 ∧ zRn E h n r b1 b' last))
theorem zrdy_ag {E : zE} {b c : Int → Int} (h : zag b c) {q t : Int} (h0 : 0 ≤ q) (h1 : q < 32) : zrdy E b q t ↔ zrdy E c q t := by
  constructor
  · intro hr k k0 k1 kb
    rw [← h (q - q % 8 + k) (by omega) (by omega)]
    exact hr k k0 k1 kb
  · intro hr k k0 k1 kb
    rw [h (q - q % 8 + k) (by omega) (by omega)]
    exact hr k k0 k1 kb
theorem zcnd_ag {E : zE} {b c : Int → Int} (h : zag b c) {q t f : Int} : zcnd E t f b q ↔ zcnd E t f c q := by
  constructor
  · rintro ⟨h0, h1, h2, h3, h4⟩
    exact ⟨h0, h1, by rw [← h q h0.1 h0.2]; exact h2, h3, (zrdy_ag h h0.1 h0.2).mp h4⟩
  · rintro ⟨h0, h1, h2, h3, h4⟩
    exact ⟨h0, h1, by rw [h q h0.1 h0.2]; exact h2, h3, (zrdy_ag h h0.1 h0.2).mpr h4⟩
theorem zupd_ag {b c : Int → Int} (h : zag b c) {q t : Int} : zag (zupd b q t) (zupd c q t) := fun p h0 h1 => by simp only [zupd, h p h0 h1]
theorem zGr_ag {E : zE} {t : Int} : ∀ (n : Nat) (f : Int) (b b' c : Int → Int), zGr E t n f b b' → zag b c → ∃ c', zGr E t n f c c' ∧ zag b' c'
  | 0, f, b, b', c, h, ha => ⟨c, ⟨fun q hq => h.1 q ((zcnd_ag ha).mpr hq), rfl⟩, by rw [h.2]; exact ha⟩
  | n + 1, f, b, b', c, ⟨q, h1, h2, h3⟩, ha => by
    obtain ⟨c', hc, ha'⟩ := zGr_ag n _ _ _ _ h3 (zupd_ag ha)
    exact ⟨c', ⟨q, (zcnd_ag ha).mp h1, fun r hr => h2 r ((zcnd_ag ha).mpr hr), hc⟩, ha'⟩
theorem zsum_congr {f f' : Int → Int} : ∀ n : Nat, (∀ j : Int, 0 ≤ j → j < n → f j = f' j) → zsum n f = zsum n f'
  | 0, _ => rfl
  | n + 1, h => by
    rw [zsum, zsum, zsum_congr n (fun j h0 h1 => h j h0 (by omega)), h n (by omega) (by omega)]
theorem zsum_mono {f f' : Int → Int} : ∀ n : Nat, (∀ j : Int, 0 ≤ j → j < n → f j ≤ f' j) → zsum n f ≤ zsum n f'
  | 0, _ => Int.le_refl _
  | n + 1, h => by
    have h1 := zsum_mono n (fun j h0 h1 => h j h0 (by omega))
    have h2 := h n (by omega) (by omega)
    rw [zsum, zsum]
    omega
theorem zsum_lt {f f' : Int → Int} {q : Int} (h0 : 0 ≤ q) (hq : f q < f' q) : ∀ n : Nat, q < n → (∀ j : Int, 0 ≤ j → j < n → f j ≤ f' j) → zsum n f < zsum n f'
  | 0, h, _ => by omega
  | n + 1, h, hj => by
    rw [zsum, zsum]
    by_cases e : q = n
    · have h1 := zsum_mono n (fun j h0 h1 => hj j h0 (by omega))
      rw [e] at hq
      omega
    · have h1 := zsum_lt h0 hq n (by omega) (fun j h0 h1 => hj j h0 (by omega))
      have h2 := hj n (by omega) (by omega)
      omega
theorem zbz_ag {E : zE} {b c : Int → Int} (h : zag b c) {t : Int} : zbz E b t = zbz E c t := zsum_congr 32 (fun j h0 h1 => by simp only [h j h0 h1])
theorem znE_ag {E : zE} {b c : Int → Int} (h : zag b c) {t r : Int} (hr : znE E b t r) : znE E c t r := by
  rcases hr with ⟨h1, h2⟩ | ⟨h1, ⟨p, p0, p1, p2, p3, p4⟩, h3⟩
  · exact Or.inl ⟨h1, fun p p0 p1 => by rw [← h p p0 p1]; exact h2 p p0 p1⟩
  · exact Or.inr ⟨h1, ⟨p, p0, p1, p2, by rw [← h p p0 p1]; exact p3, by rw [← h p p0 p1]; exact p4⟩, fun p p0 p1 => by rw [← h p p0 p1]; exact h3 p p0 p1⟩
theorem znE_det {E : zE} {b : Int → Int} {t r r' : Int} (ht : 0 ≤ t) (h : znE E b t r) (h' : znE E b t r') : r = r' := by
  rcases h with ⟨h1, h2⟩ | ⟨h1, ⟨p, p0, p1, p2, p3, p4⟩, h3⟩
  · rcases h' with ⟨k1, k2⟩ | ⟨k1, ⟨q, q0, q1, q2, q3, q4⟩, k3⟩
    · omega
    · have := h2 q q0 q1 q2 q3; omega
  · rcases h' with ⟨k1, k2⟩ | ⟨k1, ⟨q, q0, q1, q2, q3, q4⟩, k3⟩
    · have := k2 p p0 p1 p2 p3; omega
    · have := h3 q q0 q1 q2 q3 (by omega)
      have := k3 p p0 p1 p2 p3 (by omega)
      omega
theorem zRn_ag {E : zE} {h : Int} : ∀ (n : Nat) (t : Int) (b b' c : Int → Int) (last : Int), zRn E h n t b b' last → zag b c → ∃ c', zRn E h n t c c' last ∧ zag b' c'
  | 0, _, _, _, _, _, hh, _ => hh.elim
  | n + 1, t, b, b', c, last, ⟨b1, k, r, h1, h2, h3⟩, ha => by
    obtain ⟨c1, hc1, ha1⟩ := zGr_ag k _ _ _ _ h1 ha
    rw [zbz_ag ha] at hc1
    rcases h3 with ⟨e1, e2, e3⟩ | ⟨e1, e2⟩
    · exact ⟨c1, ⟨c1, k, r, hc1, znE_ag ha1 h2, Or.inl ⟨e1, rfl, e3⟩⟩, by rw [e2]; exact ha1⟩
    · obtain ⟨c', hc', ha'⟩ := zRn_ag n _ _ _ _ _ e2 ha1
      exact ⟨c', ⟨c1, k, r, hc1, znE_ag ha1 h2, Or.inr ⟨e1, hc'⟩⟩, ha'⟩
theorem zRn_det {E : zE} {h : Int} : ∀ (n n' : Nat) (t : Int) (b b1 b2 : Int → Int) (l1 l2 : Int), 0 ≤ t → zRn E h n t b b1 l1 → zRn E h n' t b b2 l2 → b1 = b2 ∧ l1 = l2
  | 0, _, _, _, _, _, _, _, _, hh, _ => hh.elim
  | _ + 1, 0, _, _, _, _, _, _, _, _, hh => hh.elim
  | n + 1, n' + 1, t, b, b1, b2, l1, l2, ht, ⟨c1, k, r, h1, h2, h3⟩, ⟨c1', k', r', h1', h2', h3'⟩ => by
    have e := zGr_det _ _ _ _ _ _ h1 h1'
    subst e
    have e := znE_det ht h2 h2'
    subst e
    rcases h3 with ⟨e1, e2, e3⟩ | ⟨e1, e2⟩
    · rcases h3' with ⟨k1, k2, k3⟩ | ⟨k1, k2⟩
      · exact ⟨by rw [e2, k2], by rw [e3, k3]⟩
      · exact absurd e1 k1
    · rcases h3' with ⟨k1, k2, k3⟩ | ⟨k1, k2⟩
      · exact absurd k1 e1
      · have hr : 0 ≤ r := by rcases h2 with ⟨q, -⟩ | ⟨q, -⟩ <;> omega
        exact zRn_det n n' _ _ _ _ _ _ hr e2 k2
theorem znx_E {E : zE} {m : zM} {b : Int → Int} {t : Int} (ht : 0 ≤ t) (hm : zEm E m) (ho : zodr m) (hO : zOr E m) : znE E b t (znx (zrw m b) t (m 10 0 0 7).toNat) := by
  have key : ∀ n : Nat, (n : Int) ≤ m 10 0 0 7 → (znx (zrw m b) t n = -6 ∧ ∀ j : Int, 0 ≤ j → j < n → b (m 44 0 0 j) ≠ -6 → b (m 44 0 0 j) + E 1 (m 44 0 0 j) ≤ t) ∨ (t < znx (zrw m b) t n ∧ (∃ j : Int, 0 ≤ j ∧ j < n ∧ b (m 44 0 0 j) ≠ -6 ∧ b (m 44 0 0 j) + E 1 (m 44 0 0 j) = znx (zrw m b) t n) ∧ ∀ j : Int, 0 ≤ j → j < n → b (m 44 0 0 j) ≠ -6 → t < b (m 44 0 0 j) + E 1 (m 44 0 0 j) → znx (zrw m b) t n ≤ b (m 44 0 0 j) + E 1 (m 44 0 0 j)) := by
    intro n
    induction n with
    | zero => intro _; exact Or.inl ⟨rfl, fun j h0 h1 => by omega⟩
    | succ n ih =>
      intro hn
      have h1 := ho.2 n (by omega) (by omega)
      have h2 := hm _ h1.1 h1.2 (hO.1 n (by omega) (by omega))
      rw [znx]
      simp only [zrw_b, zrw_o (show (44 : Nat) ≠ 40 by decide), zrw_o (show (41 : Nat) ≠ 40 by decide), h2.1]
      have ih := ih (by omega)
      generalize znx (zrw m b) t n = y at ih ⊢
      by_cases e : b (m 44 0 0 n) ≠ -6 ∧ t < b (m 44 0 0 n) + E 1 (m 44 0 0 n) ∧ (y = -6 ∨ b (m 44 0 0 n) + E 1 (m 44 0 0 n) < y)
      · rw [if_pos e]
        right
        refine ⟨e.2.1, ⟨n, by omega, by omega, e.1, rfl⟩, fun j j0 j1 j2 j3 => ?_⟩
        rcases (show j < n ∨ j = n by omega) with z | z
        · rcases ih with ⟨a1, a2⟩ | ⟨a1, a2, a3⟩
          · have := a2 j j0 z j2; omega
          · have := a3 j j0 z j2 j3
            have := e.2.2
            omega
        · rw [z]; exact Int.le_refl _
      · rw [if_neg e]
        rcases ih with ⟨a1, a2⟩ | ⟨a1, ⟨j, j0, j1, j2, j3⟩, a3⟩
        · left
          refine ⟨a1, fun j j0 j1 j2 => ?_⟩
          rcases (show j < n ∨ j = n by omega) with z | z
          · exact a2 j j0 z j2
          · rw [z] at j2 ⊢
            omega
        · right
          refine ⟨a1, ⟨j, j0, by omega, j2, j3⟩, fun j' q0 q1 q2 q3 => ?_⟩
          rcases (show j' < n ∨ j' = n by omega) with z | z
          · exact a3 j' q0 z q2 q3
          · rw [z] at q2 q3 ⊢
            omega
  rcases key _ (show (((m 10 0 0 7).toNat : Nat) : Int) ≤ m 10 0 0 7 by have := ho.1; omega) with ⟨a1, a2⟩ | ⟨a1, ⟨j, j0, j1, j2, j3⟩, a3⟩
  · left
    refine ⟨a1, fun p p0 p1 p2 p3 => ?_⟩
    obtain ⟨j, j0, j1, rfl⟩ := hO.2.1 p p0 p1 p2
    exact a2 j j0 (by omega) p3
  · right
    have h1 := ho.2 j j0 (by omega)
    refine ⟨a1, ⟨_, h1.1, h1.2, hO.1 j j0 (by omega), j2, j3⟩, fun p p0 p1 p2 p3 p4 => ?_⟩
    obtain ⟨j, j0, j1, rfl⟩ := hO.2.1 p p0 p1 p2
    exact a3 j j0 (by omega) p3 p4
/-- how many steps have ended -/
def zcn (E : zE) (b : Int → Int) (t : Int) : Int := zsum 32 (fun p => if E 0 p = 1 ∧ b p ≠ -6 ∧ b p + E 1 p ≤ t then 1 else 0)
theorem zcn_le {E : zE} {b : Int → Int} {t : Int} : zcn E b t ≤ 32 := (zsum_le (B := 1) 32 (fun j h0 h1 => by split <;> omega)).2
theorem zcn_up {E : zE} {b b1 : Int → Int} {t r : Int} (hb : ∀ j : Int, 0 ≤ j → j < 32 → b1 j = b j ∨ (b j = -6 ∧ b1 j = t)) (hr : znE E b1 t r) (h6 : r ≠ -6) : zcn E b t < zcn E b1 r := by
  rcases hr with ⟨h1, -⟩ | ⟨h1, ⟨p, p0, p1, p2, p3, p4⟩, -⟩
  · exact absurd h1 h6
  · refine zsum_lt (q := p) p0 ?_ 32 p1 (fun j j0 j1 => ?_)
    · have hn : ¬ (E 0 p = 1 ∧ b p ≠ -6 ∧ b p + E 1 p ≤ t) := by
        rintro ⟨-, q1, q2⟩
        have := hb p p0 p1
        omega
      rw [if_neg hn, if_pos ⟨p2, p3, by omega⟩]
      decide
    · have := hb j j0 j1
      by_cases q : E 0 j = 1 ∧ b j ≠ -6 ∧ b j + E 1 j ≤ t
      · rw [if_pos q, if_pos ⟨q.1, by omega, by omega⟩]
        decide
      · rw [if_neg q]
        split <;> decide
