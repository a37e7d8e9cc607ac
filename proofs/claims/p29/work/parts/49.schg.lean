/-- the tags that gathering writes -/
def zsct (t : Nat) : Prop := t = 10 ∨ t = 39 ∨ (41 ≤ t ∧ t ≤ 44)
def zwf (E : zE) (p : Int) : Int := if E 0 p = 1 then E 1 p * E 2 p else 0
/-- the greatest tail of some places -/
def zmax (E : zE) (S : Int → Prop) (G : Int) : Prop := 0 ≤ G ∧ (∀ p : Int, 0 ≤ p → p < 32 → E 0 p = 1 → S p → E 4 p ≤ G) ∧ (G = 0 ∨ ∃ p : Int, 0 ≤ p ∧ p < 32 ∧ E 0 p = 1 ∧ S p ∧ E 4 p = G)
/-- how far the gathering is -/
def zGI (E : zE) (m : zM) (q1 q3 : Int) (S : Int → Prop) (m1 : zM) : Prop := (∀ (t : Nat) (s i k : Int), ¬ zsct t → m1 t s i k = m t s i k) ∧ zsch m1 ∧ zodr m1 ∧ m1 10 0 0 7 ≤ q3 ∧ zOr (zEr E q3) m1 ∧ (∀ p : Int, 0 ≤ p → p < q1 → E 0 p = 1 → m1 41 0 0 p = E 1 p ∧ m1 42 0 0 p = E 2 p ∧ m1 43 0 0 p = E 3 p) ∧ (∀ p : Int, 0 ≤ p → p < 32 → S p → E 0 p = 1 → m1 39 0 0 p = E 4 p) ∧ m1 10 0 0 2 = zsum q1.toNat (zwf E) ∧ zmax E S (m1 10 0 0 8)
theorem zOr_congr {E : zE} {m1 m0 : zM} (h : ∀ j : Int, m1 44 0 0 j = m0 44 0 0 j) (h7 : m1 10 0 0 7 = m0 10 0 0 7) (hO : zOr E m0) : zOr E m1 := by
  have e : m1 44 0 0 = m0 44 0 0 := by funext j; exact h j
  simpa only [zOr, e, h7] using hO
theorem zodr_congr {m1 m0 : zM} (h : ∀ j : Int, m1 44 0 0 j = m0 44 0 0 j) (h7 : m1 10 0 0 7 = m0 10 0 0 7) (ho : zodr m0) : zodr m1 := by
  have e : m1 44 0 0 = m0 44 0 0 := by funext j; exact h j
  simpa only [zodr, e, h7] using ho
/-- one step's numbers are gathered -/
theorem zGI_1 {E : zE} {m m1 : zM} {q q3 : Int} {S : Int → Prop} (h : zGI E m q q3 S m1) (hE : zEok E) (hq : 0 ≤ q ∧ q < 32) (hon : E 0 q = 1) : zGI E m (q + 1) q3 S (zset (zset (zset (zset m1 41 0 0 q (E 1 q)) 42 0 0 q (E 2 q)) 43 0 0 q (E 3 q)) 10 0 0 2 (m1 10 0 0 2 + E 1 q * E 2 q)) := by
  obtain ⟨hf, hs, ho, hn, hO, hd, ht, hw, hx⟩ := h
  have hEq := hE q hq.1 hq.2 hon
  refine ⟨fun t s i k h => ?_, fun j j0 j1 => ?_, ?_, ?_, ?_, fun p p0 p1 p2 => ?_, fun p p0 p1 p2 p3 => ?_, ?_, ?_⟩
  · rw [← hf t s i k h]
    simp only [zsct] at h
    simp only [zset]
    rw [if_neg (by omega), if_neg (by omega), if_neg (by omega), if_neg (by omega)]
  · have := hs j j0 j1
    simp only [zset]
    refine ⟨by simpa using this.1, ?_, ?_⟩
    · by_cases e : j = q
      · subst e; simp; omega
      · simpa [e] using this.2.1
    · by_cases e : j = q
      · subst e; simp; omega
      · simpa [e] using this.2.2
  · exact zodr_congr (fun j => by simp [zset]) (by simp [zset]) ho
  · simpa [zset] using hn
  · exact zOr_congr (fun j => by simp [zset]) (by simp [zset]) hO
  · by_cases e : p = q
    · subst e; simp [zset]
    · have := hd p p0 (by omega) p2
      simpa [zset, e] using this
  · have := ht p p0 p1 p2 p3
    simpa [zset] using this
  · rw [show (q + 1).toNat = q.toNat + 1 by omega, zsum, show ((q.toNat : Nat) : Int) = q by omega, ← hw]
    simp [zset, zwf, hon]
  · simpa [zset] using hx
/-- one step's tail is found -/
theorem zGI_2 {E : zE} {m m1 : zM} {q1 q q3 : Int} {S S' : Int → Prop} (h : zGI E m q1 q3 S m1) (hE : zEok E) (hq : 0 ≤ q ∧ q < 32) (hon : E 0 q = 1) (hS : ∀ p : Int, S' p ↔ S p ∨ p = q) : zGI E m q1 q3 S' (zset (zset m1 39 0 0 q (E 4 q)) 10 0 0 8 (if m1 10 0 0 8 < E 4 q then E 4 q else m1 10 0 0 8)) := by
  obtain ⟨hf, hs, ho, hn, hO, hd, ht, hw, hx⟩ := h
  have hEq := hE q hq.1 hq.2 hon
  refine ⟨fun t s i k h => ?_, fun j j0 j1 => ?_, ?_, ?_, ?_, fun p p0 p1 p2 => ?_, fun p p0 p1 p2 p3 => ?_, ?_, ?_⟩
  · rw [← hf t s i k h]
    simp only [zsct] at h
    simp only [zset]
    rw [if_neg (by omega), if_neg (by omega)]
  · have := hs j j0 j1
    simp only [zset]
    refine ⟨?_, by simpa using this.2.1, by simpa using this.2.2⟩
    by_cases e : j = q
    · subst e; simp; omega
    · simpa [e] using this.1
  · exact zodr_congr (fun j => by simp [zset]) (by simp [zset]) ho
  · simpa [zset] using hn
  · exact zOr_congr (fun j => by simp [zset]) (by simp [zset]) hO
  · have := hd p p0 p1 p2
    simpa [zset] using this
  · by_cases e : p = q
    · subst e; simp [zset]
    · have := ht p p0 p1 (((hS p).mp p2).resolve_right e) p3
      simpa [zset, e] using this
  · simpa [zset] using hw
  · have e : zset (zset m1 39 0 0 q (E 4 q)) 10 0 0 8 (if m1 10 0 0 8 < E 4 q then E 4 q else m1 10 0 0 8) 10 0 0 8 = if m1 10 0 0 8 < E 4 q then E 4 q else m1 10 0 0 8 := by simp [zset]
    rw [e]
    obtain ⟨x0, x1, x2⟩ := hx
    refine ⟨by split <;> omega, fun p p0 p1 p2 p3 => ?_, ?_⟩
    · rcases (hS p).mp p3 with z | z
      · have := x1 p p0 p1 p2 z
        split <;> omega
      · subst z
        split <;> omega
    · by_cases c : m1 10 0 0 8 < E 4 q
      · rw [if_pos c]
        exact Or.inr ⟨q, hq.1, hq.2, hon, (hS q).mpr (Or.inr rfl), rfl⟩
      · rw [if_neg c]
        rcases x2 with z | ⟨p, p0, p1, p2, p3, p4⟩
        · exact Or.inl z
        · exact Or.inr ⟨p, p0, p1, p2, (hS p).mpr (Or.inl p3), p4⟩
/-- one step is put into the order -/
theorem zGI_3 {E : zE} {m m1 : zM} {q1 q a : Int} {S : Int → Prop} (h : zGI E m q1 q S m1) (hq : 0 ≤ q ∧ q < 32) (hon : E 0 q = 1) (hS : ∀ p : Int, 0 ≤ p → p ≤ q → S p) (ha : 0 ≤ a) (han : a ≤ m1 10 0 0 7) (h1 : a = 0 ∨ m1 39 0 0 q ≤ m1 39 0 0 (m1 44 0 0 (a - 1))) (h2 : ∀ j : Int, a ≤ j → j < m1 10 0 0 7 → m1 39 0 0 (m1 44 0 0 j) < m1 39 0 0 q) : zGI E m q1 (q + 1) S (zsho m1 a (m1 10 0 0 7) q) := by
  obtain ⟨hf, hs, ho, hn, hO, hd, ht, hw, hx⟩ := h
  have hI := zOr_ins hq hon ho hO (fun p p0 p1 p2 => ht p p0 (by omega) (hS p p0 p1) p2) ha han h1 h2
  refine ⟨fun t s i k h => ?_, fun j j0 j1 => ?_, ⟨by rw [zsho_n]; omega, fun j j0 j1 => ?_⟩, by rw [zsho_n]; omega, hI, fun p p0 p1 p2 => ?_, fun p p0 p1 p2 p3 => ?_, ?_, ?_⟩
  · rw [← hf t s i k h]
    simp only [zsct] at h
    exact zsho_o (by omega) (by omega)
  · rw [zsho_o (by decide) (by omega), zsho_o (by decide) (by omega), zsho_o (by decide) (by omega)]
    exact hs j j0 j1
  · rw [zsho_n] at j1
    rw [zsho_od ha (by omega)]
    simp only [zins]
    split
    · exact ho.2 j j0 (by omega)
    · split
      · exact hq
      · exact ho.2 (j - 1) (by omega) (by omega)
  · rw [zsho_o (by decide) (by omega), zsho_o (by decide) (by omega), zsho_o (by decide) (by omega)]
    exact hd p p0 p1 p2
  · rw [zsho_o (by decide) (by omega)]
    exact ht p p0 p1 p2 p3
  · rw [zsho_o (by decide) (by omega)]
    exact hw
  · rw [zsho_o (by decide) (by omega)]
    exact hx
theorem zmxs_congr {f f' : Int → Int} : ∀ n : Nat, (∀ j : Int, 0 ≤ j → j < n → f j = f' j) → zmxs f n = zmxs f' n
  | 0, _ => rfl
  | n + 1, h => by
    rw [zmxs, zmxs, zmxs_congr n (fun j h0 h1 => h j h0 (by omega)), h n (by omega) (by omega)]
