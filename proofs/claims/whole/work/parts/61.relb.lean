/-- the model's part of m stands for the kitchen's part of a -/
def zRM (a m : zM) : Prop := zRel a 0 (m 45 0 0) ∧ m 11 0 0 2 = a 1 0 0 0 ∧ (∀ j : Int, 0 ≤ j → j < a 1 0 0 0 → zRel a (1 + (a 1 0 0 1 - j) % 6) (fun q => m 46 0 0 (546 * (a 1 0 0 0 - 1 - j) + q))) ∧ (∀ p : Int, 0 ≤ p → p < 2 → m 48 0 0 p = a 21 0 0 p ∧ (a 21 0 0 p ≠ 0 → zRel a (7 + p) (fun q => m 47 0 0 (546 * p + q)))) ∧ m 11 0 0 6 = a 6 0 0 0 ∧ (∀ j : Int, 0 ≤ j → j < a 6 0 0 0 → m 49 0 0 j = a 22 0 0 j)
theorem zrecd_L {m : zM} : zrecd m 1 0 0 1 = (m 1 0 0 1 + 1) % 6 := by simp [zrecd, zset, zcS, zSt]
theorem zrecd_k {m : zM} : zrecd m 1 0 0 0 = if 6 < m 1 0 0 0 + 1 then 6 else m 1 0 0 0 + 1 := by simp [zrecd, zset, zcS, zSt]
theorem zrecd_new {m : zM} {t : Nat} {i k : Int} (h : zSt t i k 8 4 = true) : zrecd m t (1 + (m 1 0 0 1 + 1) % 6) i k = m t 0 i k := by
  have h1 : t ≠ 1 := by rintro rfl; simp [zSt] at h
  simp only [zrecd, zset, zcS]
  rw [if_neg (by omega), if_pos ⟨trivial, h⟩, if_neg (by omega)]
theorem zrecd_old {m : zM} {t : Nat} {s i k : Int} (h1 : t ≠ 1) (hs : s ≠ 1 + (m 1 0 0 1 + 1) % 6) : zrecd m t s i k = m t s i k := by
  simp only [zrecd, zset, zcS]
  rw [if_neg (by omega), if_neg (by omega), if_neg (by omega)]
theorem zSt_1 {t : Nat} {i k : Int} (h : zSt t i k 8 4 = true) : t ≠ 1 := by rintro rfl; simp [zSt] at h
theorem zkp_46 {m : zM} {q : Int} (hn : 0 ≤ m 11 0 0 2 ∧ m 11 0 0 2 ≤ 6) : zkp m 46 0 0 q = if m 11 0 0 2 = 6 then (if 2730 ≤ q ∧ q < 3276 then m 45 0 0 (q - 2730) else if 0 ≤ q ∧ q < 2730 then m 46 0 0 (q + 546) else m 46 0 0 q) else (if 546 * m 11 0 0 2 ≤ q ∧ q < 546 * m 11 0 0 2 + 546 then m 45 0 0 (q - 546 * m 11 0 0 2) else m 46 0 0 q) := by
  simp only [zkp]
  split
  · simp [zset, zkcp, zksh]
  · simp [zset, zkcp]
theorem zkp_o {m : zM} {t : Nat} {s i k : Int} (h : t ≠ 46) (h2 : t ≠ 11 ∨ k ≠ 2) : zkp m t s i k = m t s i k := by
  simp only [zkp]
  split
  · simp only [zset, zkcp, zksh]
    rw [if_neg (by omega), if_neg (by omega), if_neg (by omega), if_neg (by omega)]
  · simp only [zset, zkcp]
    rw [if_neg (by omega), if_neg (by omega)]
theorem zkp_n {m : zM} : zkp m 11 0 0 2 = if m 11 0 0 2 = 6 then 6 else m 11 0 0 2 + 1 := by
  simp only [zkp]
  split <;> simp [zset]
theorem zRM_keep {a m : zM} (hL : 0 ≤ a 1 0 0 1 ∧ a 1 0 0 1 < 6) (hk : 0 ≤ a 1 0 0 0 ∧ a 1 0 0 0 ≤ 6) (hd : ∀ s : Int, 0 ≤ s → s < 9 → 0 ≤ a 2 s 0 0) (h : zRM a m) : zRM (zrecd a) (zkp m) := by
  obtain ⟨h0, hn, hp, hs, h6, ht⟩ := h
  have hkr := zrecd_k (m := a)
  have hK : (a 1 0 0 0 = 6 ∧ (if 6 < a 1 0 0 0 + 1 then 6 else a 1 0 0 0 + 1) = 6) ∨ (a 1 0 0 0 < 6 ∧ (if 6 < a 1 0 0 0 + 1 then 6 else a 1 0 0 0 + 1) = a 1 0 0 0 + 1) := by split <;> omega
  generalize (if 6 < a 1 0 0 0 + 1 then 6 else a 1 0 0 0 + 1) = K at hkr hK
  have hLr := zrecd_L (m := a)
  refine ⟨zRel_mv (fun t i k ht => zrecd_0 hL.1 (zSt_1 ht)) (fun q q0 q1 => zkp_o (by decide) (by omega)) (hd 0 (by decide) (by decide)) h0, ?_, fun j j0 j1 => ?_, fun p p0 p1 => ⟨?_, fun hne => ?_⟩, ?_, fun j j0 j1 => ?_⟩
  · rw [zkp_n, hkr, hn]
    split <;> omega
  · rw [hkr] at j1
    rw [hLr, hkr]
    by_cases e : j = 0
    · subst e
      rw [show (1 : Int) + ((a 1 0 0 1 + 1) % 6 - 0) % 6 = 1 + (a 1 0 0 1 + 1) % 6 by omega]
      refine zRel_mv (fun t i k ht => zrecd_new ht) (fun q q0 q1 => ?_) (hd 0 (by decide) (by decide)) h0
      rw [zkp_46 (by omega), hn]
      by_cases c : a 1 0 0 0 = 6
      · rw [if_pos c, if_pos (by omega)]
        congr 1
        omega
      · rw [if_neg c, if_pos (by omega)]
        congr 1
        omega
    · have hj := hp (j - 1) (by omega) (by omega)
      rw [show (1 : Int) + ((a 1 0 0 1 + 1) % 6 - j) % 6 = 1 + (a 1 0 0 1 - (j - 1)) % 6 by omega]
      have j6 : j < 6 := by omega
      refine zRel_mv (fun t i k ht => zrecd_old (zSt_1 ht) (by omega)) (fun q q0 q1 => ?_) (hd _ (by omega) (by omega)) hj
      rw [zkp_46 (by omega), hn]
      by_cases c : a 1 0 0 0 = 6
      · rw [if_pos c, if_neg (by omega), if_pos (by omega)]
        congr 1
        omega
      · rw [if_neg c, if_neg (by omega)]
        congr 1
        omega
  · rw [zkp_o (by decide) (by omega), zrecd_0 hL.1 (by decide)]
    exact (hs p p0 p1).1
  · rw [zrecd_0 hL.1 (by decide)] at hne
    refine zRel_mv (fun t i k ht => zrecd_7 hL.1 (by omega)) (fun q q0 q1 => ?_) (hd _ (by omega) (by omega)) ((hs p p0 p1).2 hne)
    rw [zkp_o (by decide) (by omega)]
  · rw [zkp_o (by decide) (by omega), zrecd_0 hL.1 (by decide), h6]
  · rw [zrecd_0 hL.1 (by decide)] at j1
    rw [zkp_o (by decide) (by omega), zrecd_0 hL.1 (by decide)]
    exact ht j j0 j1
