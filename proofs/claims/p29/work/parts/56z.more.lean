theorem zrecd_L {m : zM} : zrecd m 1 0 0 1 = (m 1 0 0 1 + 1) % 6 := by simp [zrecd, zset, zcS, zSt]
theorem zrecd_k {m : zM} : zrecd m 1 0 0 0 = if 6 < m 1 0 0 0 + 1 then 6 else m 1 0 0 0 + 1 := by simp [zrecd, zset, zcS, zSt]
theorem zrecd_new {m : zM} {t : Nat} {i k : Int} (h : zSt t i k 8 4 = true) : zrecd m t (1 + (m 1 0 0 1 + 1) % 6) i k = m t 0 i k := by
  have h1 : t ≠ 1 := by rintro rfl; simp [zSt] at h
  simp only [zrecd, zset, zcS]
  rw [if_neg (by omega), if_pos ⟨trivial, h⟩, if_neg (by omega)]
theorem zrecd_old {m : zM} {t : Nat} {s i k : Int} (h1 : t ≠ 1) (hs : s ≠ 1 + (m 1 0 0 1 + 1) % 6) : zrecd m t s i k = m t s i k := by
  simp only [zrecd, zset, zcS]
  rw [if_neg (by omega), if_neg (by omega), if_neg (by omega)]
theorem zSt_1 {t : Nat} {i k : Int} (h : zSt t i k 8 4 = true) : t ≠ 1 := by rintro rfl; simp [zSt] at h
theorem zapp_o {u : Nat} {t : Nat} {s i k : Int} (h6 : t ≠ 6) (h22 : t ≠ 22) : ∀ (n : Nat) (m : zM), zapp u n m t s i k = m t s i k
  | 0, _ => rfl
  | n + 1, m => by
    rw [zapp, zapp_o h6 h22 n]
    simp [zset, h6, h22]
theorem zapp_22 {u : Nat} : ∀ (n : Nat) (m : zM) (j : Int), zapp u n m 22 0 0 j = if m 6 0 0 0 ≤ j ∧ j < m 6 0 0 0 + n then zby u (n - 1 - (j - m 6 0 0 0).toNat) else m 22 0 0 j
  | 0, m, j => by
    rw [if_neg (by omega)]
    rfl
  | n + 1, m, j => by
    rw [zapp, zapp_22 n]
    have q6 : zset (zset m 22 0 0 (m 6 0 0 0) (zby u n)) 6 0 0 0 (m 6 0 0 0 + 1) 6 0 0 0 = m 6 0 0 0 + 1 := by simp [zset]
    have q22 : zset (zset m 22 0 0 (m 6 0 0 0) (zby u n)) 6 0 0 0 (m 6 0 0 0 + 1) 22 0 0 j = if j = m 6 0 0 0 then zby u n else m 22 0 0 j := by simp [zset]
    rw [q6, q22]
    by_cases c : j = m 6 0 0 0
    · rw [if_neg (by omega), if_pos c, if_pos (by omega)]
      congr 1
      omega
    · rw [if_neg c]
      by_cases c2 : m 6 0 0 0 + 1 ≤ j ∧ j < m 6 0 0 0 + 1 + n
      · rw [if_pos c2, if_pos (by omega)]
        congr 1
        omega
      · rw [if_neg c2, if_neg (by omega)]
theorem zthrow_o {d : Int} {t' : Nat} {s' j k : Int} : ∀ (n : Nat) (i acc : Int) (A : zM), ((t' ≠ 14 ∧ t' ≠ 3) ∨ s' ≠ 0 ∨ j < i ∨ (t' = 3 ∧ k ≠ 10) ∨ (t' = 14 ∧ k ≠ d % 30)) → (zthrow 0 d n i acc A).2 t' s' j k = A t' s' j k
  | 0, _, _, _, _ => rfl
  | n + 1, i, acc, A, h => by
    rw [zthrow, zthrow_o n _ _ _ (by omega)]
    simp only [zset]
    rw [if_neg (by omega), if_neg (by omega)]
