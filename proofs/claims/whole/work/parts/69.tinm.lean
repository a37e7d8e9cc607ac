/-- so many tins of size S weigh x -/
def zcei (x S : Int) : Int := ((if 0 < x then x else 0) + S - 1) / S
theorem zcei_bd {x S : Int} (hx : x ≤ 100000) (hS : 50 ≤ S ∧ S ≤ 2000) : (0 ≤ zcei x S ∧ zcei x S ≤ 2040) ∧ x ≤ zcei x S * S ∧ ∀ y : Int, 0 ≤ y → x ≤ y * S → zcei x S ≤ y := by
  have hX : 0 ≤ (if 0 < x then x else 0) ∧ (if 0 < x then x else 0) ≤ 100000 ∧ x ≤ (if 0 < x then x else 0) := by split <;> omega
  have hX2 : ∀ y : Int, 0 ≤ y * S → x ≤ y * S → (if 0 < x then x else 0) ≤ y * S := fun y h1 h2 => by split <;> omega
  unfold zcei
  generalize (if 0 < x then x else 0) = X at hX hX2
  have h0 : 0 ≤ (X + S - 1) / S := Int.ediv_nonneg (by omega) (by omega)
  have h1 : (X + S - 1) / S * S ≤ X + S - 1 := Int.ediv_mul_le _ (by omega)
  have h2 := Int.lt_ediv_add_one_mul_self (X + S - 1) (show 0 < S by omega)
  rw [Int.add_mul, Int.one_mul] at h2
  refine ⟨⟨h0, ?_⟩, by omega, fun y hy hxy => ?_⟩
  · have : (X + S - 1) / S < 2041 := Int.ediv_lt_of_lt_mul (by omega) (by omega)
    omega
  · have := hX2 y (Int.mul_nonneg hy (by omega)) hxy
    have : (X + S - 1) / S < y + 1 := Int.ediv_lt_of_lt_mul (by omega) (by rw [Int.add_mul, Int.one_mul]; omega)
    omega
theorem zcei_0 {x S : Int} (hx : x ≤ 0) (hS : 50 ≤ S) : zcei x S = 0 := by
  unfold zcei
  rw [if_neg (by omega)]
  exact Int.ediv_eq_zero_of_lt (by omega) (by omega)
theorem zcei_up {x S : Int} (hx : 0 ≤ x) : zcei x S = (x + S - 1) / S := by
  unfold zcei
  split
  · rfl
  · rw [show x = 0 by omega]
def zstl (x : Int) : Int := if 0 < x then x else 0
theorem zstl_bd {x : Int} : 0 ≤ zstl x ∧ x ≤ zstl x ∧ (zstl x = 0 ∨ zstl x = x) := by unfold zstl; split <;> omega
def znxt (n : Int) (S : Int → Int) (w y0 : Int) : Int := if n = 1 then 0 else zcei (w - y0 * S 0) (S 1)
def zcc (n : Int) (S : Int → Int) (w y0 y1 : Int) : Int := if n < 3 then 0 else zcei (zstl (w - y0 * S 0) - y1 * S 1) (S 2)
/-- what the model looks at -/
def zCand (n : Int) (S : Int → Int) (w y0 y1 y2 : Int) : Prop := (0 ≤ y0 ∧ y0 ≤ zcei w (S 0)) ∧ (n = 1 → y0 = zcei w (S 0)) ∧ (0 ≤ y1 ∧ y1 ≤ znxt n S w y0) ∧ (n = 2 → y1 = znxt n S w y0) ∧ y2 = zcc n S w y0 y1
def zSPok (n : Int) (S P : Int → Int) : Prop := ∀ k : Int, 0 ≤ k → k < n → (50 ≤ S k ∧ S k ≤ 2000) ∧ (1 ≤ P k ∧ P k ≤ 999)
theorem znxt_bd {n : Int} {S P : Int → Int} {w y0 : Int} (hn : 1 ≤ n ∧ n ≤ 3) (h : zSPok n S P) (hw : 1 ≤ w ∧ w ≤ 100000) (hy : 0 ≤ y0) : (0 ≤ znxt n S w y0 ∧ znxt n S w y0 ≤ 2040) ∧ (1 < n → w - y0 * S 0 ≤ znxt n S w y0 * S 1 ∧ ∀ y : Int, 0 ≤ y → w - y0 * S 0 ≤ y * S 1 → znxt n S w y0 ≤ y) := by
  unfold znxt
  split
  · exact ⟨by omega, fun q => by omega⟩
  · have h1 := (h 1 (by decide) (by omega)).1
    have h0 := Int.mul_nonneg hy (show 0 ≤ S 0 by have := (h 0 (by decide) (by omega)).1; omega)
    have := zcei_bd (x := w - y0 * S 0) (S := S 1) (by omega) h1
    exact ⟨this.1, fun _ => this.2⟩
theorem zcc_bd {n : Int} {S P : Int → Int} {w y0 y1 : Int} (hn : 1 ≤ n ∧ n ≤ 3) (h : zSPok n S P) (hw : 1 ≤ w ∧ w ≤ 100000) (hy : 0 ≤ y0) (hy1 : 0 ≤ y1) : (0 ≤ zcc n S w y0 y1 ∧ zcc n S w y0 y1 ≤ 2040) ∧ (2 < n → zstl (w - y0 * S 0) - y1 * S 1 ≤ zcc n S w y0 y1 * S 2 ∧ ∀ y : Int, 0 ≤ y → zstl (w - y0 * S 0) - y1 * S 1 ≤ y * S 2 → zcc n S w y0 y1 ≤ y) := by
  unfold zcc
  split
  · exact ⟨by omega, fun q => by omega⟩
  · have h2 := (h 2 (by decide) (by omega)).1
    have h0 := Int.mul_nonneg hy (show 0 ≤ S 0 by have := (h 0 (by decide) (by omega)).1; omega)
    have h1 := Int.mul_nonneg hy1 (show 0 ≤ S 1 by have := (h 1 (by decide) (by omega)).1; omega)
    have hz := zstl_bd (x := w - y0 * S 0)
    have := zcei_bd (x := zstl (w - y0 * S 0) - y1 * S 1) (S := S 2) (by omega) h2
    exact ⟨this.1, fun _ => this.2⟩
theorem zCand_fe {n : Int} {S P : Int → Int} {w y0 y1 y2 : Int} (hn : 1 ≤ n ∧ n ≤ 3) (h : zSPok n S P) (hw : 1 ≤ w ∧ w ≤ 100000) (hc : zCand n S w y0 y1 y2) : zfe n S w y0 y1 y2 ∧ (y0 ≤ 2040 ∧ y1 ≤ 2040 ∧ y2 ≤ 2040) := by
  obtain ⟨a0, a1, a2, a3, a4⟩ := hc
  have b0 := zcei_bd (x := w) (S := S 0) hw.2 (h 0 (by decide) (by omega)).1
  have b1 := znxt_bd hn h hw a0.1
  have b2 := zcc_bd hn h hw a0.1 a2.1
  have q1 : n = 1 → y1 = 0 := fun q => by
    have : znxt n S w y0 = 0 := by unfold znxt; rw [if_pos q]
    omega
  have q2 : n < 3 → y2 = 0 := fun q => by rw [a4]; unfold zcc; rw [if_pos q]
  rw [← a4] at b2
  refine ⟨⟨a0.1, a2.1, b2.1.1, fun _ => by omega, fun q => ?_, fun q => ?_, ?_⟩, by omega, by omega, b2.1.2⟩
  · rcases (show n = 1 ∨ 1 < n by omega) with c | c
    · exact absurd (q1 c) q
    · exact c
  · rcases (show n < 3 ∨ 2 < n by omega) with c | c
    · exact absurd (q2 c) q
    · exact c
  · rcases (show n = 1 ∨ n = 2 ∨ n = 3 by omega) with c | c | c
    · rw [q1 c, q2 (by omega), a1 c]
      omega
    · rw [q2 (by omega)]
      have := (b1.2 (by omega)).1
      rw [← a3 c] at this
      omega
    · have := (b2.2 (by omega)).1
      have hz := zstl_bd (x := w - y0 * S 0)
      omega
/-- whatever is enough, the model looks at something that is no worse -/
theorem zCand_dom {n : Int} {S P : Int → Int} {w y0 y1 y2 : Int} (hn : 1 ≤ n ∧ n ≤ 3) (h : zSPok n S P) (hw : 1 ≤ w ∧ w ≤ 100000) (hy : zfe n S w y0 y1 y2) : ∃ x0 x1 x2 : Int, zCand n S w x0 x1 x2 ∧ ¬ zklt (zky S P y0 y1 y2) (zky S P x0 x1 x2) := by
  obtain ⟨c0, c1, c2, d0, d1, d2, hle⟩ := hy
  have h0 := h 0 (by decide) (by omega)
  have b0 := zcei_bd (x := w) (S := S 0) hw.2 h0.1
  have p1 : 0 ≤ y1 * P 1 := by
    by_cases q : y1 = 0
    · rw [q, Int.zero_mul]; omega
    · exact Int.mul_nonneg c1 (by have := (h 1 (by decide) (d1 q)).2; omega)
  have p2 : 0 ≤ y2 * P 2 := by
    by_cases q : y2 = 0
    · rw [q, Int.zero_mul]; omega
    · exact Int.mul_nonneg c2 (by have := (h 2 (by decide) (d2 q)).2; omega)
  by_cases e0 : zcei w (S 0) < y0
  · have n0 : znxt n S w (zcei w (S 0)) = 0 := by
      unfold znxt
      split
      · rfl
      · exact zcei_0 (by omega) (by have := (h 1 (by decide) (by omega)).1; omega)
    refine ⟨zcei w (S 0), 0, 0, ⟨⟨b0.1.1, Int.le_refl _⟩, fun _ => rfl, ⟨Int.le_refl _, by omega⟩, fun _ => n0.symm, ?_⟩, ?_⟩
    · unfold zcc
      split
      · rfl
      · rw [zcei_0 ?_ (by have := (h 2 (by decide) (by omega)).1; omega)]
        unfold zstl
        rw [if_neg (by omega)]
        omega
    · have := Int.mul_le_mul_of_nonneg_right (show zcei w (S 0) + 1 ≤ y0 by omega) (show 0 ≤ P 0 by omega)
      rw [Int.add_mul, Int.one_mul] at this
      unfold zklt zky
      simp only [Int.zero_mul]
      omega
  · rcases (show n = 1 ∨ 1 < n by omega) with e | e
    · have y1z : y1 = 0 := Classical.byContradiction fun q => by have := d1 q; omega
      have y2z : y2 = 0 := Classical.byContradiction fun q => by have := d2 q; omega
      rw [y1z, y2z] at hle
      have := b0.2.2 y0 c0 (by omega)
      refine ⟨y0, y1, y2, ⟨⟨c0, by omega⟩, fun _ => by omega, ⟨c1, ?_⟩, fun q => by omega, ?_⟩, zklt_irr⟩
      · unfold znxt
        rw [if_pos e, y1z]
        exact Int.le_refl _
      · unfold zcc
        rw [if_pos (by omega), y2z]
    · have h1 := h 1 (by decide) e
      have b1 := znxt_bd hn h hw c0
      have b1' := b1.2 e
      by_cases e1 : znxt n S w y0 < y1
      · refine ⟨y0, znxt n S w y0, 0, ⟨⟨c0, by omega⟩, fun q => by omega, ⟨b1.1.1, Int.le_refl _⟩, fun _ => rfl, ?_⟩, ?_⟩
        · unfold zcc
          split
          · rfl
          · rw [zcei_0 ?_ (by have := (h 2 (by decide) (by omega)).1; omega)]
            have hz := zstl_bd (x := w - y0 * S 0)
            have := Int.mul_nonneg b1.1.1 (show 0 ≤ S 1 by omega)
            omega
        · have := Int.mul_le_mul_of_nonneg_right (show znxt n S w y0 + 1 ≤ y1 by omega) (show 0 ≤ P 1 by omega)
          rw [Int.add_mul, Int.one_mul] at this
          unfold zklt zky
          simp only [Int.zero_mul]
          omega
      · rcases (show n = 2 ∨ n = 3 by omega) with q | q
        · have y2z : y2 = 0 := Classical.byContradiction fun q => by have := d2 q; omega
          rw [y2z] at hle
          have := b1'.2 y1 c1 (by omega)
          refine ⟨y0, y1, y2, ⟨⟨c0, by omega⟩, fun q => by omega, ⟨c1, by omega⟩, fun _ => by omega, ?_⟩, zklt_irr⟩
          unfold zcc
          rw [if_pos (by omega), y2z]
        · have b2 := zcc_bd hn h hw c0 c1
          have b2' := b2.2 (by omega)
          have hz := zstl_bd (x := w - y0 * S 0)
          have h2 := h 2 (by decide) (by omega)
          have s1 := Int.mul_nonneg c1 (show 0 ≤ S 1 by omega)
          have s2 := Int.mul_nonneg c2 (show 0 ≤ S 2 by omega)
          have hm := b2'.2 y2 c2 (by omega)
          refine ⟨y0, y1, zcc n S w y0 y1, ⟨⟨c0, by omega⟩, fun q => by omega, ⟨c1, by omega⟩, fun q => by omega, rfl⟩, ?_⟩
          rcases (show y2 = zcc n S w y0 y1 ∨ zcc n S w y0 y1 + 1 ≤ y2 by omega) with q2 | q2
          · rw [← q2]
            exact zklt_irr
          · have := Int.mul_le_mul_of_nonneg_right q2 (show 0 ≤ P 2 by omega)
            rw [Int.add_mul, Int.one_mul] at this
            unfold zklt zky
            simp only
            omega
theorem zCand_best {n : Int} {S P : Int → Int} {w x0 x1 x2 : Int} (hn : 1 ≤ n ∧ n ≤ 3) (h : zSPok n S P) (hw : 1 ≤ w ∧ w ≤ 100000) (hx : zCand n S w x0 x1 x2) (hall : ∀ y0 y1 y2 : Int, zCand n S w y0 y1 y2 → ¬ zklt (zky S P y0 y1 y2) (zky S P x0 x1 x2)) : zBest n S P w x0 x1 x2 := by
  refine ⟨(zCand_fe hn h hw hx).1, fun y0 y1 y2 hy => ?_⟩
  obtain ⟨z0, z1, z2, hz, hk⟩ := zCand_dom hn h hw hy
  exact zkle_trans hk (hall z0 z1 z2 hz)
theorem zfe_congr {n : Int} {S S' : Int → Int} {w x0 x1 x2 : Int} (hS : ∀ k : Int, 0 ≤ k → k < n → S k = S' k) (h : zfe n S w x0 x1 x2) : zfe n S' w x0 x1 x2 := by
  obtain ⟨c0, c1, c2, d0, d1, d2, hle⟩ := h
  refine ⟨c0, c1, c2, d0, d1, d2, ?_⟩
  have e0 : x0 * S 0 = x0 * S' 0 := by
    by_cases q : x0 = 0
    · rw [q]; simp
    · rw [hS 0 (by decide) (d0 q)]
  have e1 : x1 * S 1 = x1 * S' 1 := by
    by_cases q : x1 = 0
    · rw [q]; simp
    · rw [hS 1 (by decide) (d1 q)]
  have e2 : x2 * S 2 = x2 * S' 2 := by
    by_cases q : x2 = 0
    · rw [q]; simp
    · rw [hS 2 (by decide) (d2 q)]
  omega
theorem zky_congr {n : Int} {S S' P P' : Int → Int} {w x0 x1 x2 : Int} (hS : ∀ k : Int, 0 ≤ k → k < n → S k = S' k) (hP : ∀ k : Int, 0 ≤ k → k < n → P k = P' k) (h : zfe n S w x0 x1 x2) : zky S P x0 x1 x2 = zky S' P' x0 x1 x2 := by
  obtain ⟨c0, c1, c2, d0, d1, d2, hle⟩ := h
  have e0 : x0 * S 0 = x0 * S' 0 ∧ x0 * P 0 = x0 * P' 0 := by
    by_cases q : x0 = 0
    · rw [q]; simp
    · rw [hS 0 (by decide) (d0 q), hP 0 (by decide) (d0 q)]; simp
  have e1 : x1 * S 1 = x1 * S' 1 ∧ x1 * P 1 = x1 * P' 1 := by
    by_cases q : x1 = 0
    · rw [q]; simp
    · rw [hS 1 (by decide) (d1 q), hP 1 (by decide) (d1 q)]; simp
  have e2 : x2 * S 2 = x2 * S' 2 ∧ x2 * P 2 = x2 * P' 2 := by
    by_cases q : x2 = 0
    · rw [q]; simp
    · rw [hS 2 (by decide) (d2 q), hP 2 (by decide) (d2 q)]; simp
  unfold zky
  rw [e0.1, e0.2, e1.1, e1.2, e2.1, e2.2]
theorem zBest_congr {n : Int} {S S' P P' : Int → Int} {w x0 x1 x2 : Int} (hS : ∀ k : Int, 0 ≤ k → k < n → S k = S' k) (hP : ∀ k : Int, 0 ≤ k → k < n → P k = P' k) (h : zBest n S P w x0 x1 x2) : zBest n S' P' w x0 x1 x2 := by
  refine ⟨zfe_congr hS h.1, fun y0 y1 y2 hy => ?_⟩
  have hy' : zfe n S w y0 y1 y2 := zfe_congr (fun k k0 k1 => (hS k k0 k1).symm) hy
  rw [← zky_congr hS hP hy', ← zky_congr hS hP h.1]
  exact h.2 y0 y1 y2 hy'
