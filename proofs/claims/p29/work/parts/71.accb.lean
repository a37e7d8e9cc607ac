/-! WHAT CHANGES DO TO ACCOUNTS AND LOTS -/
theorem zAc_stock {B : Int} {m : zM} {i x : Int} (hI : zInv B m) (hA : zAc m) : zAc (zk_stock i x m).2 := by
  unfold zk_stock
  split
  · exact hA
  split
  · exact hA
  split
  · exact hA
  next c1 c2 c3 =>
  have hr0 : ∀ (t : Nat) (i k : Int), t ≠ 1 → zrecd m t 0 i k = m t 0 i k := fun t i k ht => zrecd_0 hI.1.1.1 ht
  have hday := (zInv0 hI).1
  show zAc (zset (zset (zrecd m) 14 0 i ((m 2 0 0 0 + m 3 0 i 0) % 30) (m 14 0 i ((m 2 0 0 0 + m 3 0 i 0) % 30) + x)) 3 0 i 11 (zwr (m 3 0 i 11 + x)))
  intro j j0
  generalize hp : (m 2 0 0 0 + m 3 0 i 0) % 30 = p
  have e2 : ∀ k : Int, zset (zset (zrecd m) 14 0 i p (m 14 0 i p + x)) 3 0 i 11 (zwr (m 3 0 i 11 + x)) 2 0 0 k = m 2 0 0 k := fun k => by
    simp only [zset]
    rw [if_neg (by omega), if_neg (by omega), hr0 2 0 k (by decide)]
  have e3 : ∀ j k : Int, zset (zset (zrecd m) 14 0 i p (m 14 0 i p + x)) 3 0 i 11 (zwr (m 3 0 i 11 + x)) 3 0 j k = if j = i ∧ k = 11 then zwr (m 3 0 i 11 + x) else m 3 0 j k := fun j k => by
    simp only [zset]
    by_cases q : j = i ∧ k = 11
    · rw [if_pos (by first | exact ⟨rfl, rfl, q.1, q.2⟩ | exact ⟨trivial, trivial, q.1, q.2⟩), if_pos q]
    · rw [if_neg (by omega), if_neg (by omega), if_neg q, hr0 3 j k (by decide)]
  have e14 : ∀ j k : Int, zset (zset (zrecd m) 14 0 i p (m 14 0 i p + x)) 3 0 i 11 (zwr (m 3 0 i 11 + x)) 14 0 j k = if j = i ∧ k = p then m 14 0 i p + x else m 14 0 j k := fun j k => by
    simp only [zset]
    by_cases q : j = i ∧ k = p
    · rw [if_neg (by omega), if_pos (by first | exact ⟨rfl, rfl, q.1, q.2⟩ | exact ⟨trivial, trivial, q.1, q.2⟩), if_pos q]
    · rw [if_neg (by omega), if_neg (by omega), if_neg q, hr0 14 j k (by decide)]
  generalize zset (zset (zrecd m) 14 0 i p (m 14 0 i p + x)) 3 0 i 11 (zwr (m 3 0 i 11 + x)) = a at *
  intro j1
  rw [e2] at j1
  obtain ⟨h1, h2⟩ := hA j j0 j1
  have hrow := (zInv0 hI).2.2.2.2.2.2.1 j j0 (by have := (zInv0 hI).2.2.1; omega)
  have hkept := hrow.2.2.1
  have hkept1 := hrow.2.2.2.2.2 j1
  rw [e3 j 8, e3 j 11, e3 j 9, e3 j 10, e3 j 0, if_neg (by omega), if_neg (show ¬ (j = i ∧ (9 : Int) = 11) by omega), if_neg (show ¬ (j = i ∧ (10 : Int) = 11) by omega), if_neg (show ¬ (j = i ∧ (0 : Int) = 11) by omega), e2]
  by_cases q : j = i
  · subst q
    have hp0 : 0 ≤ p ∧ p < 30 := by omega
    have ef : a 14 0 j = fun k => if k = p then m 14 0 j k + x else m 14 0 j k := by
      funext k
      rw [e14]
      by_cases z : k = p
      · rw [if_pos ⟨rfl, z⟩, if_pos z, z]
      · rw [if_neg (fun y => z y.2), if_neg z]
    rw [if_pos ⟨rfl, rfl⟩, ef, zsum_upd (f := m 14 0 j) (n := 30) hp0.1 hp0.2]
    have hw := zwr_mod (m 3 0 j 11 + x)
    refine ⟨by omega, fun k k0 k1 => ?_⟩
    show (if (m 2 0 0 0 + k) % 30 = p then _ else _) = _
    rw [if_neg (by omega)]
    exact h2 k k0 k1
  · rw [if_neg (by omega)]
    have ef : a 14 0 j = m 14 0 j := by
      funext k
      rw [e14, if_neg (by omega)]
    rw [ef]
    exact ⟨h1, h2⟩
/-- a day's throwing away, place by place -/
theorem zthrow_at {s d : Int} : ∀ (n : Nat) (i acc : Int) (m : zM), (∀ j k : Int, (zthrow s d n i acc m).2 14 s j k = if i ≤ j ∧ j < i + n ∧ k = d % 30 then 0 else m 14 s j k) ∧
    (∀ j : Int, (zthrow s d n i acc m).2 3 s j 10 = if i ≤ j ∧ j < i + n then zwr (m 3 s j 10 + m 14 s j (d % 30)) else m 3 s j 10) ∧
    (∀ (t : Nat) (s' j k : Int), (t ≠ 14 ∧ (t ≠ 3 ∨ k ≠ 10)) ∨ s' ≠ s → (zthrow s d n i acc m).2 t s' j k = m t s' j k) ∧
    ((∀ j : Int, i ≤ j → j < i + n → 0 ≤ m 14 s j (d % 30)) → 0 ≤ acc → acc + zsum n (fun j => m 14 s (i + j) (d % 30)) < 2147483648 → (zthrow s d n i acc m).1 = acc + zsum n (fun j => m 14 s (i + j) (d % 30)))
  | 0, i, acc, m => by
    refine ⟨fun j k => ?_, fun j => ?_, fun t s' j k _ => rfl, fun _ _ _ => ?_⟩
    · rw [if_neg (by omega)]; rfl
    · rw [if_neg (by omega)]; rfl
    · show acc = acc + 0; omega
  | n + 1, i, acc, m => by
    obtain ⟨h1, h2, h3, h4⟩ := zthrow_at (s := s) (d := d) n (i + 1) (zwr (acc + m 14 s i (d % 30))) (zset (zset m 14 s i (d % 30) 0) 3 s i 10 (zwr (m 3 s i 10 + m 14 s i (d % 30))))
    have f14 : ∀ j k : Int, zset (zset m 14 s i (d % 30) 0) 3 s i 10 (zwr (m 3 s i 10 + m 14 s i (d % 30))) 14 s j k = if j = i ∧ k = d % 30 then 0 else m 14 s j k := fun j k => by
      simp only [zset]
      by_cases q : j = i ∧ k = d % 30
      · rw [if_neg (by omega), if_pos (by first | exact ⟨rfl, rfl, q.1, q.2⟩ | exact ⟨trivial, trivial, q.1, q.2⟩), if_pos q]
      · rw [if_neg (by omega), if_neg (by omega), if_neg q]
    have f3 : ∀ j : Int, zset (zset m 14 s i (d % 30) 0) 3 s i 10 (zwr (m 3 s i 10 + m 14 s i (d % 30))) 3 s j 10 = if j = i then zwr (m 3 s i 10 + m 14 s i (d % 30)) else m 3 s j 10 := fun j => by
      simp only [zset]
      by_cases q : j = i
      · rw [if_pos (by first | exact ⟨rfl, rfl, q, rfl⟩ | exact ⟨trivial, trivial, q, trivial⟩), if_pos q]
      · rw [if_neg (by omega), if_neg (by omega), if_neg q]
    rw [zthrow]
    refine ⟨fun j k => ?_, fun j => ?_, fun t s' j k hh => ?_, fun hn ha hs => ?_⟩
    · rw [h1, f14]
      by_cases c1 : i + 1 ≤ j ∧ j < i + 1 + n ∧ k = d % 30
      · rw [if_pos c1, if_pos (by omega)]
      · rw [if_neg c1]
        by_cases c2 : j = i ∧ k = d % 30
        · rw [if_pos c2, if_pos (by omega)]
        · rw [if_neg c2, if_neg (by omega)]
    · rw [h2, f3, f14]
      by_cases c1 : i + 1 ≤ j ∧ j < i + 1 + n
      · rw [if_pos c1, if_neg (by omega), if_neg (by omega), if_pos (by omega)]
      · rw [if_neg c1]
        by_cases c2 : j = i
        · rw [if_pos c2, if_pos (by omega), c2]
        · rw [if_neg c2, if_neg (by omega)]
    · rw [h3 t s' j k hh]
      simp only [zset]
      rw [if_neg (by omega), if_neg (by omega)]
    · have e6 : ∀ n : Nat, zsum (n + 1) (fun j => m 14 s (i + j) (d % 30)) = m 14 s i (d % 30) + zsum n (fun j => m 14 s (i + 1 + j) (d % 30)) := by
        intro n
        induction n with
        | zero => simp [zsum]
        | succ n ih =>
          show zsum (n + 1) _ + m 14 s (i + ((n + 1 : Nat) : Int)) (d % 30) = _ + (zsum n _ + m 14 s (i + 1 + (n : Int)) (d % 30))
          rw [ih, show i + ((n + 1 : Nat) : Int) = i + 1 + (n : Int) by omega]
          omega
      rw [e6 n] at hs ⊢
      have h0 := hn i (by omega) (by omega)
      have e7 : zsum n (fun j => zset (zset m 14 s i (d % 30) 0) 3 s i 10 (zwr (m 3 s i 10 + m 14 s i (d % 30))) 14 s (i + 1 + j) (d % 30)) = zsum n (fun j => m 14 s (i + 1 + j) (d % 30)) := zsum_congr n (fun j j0 j1 => by rw [f14, if_neg (by omega)])
      have hnn : 0 ≤ zsum n (fun j => m 14 s (i + 1 + j) (d % 30)) := by
        have := zsum_mono (f := fun _ => 0) (f' := fun j => m 14 s (i + 1 + j) (d % 30)) n (fun j j0 j1 => hn _ (by omega) (by omega))
        rw [lz_zsum0] at this
        exact this
      have ez : zwr (acc + m 14 s i (d % 30)) = acc + m 14 s i (d % 30) := zwr_eq ⟨by omega, by omega⟩
      have h5 := h4 (fun j a1 a2 => by rw [f14]; split; omega; exact hn j (by omega) (by omega)) (by omega) (by rw [e7, ez]; omega)
      rw [h5, e7, ez]
      omega
/-- all that there is in the pantry -/
def zTot (m : zM) : Int := zsum 8 (fun i => zsum 30 (m 14 0 i))
def zLnn (m : zM) : Prop := ∀ i j : Int, 0 ≤ i → i < 8 → 0 ≤ j → j < 30 → 0 ≤ m 14 0 i j
theorem zsum_zero {f : Int → Int} {q : Int} (h0 : 0 ≤ q) {n : Nat} (h1 : q < n) : zsum n (fun k => if k = q then 0 else f k) = zsum n f - f q := by
  have := lz_sum1 (f := fun k => if k = q then 0 else f k) (g := f) (q := q) (d := f q) h0 (by simp) n h1 (fun j _ _ hj => by simp [hj])
  omega
theorem lz_sub {f g : Int → Int} : ∀ n : Nat, zsum n f - zsum n g = zsum n (fun j => f j - g j)
  | 0 => rfl
  | n + 1 => by
    have := lz_sub (f := f) (g := g) n
    show zsum n f + f n - (zsum n g + g n) = zsum n _ + (f n - g n)
    omega
theorem zday1 {m : zM} {acc : Int} (h0 : 0 ≤ m 2 0 0 0) (hn : m 2 0 0 4 ≤ 8) (hA : zAc m) (hL : zLnn m) (ha : 0 ≤ acc) (hs : acc + zTot m < 2147483648) (hk : ∀ i : Int, 0 ≤ i → i < m 2 0 0 4 → m 3 0 i 0 ≤ 30) :
    zAc (zthrow 0 (m 2 0 0 0 + 1) 8 0 acc (zset m 2 0 0 0 (m 2 0 0 0 + 1))).2 ∧ zLnn (zthrow 0 (m 2 0 0 0 + 1) 8 0 acc (zset m 2 0 0 0 (m 2 0 0 0 + 1))).2 ∧
    0 ≤ (zthrow 0 (m 2 0 0 0 + 1) 8 0 acc (zset m 2 0 0 0 (m 2 0 0 0 + 1))).1 ∧ (zthrow 0 (m 2 0 0 0 + 1) 8 0 acc (zset m 2 0 0 0 (m 2 0 0 0 + 1))).1 + zTot (zthrow 0 (m 2 0 0 0 + 1) 8 0 acc (zset m 2 0 0 0 (m 2 0 0 0 + 1))).2 = acc + zTot m ∧
    (zthrow 0 (m 2 0 0 0 + 1) 8 0 acc (zset m 2 0 0 0 (m 2 0 0 0 + 1))).2 2 0 0 0 = m 2 0 0 0 + 1 ∧ (∀ k : Int, k ≠ 0 → (zthrow 0 (m 2 0 0 0 + 1) 8 0 acc (zset m 2 0 0 0 (m 2 0 0 0 + 1))).2 2 0 0 k = m 2 0 0 k) ∧ (∀ i k : Int, k ≠ 10 → (zthrow 0 (m 2 0 0 0 + 1) 8 0 acc (zset m 2 0 0 0 (m 2 0 0 0 + 1))).2 3 0 i k = m 3 0 i k) ∧
    (∀ (t : Nat) (s i k : Int), t ≠ 2 → t ≠ 3 → t ≠ 14 → (zthrow 0 (m 2 0 0 0 + 1) 8 0 acc (zset m 2 0 0 0 (m 2 0 0 0 + 1))).2 t s i k = m t s i k) := by
  obtain ⟨h1, h2, h3, h4⟩ := zthrow_at (s := 0) (d := m 2 0 0 0 + 1) 8 0 acc (zset m 2 0 0 0 (m 2 0 0 0 + 1))
  have g14 : ∀ j k : Int, zset m 2 0 0 0 (m 2 0 0 0 + 1) 14 0 j k = m 14 0 j k := fun j k => by simp only [zset]; rw [if_neg (by omega)]
  have g3 : ∀ j k : Int, zset m 2 0 0 0 (m 2 0 0 0 + 1) 3 0 j k = m 3 0 j k := fun j k => by simp only [zset]; rw [if_neg (by omega)]
  have gt : ∀ (t : Nat) (s i k : Int), t ≠ 2 → zset m 2 0 0 0 (m 2 0 0 0 + 1) t s i k = m t s i k := fun t s i k ht => by simp only [zset]; rw [if_neg (by omega)]
  have g20 : zset m 2 0 0 0 (m 2 0 0 0 + 1) 2 0 0 0 = m 2 0 0 0 + 1 := by simp [zset]
  have g2 : ∀ k : Int, k ≠ 0 → zset m 2 0 0 0 (m 2 0 0 0 + 1) 2 0 0 k = m 2 0 0 k := fun k hk => by simp only [zset]; rw [if_neg (by omega)]
  have hd : 0 ≤ (m 2 0 0 0 + 1) % 30 ∧ (m 2 0 0 0 + 1) % 30 < 30 := by omega
  generalize hq : (m 2 0 0 0 + 1) % 30 = q at *
  simp only [g14, g3] at h1 h2 h4
  have hcol : zsum 8 (fun j => m 14 0 (0 + j) q) = zsum 8 (fun j => m 14 0 j q) := zsum_congr 8 (fun j _ _ => by rw [show 0 + j = j by omega])
  rw [hcol] at h4
  have hcol0 : 0 ≤ zsum 8 (fun j => m 14 0 j q) := by
    have := zsum_mono (f := fun _ => 0) (f' := fun j => m 14 0 j q) 8 (fun j j0 j1 => hL _ _ j0 (by omega) hd.1 hd.2)
    rw [lz_zsum0] at this
    exact this
  have hrow0 : ∀ j : Int, 0 ≤ j → j < 8 → m 14 0 j q ≤ zsum 30 (m 14 0 j) := fun j j0 j1 => lz_sum_ge hd.1 30 hd.2 (fun k k0 k1 => hL j k j0 j1 k0 (by omega))
  have hcolT : zsum 8 (fun j => m 14 0 j q) ≤ zTot m := zsum_mono 8 (fun j j0 j1 => hrow0 j j0 (by omega))
  have h5 := h4 (fun j a1 a2 => hL j q (by omega) (by omega) hd.1 hd.2) ha (by omega)
  generalize zthrow 0 (m 2 0 0 0 + 1) 8 0 acc (zset m 2 0 0 0 (m 2 0 0 0 + 1)) = y at *
  have r14 : ∀ j : Int, 0 ≤ j → j < 8 → y.2 14 0 j = fun k => if k = q then 0 else m 14 0 j k := fun j j0 j1 => by
    funext k
    rw [h1]
    by_cases z : k = q
    · rw [if_pos (by omega), if_pos z]
    · rw [if_neg (by omega), if_neg z]
  have rS : ∀ j : Int, 0 ≤ j → j < 8 → zsum 30 (y.2 14 0 j) = zsum 30 (m 14 0 j) - m 14 0 j q := fun j j0 j1 => by
    rw [r14 j j0 j1, zsum_zero (n := 30) hd.1 hd.2]
  have r20 : y.2 2 0 0 0 = m 2 0 0 0 + 1 := by rw [h3 2 0 0 0 (by omega), g20]
  have r2 : ∀ k : Int, k ≠ 0 → y.2 2 0 0 k = m 2 0 0 k := fun k hk => by rw [h3 2 0 0 k (by omega), g2 k hk]
  have r3 : ∀ i k : Int, k ≠ 10 → y.2 3 0 i k = m 3 0 i k := fun i k hk => by rw [h3 3 0 i k (by omega), g3]
  refine ⟨fun i i0 i1 => ?_, fun i j i0 i1 j0 j1 => ?_, by omega, ?_, r20, r2, r3, fun t s i k a1 a2 a3 => by rw [h3 t s i k (by omega), gt t s i k a1]⟩
  · rw [r2 4 (by decide)] at i1
    obtain ⟨a1, a2⟩ := hA i i0 i1
    have hk1 := hk i i0 i1
    have hw := zwr_mod (m 3 0 i 10 + m 14 0 i q)
    rw [r3 i 8 (by decide), r3 i 11 (by decide), r3 i 9 (by decide), r3 i 0 (by decide), h2 i, if_pos (by omega), rS i i0 (by omega), r20]
    refine ⟨by omega, fun k k0 k1 => ?_⟩
    rw [r14 i i0 (by omega)]
    show (if (m 2 0 0 0 + 1 + k) % 30 = q then _ else _) = _
    by_cases z : k = 30
    · rw [if_pos (by omega)]
    · have := a2 (k + 1) (by omega) (by omega)
      rw [show m 2 0 0 0 + (k + 1) = m 2 0 0 0 + 1 + k by omega] at this
      rw [this]
      split <;> rfl
  · rw [r14 i i0 i1]
    show 0 ≤ (if j = q then 0 else m 14 0 i j)
    split
    · omega
    · exact hL i j i0 i1 j0 j1
  · rw [h5]
    have : zTot y.2 = zTot m - zsum 8 (fun j => m 14 0 j q) := by
      unfold zTot
      rw [lz_sub]
      exact zsum_congr 8 (fun j j0 j1 => rS j j0 (by omega))
    omega
theorem zpass_at : ∀ (n : Nat) (acc : Int) (m : zM), 0 ≤ m 2 0 0 0 → m 2 0 0 4 ≤ 8 → zAc m → zLnn m → 0 ≤ acc → acc + zTot m < 2147483648 → (∀ i : Int, 0 ≤ i → i < m 2 0 0 4 → m 3 0 i 0 ≤ 30) →
    zAc (zpass 0 n acc m).2 ∧ zLnn (zpass 0 n acc m).2 ∧ 0 ≤ (zpass 0 n acc m).1 ∧ (zpass 0 n acc m).1 + zTot (zpass 0 n acc m).2 = acc + zTot m ∧ (zpass 0 n acc m).2 2 0 0 0 = m 2 0 0 0 + n ∧ (∀ k : Int, k ≠ 0 → (zpass 0 n acc m).2 2 0 0 k = m 2 0 0 k) ∧ (∀ i k : Int, k ≠ 10 → (zpass 0 n acc m).2 3 0 i k = m 3 0 i k) ∧ (∀ (t : Nat) (s i k : Int), t ≠ 2 → t ≠ 3 → t ≠ 14 → (zpass 0 n acc m).2 t s i k = m t s i k)
  | 0, acc, m, h0, h4, hA, hL, ha, hs, hk => ⟨hA, hL, ha, rfl, by show m 2 0 0 0 = m 2 0 0 0 + 0; omega, fun _ _ => rfl, fun _ _ _ => rfl, fun _ _ _ _ _ _ _ => rfl⟩
  | n + 1, acc, m, h0, h4, hA, hL, ha, hs, hk => by
    obtain ⟨a1, a2, a3, a4, a5, a6, a7, a8⟩ := zday1 h0 h4 hA hL ha hs hk
    rw [zpass]
    generalize zthrow 0 (m 2 0 0 0 + 1) 8 0 acc (zset m 2 0 0 0 (m 2 0 0 0 + 1)) = y at *
    obtain ⟨b1, b2, b3, b4, b5, b6, b7, b8⟩ := zpass_at n y.1 y.2 (by omega) (by rw [a6 4 (by decide)]; exact h4) a1 a2 a3 (by omega) (fun i i0 i1 => by rw [a6 4 (by decide)] at i1; rw [a7 i 0 (by decide)]; exact hk i i0 i1)
    exact ⟨b1, b2, b3, by omega, by omega, fun k hk => by rw [b6 k hk, a6 k hk], fun i k hk => by rw [b7 i k hk, a7 i k hk], fun t s i k c1 c2 c3 => by rw [b8 t s i k c1 c2 c3, a8 t s i k c1 c2 c3]⟩
/-- the lots of an ingredient: how many, the first day -/
theorem lz_fst {f : Int → Int} {t : Int} : ∀ (n : Nat) (a : Int), (zfst f 30 t n a = -6 ∧ ∀ k : Int, a ≤ k → k < a + n → ¬ 0 < f ((t + k) % 30)) ∨ (∃ k : Int, a ≤ k ∧ k < a + n ∧ zfst f 30 t n a = t + k ∧ 0 < f ((t + k) % 30))
  | 0, a => Or.inl ⟨rfl, fun k k0 k1 => by omega⟩
  | n + 1, a => by
    rw [zfst]
    by_cases c : 0 < f ((t + a) % 30)
    · rw [if_pos c]
      exact Or.inr ⟨a, by omega, by omega, rfl, c⟩
    · rw [if_neg c]
      rcases lz_fst (f := f) (t := t) n (a + 1) with ⟨h1, h2⟩ | ⟨k, k0, k1, h1, h2⟩
      · refine Or.inl ⟨h1, fun k k0 k1 => ?_⟩
        by_cases e : k = a
        · rw [e]; exact c
        · exact h2 k (by omega) (by omega)
      · exact Or.inr ⟨k, by omega, by omega, h1, h2⟩
theorem lz_lots {f : Int → Int} {t kept : Int} (hf : ∀ j : Int, 0 ≤ j → j < 30 → 0 ≤ f j) (ht : 0 ≤ t) (hk : 1 ≤ kept ∧ kept ≤ 30) (hz : ∀ k : Int, kept < k → k ≤ 30 → f ((t + k) % 30) = 0) :
    (0 < zsum 30 f ↔ 0 < zsum 30 (fun j => if 0 < f j then 1 else 0)) ∧ (0 ≤ zsum 30 (fun j => if 0 < f j then 1 else 0) ∧ zsum 30 (fun j => if 0 < f j then 1 else 0) ≤ kept) ∧ 0 ≤ zsum 30 f ∧
    ((zsum 30 (fun j => if 0 < f j then 1 else 0) = 0 ∧ zfst f 30 t 30 1 = -6) ∨ (0 < zsum 30 (fun j => if 0 < f j then 1 else 0) ∧ t < zfst f 30 t 30 1 ∧ zfst f 30 t 30 1 ≤ t + kept)) := by
  obtain ⟨n, rfl⟩ := Int.eq_ofNat_of_zero_le ht
  have hN0 : 0 ≤ zsum 30 (fun j => if 0 < f j then (1 : Int) else 0) := (zsum_le (B := 1) 30 (fun j _ _ => by split <;> omega)).1
  have hS0 : 0 ≤ zsum 30 f := by
    have := zsum_mono (f := fun _ => 0) (f' := f) 30 (fun j j0 j1 => hf j j0 (by omega))
    rw [lz_zsum0] at this
    exact this
  have hpos : ∀ j : Int, 0 ≤ j → j < 30 → 0 < f j → 0 < zsum 30 f ∧ 0 < zsum 30 (fun j => if 0 < f j then (1 : Int) else 0) := fun j j0 j1 jf => by
    have h1 := lz_sum_ge (f := f) j0 30 j1 (fun k k0 k1 => hf k k0 (by omega))
    have h2 := lz_sum_ge (f := fun j => if 0 < f j then (1 : Int) else 0) j0 30 j1 (fun k k0 k1 => by split <;> omega)
    rw [if_pos jf] at h2
    omega
  have hzero : (∀ j : Int, 0 ≤ j → j < 30 → ¬ 0 < f j) → zsum 30 f = 0 ∧ zsum 30 (fun j => if 0 < f j then (1 : Int) else 0) = 0 := fun h => by
    constructor
    · rw [← lz_zsum0 30]
      exact zsum_congr 30 (fun j j0 j1 => by have := h j j0 (by omega); have := hf j j0 (by omega); omega)
    · rw [← lz_zsum0 30]
      exact zsum_congr 30 (fun j j0 j1 => if_neg (h j j0 (by omega)))
  have hcnt : zsum 30 (fun j => if 0 < f j then (1 : Int) else 0) ≤ kept := by
    rw [← lz_shift (f := fun j => if 0 < f j then (1 : Int) else 0) (n + 1)]
    have h1 : zsum 30 (fun j => if 0 < f ((((n + 1 : Nat) : Int) + j) % 30) then (1 : Int) else 0) ≤ zsum 30 (fun j => if j < kept then 1 else 0) := zsum_mono 30 (fun j j0 j1 => by
      by_cases c : j < kept
      · rw [if_pos c]; split <;> omega
      · have := hz (j + 1) (by omega) (by omega)
        rw [show (n : Int) + (j + 1) = ((n + 1 : Nat) : Int) + j by omega] at this
        rw [if_neg (by omega), if_neg c]
        exact Int.le_refl _)
    have h2 : ∀ N : Nat, zsum N (fun j => if j < kept then (1 : Int) else 0) ≤ kept := fun N => by
      have : zsum N (fun j => if j < kept then (1 : Int) else 0) = if (N : Int) ≤ kept then (N : Int) else kept := by
        induction N with
        | zero => rw [if_pos (by omega)]; rfl
        | succ N ih =>
          show zsum N _ + (if (N : Int) < kept then (1 : Int) else 0) = _
          rw [ih]
          split <;> split <;> split <;> omega
      rw [this]
      split <;> omega
    exact Int.le_trans h1 (h2 30)
  refine ⟨?_, ⟨hN0, hcnt⟩, hS0, ?_⟩
  · by_cases c : ∃ j : Int, 0 ≤ j ∧ j < 30 ∧ 0 < f j
    · obtain ⟨j, j0, j1, jf⟩ := c
      have := hpos j j0 j1 jf
      exact ⟨fun _ => this.2, fun _ => this.1⟩
    · have := hzero (fun j j0 j1 jf => c ⟨j, j0, j1, jf⟩)
      omega
  · rcases lz_fst (f := f) (t := (n : Int)) 30 1 with ⟨h1, h2⟩ | ⟨k, k0, k1, h1, h2⟩
    · left
      have := hzero (fun j j0 j1 jf => by
        have h3 := h2 (if (n : Int) % 30 < j then j - (n : Int) % 30 else j + 30 - (n : Int) % 30) (by split <;> omega) (by split <;> omega)
        have e : ((n : Int) + (if (n : Int) % 30 < j then j - (n : Int) % 30 else j + 30 - (n : Int) % 30)) % 30 = j := by split <;> omega
        rw [e] at h3
        exact h3 jf)
      exact ⟨this.2, h1⟩
    · right
      have h3 := hpos (((n : Int) + k) % 30) (by omega) (by omega) h2
      have h4 : k ≤ kept := by
        apply Classical.byContradiction
        intro z
        have := hz k (by omega) (by omega)
        omega
      exact ⟨h3.2, by omega, by omega⟩
