/-! ACCOUNTS AND LOTS -/
theorem zwr_mod (x : Int) : (zwr x - x) % 4294967296 = 0 := by
  unfold zwr
  rw [Int32.toInt_ofInt]
  have := Int.bmod_def x (2 ^ 32)
  rw [show Int32.size = 2 ^ 32 from rfl, this]
  split <;> omega
theorem zwr_eq2 {x y : Int} (h : (x - y) % 4294967296 = 0) : zwr x = zwr y := by
  have h1 := zwr_mod x
  have h2 := zwr_mod y
  have i1 := zinT (Int32.ofInt x)
  have i2 := zinT (Int32.ofInt y)
  have e1 : zin (zwr x) := i1
  have e2 : zin (zwr y) := i2
  have := e1.1
  have := e1.2
  have := e2.1
  have := e2.2
  omega
/-- state 0 is as before, but for portions, hands, amounts, kinds, what can be bought, substitutes -/
def zF (m1 m0 : zM) : Prop := (∀ i k : Int, (k = 0 ∨ 8 ≤ k) → m1 3 0 i k = m0 3 0 i k) ∧ (∀ i k : Int, m1 14 0 i k = m0 14 0 i k) ∧ (∀ k : Int, k ≠ 1 → m1 2 0 0 k = m0 2 0 0 k) ∧ m1 6 0 0 0 = m0 6 0 0 0
theorem zF_rf {m : zM} : zF m m := ⟨fun _ _ _ => rfl, fun _ _ => rfl, fun _ _ => rfl, rfl⟩
theorem zF_tr {a b c : zM} (h : zF a b) (h2 : zF b c) : zF a c := ⟨fun i k hk => (h.1 i k hk).trans (h2.1 i k hk), fun i k => (h.2.1 i k).trans (h2.2.1 i k), fun k hk => (h.2.2.1 k hk).trans (h2.2.2.1 k hk), h.2.2.2.trans h2.2.2.2⟩
theorem zF_recd {m : zM} (h : 0 ≤ m 1 0 0 1) : zF (zrecd m) m := ⟨fun i k _ => zrecd_0 h (by decide), fun i k => zrecd_0 h (by decide), fun k _ => zrecd_0 h (by decide), zrecd_o (by omega) (by omega)⟩
theorem zF_set {m m1 : zM} (h : zF m1 m) {t : Nat} {s i k v : Int} (ht : (t ≠ 3 ∧ t ≠ 14 ∧ t ≠ 2 ∧ t ≠ 6) ∨ (t = 3 ∧ k ≠ 0 ∧ k < 8) ∨ (t = 2 ∧ k = 1)) : zF (zset m1 t s i k v) m := by
  refine ⟨fun i' k' hk => ?_, fun i' k' => ?_, fun k' hk => ?_, ?_⟩ <;> simp only [zset] <;> rw [if_neg (by omega)]
  · exact h.1 i' k' hk
  · exact h.2.1 i' k'
  · exact h.2.2.1 k' hk
  · exact h.2.2.2
theorem zF_menu {m : zM} {r p : Int} (h : 0 ≤ m 1 0 0 1) : zF (zk_menu r p m).2 m := by
  unfold zk_menu
  split
  · exact zF_rf
  split
  · exact zF_rf
  exact zF_set (zF_recd h) (Or.inl (by decide))
theorem zF_hands {m : zM} {x : Int} (h : 0 ≤ m 1 0 0 1) : zF (zk_hands x m).2 m := by
  unfold zk_hands
  split
  · exact zF_rf
  exact zF_set (zF_recd h) (Or.inr (Or.inr ⟨rfl, rfl⟩))
theorem zF_amount {m : zM} {r i x : Int} (h : 0 ≤ m 1 0 0 1) : zF (zk_amount r i x m).2 m := by
  unfold zk_amount
  split
  · exact zF_rf
  split
  · exact zF_rf
  exact zF_set (zF_recd h) (Or.inl (by decide))
theorem zF_buyable {m : zM} {i b : Int} (h : 0 ≤ m 1 0 0 1) : zF (zk_buyable i b m).2 m := by
  unfold zk_buyable
  split
  · exact zF_rf
  split
  · exact zF_rf
  exact zF_set (zF_recd h) (Or.inr (Or.inl (by decide)))
theorem zF_substitute {m : zM} {i o q : Int} (h : 0 ≤ m 1 0 0 1) : zF (zk_substitute i o q m).2 m := by
  unfold zk_substitute
  split
  · exact zF_rf
  split
  · exact zF_rf
  exact zF_set (zF_set (zF_recd h) (Or.inr (Or.inl (by decide)))) (Or.inr (Or.inl (by decide)))
theorem zF_tin {m : zM} {i z p : Int} (h : 0 ≤ m 1 0 0 1) : zF (zk_tin i z p m).2 m := by
  unfold zk_tin
  split
  · exact zF_rf
  split
  · exact zF_rf
  split
  · exact zF_rf
  split
  · exact zF_rf
  exact zF_set (zF_set (zF_set (zF_recd h) (Or.inl (by decide))) (Or.inl (by decide))) (Or.inr (Or.inl (by decide)))
/-- what was bought and put in is what was used, thrown away and is there; each lot spoils within the days for which it keeps -/
def zAc (m : zM) : Prop := ∀ i : Int, 0 ≤ i → i < m 2 0 0 4 → (m 3 0 i 8 + m 3 0 i 11 - m 3 0 i 9 - m 3 0 i 10 - zsum 30 (m 14 0 i)) % 4294967296 = 0 ∧ ∀ k : Int, m 3 0 i 0 < k → k ≤ 30 → m 14 0 i ((m 2 0 0 0 + k) % 30) = 0
theorem zAc_F {m1 m0 : zM} (h : zF m1 m0) (hA : zAc m0) : zAc m1 := by
  obtain ⟨h3, h14, h2, -⟩ := h
  intro i i0 i1
  rw [h2 4 (by decide)] at i1
  have := hA i i0 i1
  have e14 : m1 14 0 i = m0 14 0 i := by funext k; exact h14 i k
  rw [h3 i 8 (by omega), h3 i 11 (by omega), h3 i 9 (by omega), h3 i 10 (by omega), h3 i 0 (by omega), e14, h2 0 (by decide)]
  exact this
/-- one lot more or less -/
theorem zsum_upd {f : Int → Int} {q d : Int} (h0 : 0 ≤ q) {n : Nat} (h1 : q < n) : zsum n (fun k => if k = q then f k + d else f k) = zsum n f + d := by
  have := lz_sum1 (f := f) (g := fun k => if k = q then f k + d else f k) (q := q) (d := d) h0 (by simp) n h1 (fun j _ _ hj => by simp [hj])
  omega
theorem lz_shift {f : Int → Int} : ∀ u : Nat, zsum 30 (fun j => f (((u : Int) + j) % 30)) = zsum 30 f
  | 0 => zsum_congr 30 (fun j j0 j1 => by rw [show ((0 : Nat) : Int) + j = j by omega, Int.emod_eq_of_lt j0 (by omega)])
  | u + 1 => by
    rw [← lz_shift (f := f) u]
    have key : ∀ n : Nat, zsum n (fun j => f ((((u + 1 : Nat) : Int) + j) % 30)) + f ((u : Int) % 30) = zsum (n + 1) (fun j => f (((u : Int) + j) % 30)) := by
      intro n
      induction n with
      | zero => simp [zsum]
      | succ n ih =>
        have e : zsum (n + 1 + 1) (fun j => f (((u : Int) + j) % 30)) = zsum (n + 1) (fun j => f (((u : Int) + j) % 30)) + f (((u : Int) + ((n + 1 : Nat) : Int)) % 30) := rfl
        rw [e, ← ih]
        show zsum n (fun j => f ((((u + 1 : Nat) : Int) + j) % 30)) + f ((((u + 1 : Nat) : Int) + n) % 30) + _ = _
        rw [show ((u + 1 : Nat) : Int) + n = (u : Int) + ((n + 1 : Nat) : Int) by omega]
        omega
    have h := key 30
    have e : zsum (30 + 1) (fun j => f (((u : Int) + j) % 30)) = zsum 30 (fun j => f (((u : Int) + j) % 30)) + f (((u : Int) + ((30 : Nat) : Int)) % 30) := rfl
    rw [e, show (((u : Int) + ((30 : Nat) : Int)) % 30) = (u : Int) % 30 by omega] at h
    omega
/-- what is taken from the lots is taken in all -/
theorem ztake_sum {s i t : Int} : ∀ (n : Nat) (a left : Int) (m : zM), n ≤ 30 → 0 ≤ left → (∀ j : Int, 0 ≤ j → j < 30 → 0 ≤ m 14 s i j) →
    zsum 30 (ztake s i t n a left m 14 s i) = zsum 30 (m 14 s i) - (if zsum n (fun j => m 14 s i ((t + (a + j)) % 30)) < left then zsum n (fun j => m 14 s i ((t + (a + j)) % 30)) else left) ∧ (∀ j : Int, 0 ≤ ztake s i t n a left m 14 s i j ∨ ¬ (0 ≤ j ∧ j < 30)) ∧ (∀ j : Int, m 14 s i j = 0 → ztake s i t n a left m 14 s i j = 0)
  | 0, a, left, m, _, hl, hm => by
    refine ⟨?_, fun j => ?_, fun j h => h⟩
    · show _ = _ - (if (0 : Int) < left then 0 else left)
      split
      · show zsum 30 (m 14 s i) = _; omega
      · show zsum 30 (m 14 s i) = _; omega
    · by_cases q : 0 ≤ j ∧ j < 30
      · exact Or.inl (hm j q.1 q.2)
      · exact Or.inr q
  | n + 1, a, left, m, hn, hl, hm => by
    have hp : 0 ≤ (t + a) % 30 ∧ (t + a) % 30 < 30 := by omega
    have hlot := hm _ hp.1 hp.2
    rw [ztake]
    generalize hd : (if m 14 s i ((t + a) % 30) < left then m 14 s i ((t + a) % 30) else left) = d
    have hdb : 0 ≤ d ∧ d ≤ left ∧ d ≤ m 14 s i ((t + a) % 30) ∧ (d = left ∨ d = m 14 s i ((t + a) % 30)) := by rw [← hd]; split <;> omega
    have e14 : (zset m 14 s i ((t + a) % 30) (m 14 s i ((t + a) % 30) - d)) 14 s i = fun k => if k = (t + a) % 30 then m 14 s i k + -d else m 14 s i k := by
      funext k
      by_cases q : k = (t + a) % 30
      · subst q; simp [zset]; omega
      · simp [zset, q]
    obtain ⟨h1, h2, h3⟩ := ztake_sum (s := s) (i := i) (t := t) n (a + 1) (left - d) (zset m 14 s i ((t + a) % 30) (m 14 s i ((t + a) % 30) - d)) (by omega) (by omega) (fun j j0 j1 => by
      rw [e14]
      show 0 ≤ (if j = (t + a) % 30 then m 14 s i j + -d else m 14 s i j)
      split
      · next q => rw [q]; omega
      · exact hm j j0 j1)
    refine ⟨?_, h2, fun j hj => h3 j ?_⟩
    · rw [h1, e14, zsum_upd hp.1 hp.2]
      have e5 : zsum n (fun j => (fun k => if k = (t + a) % 30 then m 14 s i k + -d else m 14 s i k) ((t + (a + 1 + j)) % 30)) = zsum n (fun j => m 14 s i ((t + (a + (j + 1))) % 30)) := zsum_congr n (fun j j0 j1 => by
        show (if (t + (a + 1 + j)) % 30 = (t + a) % 30 then _ else _) = _
        rw [if_neg (by omega), show t + (a + 1 + j) = t + (a + (j + 1)) by omega])
      rw [e5]
      have e6 : ∀ n : Nat, zsum (n + 1) (fun j => m 14 s i ((t + (a + j)) % 30)) = m 14 s i ((t + a) % 30) + zsum n (fun j => m 14 s i ((t + (a + (j + 1))) % 30)) := by
        intro n
        induction n with
        | zero => simp [zsum]
        | succ n ih =>
          show zsum (n + 1) _ + m 14 s i ((t + (a + ((n + 1 : Nat) : Int))) % 30) = _ + (zsum n _ + m 14 s i ((t + (a + ((n : Int) + 1))) % 30))
          rw [ih, show ((n + 1 : Nat) : Int) = (n : Int) + 1 by omega]
          omega
      rw [e6 n]
      have hnn : 0 ≤ zsum n (fun j => m 14 s i ((t + (a + (j + 1))) % 30)) := by
        have := zsum_mono (f := fun _ => 0) (f' := fun j => m 14 s i ((t + (a + (j + 1))) % 30)) n (fun j j0 j1 => hm _ (by omega) (by omega))
        rw [lz_zsum0] at this
        exact this
      generalize zsum n (fun j => m 14 s i ((t + (a + (j + 1))) % 30)) = S at *
      generalize zsum 30 (m 14 s i) = T at *
      split <;> split <;> omega
    · rw [e14]
      show (if j = (t + a) % 30 then m 14 s i j + -d else m 14 s i j) = 0
      split
      · next q => rw [← q] at hdb; omega
      · exact hj
theorem ztake_all {s i t x : Int} {m : zM} (ht : 0 ≤ t) (hx : 0 ≤ x ∧ x ≤ zsum 30 (m 14 s i)) (hm : ∀ j : Int, 0 ≤ j → j < 30 → 0 ≤ m 14 s i j) : zsum 30 (ztake s i t 30 1 x m 14 s i) = zsum 30 (m 14 s i) - x := by
  have h := (ztake_sum (s := s) (i := i) (t := t) 30 1 x m (by decide) hx.1 hm).1
  have e : zsum 30 (fun j => m 14 s i ((t + (1 + j)) % 30)) = zsum 30 (m 14 s i) := by
    obtain ⟨n, rfl⟩ := Int.eq_ofNat_of_zero_le ht
    rw [← lz_shift (f := m 14 s i) (n + 1)]
    exact zsum_congr 30 (fun j _ _ => by rw [show ((n : Int) + (1 + j)) = (((n + 1 : Nat) : Int) + j) by omega])
  rw [e] at h
  rw [h]
  split <;> omega
