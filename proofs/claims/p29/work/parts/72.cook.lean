/-! COOKING, place by place -/
theorem zcar1_at {W : zPl} {i : Int} {M : zM} (hd : 0 ≤ M 2 0 0 0) (hk : 0 ≤ M 3 0 i 0) (hL : ∀ j : Int, 0 ≤ j → j < 30 → 0 ≤ M 14 0 i j) (hW : 0 ≤ W 2 i ∧ W 2 i ≤ zsum 30 (M 14 0 i)) :
    zsum 30 (zcar1 W i M 14 0 i) = zsum 30 (M 14 0 i) - W 2 i + W 4 i ∧ zcar1 W i M 3 0 i 8 = zwr (M 3 0 i 8 + W 3 i) ∧ zcar1 W i M 3 0 i 9 = zwr (M 3 0 i 9 + (W 2 i + W 3 i - W 4 i)) ∧ (∀ k : Int, k ≠ 8 → k ≠ 9 → zcar1 W i M 3 0 i k = M 3 0 i k) ∧ (∀ j : Int, M 14 0 i j = 0 → j ≠ (M 2 0 0 0 + M 3 0 i 0) % 30 → zcar1 W i M 14 0 i j = 0) := by
  have ht := ztake_all (s := 0) (i := i) (t := M 2 0 0 0) (x := W 2 i) (m := M) hd hW hL
  have hz := (ztake_sum (s := 0) (i := i) (t := M 2 0 0 0) 30 1 (W 2 i) M (by decide) hW.1 hL).2.2
  have ho := fun (t' : Nat) (s' i' k' : Int) => ztake_out (s := 0) (i := i) (t := M 2 0 0 0) 30 1 (W 2 i) M t' s' i' k'
  simp only [zcar1]
  generalize ztake 0 i (M 2 0 0 0) 30 1 (W 2 i) M = m1 at *
  rw [ho 2 0 0 0 (by omega), ho 3 0 i 0 (by omega)]
  have hp : 0 ≤ (M 2 0 0 0 + M 3 0 i 0) % 30 ∧ (M 2 0 0 0 + M 3 0 i 0) % 30 < 30 := by omega
  generalize (M 2 0 0 0 + M 3 0 i 0) % 30 = p at *
  have e8 : zset m1 14 0 i p (m1 14 0 i p + W 4 i) 3 0 i 8 = M 3 0 i 8 := by simp only [zset]; rw [if_neg (by omega), ho 3 0 i 8 (by omega)]
  rw [e8]
  have e9 : zset (zset m1 14 0 i p (m1 14 0 i p + W 4 i)) 3 0 i 8 (zwr (M 3 0 i 8 + W 3 i)) 3 0 i 9 = M 3 0 i 9 := by simp only [zset]; rw [if_neg (by omega), if_neg (by omega), ho 3 0 i 9 (by omega)]
  rw [e9]
  have e14 : zset (zset (zset m1 14 0 i p (m1 14 0 i p + W 4 i)) 3 0 i 8 (zwr (M 3 0 i 8 + W 3 i))) 3 0 i 9 (zwr (M 3 0 i 9 + (W 2 i + W 3 i - W 4 i))) 14 0 i = fun k => if k = p then m1 14 0 i k + W 4 i else m1 14 0 i k := by
    funext k
    simp only [zset]
    rw [if_neg (by omega), if_neg (by omega)]
    by_cases q : k = p
    · rw [if_pos (by first | exact ⟨rfl, rfl, rfl, q⟩ | exact ⟨trivial, trivial, trivial, q⟩), if_pos q, q]
    · rw [if_neg (by omega), if_neg q]
  refine ⟨?_, ?_, ?_, fun k h8 h9 => ?_, fun j hj hjp => ?_⟩
  · rw [e14, zsum_upd (n := 30) hp.1 hp.2, ht]
  · simp only [zset]
    rw [if_neg (by omega), if_pos (by first | exact ⟨rfl, rfl, rfl, rfl⟩ | exact ⟨trivial, trivial, trivial, trivial⟩ | simp)]
  · simp [zset]
  · simp only [zset]
    rw [if_neg (by omega), if_neg (by omega), if_neg (by omega), ho 3 0 i k (by omega)]
  · rw [e14]
    show (if j = p then _ else _) = _
    rw [if_neg hjp]
    exact hz j hj
theorem zcarry_row {W : zPl} {M : zM} {t : Nat} {i : Nat} {k : Int} : ∀ n : Nat, i < n → zcarry W n M t 0 i k = zcar1 W i (zcarry W i M) t 0 i k
  | 0, h => by omega
  | n + 1, h => by
    rw [zcarry]
    by_cases e : i = n
    · rw [e]
    · rw [zcar1_out (by omega)]
      exact zcarry_row n (by omega)
/-- what cooking leaves -/
def zCk (m a : zM) (W : zPl) : Prop :=
  (∀ i : Int, 0 ≤ i → i < m 2 0 0 4 → zsum 30 (a 14 0 i) = zsum 30 (m 14 0 i) - W 2 i + W 4 i ∧ a 3 0 i 8 = zwr (m 3 0 i 8 + W 3 i) ∧ a 3 0 i 9 = zwr (m 3 0 i 9 + (W 2 i + W 3 i - W 4 i)) ∧ (∀ k : Int, k ≠ 8 → k ≠ 9 → a 3 0 i k = m 3 0 i k) ∧ (∀ j : Int, m 14 0 i j = 0 → j ≠ (m 2 0 0 0 + m 3 0 i 0) % 30 → a 14 0 i j = 0)) ∧
  (∀ r : Int, 0 ≤ r → r < 4 → a 4 0 r 1 = 0) ∧ a 2 0 0 2 = zwr (m 2 0 0 2 + zsum 8 (W 7)) ∧ a 2 0 0 3 = zwr (m 2 0 0 3 + 1) ∧ (∀ k : Int, k ≠ 2 → k ≠ 3 → a 2 0 0 k = m 2 0 0 k) ∧ a 6 0 0 0 = m 6 0 0 0
theorem zcook_at {B : Int} {m : zM} (hI : zInv B m) (hB : B ≤ 11900000) (hc : zmss (zPl0 m 6) 8 = 0 ∧ zhp m) : (zk_cook m).1 = zsum 8 (zPl0 m 7) ∧ zCk m (zk_cook m).2 (zPl0 m) := by
  have hI0 := zInv0 hI
  have hp := zIS_pc hI0 (by omega)
  obtain ⟨hday, hhan, hing, hrcp, hrec, hboo, hrow, hrow2, hstp⟩ := id hI0
  have hr0 : ∀ (t : Nat) (i k : Int), t ≠ 1 → zrecd m t 0 i k = m t 0 i k := fun t i k ht => zrecd_0 hI.1.1.1 ht
  unfold zk_cook
  rw [if_neg (fun z => z hc)]
  refine ⟨rfl, ?_⟩
  show zCk m (zempty (zset (zset (zcarry (zPl0 m) 8 (zrecd m)) 2 0 0 2 (zwr (m 2 0 0 2 + zsum 8 (zPl0 m 7)))) 2 0 0 3 (zwr (m 2 0 0 3 + 1))) 0 4) (zPl0 m)
  have hrw : ∀ (t : Nat) (i : Nat) (k : Int), t ≠ 1 → zcarry (zPl0 m) i (zrecd m) t 0 i k = m t 0 i k := fun t i k ht => by
    rw [zcarry_out i _ (by omega), hr0 t i k ht]
  have hout : ∀ (t : Nat) (i k : Int), t ≠ 1 → t ≠ 14 → t ≠ 3 → zcarry (zPl0 m) 8 (zrecd m) t 0 i k = m t 0 i k := fun t i k h1 h2 h3 => by
    rw [zcarry_out 8 _ (by omega), hr0 t i k h1]
  refine ⟨fun i i0 i1 => ?_, fun r r0 r1 => ?_, ?_, ?_, fun k k2 k3 => ?_, ?_⟩
  · obtain ⟨n, rfl⟩ := Int.eq_ofNat_of_zero_le i0
    have hF := lz_nf (hp.2.2 n (by omega) (by omega)).1 (hboo.1 n (by omega) (by omega)) (zPF_of hp (i := n) i1)
    have hP := zPF_of hp (i := n) i1
    have hro := hrow n (by omega) (by omega)
    have e14 : zcarry (zPl0 m) n (zrecd m) 14 0 n = m 14 0 n := by funext k; exact hrw 14 n k (by decide)
    have e20 : zcarry (zPl0 m) n (zrecd m) 2 0 0 0 = m 2 0 0 0 := by rw [zcarry_out n _ (by omega), hr0 2 0 0 (by decide)]
    have h := zcar1_at (W := zPl0 m) (i := (n : Int)) (M := zcarry (zPl0 m) n (zrecd m)) (by rw [e20]; exact hday.1) (by rw [hrw 3 n 0 (by decide)]; exact hro.2.2.1.1) (fun j j0 j1 => by rw [e14]; exact (hro.2.1 j j0 j1).1) (by
      rw [e14]
      refine ⟨hF.2.2.2.2.2.2.1.1, ?_⟩
      rw [hP.2.2.2.2.2.1]
      split <;> omega)
    rw [e14, hrw 3 n 8 (by decide), hrw 3 n 9 (by decide), e20, hrw 3 n 0 (by decide)] at h
    have a14 : zempty (zset (zset (zcarry (zPl0 m) 8 (zrecd m)) 2 0 0 2 (zwr (m 2 0 0 2 + zsum 8 (zPl0 m 7)))) 2 0 0 3 (zwr (m 2 0 0 3 + 1))) 0 4 14 0 n = zcar1 (zPl0 m) n (zcarry (zPl0 m) n (zrecd m)) 14 0 n := by
      funext k
      simp only [zempty, zset]
      rw [if_neg (by omega), if_neg (by omega), if_neg (by omega)]
      exact zcarry_row 8 (by omega)
    have a3 : ∀ k : Int, zempty (zset (zset (zcarry (zPl0 m) 8 (zrecd m)) 2 0 0 2 (zwr (m 2 0 0 2 + zsum 8 (zPl0 m 7)))) 2 0 0 3 (zwr (m 2 0 0 3 + 1))) 0 4 3 0 n k = zcar1 (zPl0 m) n (zcarry (zPl0 m) n (zrecd m)) 3 0 n k := fun k => by
      simp only [zempty, zset]
      rw [if_neg (by omega), if_neg (by omega), if_neg (by omega)]
      exact zcarry_row 8 (by omega)
    rw [a14, a3, a3]
    refine ⟨h.1, h.2.1, h.2.2.1, fun k h8 h9 => ?_, h.2.2.2.2⟩
    rw [a3, h.2.2.2.1 k h8 h9, hrw 3 n k (by decide)]
  · simp only [zempty]
    rw [if_pos (by first | exact ⟨rfl, rfl, rfl, r0, r1⟩ | exact ⟨trivial, trivial, trivial, r0, r1⟩)]
  · simp [zempty, zset]
  · simp [zempty, zset]
  · simp only [zempty, zset]
    rw [if_neg (by omega), if_neg (by omega), if_neg (by omega), hout 2 0 k (by decide) (by decide) (by decide)]
  · simp only [zempty, zset]
    rw [if_neg (by omega), if_neg (by omega), if_neg (by omega), zcarry_out 8 _ (by omega)]
    exact zrecd_o (by omega) (by omega)
theorem zk_cook_no {m : zM} (hc : ¬ (zmss (zPl0 m 6) 8 = 0 ∧ zhp m)) : zk_cook m = (-5, m) := by
  unfold zk_cook
  rw [if_pos hc]
theorem zAc_Ck {B : Int} {m a : zM} {W : zPl} (hI : zInv B m) (hA : zAc m) (h : zCk m a W) : zAc a := by
  obtain ⟨h1, -, -, -, h2, -⟩ := h
  intro i i0 i1
  rw [h2 4 (by decide) (by decide)] at i1
  obtain ⟨a1, a2⟩ := hA i i0 i1
  obtain ⟨b1, b2, b3, b4, b5⟩ := h1 i i0 i1
  have hro := (zInv0 hI).2.2.2.2.2.2.1 i i0 (by have := (zInv0 hI).2.2.1; omega)
  have hkept := hro.2.2.1
  have hkept1 := hro.2.2.2.2.2 i1
  have w1 := zwr_mod (m 3 0 i 8 + W 3 i)
  have w2 := zwr_mod (m 3 0 i 9 + (W 2 i + W 3 i - W 4 i))
  rw [b1, b2, b3, b4 11 (by decide) (by decide), b4 10 (by decide) (by decide), b4 0 (by decide) (by decide), h2 0 (by decide) (by decide)]
  refine ⟨by omega, fun k k0 k1 => b5 _ (a2 k k0 k1) (by omega)⟩
/-- without portions nothing is needed -/
theorem zPl0_none {m : zM} (hp : zpc m) (h : ∀ r : Int, 0 ≤ r → r < 4 → m 4 0 r 1 = 0) : ∀ n : Nat, (n : Int) < 8 → zPl0 m 5 n = 0 ∧ zPl0 m 7 n = 0 ∧ zPl0 m 4 n = 0 ∧ zPl0 m 6 n = 0 := by
  intro n
  induction n using Nat.strongRecOn with
  | _ n ih =>
    intro hn
    by_cases c : (n : Int) < m 2 0 0 4
    · obtain ⟨f1, f0, g1, g0, gp, f2, fc⟩ := zPF_of hp (i := n) c
      have e1 : zPl0 m 1 n = 0 := by
        rw [f1, Int.toNat_natCast]
        refine (zsum_congr (f' := fun _ => 0) n (fun k k0 k1 => ?_)).trans (lz_zsum0 n)
        obtain ⟨k2, rfl⟩ := Int.eq_ofNat_of_zero_le k0
        rw [(ih k2 (by omega) (by omega)).1]
        split
        · simp
        · rfl
      have e0 : zsum 4 (fun r => zscal m 0 r (m 17 0 r n)) = 0 := by
        exact (zsum_congr (f' := fun _ => 0) 4 (fun r r0 r1 => lz_scal0 (h r r0 (by omega)))).trans (lz_zsum0 4)
      have e2 : zPl0 m 2 n = 0 := by rw [f2]; split <;> omega
      rcases fc with ⟨-, a3, a4, a5, a6, a7, -⟩ | ⟨c1, -⟩ | ⟨c1, -⟩ | ⟨c1, -⟩
      · exact ⟨a5, a7, a4, a6⟩
      · omega
      · omega
      · omega
    · have e : ∀ a : Nat, zPl0 m a n = 0 := fun a => zPl0_out hp (by omega) (by omega) hn
      exact ⟨e 5, e 7, e 4, e 6⟩
/-- a memory with the same accounts and lots -/
def zGm (a m : zM) : Prop := (∀ i k : Int, (k = 0 ∨ 8 ≤ k) → a 3 0 i k = m 3 0 i k) ∧ (∀ i k : Int, a 14 0 i k = m 14 0 i k) ∧ a 2 0 0 0 = m 2 0 0 0 ∧ a 2 0 0 4 = m 2 0 0 4
theorem zAc_G {a m : zM} (h : zGm a m) (hA : zAc m) : zAc a := by
  obtain ⟨h3, h14, h20, h24⟩ := h
  intro i i0 i1
  rw [h24] at i1
  have := hA i i0 i1
  have e14 : a 14 0 i = m 14 0 i := by funext k; exact h14 i k
  rw [h3 i 8 (by omega), h3 i 11 (by omega), h3 i 9 (by omega), h3 i 10 (by omega), h3 i 0 (by omega), e14, h20]
  exact this
theorem zAc_ingredient {B : Int} {m : zM} {d : Int} (hI : zInv B m) (hA : zAc m) : zAc (zk_ingredient d m).2 := by
  unfold zk_ingredient
  split
  · exact hA
  split
  · exact hA
  have hr0 : ∀ (t : Nat) (i k : Int), t ≠ 1 → zrecd m t 0 i k = m t 0 i k := fun t i k ht => zrecd_0 hI.1.1.1 ht
  generalize hn : m 2 0 0 4 = n
  show zAc (zset (zset (zset (zset (zset (zfill (zset (zset (zset (zset (zset (zrecd m) 3 0 n 0 d) 3 0 n 1 1) 3 0 n 2 0) 3 0 n 5 (-6)) 3 0 n 6 (-6)) 14 0 n 30 0) 3 0 n 8 0) 3 0 n 9 0) 3 0 n 10 0) 3 0 n 11 0) 2 0 0 4 (n + 1))
  have e2 : ∀ k : Int, zset (zset (zset (zset (zset (zfill (zset (zset (zset (zset (zset (zrecd m) 3 0 n 0 d) 3 0 n 1 1) 3 0 n 2 0) 3 0 n 5 (-6)) 3 0 n 6 (-6)) 14 0 n 30 0) 3 0 n 8 0) 3 0 n 9 0) 3 0 n 10 0) 3 0 n 11 0) 2 0 0 4 (n + 1) 2 0 0 k = if k = 4 then n + 1 else m 2 0 0 k := fun k => by
    simp only [zset, zfill]
    by_cases q : k = 4
    · rw [if_pos (by first | exact ⟨rfl, rfl, rfl, q⟩ | exact ⟨trivial, trivial, trivial, q⟩), if_pos q]
    · rw [if_neg (by omega), if_neg q]
      repeat rw [if_neg (by omega)]
      exact hr0 2 0 k (by decide)
  have e14 : ∀ i k : Int, zset (zset (zset (zset (zset (zfill (zset (zset (zset (zset (zset (zrecd m) 3 0 n 0 d) 3 0 n 1 1) 3 0 n 2 0) 3 0 n 5 (-6)) 3 0 n 6 (-6)) 14 0 n 30 0) 3 0 n 8 0) 3 0 n 9 0) 3 0 n 10 0) 3 0 n 11 0) 2 0 0 4 (n + 1) 14 0 i k = if i = n ∧ 0 ≤ k ∧ k < 30 then 0 else m 14 0 i k := fun i k => by
    simp only [zset, zfill]
    by_cases q : i = n ∧ 0 ≤ k ∧ k < 30
    · rw [if_pos q]
      rw [if_neg (by omega), if_neg (by omega), if_neg (by omega), if_neg (by omega), if_neg (by omega), if_pos (by first | exact ⟨rfl, rfl, q⟩ | exact ⟨trivial, trivial, q⟩ | (simp; omega))]
    · rw [if_neg q]
      repeat rw [if_neg (by omega)]
      exact hr0 14 i k (by decide)
  have e3 : ∀ i k : Int, i ≠ n → zset (zset (zset (zset (zset (zfill (zset (zset (zset (zset (zset (zrecd m) 3 0 n 0 d) 3 0 n 1 1) 3 0 n 2 0) 3 0 n 5 (-6)) 3 0 n 6 (-6)) 14 0 n 30 0) 3 0 n 8 0) 3 0 n 9 0) 3 0 n 10 0) 3 0 n 11 0) 2 0 0 4 (n + 1) 3 0 i k = m 3 0 i k := fun i k hi => by
    simp only [zset, zfill]
    repeat rw [if_neg (by omega)]
    exact hr0 3 i k (by decide)
  have e8 : zset (zset (zset (zset (zset (zfill (zset (zset (zset (zset (zset (zrecd m) 3 0 n 0 d) 3 0 n 1 1) 3 0 n 2 0) 3 0 n 5 (-6)) 3 0 n 6 (-6)) 14 0 n 30 0) 3 0 n 8 0) 3 0 n 9 0) 3 0 n 10 0) 3 0 n 11 0) 2 0 0 4 (n + 1) 3 0 n 8 = 0 ∧ zset (zset (zset (zset (zset (zfill (zset (zset (zset (zset (zset (zrecd m) 3 0 n 0 d) 3 0 n 1 1) 3 0 n 2 0) 3 0 n 5 (-6)) 3 0 n 6 (-6)) 14 0 n 30 0) 3 0 n 8 0) 3 0 n 9 0) 3 0 n 10 0) 3 0 n 11 0) 2 0 0 4 (n + 1) 3 0 n 9 = 0 ∧ zset (zset (zset (zset (zset (zfill (zset (zset (zset (zset (zset (zrecd m) 3 0 n 0 d) 3 0 n 1 1) 3 0 n 2 0) 3 0 n 5 (-6)) 3 0 n 6 (-6)) 14 0 n 30 0) 3 0 n 8 0) 3 0 n 9 0) 3 0 n 10 0) 3 0 n 11 0) 2 0 0 4 (n + 1) 3 0 n 10 = 0 ∧ zset (zset (zset (zset (zset (zfill (zset (zset (zset (zset (zset (zrecd m) 3 0 n 0 d) 3 0 n 1 1) 3 0 n 2 0) 3 0 n 5 (-6)) 3 0 n 6 (-6)) 14 0 n 30 0) 3 0 n 8 0) 3 0 n 9 0) 3 0 n 10 0) 3 0 n 11 0) 2 0 0 4 (n + 1) 3 0 n 11 = 0 := by
    refine ⟨?_, ?_, ?_, ?_⟩ <;> simp [zset, zfill]
  generalize zset (zset (zset (zset (zset (zfill (zset (zset (zset (zset (zset (zrecd m) 3 0 n 0 d) 3 0 n 1 1) 3 0 n 2 0) 3 0 n 5 (-6)) 3 0 n 6 (-6)) 14 0 n 30 0) 3 0 n 8 0) 3 0 n 9 0) 3 0 n 10 0) 3 0 n 11 0) 2 0 0 4 (n + 1) = a at *
  intro i i0 i1
  rw [e2 4, if_pos rfl] at i1
  rw [e2 0, if_neg (by decide)]
  by_cases q : i = n
  · subst q
    have ez : zsum 30 (a 14 0 i) = 0 := by
      exact (zsum_congr (f' := fun _ => 0) 30 (fun j j0 j1 => by rw [e14, if_pos ⟨rfl, j0, by omega⟩])).trans (lz_zsum0 30)
    rw [e8.1, e8.2.1, e8.2.2.1, e8.2.2.2, ez]
    refine ⟨by decide, fun k _ _ => ?_⟩
    rw [e14, if_pos (by omega)]
  · have e14' : a 14 0 i = m 14 0 i := by funext k; rw [e14, if_neg (fun z => q z.1)]
    rw [e3 i 8 q, e3 i 9 q, e3 i 10 q, e3 i 11 q, e3 i 0 q, e14']
    exact hA i i0 (by omega)
