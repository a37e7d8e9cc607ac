/-- the tails of a recipe's last n of c steps -/
def ztb (m : zM) (r c : Int) : Nat → Int → Int
  | 0 => fun _ => 0
  | n + 1 => fun k => if k = c - 1 - n then zlast m 0 r k + zmxs (fun j => if zbit (m 5 0 (r * 8 + (k + 1 + j)) 2) k then ztb m r c n (k + 1 + j) else 0) n else ztb m r c n k
/-- the menu's steps -/
def zEc (m : zM) : zE := fun a p => match a with
  | 0 => if 0 < m 4 0 (p / 8) 1 ∧ p % 8 < m 4 0 (p / 8) 2 then 1 else 0
  | 1 => zlast m 0 (p / 8) (p % 8)
  | 2 => m 5 0 p 1
  | 3 => m 5 0 p 2
  | 4 => ztb m (p / 8) (m 4 0 (p / 8) 2) 8 (p % 8)
  | _ => 0
theorem ztb_up {m : zM} {r c k : Int} : ∀ (n n' : Nat), n ≤ n' → c - n ≤ k → ztb m r c n' k = ztb m r c n k
  | n, 0, h, _ => by rw [show n = 0 by omega]
  | n, n' + 1, h, hk => by
    by_cases e : n = n' + 1
    · rw [e]
    · rw [ztb]
      simp only
      rw [if_neg (by omega)]
      exact ztb_up n n' (by omega) hk
theorem ztb_eq {m : zM} {r c k : Int} (h0 : 0 ≤ k) (hk : k < c) (hc : c ≤ 8) : ztb m r c 8 k = zlast m 0 r k + zmxs (fun j => if zbit (m 5 0 (r * 8 + (k + 1 + j)) 2) k then ztb m r c 8 (k + 1 + j) else 0) (c - k - 1).toNat := by
  have e1 := ztb_up (m := m) (r := r) (c := c) (k := k) ((c - k - 1).toNat + 1) 8 (by omega) (by omega)
  rw [e1, ztb]
  simp only
  rw [if_pos (by omega)]
  congr 1
  refine zmxs_congr _ (fun j j0 j1 => ?_)
  rw [ztb_up (m := m) (r := r) (c := c) (k := k + 1 + j) (c - k - 1).toNat 8 (by omega) (by omega)]
theorem zlast_bd {m : zM} {r k : Int} (hrec : zrec m 0) (hr : 0 ≤ r ∧ r < 4) (hb : 1 ≤ m 4 0 r 0) (hp : 0 < m 4 0 r 1) (hk : 0 ≤ k ∧ k < 8) (hc : k < m 4 0 r 2) (hd : 1 ≤ m 5 0 (8 * r + k) 0 ∧ m 5 0 (8 * r + k) 0 ≤ 240) : 1 ≤ zlast m 0 r k ∧ zlast m 0 r k ≤ 5000 := by
  simp only [zlast]
  rw [if_pos ⟨hk.1, hc, hk.2⟩]
  split
  · omega
  · simp only [zscal]
    rw [if_neg (by omega)]
    have h1 := (hrec r hr.1 hr.2).1
    have h2 := (hrec r hr.1 hr.2).2.1
    have hm := zmulb (show 0 ≤ m 5 0 (8 * r + k) 0 by omega) hd.2 (show 0 ≤ m 4 0 r 1 by omega) h1.2
    have hm2 : 1 ≤ m 5 0 (8 * r + k) 0 * m 4 0 r 1 := by
      have := Int.mul_le_mul hd.1 (show 1 ≤ m 4 0 r 1 by omega) (by decide) (by omega)
      omega
    constructor
    · exact (Int.le_ediv_iff_mul_le (by omega)).mpr (by omega)
    · exact Int.le_trans (Int.ediv_le_self _ (by omega)) (by omega)
theorem ztb_bd {m : zM} {r c : Int} (h : ∀ k : Int, 0 ≤ k → k < c → 0 ≤ zlast m 0 r k ∧ zlast m 0 r k ≤ 5000) : ∀ (n : Nat) (k : Int), (n : Int) ≤ c → 0 ≤ k → 0 ≤ ztb m r c n k ∧ ztb m r c n k ≤ 5000 * n
  | 0, k, _, _ => by simp [ztb]
  | n + 1, k, hn, hk => by
    rw [ztb]
    simp only
    split
    · next e =>
      have h1 := h k hk (by omega)
      have h2 := zmxs_bd (f := fun j => if zbit (m 5 0 (r * 8 + (k + 1 + j)) 2) k then ztb m r c n (k + 1 + j) else 0) (B := 5000 * n) (by omega) n (fun j j0 j1 => by
        have := ztb_bd h n (k + 1 + j) (by omega) (by omega)
        split <;> omega)
      omega
    · have := ztb_bd h n k (by omega) hk
      omega
theorem zEc_rc {m : zM} {r : Int} (hr : 0 ≤ r ∧ r < 4) (hp : 0 < m 4 0 r 1) (hc : 0 ≤ m 4 0 r 2 ∧ m 4 0 r 2 ≤ 8) : zErc (zEc m) m r (m 4 0 r 2) := by
  intro k k0 k1
  have e1 : (r * 8 + k) / 8 = r := by omega
  have e2 : (r * 8 + k) % 8 = k := by omega
  refine ⟨fun h => ⟨?_, ?_, rfl, rfl, ?_⟩, fun h => ?_⟩
  · simp only [zEc, e1, e2]
    rw [if_pos ⟨hp, h⟩]
  · simp only [zEc, e1, e2]
  · simp only [zEc, e1, e2]
    rw [ztb_eq k0 h hc.2]
    congr 1
    refine zmxs_congr _ (fun j j0 j1 => ?_)
    rw [show (r * 8 + (k + 1 + j)) / 8 = r by omega, show (r * 8 + (k + 1 + j)) % 8 = k + 1 + j by omega]
  · simp only [zEc, e1, e2]
    rw [if_neg (by omega)]
theorem zEc_0 {m : zM} {r k : Int} (hp : ¬ 0 < m 4 0 r 1) (hk : 0 ≤ k ∧ k < 8) : zEc m 0 (r * 8 + k) = 0 := by
  have e1 : (r * 8 + k) / 8 = r := by omega
  simp only [zEc, e1]
  rw [if_neg (fun z => hp z.1)]
theorem zEc_ok {B : Int} {m : zM} (h : zIS B m 0) : zEok (zEc m) := by
  obtain ⟨hday, hhan, hing, hrcp, hrec, hboo, hrow, hrow2, hstp⟩ := h
  intro q q0 q1 hon
  simp only [zEc] at hon
  have hon2 : 0 < m 4 0 (q / 8) 1 ∧ q % 8 < m 4 0 (q / 8) 2 := by
    by_cases c : 0 < m 4 0 (q / 8) 1 ∧ q % 8 < m 4 0 (q / 8) 2
    · exact c
    · rw [if_neg c] at hon
      omega
  have hr : 0 ≤ q / 8 ∧ q / 8 < 4 := ⟨by omega, by omega⟩
  have h2 := hrow2 (q / 8) hr.1 hr.2
  have hre := hrec (q / 8) hr.1 hr.2
  have hb : 1 ≤ m 4 0 (q / 8) 0 := h2.2.2 (by
    by_cases z : m 2 0 0 5 ≤ q / 8
    · have := h2.2.1 z; omega
    · omega)
  have hs := hstp q q0 q1 hon2.2
  have hall : ∀ k : Int, 0 ≤ k → k < m 4 0 (q / 8) 2 → 1 ≤ zlast m 0 (q / 8) k ∧ zlast m 0 (q / 8) k ≤ 5000 := fun k k0 k1 => by
    have hk := hstp (8 * (q / 8) + k) (by omega) (by omega) (by rw [show (8 * (q / 8) + k) / 8 = q / 8 by omega]; omega)
    exact zlast_bd hrec hr hb hon2.1 ⟨k0, by omega⟩ k1 ⟨hk.1.1, hk.1.2⟩
  refine ⟨hall (q % 8) (by omega) hon2.2, hs.2.1, fun k k0 k1 kb => ?_, ?_⟩
  · have h3 := hs.2.2 k k0 k1 kb
    refine ⟨h3, ?_⟩
    simp only [zEc]
    rw [show (q - q % 8 + k) / 8 = q / 8 by omega, show (q - q % 8 + k) % 8 = k by omega, if_pos ⟨hon2.1, by omega⟩]
  · simp only [zEc]
    have e := ztb_up (m := m) (r := q / 8) (c := m 4 0 (q / 8) 2) (k := q % 8) (m 4 0 (q / 8) 2).toNat 8 (by omega) (by omega)
    rw [e]
    have := ztb_bd (m := m) (r := q / 8) (c := m 4 0 (q / 8) 2) (fun k k0 k1 => by have := hall k k0 k1; omega) (m 4 0 (q / 8) 2).toNat (q % 8) (by omega) (by omega)
    omega
set_option maxRecDepth 20000 in
theorem ct_X5_gather (l : Launch) (g : zG) {B : Int} {m : zM} (hI0 : zIS B m 0) (hsc : zsch m) : zMet l g Y_X5_gather [zr 10 0 0, zr 2 0 0] m (fun v m' => v = none ∧ zGI (zEc m) m 32 32 (fun p => p < 32) m') := by
  refine zMet_introF (by decide +kernel) (Nat.le_of_ble_eq_true rfl) (ls0 := [some (zr 10 0 0), some (zr 2 0 0), none]) rfl fun X hG hE => ?_
  have hG : zGood X l g RX5 cX5_gather 4 3 := hG
  have hE : zEnd X (none) _ := hE
  have hEE := zEc_ok hI0
  obtain ⟨hday, hhan, hing, hrcp, hrec, hboo, hrow, hrow2, hstp⟩ := id hI0
  have loop : ∀ (n r : Nat) (m1 : zM), r + n = 4 → zGI (zEc m) m ((r : Int) * 8) ((r : Int) * 8) (fun p => p < (r : Int) * 8) m1 → zZ X 17 [some (zr 10 0 0), some (zr 2 0 0), some (zi r)] [] m1 := by
    intro n
    induction n with
    | zero =>
      intro r m1 hr hI1
      obtain rfl : r = 4 := by omega
      refine z_iload_n (i := 2) hG dX5_gather_17 rfl rfl ?_
      refine z_iconst hG dX5_gather_18 rfl ?_
      refine z_icmp_ge hG dX5_gather_19 (tgt := 54) rfl (fun c19 => ?_) (fun c19 => ?_)
      · refine z_vret hG hE dX5_gather_54 ?_
        exact ⟨rfl, hI1⟩
      · exact absurd c19 (by decide)
    | succ n ih =>
      intro r m1 hr hI1
      have f4 : ∀ q, m1 4 0 r q = m 4 0 r q := fun q => hI1.1 4 0 r q (by simp [zsct])
      have hre := hrec r (by omega) (by omega)
      refine z_iload_n (i := 2) hG dX5_gather_17 rfl rfl ?_
      refine z_iconst hG dX5_gather_18 rfl ?_
      refine z_icmp_ge hG dX5_gather_19 (tgt := 54) rfl (fun c19 => ?_) (fun c19 => ?_)
      · exact absurd c19 (by omega)
      · refine z_aload_n (i := 1) hG dX5_gather_22 rfl rfl ?_
        refine z_get_7_7 hG dX5_gather_23 FL_X5_40 ?_
        refine z_iload_n (i := 2) hG dX5_gather_26 rfl rfl ?_
        refine z_aa_16 hG dX5_gather_27 (by omega) (by omega) ?_
        refine z_getI hG dX5_gather_28 FL_X5_46 rfl rfl (kk := 1) rfl ?_
        rw [f4]
        refine z_if_le hG dX5_gather_31 (tgt := 48) rfl (fun c31 => ?_) (fun c31 => ?_)
        · refine z_iinc hG dX5_gather_48 (by decide) rfl (by omega) (by omega) (ls2 := [_, _, _]) rfl ?_
          refine z_goto hG dX5_gather_51 (tgt := 17) rfl ?_
          refine ih (r + 1) m1 (by omega) ?_
          have e0 : ∀ p : Int, (r : Int) * 8 ≤ p → p < ((r + 1 : Nat) : Int) * 8 → zEc m 0 p = 0 := fun p p0 p1 => by
            have := zEc_0 (m := m) (r := r) (k := p - r * 8) (by omega) ⟨by omega, by omega⟩
            rwa [show (r : Int) * 8 + (p - r * 8) = p by omega] at this
          refine zGI_n hI1 ⟨by omega, by omega, by omega⟩ e0 (by omega) e0 (fun p p0 p1 p2 => ⟨fun z => ?_, fun z => by omega⟩)
          by_cases z2 : p < (r : Int) * 8
          · exact z2
          · have := e0 p (by omega) z
            omega
        · refine z_aload_n (i := 0) hG dX5_gather_34 rfl rfl ?_
          refine z_aload_n (i := 1) hG dX5_gather_35 rfl rfl ?_
          refine z_get_7_7 hG dX5_gather_36 FL_X5_40 ?_
          refine z_iload_n (i := 2) hG dX5_gather_39 rfl rfl ?_
          refine z_aa_16 hG dX5_gather_40 (by omega) (by omega) ?_
          refine z_iload_n (i := 2) hG dX5_gather_41 rfl rfl ?_
          refine z_bipush hG dX5_gather_42 rfl ?_
          refine z_imul hG dX5_gather_44 (by omega) (by omega) ?_
          refine z_callV hG dX5_gather_45 LV_X5_51 (ct_X5_gatherSteps l g hEE ⟨by omega, by omega⟩ ⟨rfl, hre.2.2.1⟩ hrec (fun j j0 j1 j2 => by have := (hstp j j0 j1 j2).1; omega) (zEc_rc ⟨by omega, by omega⟩ c31 hre.2.2.1) hI1) (by decide) rfl rfl rfl (Nat.le_of_ble_eq_true rfl) ?_
          intro v9 m2 h9
          obtain ⟨h9a, hI2⟩ := h9
          rw [h9a]
          clear h9a v9
          refine z_iinc hG dX5_gather_48 (by decide) rfl (by omega) (by omega) (ls2 := [_, _, _]) rfl ?_
          refine z_goto hG dX5_gather_51 (tgt := 17) rfl ?_
          exact ih (r + 1) m2 (by omega) hI2
  refine z_aload_n (i := 0) hG dX5_gather_0 rfl rfl ?_
  refine z_iconst hG dX5_gather_1 rfl ?_
  refine z_put hG dX5_gather_2 FP_X5_30 rfl rfl (kk := 7) rfl ?_
  refine z_aload_n (i := 0) hG dX5_gather_5 rfl rfl ?_
  refine z_iconst hG dX5_gather_6 rfl ?_
  refine z_put hG dX5_gather_7 FP_X5_34 rfl rfl (kk := 2) rfl ?_
  refine z_aload_n (i := 0) hG dX5_gather_10 rfl rfl ?_
  refine z_iconst hG dX5_gather_11 rfl ?_
  refine z_put hG dX5_gather_12 FP_X5_37 rfl rfl (kk := 8) rfl ?_
  refine z_iconst hG dX5_gather_15 rfl ?_
  refine z_istore_n (i := 2) hG dX5_gather_16 rfl (by decide) (ls2 := [_, _, _]) rfl ?_
  refine loop 4 0 _ rfl ?_
  have o : ∀ (t : Nat) (k : Int), t ≠ 10 → zset (zset (zset m 10 0 0 7 0) 10 0 0 2 0) 10 0 0 8 0 t 0 0 k = m t 0 0 k := fun t k h => by simp [zset, h]
  refine ⟨fun t s i k h => ?_, fun j j0 j1 => ?_, ⟨by simp [zset], fun j j0 j1 => ?_⟩, by simp [zset], ⟨fun j j0 j1 => ?_, fun p p0 p1 p2 => ?_, fun i j i0 ij jn => ?_, fun f => ?_⟩, fun p p0 p1 p2 => by omega, fun p p0 p1 p2 p3 => by omega, by simp [zset, zsum], ⟨by simp [zset], fun p p0 p1 p2 p3 => by omega, Or.inl (by simp [zset])⟩⟩
  · simp only [zsct] at h
    simp only [zset]
    rw [if_neg (by omega), if_neg (by omega), if_neg (by omega)]
  · rw [o 39 j (by decide), o 41 j (by decide), o 42 j (by decide)]
    exact hsc j j0 j1
  · simp [zset] at j1; omega
  · simp [zset] at j1; omega
  · simp only [zEr, if_true] at p2
    rw [if_neg (by omega)] at p2
    omega
  · simp [zset] at jn; omega
  · have e : zsum 32 (fun p => if zEr (zEc m) (((0 : Nat) : Int) * 8) 0 p = 1 then f p else 0) = zsum 32 (fun _ => 0) := zsum_congr 32 (fun j j0 j1 => by
      rw [if_neg]
      simp only [zEr, if_true]
      rw [if_neg (by omega)]
      decide)
    rw [e]
    simp [zset, zsum]
