def zTg (t : Nat) : Prop := (2 ≤ t ∧ t ≤ 5) ∨ (12 ≤ t ∧ t ≤ 14) ∨ t = 17
/-- a is M but for the places of state 0 that are kept -/
def zH1 (a M : zM) : Prop := ∀ (t : Nat) (s i k : Int), t = 1 ∨ t = 21 ∨ zTg t → (s ≠ 0 ∨ zSt t i k 8 4 = false) → a t s i k = M t s i k
theorem zH1_rf {m : zM} : zH1 m m := fun _ _ _ _ _ _ => rfl
theorem zH1_set {a M : zM} (h : zH1 a M) {t : Nat} {i k v : Int} (ht : zSt t i k 8 4 = true) : zH1 (zset a t 0 i k v) M := fun t' s' i' k' q1 q2 => by
  simp only [zset]
  rw [if_neg]
  · exact h t' s' i' k' q1 q2
  · rintro ⟨rfl, rfl, rfl, rfl⟩
    rcases q2 with q | q
    · exact q rfl
    · rw [ht] at q; cases q
theorem lzt_14 {i k : Int} (h : 0 ≤ i ∧ i < 8) (h2 : 0 ≤ k ∧ k < 30) : zSt 14 i k 8 4 = true := by simp [zSt]; omega
theorem lzt_3 {i k : Int} (h : 0 ≤ i ∧ i < 8) (h2 : 8 ≤ k ∧ k ≤ 11) : zSt 3 i k 8 4 = true := by simp [zSt]; omega
theorem lzt_2 {k : Int} (h2 : 0 ≤ k ∧ k < 6) : zSt 2 0 k 8 4 = true := by simp [zSt]; omega
theorem lzt_4 {i k : Int} (h : 0 ≤ i ∧ i < 4) (h2 : 0 ≤ k ∧ k < 3) : zSt 4 i k 8 4 = true := by simp [zSt]; omega
theorem lzt_17 {i k : Int} (h : 0 ≤ i ∧ i < 4) (h2 : 0 ≤ k ∧ k < 8) : zSt 17 i k 8 4 = true := by simp [zSt]; omega
theorem lzt_1 {i k : Int} : zSt 1 i k 8 4 = false := by simp [zSt]
theorem lzt_21 {i k : Int} : zSt 21 i k 8 4 = false := by simp [zSt]
theorem zSt_tg {t : Nat} {i k : Int} (h : zSt t i k 8 4 = true) : zTg t := by
  simp [zSt] at h
  unfold zTg
  omega
theorem zH1_take {M : zM} {i t : Int} (hi : 0 ≤ i ∧ i < 8) : ∀ (n : Nat) (x left : Int) (m : zM), zH1 m M → zH1 (ztake 0 i t n x left m) M
  | 0, _, _, _, h => h
  | n + 1, x, left, m, h => by
    rw [ztake]
    exact zH1_take hi n _ _ _ (zH1_set h (lzt_14 hi (by omega)))
theorem zH1_car1 {W : zPl} {M m : zM} {i : Int} (hi : 0 ≤ i ∧ i < 8) (h : zH1 m M) : zH1 (zcar1 W i m) M := by
  unfold zcar1
  exact zH1_set (zH1_set (zH1_set (zH1_take hi 30 _ _ _ h) (lzt_14 hi (by omega))) (lzt_3 hi (by omega))) (lzt_3 hi (by omega))
theorem zH1_carry {W : zPl} {M : zM} : ∀ (n : Nat), n ≤ 8 → ∀ m : zM, zH1 m M → zH1 (zcarry W n m) M
  | 0, _, _, h => h
  | n + 1, hn, m, h => by
    rw [zcarry]
    exact zH1_car1 (by omega) (zH1_carry n (by omega) m h)
theorem zH1_throw {M : zM} {d : Int} : ∀ (n : Nat) (i acc : Int) (m : zM), 0 ≤ i → i + n ≤ 8 → zH1 m M → zH1 (zthrow 0 d n i acc m).2 M
  | 0, _, _, _, _, _, h => h
  | n + 1, i, acc, m, h0, h1, h => by
    rw [zthrow]
    exact zH1_throw n (i + 1) _ _ (by omega) (by omega) (zH1_set (zH1_set h (lzt_14 (by omega) (by omega))) (lzt_3 (by omega) (by omega)))
theorem zH1_pass {M : zM} : ∀ (n : Nat) (acc : Int) (m : zM), zH1 m M → zH1 (zpass 0 n acc m).2 M
  | 0, _, _, h => h
  | n + 1, acc, m, h => by
    rw [zpass]
    exact zH1_pass n _ _ (zH1_throw 8 0 acc _ (by omega) (by omega) (zH1_set h (lzt_2 (by omega))))
theorem zH1_empty {a M : zM} (h : zH1 a M) : zH1 (zempty a 0 4) M := fun t' s' i' k' q1 q2 => by
  simp only [zempty]
  rw [if_neg]
  · exact h t' s' i' k' q1 q2
  · rintro ⟨rfl, rfl, rfl, q⟩
    rcases q2 with q3 | q3
    · exact q3 rfl
    · rw [lzt_4 (by omega) (by omega)] at q3; cases q3
/-- what lies out of the states' places, and the second slot -/
def zHk (b m : zM) : Prop := (∀ (t : Nat) (i k : Int), zTg t → zSt t i k 8 4 = false → m t 0 i k = b t 0 i k) ∧ (∀ (t : Nat) (i k : Int), zSt t i k 8 4 = true → m t 8 i k = b t 0 i k) ∧ m 21 0 0 1 = 1
/-- n states back is b -/
def zHi (n : Int) (b m : zM) : Prop := zHk b m ∧ (0 ≤ n ∧ n ≤ 6 ∧ n ≤ m 1 0 0 0) ∧ ∀ s : Int, ((n = 0 ∧ s = 0) ∨ (1 ≤ n ∧ s = 1 + (m 1 0 0 1 - n + 1) % 6)) → ∀ (t : Nat) (i k : Int), zSt t i k 8 4 = true → m t s i k = b t 0 i k
def zHe (b m : zM) : Prop := ∀ (t : Nat) (i k : Int), zTg t → m t 0 i k = b t 0 i k
theorem zHe_i {b m : zM} (h : zHi 0 b m) : zHe b m := fun t i k ht => by
  cases c : zSt t i k 8 4 with
  | true => exact h.2.2 0 (Or.inl ⟨rfl, rfl⟩) t i k c
  | false => exact h.1.1 t i k ht c
theorem zHk_mut {b m a : zM} (h : zHk b m) (hL : 0 ≤ m 1 0 0 1) (ha : zH1 a (zrecd m)) : zHk b a := by
  obtain ⟨h1, h2, h3⟩ := h
  refine ⟨fun t i k ht hs => ?_, fun t i k hs => ?_, ?_⟩
  · rw [ha t 0 i k (Or.inr (Or.inr ht)) (Or.inr hs), zrecd_0 hL (by unfold zTg at ht; omega)]
    exact h1 t i k ht hs
  · have ht := zSt_tg hs
    rw [ha t 8 i k (Or.inr (Or.inr ht)) (Or.inl (by decide)), zrecd_7 hL (by decide)]
    exact h2 t i k hs
  · rw [ha 21 0 0 1 (Or.inr (Or.inl rfl)) (Or.inr lzt_21), zrecd_o (by omega) (by omega)]
    exact h3
theorem zHi_mut {n : Int} {b m a : zM} (h : zHi n b m) (hn : n ≤ 5) (hL : 0 ≤ m 1 0 0 1 ∧ m 1 0 0 1 < 6) (ha : zH1 a (zrecd m)) : zHi (n + 1) b a := by
  obtain ⟨h1, h2, h3⟩ := h
  have e0 : a 1 0 0 0 = if 6 < m 1 0 0 0 + 1 then 6 else m 1 0 0 0 + 1 := by rw [ha 1 0 0 0 (Or.inl rfl) (Or.inr lzt_1), zrecd_k]
  have e1 : a 1 0 0 1 = (m 1 0 0 1 + 1) % 6 := by rw [ha 1 0 0 1 (Or.inl rfl) (Or.inr lzt_1), zrecd_L]
  refine ⟨zHk_mut h1 hL.1 ha, ⟨by omega, by omega, ?_⟩, fun s hs t i k ht => ?_⟩
  · rw [e0]
    split <;> omega
  · have hs2 := hs.resolve_left (fun q => by omega)
    rw [e1] at hs2
    have htg := zSt_tg ht
    rw [ha t s i k (Or.inr (Or.inr htg)) (Or.inl (by omega))]
    by_cases c : n = 0
    · have : s = 1 + (m 1 0 0 1 + 1) % 6 := by omega
      rw [this, zrecd_new ht]
      exact h3 0 (Or.inl ⟨c, rfl⟩) t i k ht
    · rw [zrecd_old (by unfold zTg at htg; omega) (by omega)]
      exact h3 s (Or.inr ⟨by omega, by omega⟩) t i k ht
theorem zHi_back {n : Int} {b m : zM} (h : zHi n b m) (hn : 1 ≤ n) (hL : 0 ≤ m 1 0 0 1 ∧ m 1 0 0 1 < 6) : zHi (n - 1) b (zback m) ∧ zback m 1 0 0 0 = m 1 0 0 0 - 1 := by
  obtain ⟨⟨h1, h2, h21⟩, h4, h3⟩ := h
  have ho : ∀ (t : Nat) (s i k : Int), t ≠ 1 → zback m t s i k = zcS m 0 (1 + m 1 0 0 1 % 6) 8 4 t s i k := fun t s i k hh => by
    simp only [zback, zset]
    rw [if_neg (by omega), if_neg (by omega)]
  have e0 : zback m 1 0 0 0 = m 1 0 0 0 - 1 := by simp [zback, zset]
  have e1 : zback m 1 0 0 1 = (m 1 0 0 1 - 1) % 6 := by simp [zback, zset]
  refine ⟨⟨⟨fun t i k ht hs => ?_, fun t i k hs => ?_, ?_⟩, ⟨by omega, by omega, by omega⟩, fun s hs t i k ht => ?_⟩, e0⟩
  · rw [ho t 0 i k (by unfold zTg at ht; omega)]
    simp only [zcS]
    rw [if_neg (fun z => by rw [hs] at z; cases z.2)]
    exact h1 t i k ht hs
  · rw [ho t 8 i k (zSt_n1 hs).1, zcS_s (by decide)]
    exact h2 t i k hs
  · rw [ho 21 0 0 1 (by decide), zcS_t (by omega)]
    exact h21
  · rw [ho t s i k (zSt_n1 ht).1]
    rcases hs with ⟨q1, q2⟩ | ⟨q1, q2⟩
    · rw [q2, zcS_hit ht]
      exact h3 _ (Or.inr ⟨hn, by omega⟩) t i k ht
    · rw [e1] at q2
      rw [zcS_s (by omega)]
      exact h3 s (Or.inr ⟨hn, by omega⟩) t i k ht
/-! the changes -/
theorem lz_stk {m : zM} {i x : Int} (hi : 0 ≤ i ∧ i < m 2 0 0 4 ∧ i < 8) (hx : 1 ≤ x ∧ x ≤ 3000) (hS : 0 ≤ zsum 30 (m 14 0 i)) : zk_stock i x m = (-5, m) ∨ (0 ≤ (zk_stock i x m).1 ∧ zH1 (zk_stock i x m).2 (zrecd m)) := by
  unfold zk_stock
  rw [if_neg (by omega), if_neg (by omega)]
  split
  · exact Or.inl rfl
  · exact Or.inr ⟨by show 0 ≤ zsum 30 (m 14 0 i) + x; omega, zH1_set (zH1_set zH1_rf (lzt_14 (by omega) (by omega))) (lzt_3 (by omega) (by omega))⟩
theorem lz_mnu {m : zM} {r p : Int} (hr : 0 ≤ r ∧ r < m 2 0 0 5 ∧ r < 4) (hp : 0 ≤ p ∧ p ≤ 20) (h : 0 ≤ m 4 0 r 1) : 0 ≤ (zk_menu r p m).1 ∧ zH1 (zk_menu r p m).2 (zrecd m) := by
  unfold zk_menu
  rw [if_neg (by omega), if_neg (by omega)]
  exact ⟨h, zH1_set zH1_rf (lzt_4 (by omega) (by omega))⟩
theorem lz_hnd {m : zM} {x : Int} (hx : 1 ≤ x ∧ x ≤ 6) (h : 0 ≤ m 2 0 0 1) : 0 ≤ (zk_hands x m).1 ∧ zH1 (zk_hands x m).2 (zrecd m) := by
  unfold zk_hands
  rw [if_neg (by omega)]
  exact ⟨h, zH1_set zH1_rf (lzt_2 (by omega))⟩
theorem lz_ckk {B : Int} {m : zM} (hI : zInv B m) (hB : B ≤ 11900000) : zk_cook m = (-5, m) ∨ (0 ≤ (zk_cook m).1 ∧ zH1 (zk_cook m).2 (zrecd m) ∧ zmss (zPl0 m 6) 8 = 0 ∧ zhp m) := by
  by_cases hc : zmss (zPl0 m 6) 8 = 0 ∧ zhp m
  · right
    have hb := zplb_Pl0 (zIS_pc (zInv0 hI) (by omega))
    unfold zk_cook
    rw [if_neg (fun z => z hc)]
    refine ⟨?_, zH1_empty (zH1_set (zH1_set (zH1_carry 8 (by decide) _ zH1_rf) (lzt_2 (by omega))) (lzt_2 (by omega))), hc⟩
    have := zsum_mono (f := fun _ => 0) (f' := zPl0 m 7) 8 (fun j j0 j1 => by have := hb j j0 (by omega); omega)
    rw [lz_zsum0] at this
    exact this
  · exact Or.inl (zk_cook_no hc)
theorem lz_pss {B : Int} {m : zM} {d : Int} (hI : zInv B m) (hA : zAc m) (hB : B ≤ 4000000) (hd : 1 ≤ d ∧ d ≤ 9) (hday : m 2 0 0 0 ≤ 2900) : 0 ≤ (zk_pass d m).1 ∧ zH1 (zk_pass d m).2 (zrecd m) := by
  have hL := hI.1.1.1
  have hI0 := zInv0 hI
  have htb := lz_totb hI
  have e : zk_pass d m = zpass 0 d.toNat 0 (zrecd m) := by
    unfold zk_pass
    rw [if_neg (by omega), if_neg (by omega)]
  rw [e]
  have eT : zTot (zrecd m) = zTot m := by
    unfold zTot
    exact zsum_congr 8 (fun i _ _ => zsum_congr 30 (fun j _ _ => zrecd_0 hL (by decide)))
  obtain ⟨a1, a2, a3, a4, a5, a6, a7, a8⟩ := zpass_at d.toNat 0 (zrecd m) (by rw [zrecd_0 hL (by decide)]; exact hI0.1.1) (by rw [zrecd_0 hL (by decide)]; exact hI0.2.2.1.2) (zAc_F (zF_recd hL) hA) (fun i j i0 i1 j0 j1 => by rw [zrecd_0 hL (by decide)]; exact ((hI0.2.2.2.2.2.2.1 i i0 i1).2.1 j j0 j1).1) (Int.le_refl 0) (by rw [eT]; omega) (fun i i0 i1 => by
    rw [zrecd_0 hL (by decide)] at i1 ⊢
    have := hI0.2.2.1
    exact (hI0.2.2.2.2.2.2.1 i i0 (by omega)).2.2.1.2)
  exact ⟨a3, zH1_pass _ _ _ zH1_rf⟩
theorem zHk_pass {b m : zM} {d : Int} (h : zHk b m) (hL : 0 ≤ m 1 0 0 1) : zHk b (zk_pass d m).2 := by
  unfold zk_pass
  split
  · exact h
  split
  · exact h
  · exact zHk_mut h hL (zH1_pass _ _ _ zH1_rf)
theorem zHk_amount {b m : zM} {r i x : Int} (h : zHk b m) (hL : 0 ≤ m 1 0 0 1) : zHk b (zk_amount r i x m).2 := by
  unfold zk_amount
  split
  · exact h
  split
  · exact h
  · exact zHk_mut h hL (zH1_set zH1_rf (lzt_17 (by omega) (by omega)))
theorem zHk_cook {B : Int} {b m : zM} (hI : zInv B m) (hB : B ≤ 11900000) (h : zHk b m) : zHk b (zk_cook m).2 := by
  rcases lz_ckk hI hB with e | e
  · rw [e]; exact h
  · exact zHk_mut h hI.1.1.1 e.2.1
theorem zHk_restore {b m : zM} (h : zHk b m) (hL : 0 ≤ m 1 0 0 1) : (zk_restore 1 m).1 = b 2 0 0 0 ∧ zHe b (zk_restore 1 m).2 := by
  obtain ⟨h1, h2, h3⟩ := h
  unfold zk_restore
  rw [if_neg (by omega), if_neg (by omega)]
  refine ⟨h2 2 0 0 (lzt_2 (by omega)), fun t i k ht => ?_⟩
  have ht1 : t ≠ 1 := by unfold zTg at ht; omega
  show zcS (zrecd m) 0 (7 + 1) 8 4 t 0 i k = _
  cases c : zSt t i k 8 4 with
  | true => rw [zcS_hit c, zrecd_7 hL (by decide)]; exact h2 t i k c
  | false =>
    simp only [zcS]
    rw [if_neg (fun z => by rw [c] at z; cases z.2), zrecd_0 hL ht1]
    exact h1 t i k ht c
theorem lz_save {m : zM} : zk_save 1 m = (m 2 0 0 0, zset (zcS m 8 0 8 4) 21 0 0 1 1) := by
  unfold zk_save
  rw [if_neg (by omega)]
  rfl
theorem lz_save_i {m : zM} (hk : 0 ≤ m 1 0 0 0) : zHi 0 (zset (zcS m 8 0 8 4) 21 0 0 1 1) (zset (zcS m 8 0 8 4) 21 0 0 1 1) ∧ zHe m (zset (zcS m 8 0 8 4) 21 0 0 1 1) := by
  have ho : ∀ (t : Nat) (s i k : Int), t ≠ 21 → zset (zcS m 8 0 8 4) 21 0 0 1 1 t s i k = zcS m 8 0 8 4 t s i k := fun t s i k hh => by
    simp only [zset]
    rw [if_neg (by omega)]
  refine ⟨⟨⟨fun _ _ _ _ _ => rfl, fun t i k hs => ?_, by simp [zset]⟩, ⟨by omega, by omega, ?_⟩, fun s hs t i k ht => ?_⟩, fun t i k ht => ?_⟩
  · rw [ho t 8 i k (zSt_n1 hs).2, ho t 0 i k (zSt_n1 hs).2, zcS_hit hs, zcS_s (by decide)]
  · rw [ho 1 0 0 0 (by decide), zcS_t (by omega)]
    exact hk
  · rcases hs with ⟨_, q⟩ | ⟨q, _⟩
    · rw [q]
    · omega
  · rw [ho t 0 i k (by unfold zTg at ht; omega), zcS_s (by decide)]
theorem zPl0_He {b m : zM} (h : zHe b m) : zPl0 m = zPl0 b := zPl0_0 (fun t i k ht => h t i k (by unfold zTg; omega))
theorem zEc_He {b m : zM} (h : zHe b m) : zEc m = zEc b := zEc_45 (fun i k => h 4 i k (by unfold zTg; omega)) (fun i k => h 5 i k (by unfold zTg; omega))
theorem zAc_He {b m : zM} (h : zHe b m) (hA : zAc b) : zAc m := zAc_G ⟨fun i k _ => h 3 i k (by unfold zTg; omega), fun i k => h 14 i k (by unfold zTg; omega), h 2 0 0 (by unfold zTg; omega), h 2 0 4 (by unfold zTg; omega)⟩ hA
theorem lz_14 {b m : zM} (h : zHe b m) {i : Int} : m 14 0 i = b 14 0 i := by funext k; exact h 14 i k (by unfold zTg; omega)
set_option maxRecDepth 20000 in
theorem ct_L_back (l : Launch) (g : zG) {m0 m : zM} {B v : Int} (hI : zInv B m0) (hB2 : B ≤ 2000000) (hQ : zQ m0 m) (hA : zAc m0) (h41 : 1 ≤ m0 2 0 0 4) (h51 : 1 ≤ m0 2 0 0 5) (hday2 : m0 2 0 0 0 ≤ 2000) : zMet l g Y_L_back [zr 0 0 0, zi v] m (fun x m' => x = some (zi 1) ∧ ∃ m1, zInv (B + 44000 + 22000) m1 ∧ zAc m1 ∧ m1 2 0 0 4 = m0 2 0 0 4 ∧ m1 2 0 0 5 = m0 2 0 0 5 ∧ zQ m1 m') := by
  refine zMet_introF (by decide +kernel) (Nat.le_of_ble_eq_true rfl) (ls0 := [some (zr 0 0 0), some (zi v), none, none, none, none, none, none, none, none, none, none]) rfl fun X hG hE => ?_
  have hG : zGood X l g RL cL_back 7 12 := hG
  have hE : zEnd X (some .boolean) _ := hE
  have hB : B ≤ 11900000 := by omega
  have hB0 := zInv_B0 hI
  refine z_aload_n (i := 0) hG dL_back_0 rfl rfl ?_
  refine z_iconst hG dL_back_1 rfl ?_
  refine z_callV hG dL_back_2 LV_L_148 (cm_save l g hI hB hQ) (by decide) rfl rfl rfl (Nat.le_of_ble_eq_true rfl) ?_
  intro v9 mm h9
  rw [lz_save] at h9
  have hIb : zInv B (zset (zcS m0 8 0 8 4) 21 0 0 1 1) := by
    have := zkj_save (p := 1) hI
    rw [lz_save] at this
    exact this
  obtain ⟨hi, hbm⟩ := lz_save_i (m := m0) hI.1.2.1
  generalize zset (zcS m0 8 0 8 4) 21 0 0 1 1 = b at *
  rw [h9.1]
  replace hQ : zQ b mm := h9.2
  clear h9 v9
  show zZ X (2 + 3) _ (_ :: _) mm
  have eb : m0 2 0 0 0 = b 2 0 0 0 := (hbm 2 0 0 (by unfold zTg; omega)).symm
  simp only [eb]
  have e4 : b 2 0 0 4 = m0 2 0 0 4 := hbm 2 0 4 (by unfold zTg; omega)
  have e5 : b 2 0 0 5 = m0 2 0 0 5 := hbm 2 0 5 (by unfold zTg; omega)
  replace hI := hIb
  refine z_istore_n (i := 2) hG dL_back_5 rfl (by decide) (ls2 := [_, _, _, _, _, _, _, _, _, _, _, _]) rfl ?_
  refine z_aload_n (i := 0) hG dL_back_6 rfl rfl ?_
  refine z_iconst hG dL_back_7 rfl ?_
  refine z_callV hG dL_back_8 LV_L_68 (cqc_4 l g hI hB hQ) (by decide) rfl rfl rfl (Nat.le_of_ble_eq_true rfl) ?_
  intro v9 mm h9
  rw [h9.1]
  replace hQ := h9.2
  clear h9 v9
  refine z_istore_n (i := 3) hG dL_back_11 rfl (by decide) (ls2 := [_, _, _, _, _, _, _, _, _, _, _, _]) rfl ?_
  refine z_aload_n (i := 0) hG dL_back_12 rfl rfl ?_
  refine z_bipush hG dL_back_13 rfl ?_
  refine z_callV hG dL_back_15 LV_L_68 (cqc_8 l g hI hB hQ) (by decide) rfl rfl rfl (Nat.le_of_ble_eq_true rfl) ?_
  intro v9 mm h9
  rw [h9.1]
  replace hQ := h9.2
  clear h9 v9
  refine z_istore hG dL_back_18 (by decide) (ls2 := [_, _, _, _, _, _, _, _, _, _, _, _]) rfl ?_
  refine z_aload_n (i := 0) hG dL_back_20 rfl rfl ?_
  refine z_iconst hG dL_back_21 rfl ?_
  refine z_iconst hG dL_back_22 rfl ?_
  refine z_callV hG dL_back_23 LV_L_96 (cqa_5 l g hI hB hQ (by omega)) (by decide) rfl rfl rfl (Nat.le_of_ble_eq_true rfl) ?_
  intro v9 mm h9
  rw [h9.1]
  replace hQ := h9.2
  clear h9 v9
  refine z_istore hG dL_back_26 (by decide) (ls2 := [_, _, _, _, _, _, _, _, _, _, _, _]) rfl ?_
  refine z_aload_n (i := 0) hG dL_back_28 rfl rfl ?_
  refine z_iconst hG dL_back_29 rfl ?_
  refine z_bipush hG dL_back_30 rfl ?_
  refine z_callV hG dL_back_32 LV_L_96 (cqa_6 l g hI hB hQ (by omega)) (by decide) rfl rfl rfl (Nat.le_of_ble_eq_true rfl) ?_
  intro v9 mm h9
  rw [h9.1]
  replace hQ := h9.2
  clear h9 v9
  refine z_istore hG dL_back_35 (by decide) (ls2 := [_, _, _, _, _, _, _, _, _, _, _, _]) rfl ?_
  refine z_aload_n (i := 0) hG dL_back_37 rfl rfl ?_
  refine z_bipush hG dL_back_38 rfl ?_
  refine z_callV hG dL_back_40 LV_L_68 (cqc_11 l g hI hB hQ) (by decide) rfl rfl rfl (Nat.le_of_ble_eq_true rfl) ?_
  intro v9 mm h9
  rw [h9.1]
  replace hQ := h9.2
  clear h9 v9
  refine z_istore hG dL_back_43 (by decide) (ls2 := [_, _, _, _, _, _, _, _, _, _, _, _]) rfl ?_
  refine z_aload_n (i := 0) hG dL_back_45 rfl rfl ?_
  refine z_iconst hG dL_back_46 rfl ?_
  refine z_iconst hG dL_back_47 rfl ?_
  refine z_callV hG dL_back_48 LV_L_90 (cqr_2 l g hI hB hQ (by omega)) (by decide) rfl rfl rfl (Nat.le_of_ble_eq_true rfl) ?_
  intro v9 mm h9
  rw [h9.1]
  replace hQ := h9.2
  clear h9 v9
  refine z_istore hG dL_back_51 (by decide) (ls2 := [_, _, _, _, _, _, _, _, _, _, _, _]) rfl ?_
  refine z_iconst hG dL_back_53 rfl ?_
  refine z_istore hG dL_back_54 (by decide) (ls2 := [_, _, _, _, _, _, _, _, _, _, _, _]) rfl ?_
  have hu0 := zUp_bd (v := v) (m := 99) (by decide)
  have hS0 : 0 ≤ zsum 30 (b 14 0 0) := (zsum_le (f := b 14 0 0) (B := B) 30 (fun j j0 j1 => ((zInv0 hI).2.2.2.2.2.2.1 0 (by omega) (by omega)).2.1 j j0 (by omega))).1
  have loop : ∀ (N : Nat) (k n kept : Int) (m1 mm : zM), k + N = n + 1 → 1 ≤ k ∧ n ≤ 6 → zInv (B + 44000) m1 → zHi (n - k + 1) b m1 → m1 1 0 0 0 = kept - k + 1 → zQ m1 mm → zZ X 156 [some (zr 0 0 0), some (zi v), some (zi (b 2 0 0 0)), some (zi (zsum 8 (zPl0 b 7))), some (zi (zre (zEc b) (b 2 0 0 1))), some (zi (zsum 30 (b 14 0 0))), some (zi (zsum 30 (fun j => if 0 < b 14 0 0 j then 1 else 0))), some (zi (b 2 0 0 2)), some (zi (b 4 0 0 1)), some (zi n), some (zi kept), some (zi k)] [] mm := by
    intro N
    induction N with
    | zero =>
      intro k n kept m1 mm hkn hk1 hI hi hke hQ
      replace hi : zHi 0 b m1 := by rw [show n - k + 1 = 0 by omega] at hi; exact hi
      have hz := zHe_i hi
      have hB : B + 44000 ≤ 11900000 := by omega
      have e4 := hz 2 0 4 (by unfold zTg; omega)
      have e5 := hz 2 0 5 (by unfold zTg; omega)
      refine z_iload hG dL_back_156 rfl ?_
      refine z_iload hG dL_back_158 rfl ?_
      refine z_icmp_gt hG dL_back_160 (tgt := 183) rfl (fun zcq160 => ?_) (fun zcq160 => ?_)
      · refine z_aload_n (i := 0) hG dL_back_183 rfl rfl ?_
        refine z_iconst hG dL_back_184 rfl ?_
        refine z_callV hG dL_back_185 LV_L_68 (cqc_0 l g hI hB hQ) (by decide) rfl rfl rfl (Nat.le_of_ble_eq_true rfl) ?_
        intro v9 mm h9
        rw [h9.1, hz 2 0 0 (by unfold zTg; omega)]
        replace hQ := h9.2
        clear h9 v9
        refine z_iload_n (i := 2) hG dL_back_188 rfl rfl ?_
        refine z_icmp_ne hG dL_back_189 (tgt := 257) rfl (fun zcq189 => ?_) (fun zcq189 => ?_)
        · exact absurd rfl zcq189
        · refine z_aload_n (i := 0) hG dL_back_192 rfl rfl ?_
          refine z_iconst hG dL_back_193 rfl ?_
          refine z_callV hG dL_back_194 LV_L_68 (cqc_4 l g hI hB hQ) (by decide) rfl rfl rfl (Nat.le_of_ble_eq_true rfl) ?_
          intro v9 mm h9
          rw [h9.1, zPl0_He hz]
          replace hQ := h9.2
          clear h9 v9
          refine z_iload_n (i := 3) hG dL_back_197 rfl rfl ?_
          refine z_icmp_ne hG dL_back_198 (tgt := 257) rfl (fun zcq198 => ?_) (fun zcq198 => ?_)
          · exact absurd rfl zcq198
          · refine z_aload_n (i := 0) hG dL_back_201 rfl rfl ?_
            refine z_bipush hG dL_back_202 rfl ?_
            refine z_callV hG dL_back_204 LV_L_68 (cqc_8 l g hI hB hQ) (by decide) rfl rfl rfl (Nat.le_of_ble_eq_true rfl) ?_
            intro v9 mm h9
            rw [h9.1, zEc_He hz, hz 2 0 1 (by unfold zTg; omega)]
            replace hQ := h9.2
            clear h9 v9
            refine z_iload hG dL_back_207 rfl ?_
            refine z_icmp_ne hG dL_back_209 (tgt := 257) rfl (fun zcq209 => ?_) (fun zcq209 => ?_)
            · exact absurd rfl zcq209
            · refine z_aload_n (i := 0) hG dL_back_212 rfl rfl ?_
              refine z_iconst hG dL_back_213 rfl ?_
              refine z_iconst hG dL_back_214 rfl ?_
              refine z_callV hG dL_back_215 LV_L_96 (cqa_5 l g hI hB hQ (by omega)) (by decide) rfl rfl rfl (Nat.le_of_ble_eq_true rfl) ?_
              intro v9 mm h9
              rw [h9.1, lz_14 hz]
              replace hQ := h9.2
              clear h9 v9
              refine z_iload hG dL_back_218 rfl ?_
              refine z_icmp_ne hG dL_back_220 (tgt := 257) rfl (fun zcq220 => ?_) (fun zcq220 => ?_)
              · exact absurd rfl zcq220
              · refine z_aload_n (i := 0) hG dL_back_223 rfl rfl ?_
                refine z_iconst hG dL_back_224 rfl ?_
                refine z_bipush hG dL_back_225 rfl ?_
                refine z_callV hG dL_back_227 LV_L_96 (cqa_6 l g hI hB hQ (by omega)) (by decide) rfl rfl rfl (Nat.le_of_ble_eq_true rfl) ?_
                intro v9 mm h9
                rw [h9.1, lz_14 hz]
                replace hQ := h9.2
                clear h9 v9
                refine z_iload hG dL_back_230 rfl ?_
                refine z_icmp_ne hG dL_back_232 (tgt := 257) rfl (fun zcq232 => ?_) (fun zcq232 => ?_)
                · exact absurd rfl zcq232
                · refine z_aload_n (i := 0) hG dL_back_235 rfl rfl ?_
                  refine z_bipush hG dL_back_236 rfl ?_
                  refine z_callV hG dL_back_238 LV_L_68 (cqc_11 l g hI hB hQ) (by decide) rfl rfl rfl (Nat.le_of_ble_eq_true rfl) ?_
                  intro v9 mm h9
                  rw [h9.1, hz 2 0 2 (by unfold zTg; omega)]
                  replace hQ := h9.2
                  clear h9 v9
                  refine z_iload hG dL_back_241 rfl ?_
                  refine z_icmp_ne hG dL_back_243 (tgt := 257) rfl (fun zcq243 => ?_) (fun zcq243 => ?_)
                  · exact absurd rfl zcq243
                  · refine z_aload_n (i := 0) hG dL_back_246 rfl rfl ?_
                    refine z_iconst hG dL_back_247 rfl ?_
                    refine z_iconst hG dL_back_248 rfl ?_
                    refine z_callV hG dL_back_249 LV_L_90 (cqr_2 l g hI hB hQ (by omega)) (by decide) rfl rfl rfl (Nat.le_of_ble_eq_true rfl) ?_
                    intro v9 mm h9
                    rw [h9.1, hz 4 0 1 (by unfold zTg; omega)]
                    replace hQ := h9.2
                    clear h9 v9
                    refine z_iload hG dL_back_252 rfl ?_
                    refine z_icmp_eq hG dL_back_254 (tgt := 259) rfl (fun zcq254 => ?_) (fun zcq254 => ?_)
                    · refine z_aload_n (i := 0) hG dL_back_259 rfl rfl ?_
                      refine z_callV hG dL_back_260 LV_L_120 (cm_cook l g hI hB hQ) (by decide) rfl rfl rfl (Nat.le_of_ble_eq_true rfl) ?_
                      intro v9 mm h9
                      rw [h9.1]
                      replace hQ := h9.2
                      clear h9 v9
                      have hk := zHk_cook hI hB hi.1
                      replace hI := (zki_cook2 hI hB).1
                      replace hB : B + 44000 + 22000 ≤ 11900000 := by omega
                      refine z_pop hG dL_back_263 ?_
                      refine z_aload_n (i := 0) hG dL_back_264 rfl rfl ?_
                      refine z_bipush hG dL_back_265 rfl ?_
                      refine z_callV hG dL_back_267 LV_L_106 (cm_pass l g hI hB hQ) (by decide) rfl rfl rfl (Nat.le_of_ble_eq_true rfl) ?_
                      intro v9 mm h9
                      rw [h9.1]
                      replace hQ := h9.2
                      clear h9 v9
                      replace hk := zHk_pass (d := 20) hk hI.1.1.1
                      replace hI := zkj_pass (d := 20) hI
                      refine z_pop hG dL_back_270 ?_
                      refine z_aload_n (i := 0) hG dL_back_271 rfl rfl ?_
                      refine z_iconst hG dL_back_272 rfl ?_
                      refine z_iconst hG dL_back_273 rfl ?_
                      refine z_bipush hG dL_back_274 rfl ?_
                      refine z_callV hG dL_back_276 LV_L_109 (cm_amount l g hI hB hQ) (by decide) rfl rfl rfl (Nat.le_of_ble_eq_true rfl) ?_
                      intro v9 mm h9
                      rw [h9.1]
                      replace hQ := h9.2
                      clear h9 v9
                      replace hk := zHk_amount (r := 0) (i := 0) (x := 77) hk hI.1.1.1
                      replace hI := zkj_amount (r := 0) (i := 0) (x := 77) hI
                      refine z_pop hG dL_back_279 ?_
                      refine z_aload_n (i := 0) hG dL_back_280 rfl rfl ?_
                      refine z_iconst hG dL_back_281 rfl ?_
                      refine z_callV hG dL_back_282 LV_L_154 (cm_restore l g hI hB hQ) (by decide) rfl rfl rfl (Nat.le_of_ble_eq_true rfl) ?_
                      intro v9 mm h9
                      obtain ⟨k1, hz⟩ := zHk_restore hk hI.1.1.1
                      rw [h9.1, k1]
                      replace hQ := h9.2
                      clear h9 v9
                      replace hI := zkj_restore (p := 1) hI
                      generalize (zk_restore 1 _).2 = m5 at *
                      have e4 := hz 2 0 4 (by unfold zTg; omega)
                      have e5 := hz 2 0 5 (by unfold zTg; omega)
                      refine z_iload_n (i := 2) hG dL_back_285 rfl rfl ?_
                      refine z_icmp_ne hG dL_back_286 (tgt := 344) rfl (fun zcq286 => ?_) (fun zcq286 => ?_)
                      · exact absurd rfl zcq286
                      · refine z_aload_n (i := 0) hG dL_back_289 rfl rfl ?_
                        refine z_iconst hG dL_back_290 rfl ?_
                        refine z_callV hG dL_back_291 LV_L_68 (cqc_0 l g hI hB hQ) (by decide) rfl rfl rfl (Nat.le_of_ble_eq_true rfl) ?_
                        intro v9 mm h9
                        rw [h9.1, hz 2 0 0 (by unfold zTg; omega)]
                        replace hQ := h9.2
                        clear h9 v9
                        refine z_iload_n (i := 2) hG dL_back_294 rfl rfl ?_
                        refine z_icmp_ne hG dL_back_295 (tgt := 344) rfl (fun zcq295 => ?_) (fun zcq295 => ?_)
                        · exact absurd rfl zcq295
                        · refine z_aload_n (i := 0) hG dL_back_298 rfl rfl ?_
                          refine z_iconst hG dL_back_299 rfl ?_
                          refine z_callV hG dL_back_300 LV_L_68 (cqc_4 l g hI hB hQ) (by decide) rfl rfl rfl (Nat.le_of_ble_eq_true rfl) ?_
                          intro v9 mm h9
                          rw [h9.1, zPl0_He hz]
                          replace hQ := h9.2
                          clear h9 v9
                          refine z_iload_n (i := 3) hG dL_back_303 rfl rfl ?_
                          refine z_icmp_ne hG dL_back_304 (tgt := 344) rfl (fun zcq304 => ?_) (fun zcq304 => ?_)
                          · exact absurd rfl zcq304
                          · refine z_aload_n (i := 0) hG dL_back_307 rfl rfl ?_
                            refine z_iconst hG dL_back_308 rfl ?_
                            refine z_iconst hG dL_back_309 rfl ?_
                            refine z_callV hG dL_back_310 LV_L_96 (cqa_5 l g hI hB hQ (by omega)) (by decide) rfl rfl rfl (Nat.le_of_ble_eq_true rfl) ?_
                            intro v9 mm h9
                            rw [h9.1, lz_14 hz]
                            replace hQ := h9.2
                            clear h9 v9
                            refine z_iload hG dL_back_313 rfl ?_
                            refine z_icmp_ne hG dL_back_315 (tgt := 344) rfl (fun zcq315 => ?_) (fun zcq315 => ?_)
                            · exact absurd rfl zcq315
                            · refine z_aload_n (i := 0) hG dL_back_318 rfl rfl ?_
                              refine z_bipush hG dL_back_319 rfl ?_
                              refine z_callV hG dL_back_321 LV_L_68 (cqc_11 l g hI hB hQ) (by decide) rfl rfl rfl (Nat.le_of_ble_eq_true rfl) ?_
                              intro v9 mm h9
                              rw [h9.1, hz 2 0 2 (by unfold zTg; omega)]
                              replace hQ := h9.2
                              clear h9 v9
                              refine z_iload hG dL_back_324 rfl ?_
                              refine z_icmp_ne hG dL_back_326 (tgt := 344) rfl (fun zcq326 => ?_) (fun zcq326 => ?_)
                              · exact absurd rfl zcq326
                              · refine z_aload_n (i := 0) hG dL_back_329 rfl rfl ?_
                                refine z_iconst hG dL_back_330 rfl ?_
                                refine z_iconst hG dL_back_331 rfl ?_
                                refine z_callV hG dL_back_332 LV_L_90 (cqr_2 l g hI hB hQ (by omega)) (by decide) rfl rfl rfl (Nat.le_of_ble_eq_true rfl) ?_
                                intro v9 mm h9
                                rw [h9.1, hz 4 0 1 (by unfold zTg; omega)]
                                replace hQ := h9.2
                                clear h9 v9
                                refine z_iload hG dL_back_335 rfl ?_
                                refine z_icmp_ne hG dL_back_337 (tgt := 344) rfl (fun zcq337 => ?_) (fun zcq337 => ?_)
                                · exact absurd rfl zcq337
                                · refine z_iconst hG dL_back_340 rfl ?_
                                  refine z_goto hG dL_back_341 (tgt := 345) rfl ?_
                                  refine z_iret hG hE dL_back_345 (by first | exact Or.inl rfl | exact Or.inr rfl | (show _ ∨ _; omega)) ?_
                                  refine ⟨rfl, m5, hI, zAc_He hz (zAc_He hbm hA), e4.trans (hbm 2 0 4 (by unfold zTg; omega)), e5.trans (hbm 2 0 5 (by unfold zTg; omega)), hQ⟩
                    · exact absurd rfl zcq254
      · exact absurd zcq160 (by omega)
    | succ N ih =>
      intro k n kept m1 mm hkn hk1 hI hi hke hQ
      have hB : B + 44000 ≤ 11900000 := by omega
      have hkb := hi.2.1
      have hk6 := hI.1.2
      have eu : zk_undo m1 = (m1 1 0 0 0 - 1, zback m1) := by
        unfold zk_undo
        rw [if_neg (by omega)]
      refine z_iload hG dL_back_156 rfl ?_
      refine z_iload hG dL_back_158 rfl ?_
      refine z_icmp_gt hG dL_back_160 (tgt := 183) rfl (fun zcq160 => ?_) (fun zcq160 => ?_)
      · exact absurd zcq160 (by omega)
      · refine z_aload_n (i := 0) hG dL_back_163 rfl rfl ?_
        refine z_callV hG dL_back_164 LV_L_151 (cm_undo l g hI hB hQ) (by decide) rfl rfl rfl (Nat.le_of_ble_eq_true rfl) ?_
        intro v9 mm h9
        rw [eu] at h9
        rw [h9.1]
        replace hQ : zQ (zback m1) mm := h9.2
        clear h9 v9
        have hbk := zHi_back hi (by omega) hI.1.1
        have hI2 : zInv (B + 44000) (zback m1) := by
          have := zkj_undo hI
          rw [eu] at this
          exact this
        refine z_iload hG dL_back_167 rfl ?_
        refine z_iload hG dL_back_169 rfl ?_
        refine z_isub hG dL_back_171 (by omega) (by omega) ?_
        refine z_icmp_eq hG dL_back_172 (tgt := 177) rfl (fun zcq172 => ?_) (fun zcq172 => ?_)
        · refine z_iinc hG dL_back_177 (by decide) rfl (by omega) (by omega) (ls2 := [_, _, _, _, _, _, _, _, _, _, _, _]) rfl ?_
          refine z_goto hG dL_back_180 (tgt := 156) rfl ?_
          exact ih (k + 1) n kept (zback m1) mm (by omega) (by omega) hI2 (by rw [show n - (k + 1) + 1 = n - k + 1 - 1 by omega]; exact hbk.1) (by rw [hbk.2]; omega) hQ
        · exfalso; omega
  have h104 : ∀ (n : Int) (m1 mm : zM) (v10 v11 : Option zV), 0 ≤ n → n ≤ 3 → zInv (B + 44000) m1 → zAc m1 → zHi n b m1 → m1 2 0 0 0 ≤ 2900 → zQ m1 mm → zZ X 104 [some (zr 0 0 0), some (zi v), some (zi (b 2 0 0 0)), some (zi (zsum 8 (zPl0 b 7))), some (zi (zre (zEc b) (b 2 0 0 1))), some (zi (zsum 30 (b 14 0 0))), some (zi (zsum 30 (fun j => if 0 < b 14 0 0 j then 1 else 0))), some (zi (b 2 0 0 2)), some (zi (b 4 0 0 1)), some (zi n), v10, v11] [] mm := by
    intro n m1 mm v10 v11 hn0 hn3 hI hA1 hi hday1 hQ
    have hB : B + 44000 ≤ 11900000 := by omega
    have hu5 := zUp_bd (v := zshr v 5) (m := 9) (by decide)
    have hu7 := zUp_bd (v := zshr v 7) (m := 6) (by decide)
    refine z_aload_n (i := 0) hG dL_back_104 rfl rfl ?_
    refine z_iconst hG dL_back_105 rfl ?_
    refine z_iload_n (i := 1) hG dL_back_106 rfl rfl ?_
    refine z_iconst hG dL_back_107 rfl ?_
    refine z_ishr hG dL_back_108 ?_
    refine z_bipush hG dL_back_109 rfl ?_
    refine z_callS hG dL_back_111 LS_L_22 (ct_L_up l g (by decide)) (by decide) rfl rfl (Nat.le_of_ble_eq_true rfl) ?_
    intro v9 m9 h9
    rw [h9.1, h9.2]
    clear h9 m9 v9
    refine z_iadd hG dL_back_114 (by omega) (by omega) ?_
    refine z_callV hG dL_back_115 LV_L_106 (cm_pass l g hI hB hQ) (by decide) rfl rfl rfl (Nat.le_of_ble_eq_true rfl) ?_
    intro v9 mm h9
    rw [h9.1]
    replace hQ := h9.2
    clear h9 v9
    obtain ⟨p0, p1⟩ := lz_pss hI hA1 (by omega) (d := 1 + zUp (zshr v 5) 9) (by omega) hday1
    replace hi := zHi_mut hi (by omega) hI.1.1 p1
    replace hI := zkj_pass (d := 1 + zUp (zshr v 5) 9) hI
    generalize zk_pass (1 + zUp (zshr v 5) 9) m1 = y at *
    refine z_if_lt hG dL_back_118 (tgt := 124) rfl (fun zcq118 => ?_) (fun zcq118 => ?_)
    · exfalso; omega
    · refine z_iinc hG dL_back_121 (by decide) rfl (by omega) (by omega) (ls2 := [_, _, _, _, _, _, _, _, _, _, _, _]) rfl ?_
      refine z_aload_n (i := 0) hG dL_back_124 rfl rfl ?_
      refine z_iconst hG dL_back_125 rfl ?_
      refine z_iload_n (i := 1) hG dL_back_126 rfl rfl ?_
      refine z_bipush hG dL_back_127 rfl ?_
      refine z_ishr hG dL_back_129 ?_
      refine z_bipush hG dL_back_130 rfl ?_
      refine z_callS hG dL_back_132 LS_L_22 (ct_L_up l g (by decide)) (by decide) rfl rfl (Nat.le_of_ble_eq_true rfl) ?_
      intro v9 m9 h9
      rw [h9.1, h9.2]
      clear h9 m9 v9
      refine z_iadd hG dL_back_135 (by omega) (by omega) ?_
      refine z_callV hG dL_back_136 LV_L_132 (cm_hands l g hI hB hQ) (by decide) rfl rfl rfl (Nat.le_of_ble_eq_true rfl) ?_
      intro v9 mm h9
      rw [h9.1]
      replace hQ := h9.2
      clear h9 v9
      obtain ⟨q0, q1⟩ := lz_hnd (m := y.2) (x := 1 + zUp (zshr v 7) 6) (by omega) (by have := (zInv0 hI).2.1; omega)
      replace hi := zHi_mut hi (by omega) hI.1.1 q1
      replace hI := zkj_hands (x := 1 + zUp (zshr v 7) 6) hI
      generalize zk_hands (1 + zUp (zshr v 7) 6) y.2 = w at *
      refine z_if_lt hG dL_back_139 (tgt := 145) rfl (fun zcq139 => ?_) (fun zcq139 => ?_)
      · exfalso; omega
      · refine z_iinc hG dL_back_142 (by decide) rfl (by omega) (by omega) (ls2 := [_, _, _, _, _, _, _, _, _, _, _, _]) rfl ?_
        refine z_aload_n (i := 0) hG dL_back_145 rfl rfl ?_
        refine z_bipush hG dL_back_146 rfl ?_
        refine z_callV hG dL_back_148 LV_L_68 (cqc_14 l g hI hB hQ) (by decide) rfl rfl rfl (Nat.le_of_ble_eq_true rfl) ?_
        intro v9 mm h9
        rw [h9.1]
        replace hQ := h9.2
        clear h9 v9
        refine z_istore hG dL_back_151 (by decide) (ls2 := [_, _, _, _, _, _, _, _, _, _, _, _]) rfl ?_
        refine z_iconst hG dL_back_153 rfl ?_
        refine z_istore hG dL_back_154 (by decide) (ls2 := [_, _, _, _, _, _, _, _, _, _, _, _]) rfl ?_
        exact loop (n + 1 + 1).toNat 1 (n + 1 + 1) (w.2 1 0 0 0) w.2 mm (by omega) (by omega) hI (by rw [show n + 1 + 1 - 1 + 1 = n + 1 + 1 by omega]; exact hi) (by omega) hQ
  have h75 : ∀ (n : Int) (m1 mm : zM) (v10 v11 : Option zV), 0 ≤ n → n ≤ 1 → zInv (B + 22000) m1 → zAc m1 → zHi n b m1 → m1 2 0 0 0 ≤ 2900 → 1 ≤ m1 2 0 0 4 → 1 ≤ m1 2 0 0 5 → zQ m1 mm → zZ X 75 [some (zr 0 0 0), some (zi v), some (zi (b 2 0 0 0)), some (zi (zsum 8 (zPl0 b 7))), some (zi (zre (zEc b) (b 2 0 0 1))), some (zi (zsum 30 (b 14 0 0))), some (zi (zsum 30 (fun j => if 0 < b 14 0 0 j then 1 else 0))), some (zi (b 2 0 0 2)), some (zi (b 4 0 0 1)), some (zi n), v10, v11] [] mm := by
    intro n m1 mm v10 v11 hn0 hn3 hI hA1 hi hday1 h4 h5 hQ
    have hB : B + 22000 ≤ 11900000 := by omega
    have hu3 := zUp_bd (v := zshr v 3) (m := 21) (by decide)
    refine z_aload_n (i := 0) hG dL_back_75 rfl rfl ?_
    refine z_iconst hG dL_back_76 rfl ?_
    refine z_iload_n (i := 1) hG dL_back_77 rfl rfl ?_
    refine z_iconst hG dL_back_78 rfl ?_
    refine z_ishr hG dL_back_79 ?_
    refine z_bipush hG dL_back_80 rfl ?_
    refine z_callS hG dL_back_82 LS_L_22 (ct_L_up l g (by decide)) (by decide) rfl rfl (Nat.le_of_ble_eq_true rfl) ?_
    intro v9 m9 h9
    rw [h9.1, h9.2]
    clear h9 m9 v9
    refine z_callV hG dL_back_85 LV_L_115 (cm_menu l g hI hB hQ) (by decide) rfl rfl rfl (Nat.le_of_ble_eq_true rfl) ?_
    intro v9 mm h9
    rw [h9.1]
    replace hQ := h9.2
    clear h9 v9
    obtain ⟨p0, p1⟩ := lz_mnu (m := m1) (r := 0) (p := zUp (zshr v 3) 21) (by omega) (by omega) ((zInv0 hI).2.2.2.2.1 0 (by omega) (by omega)).1.1
    have hF := zF_menu (r := 0) (p := zUp (zshr v 3) 21) hI.1.1.1
    replace hi := zHi_mut hi (by omega) hI.1.1 p1
    replace hA1 := zAc_F hF hA1
    replace hday1 : (zk_menu 0 (zUp (zshr v 3) 21) m1).2 2 0 0 0 ≤ 2900 := by rw [hF.2.2.1 0 (by decide)]; exact hday1
    replace hI := zkj_menu (r := 0) (p := zUp (zshr v 3) 21) hI
    clear hF h4 h5
    generalize zk_menu 0 (zUp (zshr v 3) 21) m1 = y at *
    refine z_if_lt hG dL_back_88 (tgt := 94) rfl (fun zcq88 => ?_) (fun zcq88 => ?_)
    · exfalso; omega
    · refine z_iinc hG dL_back_91 (by decide) rfl (by omega) (by omega) (ls2 := [_, _, _, _, _, _, _, _, _, _, _, _]) rfl ?_
      refine z_aload_n (i := 0) hG dL_back_94 rfl rfl ?_
      refine z_callV hG dL_back_95 LV_L_120 (cm_cook l g hI hB hQ) (by decide) rfl rfl rfl (Nat.le_of_ble_eq_true rfl) ?_
      intro v9 mm h9
      rw [h9.1]
      replace hQ := h9.2
      clear h9 v9
      have hck := lz_ckk hI hB
      refine z_if_lt hG dL_back_98 (tgt := 104) rfl (fun zcq98 => ?_) (fun zcq98 => ?_)
      · have hno := hck.resolve_right (fun q => by omega)
        rw [hno] at hQ
        exact h104 (n + 1) y.2 mm v10 v11 (by omega) (by omega) (zInv_B (by omega) hI) hA1 hi hday1 hQ
      · refine z_iinc hG dL_back_101 (by decide) rfl (by omega) (by omega) (ls2 := [_, _, _, _, _, _, _, _, _, _, _, _]) rfl ?_
        have hye := hck.resolve_left (fun q => by rw [q] at zcq98; exact absurd (show (0 : Int) ≤ -5 from zcq98) (by decide))
        have hck2 := (zcook_at hI hB hye.2.2).2
        exact h104 (n + 1 + 1) _ mm v10 v11 (by omega) (by omega) (zInv_B (by omega) (zki_cook2 hI hB).1) (zAc_Ck hI hA1 hck2) (zHi_mut hi (by omega) hI.1.1 hye.2.1) (by rw [hck2.2.2.2.2.1 0 (by decide) (by decide)]; exact hday1) hQ
  refine z_aload_n (i := 0) hG dL_back_56 rfl rfl ?_
  refine z_iconst hG dL_back_57 rfl ?_
  refine z_iconst hG dL_back_58 rfl ?_
  refine z_iload_n (i := 1) hG dL_back_59 rfl rfl ?_
  refine z_bipush hG dL_back_60 rfl ?_
  refine z_callS hG dL_back_62 LS_L_22 (ct_L_up l g (by decide)) (by decide) rfl rfl (Nat.le_of_ble_eq_true rfl) ?_
  intro v9 m9 h9
  rw [h9.1, h9.2]
  clear h9 m9 v9
  refine z_iadd hG dL_back_65 (by omega) (by omega) ?_
  refine z_callV hG dL_back_66 LV_L_99 (cm_stock l g hI hB hQ) (by decide) rfl rfl rfl (Nat.le_of_ble_eq_true rfl) ?_
  intro v9 mm h9
  rw [h9.1]
  replace hQ := h9.2
  clear h9 v9
  have hst := lz_stk (m := b) (i := 0) (x := 1 + zUp v 99) (by omega) (by omega) hS0
  have hk := lz_stock hI (zAc_He hbm hA) (i := 0) (x := 1 + zUp v 99) (by omega) (by omega)
  refine z_if_lt hG dL_back_69 (tgt := 75) rfl (fun zcq69 => ?_) (fun zcq69 => ?_)
  · have hno := hst.resolve_right (fun q => by omega)
    rw [hno] at hQ
    exact h75 0 b mm _ _ (by omega) (by omega) (zInv_B (by omega) hI) (zAc_He hbm hA) hi (by omega) (by omega) (by omega) hQ
  · refine z_iinc hG dL_back_72 (by decide) rfl (by omega) (by omega) (ls2 := [_, _, _, _, _, _, _, _, _, _, _, _]) rfl ?_
    have hye := hst.resolve_left (fun q => by rw [q] at zcq69; exact absurd (show (0 : Int) ≤ -5 from zcq69) (by decide))
    exact h75 (0 + 1) _ mm _ _ (by omega) (by omega) hk.1.1 hk.1.2.1 (zHi_mut hi (by omega) hI.1.1 hye.2) (by have := hk.1.2.2.2.2.1; omega) (by rw [hk.1.2.2.1]; omega) (by rw [hk.1.2.2.2.1]; omega) hQ
