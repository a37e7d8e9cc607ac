/-! WHAT THE LAW SEES: the kitchen's answers over a memory m0 that the real one stands for, but for scratch -/
def zQ (m0 m : zM) : Prop := zEqa m m0 ∧ zsea m ∧ zsch m
theorem zMet_mono {l : Launch} {g : zG} {y : zY} {av : List zV} {mem : zM} {Rt Rt' : Option zV → zM → Prop} (h : zMet l g y av mem Rt) (hi : ∀ v m', Rt v m' → Rt' v m') : zMet l g y av mem Rt' := by
  intro hg hM hS
  have h2 := h hg hM hS
  intro p e ha hc hk s m args below hf happ hP ht
  obtain ⟨k, o, q1, q2, q3, ⟨⟨v, m', e1, e2, e3⟩, e4⟩, q6⟩ := h2 p e ha hc hk s m args below hf happ hP ht
  exact ⟨k, o, q1, q2, q3, ⟨⟨v, m', e1, hi v m' e2, e3⟩, e4⟩, q6⟩
theorem zInv_cg {B : Int} {a m : zM} (h : zInv B a) (hs : zsea m) (hm : ∀ (t : Nat) (s i k : Int), ((1 ≤ t ∧ t ≤ 6) ∨ (12 ≤ t ∧ t ≤ 14) ∨ t = 17 ∨ t = 21 ∨ t = 22) → m t s i k = a t s i k) : zInv B m := by
  obtain ⟨q1, hsea, hS, hp, ht, hi, h9⟩ := h
  refine ⟨by rw [hm 1 _ _ _ (by omega), hm 1 _ _ _ (by omega)]; exact q1, hs, fun s s0 s1 => zIS_cp (fun t i k hh => hm t s i k (by simp [zSt] at hh; omega)) (hS s s0 s1), by rw [hm 6 _ _ _ (by omega)]; exact hp, fun j j0 j1 => by rw [hm 22 _ _ _ (by omega)]; exact ht j j0 j1, fun s s0 s1 => by rw [hm 21 _ _ _ (by omega)]; exact hi s s0 s1, fun j j0 j1 => by rw [hm 5 _ _ _ (by omega)]; exact h9 j j0 j1⟩
theorem zsch_cg {a m : zM} (h : zsch a) (hm : ∀ (t : Nat) (s i k : Int), 39 ≤ t ∧ t < 45 → m t s i k = a t s i k) : zsch m := fun j j0 j1 => by
  rw [hm 39 _ _ _ (by omega), hm 41 _ _ _ (by omega), hm 42 _ _ _ (by omega)]
  exact h j j0 j1
theorem zQ_rf {B : Int} {m : zM} (h : zInv B m) (hs : zsch m) : zQ m m := ⟨fun _ _ _ _ _ => rfl, h.2.1, hs⟩
theorem zEqa_t {m2 m : zM} (h : zEqa m2 m) (t : Nat) (ht : t ≤ 8 ∨ (11 ≤ t ∧ t ≤ 22) ∨ t = 31 ∨ 45 ≤ t) : m2 t = m t := by
  funext s i k
  exact h t s i k (by simp only [zscr, zsct]; omega)
theorem zQ_inv {B : Int} {m0 m : zM} (hQ : zQ m0 m) (hI : zInv B m0) : zInv B m := zInv_cg hI hQ.2.1 (fun t s i k ht => hQ.1 t s i k (by simp only [zscr, zsct]; omega))
theorem zEqa_rf {m : zM} : zEqa m m := fun _ _ _ _ _ => rfl
theorem zEqa_tr {a b c : zM} (h : zEqa a b) (h2 : zEqa b c) : zEqa a c := fun t s i k ht => by rw [h t s i k ht, h2 t s i k ht]
theorem zEqa_set {m2 m : zM} (h : zEqa m2 m) {t : Nat} {s i k v : Int} : zEqa (zset m2 t s i k v) (zset m t s i k v) := by
  intro t' s' i' k' ht
  simp only [zset, h t' s' i' k' ht]
theorem zEqa_fill {m2 m : zM} (h : zEqa m2 m) {t : Nat} {s i n v : Int} : zEqa (zfill m2 t s i n v) (zfill m t s i n v) := by
  intro t' s' i' k' ht
  simp only [zfill, h t' s' i' k' ht]
theorem zEqa_empty {m2 m : zM} (h : zEqa m2 m) {s n : Int} : zEqa (zempty m2 s n) (zempty m s n) := by
  intro t' s' i' k' ht
  simp only [zempty, h t' s' i' k' ht]
theorem zEqa_cS {m2 m : zM} (h : zEqa m2 m) {s s2 : Int} : zEqa (zcS m2 s s2 8 4) (zcS m s s2 8 4) := by
  intro t' s' i' k' ht
  simp only [zcS, h t' s' i' k' ht, h t' s2 i' k' ht]
theorem zEqa_cR {m2 m : zM} (h : zEqa m2 m) {s i s2 i2 n : Int} : zEqa (zcR m2 s i s2 i2 n) (zcR m s i s2 i2 n) := by
  intro t' s' i' k' ht
  simp only [zcR, h t' s' i' k' ht, h t' s2 i2 k' ht, zEqa_t h 5 (by omega)]
theorem zEqa_recd {m2 m : zM} (h : zEqa m2 m) : zEqa (zrecd m2) (zrecd m) := by
  unfold zrecd
  rw [zEqa_t h 1 (by omega)]
  exact zEqa_set (zEqa_cS (zEqa_set h))
theorem zEqa_take {s i t : Int} : ∀ (n : Nat) (a left : Int) (m2 m : zM), zEqa m2 m → zEqa (ztake s i t n a left m2) (ztake s i t n a left m)
  | 0, _, _, _, _, h => h
  | n + 1, a, left, m2, m, h => by
    rw [ztake, ztake, zEqa_t h 14 (by omega)]
    exact zEqa_take n _ _ _ _ (zEqa_set h)
theorem zEqa_car1 {W : zPl} {i : Int} {m2 m : zM} (h : zEqa m2 m) : zEqa (zcar1 W i m2) (zcar1 W i m) := by
  simp only [zcar1]
  rw [zEqa_t h 2 (by omega)]
  have h1 := zEqa_take (s := 0) (i := i) (t := m 2 0 0 0) 30 1 (W 2 i) m2 m h
  generalize ztake 0 i (m 2 0 0 0) 30 1 (W 2 i) m2 = a at *
  generalize ztake 0 i (m 2 0 0 0) 30 1 (W 2 i) m = b at *
  rw [zEqa_t h1 2 (by omega), zEqa_t h1 3 (by omega), zEqa_t h1 14 (by omega)]
  have h2 := zEqa_set (t := 14) (s := 0) (i := i) (k := (b 2 0 0 0 + b 3 0 i 0) % 30) (v := b 14 0 i ((b 2 0 0 0 + b 3 0 i 0) % 30) + W 4 i) h1
  generalize zset a 14 0 i ((b 2 0 0 0 + b 3 0 i 0) % 30) (b 14 0 i ((b 2 0 0 0 + b 3 0 i 0) % 30) + W 4 i) = a2 at *
  generalize zset b 14 0 i ((b 2 0 0 0 + b 3 0 i 0) % 30) (b 14 0 i ((b 2 0 0 0 + b 3 0 i 0) % 30) + W 4 i) = b2 at *
  rw [zEqa_t h2 3 (by omega)]
  have h3 := zEqa_set (t := 3) (s := 0) (i := i) (k := 8) (v := zwr (b2 3 0 i 8 + W 3 i)) h2
  rw [zEqa_t h3 3 (by omega)]
  exact zEqa_set h3
theorem zEqa_carry {W : zPl} {m2 m : zM} (h : zEqa m2 m) : ∀ n : Nat, zEqa (zcarry W n m2) (zcarry W n m)
  | 0 => h
  | n + 1 => zEqa_car1 (zEqa_carry h n)
/-- an answer and a memory, and another's -/
def zR2 (x y : Int × zM) : Prop := x.1 = y.1 ∧ zEqa x.2 y.2
theorem zR2_i {c : Prop} [Decidable c] {a b a' b' : Int × zM} (h1 : c → zR2 a a') (h2 : ¬ c → zR2 b b') : zR2 (if c then a else b) (if c then a' else b') := by
  by_cases q : c
  · rw [if_pos q, if_pos q]; exact h1 q
  · rw [if_neg q, if_neg q]; exact h2 q
theorem zR2_r {m2 m : zM} {v : Int} (h : zEqa m2 m) : zR2 (v, m2) (v, m) := ⟨rfl, h⟩
theorem zDc_a {m2 m : zM} (h : zEqa m2 m) : zDc m2 = zDc m := by
  have h2 := zEqa_t h 2 (by omega)
  have h3 := zEqa_t h 3 (by omega)
  have h4 := zEqa_t h 4 (by omega)
  have h12 := zEqa_t h 12 (by omega)
  have h13 := zEqa_t h 13 (by omega)
  have h14 := zEqa_t h 14 (by omega)
  have h17 := zEqa_t h 17 (by omega)
  funext a i k
  simp only [zDc, zscal, h2, h3, h4, h12, h13, h14, h17]
theorem zPl0_a {m2 m : zM} (h : zEqa m2 m) : zPl0 m2 = zPl0 m := by rw [zPl0, zPl0, zDc_a h]
theorem zhp_a {m2 m : zM} (h : zEqa m2 m) : zhp m2 = zhp m := by
  have h4 := zEqa_t h 4 (by omega)
  simp only [zhp, h4]
theorem zlast_a {m2 m : zM} (h : zEqa m2 m) : zlast m2 = zlast m := by
  have h4 := zEqa_t h 4 (by omega)
  have h5 := zEqa_t h 5 (by omega)
  funext s r k
  simp only [zlast, zscal, h4, h5]
theorem ztb_a {m2 m : zM} (h : zEqa m2 m) {r c : Int} : ∀ n : Nat, ztb m2 r c n = ztb m r c n
  | 0 => rfl
  | n + 1 => by
    have h5 := zEqa_t h 5 (by omega)
    funext k
    simp only [ztb, ztb_a h n, zlast_a h, h5]
theorem zEc_a {m2 m : zM} (h : zEqa m2 m) : zEc m2 = zEc m := by
  have h4 := zEqa_t h 4 (by omega)
  have h5 := zEqa_t h 5 (by omega)
  funext a p
  simp only [zEc, zlast_a h, ztb_a h, h4, h5]
theorem zbp_a {m2 m : zM} (h : zEqa m2 m) {r : Int} : ∀ (n : Nat) (p b l : Int), zbp m2 r n p b l = zbp m r n p b l
  | 0, _, _, _ => rfl
  | n + 1, p, b, l => by
    simp only [zbp, zPl0_a (zEqa_set (t := 4) (s := 0) (i := r) (k := 1) (v := p) h), zbp_a h n]
theorem zN_a {m2 m : zM} (h : zEqa m2 m) : zN m2 = zN m := by
  have h6 := zEqa_t h 6 (by omega)
  have h22 := zEqa_t h 22 (by omega)
  funext p
  simp only [zN, h6, h22]

theorem cq_about (l : Launch) (g : zG) {m0 m : zM} {B : Int} {i w : Int} (hI : zInv B m0) (hB : B ≤ 11900000) (hQ : zQ m0 m) : zMet l g Y_X10_about [zr 0 0 0, zi i, zi w] m (fun v m' => v = some (zi (zk_about i w m0).1) ∧ zQ m0 m') := by
  have e2 := zEqa_t hQ.1 2 (by omega)
  have e3 := zEqa_t hQ.1 3 (by omega)
  have e14 := zEqa_t hQ.1 14 (by omega)
  exact zMet_mono (ct_X10_about l g (zQ_inv hQ hI) hB) (fun v m' h => ⟨by rw [h.1]; simp only [zk_about, e2, e3, e14], by rw [h.2]; exact hQ⟩)
theorem cq_ofRecipe (l : Launch) (g : zG) {m0 m : zM} {B : Int} {r w : Int} (hI : zInv B m0) (hB : B ≤ 11900000) (hQ : zQ m0 m) : zMet l g Y_X10_ofRecipe [zr 0 0 0, zi r, zi w] m (fun v m' => v = some (zi (zk_ofRecipe r w m0).1) ∧ zQ m0 m') := by
  have e2 := zEqa_t hQ.1 2 (by omega)
  have e4 := zEqa_t hQ.1 4 (by omega)
  have e17 := zEqa_t hQ.1 17 (by omega)
  exact zMet_mono (ct_X10_ofRecipe l g (zQ_inv hQ hI) hB) (fun v m' h => ⟨by rw [h.1]; simp only [zk_ofRecipe, e2, e4, e17], by rw [h.2]; exact hQ⟩)
theorem cq_needs (l : Launch) (g : zG) {m0 m : zM} {B : Int} {i w : Int} (hI : zInv B m0) (hB : B ≤ 11900000) (hQ : zQ m0 m) : zMet l g Y_X10_needs [zr 0 0 0, zi i, zi w] m (fun v m' => v = some (zi (zk_needs i w m0)) ∧ zQ m0 m') := by
  have e2 := zEqa_t hQ.1 2 (by omega)
  exact zMet_mono (ct_X10_needs l g (zQ_inv hQ hI) hB) (fun v m' h => ⟨by rw [h.1]; simp only [zk_needs, zpick, zPl0_a hQ.1, e2], ⟨zEqa_tr (zEqa_1 h.2.1) hQ.1, h.2.2, zsch_eq h.2.1 hQ.2.2⟩⟩)
theorem cq_ofTin (l : Launch) (g : zG) {m0 m : zM} {B : Int} {i k w : Int} (hI : zInv B m0) (hB : B ≤ 11900000) (hQ : zQ m0 m) : zMet l g Y_X10_ofTin [zr 0 0 0, zi i, zi k, zi w] m (fun v m' => v = some (zi (zk_ofTin i k w m0)) ∧ zQ m0 m') := by
  have e2 := zEqa_t hQ.1 2 (by omega)
  have e3 := zEqa_t hQ.1 3 (by omega)
  have e12 := zEqa_t hQ.1 12 (by omega)
  have e13 := zEqa_t hQ.1 13 (by omega)
  exact zMet_mono (ct_X10_ofTin l g (zQ_inv hQ hI) hB) (fun v m' h => ⟨by rw [h.1]; simp only [zk_ofTin, zPl0_a hQ.1, e2, e3, e12, e13], ⟨zEqa_tr (zEqa_1 h.2.1) hQ.1, h.2.2, zsch_eq h.2.1 hQ.2.2⟩⟩)
theorem cq_step (l : Launch) (g : zG) {m0 m : zM} {B : Int} {r k w : Int} (hI : zInv B m0) (hB : B ≤ 11900000) (hQ : zQ m0 m) : zMet l g Y_X10_step [zr 0 0 0, zi r, zi k, zi w] m (fun v m' => v = some (zi (zk_step r k w m0)) ∧ zQ m0 m') := by
  have e2 := zEqa_t hQ.1 2 (by omega)
  have e4 := zEqa_t hQ.1 4 (by omega)
  have e5 := zEqa_t hQ.1 5 (by omega)
  exact zMet_mono (ct_X10_step l g (zQ_inv hQ hI) hB hQ.2.2) (fun v m' h => ⟨by rw [h.1]; simp only [zk_step, zEc_a hQ.1, zlast_a hQ.1, e2, e4, e5], ⟨zEqa_tr h.2.1 hQ.1, h.2.2.1, h.2.2.2⟩⟩)
theorem cq_count (l : Launch) (g : zG) {m0 m : zM} {B : Int} {w : Int} (hI : zInv B m0) (hB : B ≤ 11900000) (hQ : zQ m0 m) : zMet l g Y_X10_count [zr 0 0 0, zi w] m (fun v m' => v = some (zi (zk_count w m0)) ∧ zQ m0 m') := by
  have e1 := zEqa_t hQ.1 1 (by omega)
  have e2 := zEqa_t hQ.1 2 (by omega)
  have e6 := zEqa_t hQ.1 6 (by omega)
  exact zMet_mono (ct_X10_count l g (zQ_inv hQ hI) hB hQ.2.2) (fun v m' h => ⟨by rw [h.1]; simp only [zk_count, zshq, zEc_a hQ.1, zPl0_a hQ.1, zhp_a hQ.1, e1, e2, e6], ⟨zEqa_tr h.2.1 hQ.1, h.2.2.1, h.2.2.2⟩⟩)
theorem cq_bestPortions (l : Launch) (g : zG) {m0 m : zM} {B : Int} {r a z : Int} (hI : zInv B m0) (hB : B ≤ 11900000) (hQ : zQ m0 m) : zMet l g Y_X10_bestPortions [zr 0 0 0, zi r, zi a, zi z] m (fun v m' => v = some (zi (zk_bestPortions r a z m0)) ∧ zQ m0 m') := by
  have e2 := zEqa_t hQ.1 2 (by omega)
  exact zMet_mono (ct_X10_bestPortions l g (zQ_inv hQ hI) hB) (fun v m' h => ⟨by rw [h.1]; simp only [zk_bestPortions, zbp_a hQ.1, e2], ⟨zEqa_tr (zEqa_1 h.2.1) hQ.1, h.2.2, zsch_eq h.2.1 hQ.2.2⟩⟩)
theorem cq_ifBuyable (l : Launch) (g : zG) {m0 m : zM} {B : Int} {i b : Int} (hI : zInv B m0) (hB : B ≤ 11900000) (hQ : zQ m0 m) : zMet l g Y_X10_ifBuyable [zr 0 0 0, zi i, zi b] m (fun v m' => v = some (zi (zk_ifBuyable i b m0)) ∧ zQ m0 m') := by
  have e2 := zEqa_t hQ.1 2 (by omega)
  exact zMet_mono (ct_X10_ifBuyable l g (zQ_inv hQ hI) hB) (fun v m' h => ⟨by rw [h.1]; simp only [zk_ifBuyable, zPl0_a (zEqa_set (t := 3) (s := 0) (i := i) (k := 1) (v := b) hQ.1), e2], ⟨zEqa_tr (zEqa_1 h.2.1) hQ.1, h.2.2, zsch_eq h.2.1 hQ.2.2⟩⟩)
theorem cq_fewestHands (l : Launch) (g : zG) {m0 m : zM} {B : Int} {t : Int} (hI : zInv B m0) (hB : B ≤ 11900000) (hQ : zQ m0 m) : zMet l g Y_X10_fewestHands [zr 0 0 0, zi t] m (fun v m' => v = some (zi (zk_fewestHands t m0)) ∧ zQ m0 m') := by
  exact zMet_mono (ct_X10_fewestHands l g (zQ_inv hQ hI) hB hQ.2.2) (fun v m' h => ⟨by rw [h.1]; simp only [zk_fewestHands, zEc_a hQ.1], ⟨zEqa_tr (zEqa_2 h.2.1) hQ.1, zsea_eqs h.2.1 hQ.2.1, h.2.2⟩⟩)
theorem cqa_0 (l : Launch) (g : zG) {m0 m : zM} {B : Int} {i : Int} (hI : zInv B m0) (hB : B ≤ 11900000) (hQ : zQ m0 m) (hi : 0 ≤ i ∧ i < m0 2 0 0 4) : zMet l g Y_X10_about [zr 0 0 0, zi i, zi 0] m (fun v m' => v = some (zi (m0 3 0 i 0)) ∧ zQ m0 m') := by
  have hn := (zInv0 hI).2.2.1
  have hr5 := (zInv0 hI).2.2.2.1
  refine zMet_mono (cq_about l g (i := i) (w := 0) hI hB hQ) (fun v m' h => ⟨?_, h.2⟩)
  rw [h.1]
  refine congrArg (fun x : Int => some (zi x)) ?_
  have c : 0 ≤ i ∧ i < m0 2 0 0 4 ∧ i < 8 := ⟨hi.1, hi.2, by omega⟩
  simp [zk_about, c]
theorem cqa_1 (l : Launch) (g : zG) {m0 m : zM} {B : Int} {i : Int} (hI : zInv B m0) (hB : B ≤ 11900000) (hQ : zQ m0 m) (hi : 0 ≤ i ∧ i < m0 2 0 0 4) : zMet l g Y_X10_about [zr 0 0 0, zi i, zi 1] m (fun v m' => v = some (zi (m0 3 0 i 1)) ∧ zQ m0 m') := by
  have hn := (zInv0 hI).2.2.1
  have hr5 := (zInv0 hI).2.2.2.1
  refine zMet_mono (cq_about l g (i := i) (w := 1) hI hB hQ) (fun v m' h => ⟨?_, h.2⟩)
  rw [h.1]
  refine congrArg (fun x : Int => some (zi x)) ?_
  have c : 0 ≤ i ∧ i < m0 2 0 0 4 ∧ i < 8 := ⟨hi.1, hi.2, by omega⟩
  simp [zk_about, c]
theorem cqa_2 (l : Launch) (g : zG) {m0 m : zM} {B : Int} {i : Int} (hI : zInv B m0) (hB : B ≤ 11900000) (hQ : zQ m0 m) (hi : 0 ≤ i ∧ i < m0 2 0 0 4) : zMet l g Y_X10_about [zr 0 0 0, zi i, zi 2] m (fun v m' => v = some (zi (m0 3 0 i 2)) ∧ zQ m0 m') := by
  have hn := (zInv0 hI).2.2.1
  have hr5 := (zInv0 hI).2.2.2.1
  refine zMet_mono (cq_about l g (i := i) (w := 2) hI hB hQ) (fun v m' h => ⟨?_, h.2⟩)
  rw [h.1]
  refine congrArg (fun x : Int => some (zi x)) ?_
  have c : 0 ≤ i ∧ i < m0 2 0 0 4 ∧ i < 8 := ⟨hi.1, hi.2, by omega⟩
  simp [zk_about, c]
theorem cqa_3 (l : Launch) (g : zG) {m0 m : zM} {B : Int} {i : Int} (hI : zInv B m0) (hB : B ≤ 11900000) (hQ : zQ m0 m) (hi : 0 ≤ i ∧ i < m0 2 0 0 4) : zMet l g Y_X10_about [zr 0 0 0, zi i, zi 3] m (fun v m' => v = some (zi (m0 3 0 i 5)) ∧ zQ m0 m') := by
  have hn := (zInv0 hI).2.2.1
  have hr5 := (zInv0 hI).2.2.2.1
  refine zMet_mono (cq_about l g (i := i) (w := 3) hI hB hQ) (fun v m' h => ⟨?_, h.2⟩)
  rw [h.1]
  refine congrArg (fun x : Int => some (zi x)) ?_
  have c : 0 ≤ i ∧ i < m0 2 0 0 4 ∧ i < 8 := ⟨hi.1, hi.2, by omega⟩
  simp [zk_about, c]
theorem cqa_4 (l : Launch) (g : zG) {m0 m : zM} {B : Int} {i : Int} (hI : zInv B m0) (hB : B ≤ 11900000) (hQ : zQ m0 m) (hi : 0 ≤ i ∧ i < m0 2 0 0 4) : zMet l g Y_X10_about [zr 0 0 0, zi i, zi 4] m (fun v m' => v = some (zi (m0 3 0 i 6)) ∧ zQ m0 m') := by
  have hn := (zInv0 hI).2.2.1
  have hr5 := (zInv0 hI).2.2.2.1
  refine zMet_mono (cq_about l g (i := i) (w := 4) hI hB hQ) (fun v m' h => ⟨?_, h.2⟩)
  rw [h.1]
  refine congrArg (fun x : Int => some (zi x)) ?_
  have c : 0 ≤ i ∧ i < m0 2 0 0 4 ∧ i < 8 := ⟨hi.1, hi.2, by omega⟩
  simp [zk_about, c]
theorem cqa_5 (l : Launch) (g : zG) {m0 m : zM} {B : Int} {i : Int} (hI : zInv B m0) (hB : B ≤ 11900000) (hQ : zQ m0 m) (hi : 0 ≤ i ∧ i < m0 2 0 0 4) : zMet l g Y_X10_about [zr 0 0 0, zi i, zi 5] m (fun v m' => v = some (zi (zsum 30 (m0 14 0 i))) ∧ zQ m0 m') := by
  have hn := (zInv0 hI).2.2.1
  have hr5 := (zInv0 hI).2.2.2.1
  refine zMet_mono (cq_about l g (i := i) (w := 5) hI hB hQ) (fun v m' h => ⟨?_, h.2⟩)
  rw [h.1]
  refine congrArg (fun x : Int => some (zi x)) ?_
  have c : 0 ≤ i ∧ i < m0 2 0 0 4 ∧ i < 8 := ⟨hi.1, hi.2, by omega⟩
  simp [zk_about, c]
theorem cqa_6 (l : Launch) (g : zG) {m0 m : zM} {B : Int} {i : Int} (hI : zInv B m0) (hB : B ≤ 11900000) (hQ : zQ m0 m) (hi : 0 ≤ i ∧ i < m0 2 0 0 4) : zMet l g Y_X10_about [zr 0 0 0, zi i, zi 6] m (fun v m' => v = some (zi (zsum 30 (fun j => if 0 < m0 14 0 i j then 1 else 0))) ∧ zQ m0 m') := by
  have hn := (zInv0 hI).2.2.1
  have hr5 := (zInv0 hI).2.2.2.1
  refine zMet_mono (cq_about l g (i := i) (w := 6) hI hB hQ) (fun v m' h => ⟨?_, h.2⟩)
  rw [h.1]
  refine congrArg (fun x : Int => some (zi x)) ?_
  have c : 0 ≤ i ∧ i < m0 2 0 0 4 ∧ i < 8 := ⟨hi.1, hi.2, by omega⟩
  simp [zk_about, c]
theorem cqa_7 (l : Launch) (g : zG) {m0 m : zM} {B : Int} {i : Int} (hI : zInv B m0) (hB : B ≤ 11900000) (hQ : zQ m0 m) (hi : 0 ≤ i ∧ i < m0 2 0 0 4) : zMet l g Y_X10_about [zr 0 0 0, zi i, zi 7] m (fun v m' => v = some (zi (zfst (m0 14 0 i) 30 (m0 2 0 0 0) 30 1)) ∧ zQ m0 m') := by
  have hn := (zInv0 hI).2.2.1
  have hr5 := (zInv0 hI).2.2.2.1
  refine zMet_mono (cq_about l g (i := i) (w := 7) hI hB hQ) (fun v m' h => ⟨?_, h.2⟩)
  rw [h.1]
  refine congrArg (fun x : Int => some (zi x)) ?_
  have c : 0 ≤ i ∧ i < m0 2 0 0 4 ∧ i < 8 := ⟨hi.1, hi.2, by omega⟩
  simp [zk_about, c]
theorem cqa_8 (l : Launch) (g : zG) {m0 m : zM} {B : Int} {i : Int} (hI : zInv B m0) (hB : B ≤ 11900000) (hQ : zQ m0 m) (hi : 0 ≤ i ∧ i < m0 2 0 0 4) : zMet l g Y_X10_about [zr 0 0 0, zi i, zi 8] m (fun v m' => v = some (zi (m0 3 0 i 8)) ∧ zQ m0 m') := by
  have hn := (zInv0 hI).2.2.1
  have hr5 := (zInv0 hI).2.2.2.1
  refine zMet_mono (cq_about l g (i := i) (w := 8) hI hB hQ) (fun v m' h => ⟨?_, h.2⟩)
  rw [h.1]
  refine congrArg (fun x : Int => some (zi x)) ?_
  have c : 0 ≤ i ∧ i < m0 2 0 0 4 ∧ i < 8 := ⟨hi.1, hi.2, by omega⟩
  simp [zk_about, c]
theorem cqa_9 (l : Launch) (g : zG) {m0 m : zM} {B : Int} {i : Int} (hI : zInv B m0) (hB : B ≤ 11900000) (hQ : zQ m0 m) (hi : 0 ≤ i ∧ i < m0 2 0 0 4) : zMet l g Y_X10_about [zr 0 0 0, zi i, zi 9] m (fun v m' => v = some (zi (m0 3 0 i 9)) ∧ zQ m0 m') := by
  have hn := (zInv0 hI).2.2.1
  have hr5 := (zInv0 hI).2.2.2.1
  refine zMet_mono (cq_about l g (i := i) (w := 9) hI hB hQ) (fun v m' h => ⟨?_, h.2⟩)
  rw [h.1]
  refine congrArg (fun x : Int => some (zi x)) ?_
  have c : 0 ≤ i ∧ i < m0 2 0 0 4 ∧ i < 8 := ⟨hi.1, hi.2, by omega⟩
  simp [zk_about, c]
theorem cqa_10 (l : Launch) (g : zG) {m0 m : zM} {B : Int} {i : Int} (hI : zInv B m0) (hB : B ≤ 11900000) (hQ : zQ m0 m) (hi : 0 ≤ i ∧ i < m0 2 0 0 4) : zMet l g Y_X10_about [zr 0 0 0, zi i, zi 10] m (fun v m' => v = some (zi (m0 3 0 i 10)) ∧ zQ m0 m') := by
  have hn := (zInv0 hI).2.2.1
  have hr5 := (zInv0 hI).2.2.2.1
  refine zMet_mono (cq_about l g (i := i) (w := 10) hI hB hQ) (fun v m' h => ⟨?_, h.2⟩)
  rw [h.1]
  refine congrArg (fun x : Int => some (zi x)) ?_
  have c : 0 ≤ i ∧ i < m0 2 0 0 4 ∧ i < 8 := ⟨hi.1, hi.2, by omega⟩
  simp [zk_about, c]
theorem cqa_11 (l : Launch) (g : zG) {m0 m : zM} {B : Int} {i : Int} (hI : zInv B m0) (hB : B ≤ 11900000) (hQ : zQ m0 m) (hi : 0 ≤ i ∧ i < m0 2 0 0 4) : zMet l g Y_X10_about [zr 0 0 0, zi i, zi 11] m (fun v m' => v = some (zi (m0 3 0 i 11)) ∧ zQ m0 m') := by
  have hn := (zInv0 hI).2.2.1
  have hr5 := (zInv0 hI).2.2.2.1
  refine zMet_mono (cq_about l g (i := i) (w := 11) hI hB hQ) (fun v m' h => ⟨?_, h.2⟩)
  rw [h.1]
  refine congrArg (fun x : Int => some (zi x)) ?_
  have c : 0 ≤ i ∧ i < m0 2 0 0 4 ∧ i < 8 := ⟨hi.1, hi.2, by omega⟩
  simp [zk_about, c]
theorem cqn_0 (l : Launch) (g : zG) {m0 m : zM} {B : Int} {i : Int} (hI : zInv B m0) (hB : B ≤ 11900000) (hQ : zQ m0 m) (hi : 0 ≤ i ∧ i < m0 2 0 0 4) : zMet l g Y_X10_needs [zr 0 0 0, zi i, zi 0] m (fun v m' => v = some (zi (zPl0 m0 0 i)) ∧ zQ m0 m') := by
  have hn := (zInv0 hI).2.2.1
  have hr5 := (zInv0 hI).2.2.2.1
  refine zMet_mono (cq_needs l g (i := i) (w := 0) hI hB hQ) (fun v m' h => ⟨?_, h.2⟩)
  rw [h.1]
  refine congrArg (fun x : Int => some (zi x)) ?_
  have c : 0 ≤ i ∧ i < m0 2 0 0 4 ∧ i < 8 := ⟨hi.1, hi.2, by omega⟩
  simp [zk_needs, zpick, c]
theorem cqn_1 (l : Launch) (g : zG) {m0 m : zM} {B : Int} {i : Int} (hI : zInv B m0) (hB : B ≤ 11900000) (hQ : zQ m0 m) (hi : 0 ≤ i ∧ i < m0 2 0 0 4) : zMet l g Y_X10_needs [zr 0 0 0, zi i, zi 1] m (fun v m' => v = some (zi (zPl0 m0 1 i)) ∧ zQ m0 m') := by
  have hn := (zInv0 hI).2.2.1
  have hr5 := (zInv0 hI).2.2.2.1
  refine zMet_mono (cq_needs l g (i := i) (w := 1) hI hB hQ) (fun v m' h => ⟨?_, h.2⟩)
  rw [h.1]
  refine congrArg (fun x : Int => some (zi x)) ?_
  have c : 0 ≤ i ∧ i < m0 2 0 0 4 ∧ i < 8 := ⟨hi.1, hi.2, by omega⟩
  simp [zk_needs, zpick, c]
theorem cqn_2 (l : Launch) (g : zG) {m0 m : zM} {B : Int} {i : Int} (hI : zInv B m0) (hB : B ≤ 11900000) (hQ : zQ m0 m) (hi : 0 ≤ i ∧ i < m0 2 0 0 4) : zMet l g Y_X10_needs [zr 0 0 0, zi i, zi 2] m (fun v m' => v = some (zi (zPl0 m0 2 i)) ∧ zQ m0 m') := by
  have hn := (zInv0 hI).2.2.1
  have hr5 := (zInv0 hI).2.2.2.1
  refine zMet_mono (cq_needs l g (i := i) (w := 2) hI hB hQ) (fun v m' h => ⟨?_, h.2⟩)
  rw [h.1]
  refine congrArg (fun x : Int => some (zi x)) ?_
  have c : 0 ≤ i ∧ i < m0 2 0 0 4 ∧ i < 8 := ⟨hi.1, hi.2, by omega⟩
  simp [zk_needs, zpick, c]
theorem cqn_3 (l : Launch) (g : zG) {m0 m : zM} {B : Int} {i : Int} (hI : zInv B m0) (hB : B ≤ 11900000) (hQ : zQ m0 m) (hi : 0 ≤ i ∧ i < m0 2 0 0 4) : zMet l g Y_X10_needs [zr 0 0 0, zi i, zi 3] m (fun v m' => v = some (zi (zPl0 m0 3 i)) ∧ zQ m0 m') := by
  have hn := (zInv0 hI).2.2.1
  have hr5 := (zInv0 hI).2.2.2.1
  refine zMet_mono (cq_needs l g (i := i) (w := 3) hI hB hQ) (fun v m' h => ⟨?_, h.2⟩)
  rw [h.1]
  refine congrArg (fun x : Int => some (zi x)) ?_
  have c : 0 ≤ i ∧ i < m0 2 0 0 4 ∧ i < 8 := ⟨hi.1, hi.2, by omega⟩
  simp [zk_needs, zpick, c]
theorem cqn_4 (l : Launch) (g : zG) {m0 m : zM} {B : Int} {i : Int} (hI : zInv B m0) (hB : B ≤ 11900000) (hQ : zQ m0 m) (hi : 0 ≤ i ∧ i < m0 2 0 0 4) : zMet l g Y_X10_needs [zr 0 0 0, zi i, zi 4] m (fun v m' => v = some (zi (zPl0 m0 4 i)) ∧ zQ m0 m') := by
  have hn := (zInv0 hI).2.2.1
  have hr5 := (zInv0 hI).2.2.2.1
  refine zMet_mono (cq_needs l g (i := i) (w := 4) hI hB hQ) (fun v m' h => ⟨?_, h.2⟩)
  rw [h.1]
  refine congrArg (fun x : Int => some (zi x)) ?_
  have c : 0 ≤ i ∧ i < m0 2 0 0 4 ∧ i < 8 := ⟨hi.1, hi.2, by omega⟩
  simp [zk_needs, zpick, c]
theorem cqn_5 (l : Launch) (g : zG) {m0 m : zM} {B : Int} {i : Int} (hI : zInv B m0) (hB : B ≤ 11900000) (hQ : zQ m0 m) (hi : 0 ≤ i ∧ i < m0 2 0 0 4) : zMet l g Y_X10_needs [zr 0 0 0, zi i, zi 5] m (fun v m' => v = some (zi (zPl0 m0 5 i)) ∧ zQ m0 m') := by
  have hn := (zInv0 hI).2.2.1
  have hr5 := (zInv0 hI).2.2.2.1
  refine zMet_mono (cq_needs l g (i := i) (w := 5) hI hB hQ) (fun v m' h => ⟨?_, h.2⟩)
  rw [h.1]
  refine congrArg (fun x : Int => some (zi x)) ?_
  have c : 0 ≤ i ∧ i < m0 2 0 0 4 ∧ i < 8 := ⟨hi.1, hi.2, by omega⟩
  simp [zk_needs, zpick, c]
theorem cqn_6 (l : Launch) (g : zG) {m0 m : zM} {B : Int} {i : Int} (hI : zInv B m0) (hB : B ≤ 11900000) (hQ : zQ m0 m) (hi : 0 ≤ i ∧ i < m0 2 0 0 4) : zMet l g Y_X10_needs [zr 0 0 0, zi i, zi 6] m (fun v m' => v = some (zi (zPl0 m0 6 i)) ∧ zQ m0 m') := by
  have hn := (zInv0 hI).2.2.1
  have hr5 := (zInv0 hI).2.2.2.1
  refine zMet_mono (cq_needs l g (i := i) (w := 6) hI hB hQ) (fun v m' h => ⟨?_, h.2⟩)
  rw [h.1]
  refine congrArg (fun x : Int => some (zi x)) ?_
  have c : 0 ≤ i ∧ i < m0 2 0 0 4 ∧ i < 8 := ⟨hi.1, hi.2, by omega⟩
  simp [zk_needs, zpick, c]
theorem cqn_7 (l : Launch) (g : zG) {m0 m : zM} {B : Int} {i : Int} (hI : zInv B m0) (hB : B ≤ 11900000) (hQ : zQ m0 m) (hi : 0 ≤ i ∧ i < m0 2 0 0 4) : zMet l g Y_X10_needs [zr 0 0 0, zi i, zi 7] m (fun v m' => v = some (zi (zPl0 m0 7 i)) ∧ zQ m0 m') := by
  have hn := (zInv0 hI).2.2.1
  have hr5 := (zInv0 hI).2.2.2.1
  refine zMet_mono (cq_needs l g (i := i) (w := 7) hI hB hQ) (fun v m' h => ⟨?_, h.2⟩)
  rw [h.1]
  refine congrArg (fun x : Int => some (zi x)) ?_
  have c : 0 ≤ i ∧ i < m0 2 0 0 4 ∧ i < 8 := ⟨hi.1, hi.2, by omega⟩
  simp [zk_needs, zpick, c]
theorem cqr_0 (l : Launch) (g : zG) {m0 m : zM} {B : Int} {r : Int} (hI : zInv B m0) (hB : B ≤ 11900000) (hQ : zQ m0 m) (hr : 0 ≤ r ∧ r < m0 2 0 0 5) : zMet l g Y_X10_ofRecipe [zr 0 0 0, zi r, zi 0] m (fun v m' => v = some (zi (m0 4 0 r 0)) ∧ zQ m0 m') := by
  have hn := (zInv0 hI).2.2.1
  have hr5 := (zInv0 hI).2.2.2.1
  refine zMet_mono (cq_ofRecipe l g (r := r) (w := 0) hI hB hQ) (fun v m' h => ⟨?_, h.2⟩)
  rw [h.1]
  refine congrArg (fun x : Int => some (zi x)) ?_
  have c : 0 ≤ r ∧ r < m0 2 0 0 5 ∧ r < 4 := ⟨hr.1, hr.2, by omega⟩
  simp [zk_ofRecipe, c]
theorem cqr_1 (l : Launch) (g : zG) {m0 m : zM} {B : Int} {r : Int} (hI : zInv B m0) (hB : B ≤ 11900000) (hQ : zQ m0 m) (hr : 0 ≤ r ∧ r < m0 2 0 0 5) : zMet l g Y_X10_ofRecipe [zr 0 0 0, zi r, zi 1] m (fun v m' => v = some (zi (m0 4 0 r 2)) ∧ zQ m0 m') := by
  have hn := (zInv0 hI).2.2.1
  have hr5 := (zInv0 hI).2.2.2.1
  refine zMet_mono (cq_ofRecipe l g (r := r) (w := 1) hI hB hQ) (fun v m' h => ⟨?_, h.2⟩)
  rw [h.1]
  refine congrArg (fun x : Int => some (zi x)) ?_
  have c : 0 ≤ r ∧ r < m0 2 0 0 5 ∧ r < 4 := ⟨hr.1, hr.2, by omega⟩
  simp [zk_ofRecipe, c]
theorem cqr_2 (l : Launch) (g : zG) {m0 m : zM} {B : Int} {r : Int} (hI : zInv B m0) (hB : B ≤ 11900000) (hQ : zQ m0 m) (hr : 0 ≤ r ∧ r < m0 2 0 0 5) : zMet l g Y_X10_ofRecipe [zr 0 0 0, zi r, zi 2] m (fun v m' => v = some (zi (m0 4 0 r 1)) ∧ zQ m0 m') := by
  have hn := (zInv0 hI).2.2.1
  have hr5 := (zInv0 hI).2.2.2.1
  refine zMet_mono (cq_ofRecipe l g (r := r) (w := 2) hI hB hQ) (fun v m' h => ⟨?_, h.2⟩)
  rw [h.1]
  refine congrArg (fun x : Int => some (zi x)) ?_
  have c : 0 ≤ r ∧ r < m0 2 0 0 5 ∧ r < 4 := ⟨hr.1, hr.2, by omega⟩
  simp [zk_ofRecipe, c]
theorem cqr_i (l : Launch) (g : zG) {m0 m : zM} {B : Int} {r i : Int} (hI : zInv B m0) (hB : B ≤ 11900000) (hQ : zQ m0 m) (hr : 0 ≤ r ∧ r < m0 2 0 0 5) (hi : 0 ≤ i ∧ i < 8) : zMet l g Y_X10_ofRecipe [zr 0 0 0, zi r, zi (3 + i)] m (fun v m' => v = some (zi (m0 17 0 r i)) ∧ zQ m0 m') := by
  have hn := (zInv0 hI).2.2.1
  have hr5 := (zInv0 hI).2.2.2.1
  refine zMet_mono (cq_ofRecipe l g (r := r) (w := 3 + i) hI hB hQ) (fun v m' h => ⟨?_, h.2⟩)
  rw [h.1]
  refine congrArg (fun x : Int => some (zi x)) ?_
  have c : 0 ≤ r ∧ r < m0 2 0 0 5 ∧ r < 4 := ⟨hr.1, hr.2, by omega⟩
  rw [zk_ofRecipe, if_neg (by omega), if_neg (by omega), if_neg (by omega), if_neg (by omega), if_pos (by omega), show 3 + i - 3 = i by omega]
theorem cqt_0 (l : Launch) (g : zG) {m0 m : zM} {B : Int} {i k : Int} (hI : zInv B m0) (hB : B ≤ 11900000) (hQ : zQ m0 m) (hi : 0 ≤ i ∧ i < m0 2 0 0 4) (hk : 0 ≤ k ∧ k < m0 3 0 i 2) : zMet l g Y_X10_ofTin [zr 0 0 0, zi i, zi k, zi 0] m (fun v m' => v = some (zi (m0 12 0 i k)) ∧ zQ m0 m') := by
  have hn := (zInv0 hI).2.2.1
  have hr5 := (zInv0 hI).2.2.2.1
  refine zMet_mono (cq_ofTin l g (i := i) (k := k) (w := 0) hI hB hQ) (fun v m' h => ⟨?_, h.2⟩)
  rw [h.1]
  refine congrArg (fun x : Int => some (zi x)) ?_
  have h3 := ((zInv0 hI).2.2.2.2.2.2.1 i hi.1 (by omega)).1.1
  have c : (0 ≤ i ∧ i < m0 2 0 0 4 ∧ i < 8) ∧ (0 ≤ k ∧ k < m0 3 0 i 2 ∧ k < 3) := by omega
  simp [zk_ofTin, c]
theorem cqt_1 (l : Launch) (g : zG) {m0 m : zM} {B : Int} {i k : Int} (hI : zInv B m0) (hB : B ≤ 11900000) (hQ : zQ m0 m) (hi : 0 ≤ i ∧ i < m0 2 0 0 4) (hk : 0 ≤ k ∧ k < m0 3 0 i 2) : zMet l g Y_X10_ofTin [zr 0 0 0, zi i, zi k, zi 1] m (fun v m' => v = some (zi (m0 13 0 i k)) ∧ zQ m0 m') := by
  have hn := (zInv0 hI).2.2.1
  have hr5 := (zInv0 hI).2.2.2.1
  refine zMet_mono (cq_ofTin l g (i := i) (k := k) (w := 1) hI hB hQ) (fun v m' h => ⟨?_, h.2⟩)
  rw [h.1]
  refine congrArg (fun x : Int => some (zi x)) ?_
  have h3 := ((zInv0 hI).2.2.2.2.2.2.1 i hi.1 (by omega)).1.1
  have c : (0 ≤ i ∧ i < m0 2 0 0 4 ∧ i < 8) ∧ (0 ≤ k ∧ k < m0 3 0 i 2 ∧ k < 3) := by omega
  simp [zk_ofTin, c]
theorem cqt_2 (l : Launch) (g : zG) {m0 m : zM} {B : Int} {i k : Int} (hI : zInv B m0) (hB : B ≤ 11900000) (hQ : zQ m0 m) (hi : 0 ≤ i ∧ i < m0 2 0 0 4) (hk : 0 ≤ k ∧ k < m0 3 0 i 2) : zMet l g Y_X10_ofTin [zr 0 0 0, zi i, zi k, zi 2] m (fun v m' => v = some (zi (if k = 0 then zPl0 m0 8 i else if k = 1 then zPl0 m0 9 i else zPl0 m0 10 i)) ∧ zQ m0 m') := by
  have hn := (zInv0 hI).2.2.1
  have hr5 := (zInv0 hI).2.2.2.1
  refine zMet_mono (cq_ofTin l g (i := i) (k := k) (w := 2) hI hB hQ) (fun v m' h => ⟨?_, h.2⟩)
  rw [h.1]
  refine congrArg (fun x : Int => some (zi x)) ?_
  have h3 := ((zInv0 hI).2.2.2.2.2.2.1 i hi.1 (by omega)).1.1
  have c : (0 ≤ i ∧ i < m0 2 0 0 4 ∧ i < 8) ∧ (0 ≤ k ∧ k < m0 3 0 i 2 ∧ k < 3) := by omega
  simp [zk_ofTin, c]
theorem cqc_0 (l : Launch) (g : zG) {m0 m : zM} {B : Int}  (hI : zInv B m0) (hB : B ≤ 11900000) (hQ : zQ m0 m) : zMet l g Y_X10_count [zr 0 0 0, zi 0] m (fun v m' => v = some (zi (m0 2 0 0 0)) ∧ zQ m0 m') := by
  have hn := (zInv0 hI).2.2.1
  have hr5 := (zInv0 hI).2.2.2.1
  refine zMet_mono (cq_count l g (w := 0) hI hB hQ) (fun v m' h => ⟨?_, h.2⟩)
  rw [h.1]
  refine congrArg (fun x : Int => some (zi x)) ?_
  first | rfl | simp [zk_count, zshq]
theorem cqc_1 (l : Launch) (g : zG) {m0 m : zM} {B : Int}  (hI : zInv B m0) (hB : B ≤ 11900000) (hQ : zQ m0 m) : zMet l g Y_X10_count [zr 0 0 0, zi 1] m (fun v m' => v = some (zi (m0 2 0 0 4)) ∧ zQ m0 m') := by
  have hn := (zInv0 hI).2.2.1
  have hr5 := (zInv0 hI).2.2.2.1
  refine zMet_mono (cq_count l g (w := 1) hI hB hQ) (fun v m' h => ⟨?_, h.2⟩)
  rw [h.1]
  refine congrArg (fun x : Int => some (zi x)) ?_
  first | rfl | simp [zk_count, zshq]
theorem cqc_2 (l : Launch) (g : zG) {m0 m : zM} {B : Int}  (hI : zInv B m0) (hB : B ≤ 11900000) (hQ : zQ m0 m) : zMet l g Y_X10_count [zr 0 0 0, zi 2] m (fun v m' => v = some (zi (m0 2 0 0 5)) ∧ zQ m0 m') := by
  have hn := (zInv0 hI).2.2.1
  have hr5 := (zInv0 hI).2.2.2.1
  refine zMet_mono (cq_count l g (w := 2) hI hB hQ) (fun v m' h => ⟨?_, h.2⟩)
  rw [h.1]
  refine congrArg (fun x : Int => some (zi x)) ?_
  first | rfl | simp [zk_count, zshq]
theorem cqc_3 (l : Launch) (g : zG) {m0 m : zM} {B : Int}  (hI : zInv B m0) (hB : B ≤ 11900000) (hQ : zQ m0 m) : zMet l g Y_X10_count [zr 0 0 0, zi 3] m (fun v m' => v = some (zi (m0 2 0 0 1)) ∧ zQ m0 m') := by
  have hn := (zInv0 hI).2.2.1
  have hr5 := (zInv0 hI).2.2.2.1
  refine zMet_mono (cq_count l g (w := 3) hI hB hQ) (fun v m' h => ⟨?_, h.2⟩)
  rw [h.1]
  refine congrArg (fun x : Int => some (zi x)) ?_
  first | rfl | simp [zk_count, zshq]
theorem cqc_4 (l : Launch) (g : zG) {m0 m : zM} {B : Int}  (hI : zInv B m0) (hB : B ≤ 11900000) (hQ : zQ m0 m) : zMet l g Y_X10_count [zr 0 0 0, zi 4] m (fun v m' => v = some (zi (zsum 8 (zPl0 m0 7))) ∧ zQ m0 m') := by
  have hn := (zInv0 hI).2.2.1
  have hr5 := (zInv0 hI).2.2.2.1
  refine zMet_mono (cq_count l g (w := 4) hI hB hQ) (fun v m' h => ⟨?_, h.2⟩)
  rw [h.1]
  refine congrArg (fun x : Int => some (zi x)) ?_
  first | rfl | simp [zk_count, zshq]
theorem cqc_5 (l : Launch) (g : zG) {m0 m : zM} {B : Int}  (hI : zInv B m0) (hB : B ≤ 11900000) (hQ : zQ m0 m) : zMet l g Y_X10_count [zr 0 0 0, zi 5] m (fun v m' => v = some (zi (zsum 8 (zPl0 m0 4))) ∧ zQ m0 m') := by
  have hn := (zInv0 hI).2.2.1
  have hr5 := (zInv0 hI).2.2.2.1
  refine zMet_mono (cq_count l g (w := 5) hI hB hQ) (fun v m' h => ⟨?_, h.2⟩)
  rw [h.1]
  refine congrArg (fun x : Int => some (zi x)) ?_
  first | rfl | simp [zk_count, zshq]
theorem cqc_6 (l : Launch) (g : zG) {m0 m : zM} {B : Int}  (hI : zInv B m0) (hB : B ≤ 11900000) (hQ : zQ m0 m) : zMet l g Y_X10_count [zr 0 0 0, zi 6] m (fun v m' => v = some (zi (zmss (zPl0 m0 6) 8)) ∧ zQ m0 m') := by
  have hn := (zInv0 hI).2.2.1
  have hr5 := (zInv0 hI).2.2.2.1
  refine zMet_mono (cq_count l g (w := 6) hI hB hQ) (fun v m' h => ⟨?_, h.2⟩)
  rw [h.1]
  refine congrArg (fun x : Int => some (zi x)) ?_
  first | rfl | simp [zk_count, zshq]
theorem cqc_7 (l : Launch) (g : zG) {m0 m : zM} {B : Int}  (hI : zInv B m0) (hB : B ≤ 11900000) (hQ : zQ m0 m) : zMet l g Y_X10_count [zr 0 0 0, zi 7] m (fun v m' => v = some (zi (if zmss (zPl0 m0 6) 8 = 0 ∧ zhp m0 then 1 else 0)) ∧ zQ m0 m') := by
  have hn := (zInv0 hI).2.2.1
  have hr5 := (zInv0 hI).2.2.2.1
  refine zMet_mono (cq_count l g (w := 7) hI hB hQ) (fun v m' h => ⟨?_, h.2⟩)
  rw [h.1]
  refine congrArg (fun x : Int => some (zi x)) ?_
  first | rfl | simp [zk_count, zshq]
theorem cqc_8 (l : Launch) (g : zG) {m0 m : zM} {B : Int}  (hI : zInv B m0) (hB : B ≤ 11900000) (hQ : zQ m0 m) : zMet l g Y_X10_count [zr 0 0 0, zi 8] m (fun v m' => v = some (zi (zre (zEc m0) (m0 2 0 0 1))) ∧ zQ m0 m') := by
  have hn := (zInv0 hI).2.2.1
  have hr5 := (zInv0 hI).2.2.2.1
  refine zMet_mono (cq_count l g (w := 8) hI hB hQ) (fun v m' h => ⟨?_, h.2⟩)
  rw [h.1]
  refine congrArg (fun x : Int => some (zi x)) ?_
  simp [zk_count]
theorem cqc_9 (l : Launch) (g : zG) {m0 m : zM} {B : Int}  (hI : zInv B m0) (hB : B ≤ 11900000) (hQ : zQ m0 m) : zMet l g Y_X10_count [zr 0 0 0, zi 9] m (fun v m' => v = some (zi (if zgre (zEc m0) < (zsum 32 (zwf (zEc m0)) + m0 2 0 0 1 - 1) / m0 2 0 0 1 then (zsum 32 (zwf (zEc m0)) + m0 2 0 0 1 - 1) / m0 2 0 0 1 else zgre (zEc m0))) ∧ zQ m0 m') := by
  have hn := (zInv0 hI).2.2.1
  have hr5 := (zInv0 hI).2.2.2.1
  refine zMet_mono (cq_count l g (w := 9) hI hB hQ) (fun v m' h => ⟨?_, h.2⟩)
  rw [h.1]
  refine congrArg (fun x : Int => some (zi x)) ?_
  simp [zk_count]
theorem cqc_10 (l : Launch) (g : zG) {m0 m : zM} {B : Int}  (hI : zInv B m0) (hB : B ≤ 11900000) (hQ : zQ m0 m) : zMet l g Y_X10_count [zr 0 0 0, zi 10] m (fun v m' => v = some (zi (zsum 32 (zwf (zEc m0)))) ∧ zQ m0 m') := by
  have hn := (zInv0 hI).2.2.1
  have hr5 := (zInv0 hI).2.2.2.1
  refine zMet_mono (cq_count l g (w := 10) hI hB hQ) (fun v m' h => ⟨?_, h.2⟩)
  rw [h.1]
  refine congrArg (fun x : Int => some (zi x)) ?_
  simp [zk_count]
theorem cqc_11 (l : Launch) (g : zG) {m0 m : zM} {B : Int}  (hI : zInv B m0) (hB : B ≤ 11900000) (hQ : zQ m0 m) : zMet l g Y_X10_count [zr 0 0 0, zi 11] m (fun v m' => v = some (zi (m0 2 0 0 2)) ∧ zQ m0 m') := by
  have hn := (zInv0 hI).2.2.1
  have hr5 := (zInv0 hI).2.2.2.1
  refine zMet_mono (cq_count l g (w := 11) hI hB hQ) (fun v m' h => ⟨?_, h.2⟩)
  rw [h.1]
  refine congrArg (fun x : Int => some (zi x)) ?_
  first | rfl | simp [zk_count, zshq]
theorem cqc_12 (l : Launch) (g : zG) {m0 m : zM} {B : Int}  (hI : zInv B m0) (hB : B ≤ 11900000) (hQ : zQ m0 m) : zMet l g Y_X10_count [zr 0 0 0, zi 12] m (fun v m' => v = some (zi (m0 2 0 0 3)) ∧ zQ m0 m') := by
  have hn := (zInv0 hI).2.2.1
  have hr5 := (zInv0 hI).2.2.2.1
  refine zMet_mono (cq_count l g (w := 12) hI hB hQ) (fun v m' h => ⟨?_, h.2⟩)
  rw [h.1]
  refine congrArg (fun x : Int => some (zi x)) ?_
  first | rfl | simp [zk_count, zshq]
theorem cqc_13 (l : Launch) (g : zG) {m0 m : zM} {B : Int}  (hI : zInv B m0) (hB : B ≤ 11900000) (hQ : zQ m0 m) : zMet l g Y_X10_count [zr 0 0 0, zi 13] m (fun v m' => v = some (zi (m0 6 0 0 0)) ∧ zQ m0 m') := by
  have hn := (zInv0 hI).2.2.1
  have hr5 := (zInv0 hI).2.2.2.1
  refine zMet_mono (cq_count l g (w := 13) hI hB hQ) (fun v m' h => ⟨?_, h.2⟩)
  rw [h.1]
  refine congrArg (fun x : Int => some (zi x)) ?_
  first | rfl | simp [zk_count, zshq]
theorem cqc_14 (l : Launch) (g : zG) {m0 m : zM} {B : Int}  (hI : zInv B m0) (hB : B ≤ 11900000) (hQ : zQ m0 m) : zMet l g Y_X10_count [zr 0 0 0, zi 14] m (fun v m' => v = some (zi (m0 1 0 0 0)) ∧ zQ m0 m') := by
  have hn := (zInv0 hI).2.2.1
  have hr5 := (zInv0 hI).2.2.2.1
  refine zMet_mono (cq_count l g (w := 14) hI hB hQ) (fun v m' h => ⟨?_, h.2⟩)
  rw [h.1]
  refine congrArg (fun x : Int => some (zi x)) ?_
  first | rfl | simp [zk_count, zshq]
theorem cqs_0 (l : Launch) (g : zG) {m0 m : zM} {B : Int} {r k : Int} (hI : zInv B m0) (hB : B ≤ 11900000) (hQ : zQ m0 m) (hr : 0 ≤ r ∧ r < m0 2 0 0 5) (hk : 0 ≤ k ∧ k < m0 4 0 r 2) : zMet l g Y_X10_step [zr 0 0 0, zi r, zi k, zi 0] m (fun v m' => v = some (zi (if m0 4 0 r 1 = 0 then m0 5 0 (8 * r + k) 0 else zlast m0 0 r k)) ∧ zQ m0 m') := by
  have hn := (zInv0 hI).2.2.1
  have hr5 := (zInv0 hI).2.2.2.1
  refine zMet_mono (cq_step l g (r := r) (k := k) (w := 0) hI hB hQ) (fun v m' h => ⟨?_, h.2⟩)
  rw [h.1]
  refine congrArg (fun x : Int => some (zi x)) ?_
  have h3 := ((zInv0 hI).2.2.2.2.1 r hr.1 (by omega)).2.2.1
  have c : (0 ≤ r ∧ r < m0 2 0 0 5 ∧ r < 4) ∧ (0 ≤ k ∧ k < m0 4 0 r 2 ∧ k < 8) := by omega
  simp [zk_step, c]
theorem cqs_1 (l : Launch) (g : zG) {m0 m : zM} {B : Int} {r k : Int} (hI : zInv B m0) (hB : B ≤ 11900000) (hQ : zQ m0 m) (hr : 0 ≤ r ∧ r < m0 2 0 0 5) (hk : 0 ≤ k ∧ k < m0 4 0 r 2) : zMet l g Y_X10_step [zr 0 0 0, zi r, zi k, zi 1] m (fun v m' => v = some (zi (m0 5 0 (8 * r + k) 1)) ∧ zQ m0 m') := by
  have hn := (zInv0 hI).2.2.1
  have hr5 := (zInv0 hI).2.2.2.1
  refine zMet_mono (cq_step l g (r := r) (k := k) (w := 1) hI hB hQ) (fun v m' h => ⟨?_, h.2⟩)
  rw [h.1]
  refine congrArg (fun x : Int => some (zi x)) ?_
  have h3 := ((zInv0 hI).2.2.2.2.1 r hr.1 (by omega)).2.2.1
  have c : (0 ≤ r ∧ r < m0 2 0 0 5 ∧ r < 4) ∧ (0 ≤ k ∧ k < m0 4 0 r 2 ∧ k < 8) := by omega
  simp [zk_step, c]
theorem cqs_2 (l : Launch) (g : zG) {m0 m : zM} {B : Int} {r k : Int} (hI : zInv B m0) (hB : B ≤ 11900000) (hQ : zQ m0 m) (hr : 0 ≤ r ∧ r < m0 2 0 0 5) (hk : 0 ≤ k ∧ k < m0 4 0 r 2) : zMet l g Y_X10_step [zr 0 0 0, zi r, zi k, zi 2] m (fun v m' => v = some (zi (m0 5 0 (8 * r + k) 2)) ∧ zQ m0 m') := by
  have hn := (zInv0 hI).2.2.1
  have hr5 := (zInv0 hI).2.2.2.1
  refine zMet_mono (cq_step l g (r := r) (k := k) (w := 2) hI hB hQ) (fun v m' h => ⟨?_, h.2⟩)
  rw [h.1]
  refine congrArg (fun x : Int => some (zi x)) ?_
  have h3 := ((zInv0 hI).2.2.2.2.1 r hr.1 (by omega)).2.2.1
  have c : (0 ≤ r ∧ r < m0 2 0 0 5 ∧ r < 4) ∧ (0 ≤ k ∧ k < m0 4 0 r 2 ∧ k < 8) := by omega
  simp [zk_step, c]
theorem cqs_3 (l : Launch) (g : zG) {m0 m : zM} {B : Int} {r k : Int} (hI : zInv B m0) (hB : B ≤ 11900000) (hQ : zQ m0 m) (hr : 0 ≤ r ∧ r < m0 2 0 0 5) (hk : 0 ≤ k ∧ k < m0 4 0 r 2) : zMet l g Y_X10_step [zr 0 0 0, zi r, zi k, zi 3] m (fun v m' => v = some (zi (m0 5 0 (8 * r + k) 3)) ∧ zQ m0 m') := by
  have hn := (zInv0 hI).2.2.1
  have hr5 := (zInv0 hI).2.2.2.1
  refine zMet_mono (cq_step l g (r := r) (k := k) (w := 3) hI hB hQ) (fun v m' h => ⟨?_, h.2⟩)
  rw [h.1]
  refine congrArg (fun x : Int => some (zi x)) ?_
  have h3 := ((zInv0 hI).2.2.2.2.1 r hr.1 (by omega)).2.2.1
  have c : (0 ≤ r ∧ r < m0 2 0 0 5 ∧ r < 4) ∧ (0 ≤ k ∧ k < m0 4 0 r 2 ∧ k < 8) := by omega
  simp [zk_step, c]
theorem cqs_4 (l : Launch) (g : zG) {m0 m : zM} {B : Int} {r k : Int} (hI : zInv B m0) (hB : B ≤ 11900000) (hQ : zQ m0 m) (hr : 0 ≤ r ∧ r < m0 2 0 0 5) (hk : 0 ≤ k ∧ k < m0 4 0 r 2) : zMet l g Y_X10_step [zr 0 0 0, zi r, zi k, zi 4] m (fun v m' => v = some (zi (if m0 4 0 r 1 = 0 then -6 else zEc m0 4 (r * 8 + k))) ∧ zQ m0 m') := by
  have hn := (zInv0 hI).2.2.1
  have hr5 := (zInv0 hI).2.2.2.1
  refine zMet_mono (cq_step l g (r := r) (k := k) (w := 4) hI hB hQ) (fun v m' h => ⟨?_, h.2⟩)
  rw [h.1]
  refine congrArg (fun x : Int => some (zi x)) ?_
  have h3 := ((zInv0 hI).2.2.2.2.1 r hr.1 (by omega)).2.2.1
  have c : (0 ≤ r ∧ r < m0 2 0 0 5 ∧ r < 4) ∧ (0 ≤ k ∧ k < m0 4 0 r 2 ∧ k < 8) := by omega
  simp [zk_step, c]
theorem cqs_5 (l : Launch) (g : zG) {m0 m : zM} {B : Int} {r k : Int} (hI : zInv B m0) (hB : B ≤ 11900000) (hQ : zQ m0 m) (hr : 0 ≤ r ∧ r < m0 2 0 0 5) (hk : 0 ≤ k ∧ k < m0 4 0 r 2) : zMet l g Y_X10_step [zr 0 0 0, zi r, zi k, zi 5] m (fun v m' => v = some (zi (if m0 4 0 r 1 = 0 then -6 else zrb (zEc m0) (m0 2 0 0 1) (r * 8 + k))) ∧ zQ m0 m') := by
  have hn := (zInv0 hI).2.2.1
  have hr5 := (zInv0 hI).2.2.2.1
  refine zMet_mono (cq_step l g (r := r) (k := k) (w := 5) hI hB hQ) (fun v m' h => ⟨?_, h.2⟩)
  rw [h.1]
  refine congrArg (fun x : Int => some (zi x)) ?_
  have h3 := ((zInv0 hI).2.2.2.2.1 r hr.1 (by omega)).2.2.1
  have c : (0 ≤ r ∧ r < m0 2 0 0 5 ∧ r < 4) ∧ (0 ≤ k ∧ k < m0 4 0 r 2 ∧ k < 8) := by omega
  simp [zk_step, c]
