/-! WHILE THE LAW HAS AN ARRAY OF ITS OWN: the same off it -/
def zEqc (m2 m : zM) : Prop := ∀ (t : Nat) (s i k : Int), ¬ (zscr t ∨ zsct t ∨ t = 40 ∨ 45 ≤ t) → m2 t s i k = m t s i k
theorem zEqc_t {m2 m : zM} (h : zEqc m2 m) (t : Nat) (ht : t ≤ 8 ∨ (11 ≤ t ∧ t ≤ 22) ∨ t = 31) : m2 t = m t := by
  funext s i k
  exact h t s i k (by simp only [zscr, zsct]; omega)
theorem zEqc_rf {m : zM} : zEqc m m := fun _ _ _ _ _ => rfl
theorem zEqc_tr {a b c : zM} (h : zEqc a b) (h2 : zEqc b c) : zEqc a c := fun t s i k ht => by rw [h t s i k ht, h2 t s i k ht]
theorem zEqc_set {m2 m : zM} (h : zEqc m2 m) {t : Nat} {s i k v : Int} : zEqc (zset m2 t s i k v) (zset m t s i k v) := by
  intro t' s' i' k' ht
  simp only [zset, h t' s' i' k' ht]
theorem zEqc_fill {m2 m : zM} (h : zEqc m2 m) {t : Nat} {s i n v : Int} : zEqc (zfill m2 t s i n v) (zfill m t s i n v) := by
  intro t' s' i' k' ht
  simp only [zfill, h t' s' i' k' ht]
theorem zEqc_empty {m2 m : zM} (h : zEqc m2 m) {s n : Int} : zEqc (zempty m2 s n) (zempty m s n) := by
  intro t' s' i' k' ht
  simp only [zempty, h t' s' i' k' ht]
theorem zEqc_cS {m2 m : zM} (h : zEqc m2 m) {s s2 : Int} : zEqc (zcS m2 s s2 8 4) (zcS m s s2 8 4) := by
  intro t' s' i' k' ht
  simp only [zcS, h t' s' i' k' ht, h t' s2 i' k' ht]
theorem zEqc_cR {m2 m : zM} (h : zEqc m2 m) {s i s2 i2 n : Int} : zEqc (zcR m2 s i s2 i2 n) (zcR m s i s2 i2 n) := by
  intro t' s' i' k' ht
  simp only [zcR, h t' s' i' k' ht, h t' s2 i2 k' ht, zEqc_t h 5 (by omega)]
theorem zEqc_recd {m2 m : zM} (h : zEqc m2 m) : zEqc (zrecd m2) (zrecd m) := by
  unfold zrecd
  rw [zEqc_t h 1 (by omega)]
  exact zEqc_set (zEqc_cS (zEqc_set h))
theorem zEqc_take {s i t : Int} : ∀ (n : Nat) (a left : Int) (m2 m : zM), zEqc m2 m → zEqc (ztake s i t n a left m2) (ztake s i t n a left m)
  | 0, _, _, _, _, h => h
  | n + 1, a, left, m2, m, h => by
    rw [ztake, ztake, zEqc_t h 14 (by omega)]
    exact zEqc_take n _ _ _ _ (zEqc_set h)
theorem zEqc_car1 {W : zPl} {i : Int} {m2 m : zM} (h : zEqc m2 m) : zEqc (zcar1 W i m2) (zcar1 W i m) := by
  simp only [zcar1]
  rw [zEqc_t h 2 (by omega)]
  have h1 := zEqc_take (s := 0) (i := i) (t := m 2 0 0 0) 30 1 (W 2 i) m2 m h
  generalize ztake 0 i (m 2 0 0 0) 30 1 (W 2 i) m2 = a at *
  generalize ztake 0 i (m 2 0 0 0) 30 1 (W 2 i) m = b at *
  rw [zEqc_t h1 2 (by omega), zEqc_t h1 3 (by omega), zEqc_t h1 14 (by omega)]
  have h2 := zEqc_set (t := 14) (s := 0) (i := i) (k := (b 2 0 0 0 + b 3 0 i 0) % 30) (v := b 14 0 i ((b 2 0 0 0 + b 3 0 i 0) % 30) + W 4 i) h1
  generalize zset a 14 0 i ((b 2 0 0 0 + b 3 0 i 0) % 30) (b 14 0 i ((b 2 0 0 0 + b 3 0 i 0) % 30) + W 4 i) = a2 at *
  generalize zset b 14 0 i ((b 2 0 0 0 + b 3 0 i 0) % 30) (b 14 0 i ((b 2 0 0 0 + b 3 0 i 0) % 30) + W 4 i) = b2 at *
  rw [zEqc_t h2 3 (by omega)]
  have h3 := zEqc_set (t := 3) (s := 0) (i := i) (k := 8) (v := zwr (b2 3 0 i 8 + W 3 i)) h2
  rw [zEqc_t h3 3 (by omega)]
  exact zEqc_set h3
theorem zEqc_carry {W : zPl} {m2 m : zM} (h : zEqc m2 m) : ∀ n : Nat, zEqc (zcarry W n m2) (zcarry W n m)
  | 0 => h
  | n + 1 => zEqc_car1 (zEqc_carry h n)
def zR2c (x y : Int × zM) : Prop := x.1 = y.1 ∧ zEqc x.2 y.2
theorem zR2c_i {c : Prop} [Decidable c] {a b a' b' : Int × zM} (h1 : c → zR2c a a') (h2 : ¬ c → zR2c b b') : zR2c (if c then a else b) (if c then a' else b') := by
  by_cases q : c
  · rw [if_pos q, if_pos q]; exact h1 q
  · rw [if_neg q, if_neg q]; exact h2 q
theorem zR2c_r {m2 m : zM} {v : Int} (h : zEqc m2 m) : zR2c (v, m2) (v, m) := ⟨rfl, h⟩
theorem zDc_c {m2 m : zM} (h : zEqc m2 m) : zDc m2 = zDc m := by
  have h2 := zEqc_t h 2 (by omega)
  have h3 := zEqc_t h 3 (by omega)
  have h4 := zEqc_t h 4 (by omega)
  have h12 := zEqc_t h 12 (by omega)
  have h13 := zEqc_t h 13 (by omega)
  have h14 := zEqc_t h 14 (by omega)
  have h17 := zEqc_t h 17 (by omega)
  funext a i k
  simp only [zDc, zscal, h2, h3, h4, h12, h13, h14, h17]
theorem zPl0_c {m2 m : zM} (h : zEqc m2 m) : zPl0 m2 = zPl0 m := by rw [zPl0, zPl0, zDc_c h]
theorem zhp_c {m2 m : zM} (h : zEqc m2 m) : zhp m2 = zhp m := by
  have h4 := zEqc_t h 4 (by omega)
  simp only [zhp, h4]
theorem zN_c {m2 m : zM} (h : zEqc m2 m) : zN m2 = zN m := by
  have h6 := zEqc_t h 6 (by omega)
  have h22 := zEqc_t h 22 (by omega)
  funext p
  simp only [zN, h6, h22]
theorem zEqc_app {u : Nat} : ∀ (n : Nat) (m2 m : zM), zEqc m2 m → zEqc (zapp u n m2) (zapp u n m)
  | 0, _, _, h => h
  | n + 1, m2, m, h => by
    rw [zapp, zapp, zEqc_t h 6 (by omega)]
    exact zEqc_app n _ _ (zEqc_set (zEqc_set h))
def zR3c (x y : Int × Int × zM) : Prop := x.1 = y.1 ∧ x.2.1 = y.2.1 ∧ zEqc x.2.2 y.2.2
theorem zR3c_i {c : Prop} [Decidable c] {a b a' b' : Int × Int × zM} (h1 : c → zR3c a a') (h2 : ¬ c → zR3c b b') : zR3c (if c then a else b) (if c then a' else b') := by
  by_cases q : c
  · rw [if_pos q, if_pos q]; exact h1 q
  · rw [if_neg q, if_neg q]; exact h2 q
theorem zEqc_AmL : ∀ (n : Nat) (p : Int) (m2 m : zM), zEqc m2 m → zR3c (zAmL n p m2) (zAmL n p m)
  | 0, _, _, _, h => ⟨rfl, rfl, h⟩
  | n + 1, p, m2, m, h => by
    rw [zAmL, zAmL, zEqc_t h 17 (by omega), zN_c h]
    exact zR3c_i (fun _ => ⟨rfl, rfl, h⟩) (fun _ => zR3c_i (fun _ => zEqc_AmL n _ _ _ (zEqc_set h)) (fun _ => ⟨rfl, rfl, zEqc_set h⟩))
theorem zEqc_Sm {k p : Int} {m2 m : zM} (h : zEqc m2 m) : zEqc (zSm m2 k p) (zSm m k p) := by
  unfold zSm
  rw [zN_c h]
  exact zEqc_set (zEqc_set (zEqc_set (zEqc_set (zEqc_set h))))
theorem zEqc_StL : ∀ (n : Nat) (k p : Int) (m2 m : zM), zEqc m2 m → zR3c (zStL n k p m2) (zStL n k p m)
  | 0, _, _, _, _, h => ⟨rfl, rfl, h⟩
  | n + 1, k, p, m2, m, h => by
    rw [zStL, zStL, zN_c h]
    exact zR3c_i (fun _ => zR3c_i (fun _ => zEqc_StL n _ _ _ _ (zEqc_Sm h)) (fun _ => ⟨rfl, rfl, zEqc_Sm h⟩)) (fun _ => ⟨rfl, rfl, h⟩)
theorem zEqc_Clr {m2 m : zM} (h : zEqc m2 m) : zEqc (zClr m2) (zClr m) := zEqc_fill (zEqc_set (zEqc_set (zEqc_set h)))
theorem zEqc_Then {x y : Int × Int × zM} (h : zR3c x y) : zR3c (zThen x) (zThen y) := by
  unfold zThen
  rw [h.1, h.2.1]
  exact zR3c_i (fun _ => zEqc_StL _ _ _ _ _ h.2.2) (fun _ => h)
theorem zEqc_Read {m2 m : zM} (h : zEqc m2 m) : zR3c (zRead m2) (zRead m) := by
  unfold zRead
  rw [zN_c h]
  exact zR3c_i (fun _ => zEqc_Then (zEqc_AmL _ _ _ _ (zEqc_set (zEqc_Clr h)))) (fun _ => ⟨rfl, rfl, zEqc_set (zEqc_Clr h)⟩)
theorem zEqc_Flt {m2 m : zM} (h : zEqc m2 m) : zFlt m2 = zFlt m := by
  have h1 := zEqc_Read h
  unfold zFlt
  rw [h1.1, h1.2.1, zEqc_t h 6 (by omega)]
theorem zEqc_Rdm {m2 m : zM} (h : zEqc m2 m) : zEqc (zRdm m2) (zRdm m) := by
  have h1 := zEqc_Read h
  unfold zRdm zRd
  rw [h1.1, h1.2.1]
  exact zEqc_set (zEqc_set h1.2.2)
theorem zqd_put {m2 m : zM} {x : Int64} (h : zEqc m2 m) : zR2c (zk_put x m2) (zk_put x m) := by
  have e6 := zEqc_t h 6 (by omega)
  simp only [zk_put, e6]
  exact zR2c_i (fun _ => zR2c_r h) (fun _ => zR2c_i (fun _ => zR2c_r h) (fun _ => ⟨rfl, zEqc_app _ _ _ h⟩))
theorem zqd_fault {m2 m : zM} (h : zEqc m2 m) : zR2c (zk_fault m2) (zk_fault m) := ⟨zEqc_Flt h, zEqc_Rdm h⟩
theorem zqd_recipe {m2 m : zM} (h : zEqc m2 m) : zR2c (zk_recipe m2) (zk_recipe m) := by
  have e2 := zEqc_t h 2 (by omega)
  have hr := zEqc_Rdm h
  have e17 := zEqc_t hr 17 (by omega)
  simp only [zk_recipe, e2, e17, zEqc_Flt h]
  exact zR2c_i (fun _ => ⟨rfl, hr⟩) (fun _ => zR2c_i (fun _ => ⟨rfl, hr⟩) (fun _ => zR2c_i (fun _ => ⟨rfl, hr⟩) (fun _ => ⟨rfl, zEqc_set (zEqc_set (zEqc_cR (zEqc_recd hr)))⟩)))
theorem zqd_cook {m2 m : zM} (h : zEqc m2 m) : zR2c (zk_cook m2) (zk_cook m) := by
  have e2 := zEqc_t h 2 (by omega)
  have e4 := zEqc_t h 4 (by omega)
  simp only [zk_cook, zhp, zPl0_c h, e2, e4]
  exact zR2c_i (fun _ => zR2c_r h) (fun _ => ⟨rfl, zEqc_empty (zEqc_set (zEqc_set (zEqc_carry (zEqc_recd h) 8)))⟩)
/-- m0 with an array of the law's own beside it -/
def zRow (m : zM) (k : Nat) (D : Int → Int) : zM := fun t s i j => if t = 44 + k then (if s = 0 ∧ i = 0 then D j else 0) else m t s i j
theorem zRow_o {m : zM} {k : Nat} {D : Int → Int} {t : Nat} (ht : t ≠ 44 + k) : zRow m k D t = m t := by
  funext s i j
  unfold zRow
  rw [if_neg ht]
theorem zRow_at {m : zM} {k : Nat} {D : Int → Int} {j : Int} : zRow m k D (44 + k) 0 0 j = D j := by
  unfold zRow
  rw [if_pos rfl, if_pos ⟨rfl, rfl⟩]
theorem zRow_c {m : zM} {k : Nat} {D : Int → Int} (hk : 1 ≤ k) : zEqc (zRow m k D) m := fun t s i j ht => by
  rw [zRow_o (fun e => ht (by omega))]
theorem zInv_row {B : Int} {m : zM} {k : Nat} {D : Int → Int} (hk : 1 ≤ k) (h : zInv B m) : zInv B (zRow m k D) :=
  zInv_cg h (zsea_congr (fun t q h1 h2 => by rw [zRow_o (by omega)]) h.2.1) (fun t s i q ht => by rw [zRow_o (by omega)])
theorem zPl0_row {m : zM} {k : Nat} {D : Int → Int} (hk : 1 ≤ k) : zPl0 (zRow m k D) = zPl0 m := zPl0_c (zRow_c hk)
theorem zhp_row {m : zM} {k : Nat} {D : Int → Int} (hk : 1 ≤ k) : zhp (zRow m k D) = zhp m := zhp_c (zRow_c hk)
theorem zQ_new {m0 m : zM} {k : Nat} (hk : 1 ≤ k) (hQ : zQ m0 m) : zQ (zRow m0 k (fun _ => 0)) (fun t s i j => if t = 44 + k then 0 else m t s i j) := by
  refine ⟨fun t s i j ht => ?_, zsea_congr (fun t q h1 h2 => if_neg (by omega)) hQ.2.1, zsch_cg hQ.2.2 (fun t s i q hh => if_neg (by omega))⟩
  show (if t = 44 + k then 0 else m t s i j) = (if t = 44 + k then (if s = 0 ∧ i = 0 then (0 : Int) else 0) else m0 t s i j)
  by_cases c : t = 44 + k
  · rw [if_pos c, if_pos c]
    split <;> rfl
  · rw [if_neg c, if_neg c]
    exact hQ.1 t s i j ht
theorem zQ_ast {m0 m : zM} {k : Nat} {D : Int → Int} {j v : Int} (hk : 1 ≤ k) (hQ : zQ (zRow m0 k D) m) : zQ (zRow m0 k (fun x => if x = j then v else D x)) (zset m (44 + k) 0 0 j v) := by
  refine ⟨fun t s i x ht => ?_, zsea_congr (fun t q h1 h2 => by simp only [zset]; rw [if_neg (by omega)]) hQ.2.1, zsch_cg hQ.2.2 (fun t s i q hh => by simp only [zset]; rw [if_neg (by omega)])⟩
  have h := hQ.1 t s i x ht
  unfold zRow at h ⊢
  simp only [zset]
  by_cases c : t = 44 + k
  · rw [if_pos c] at h ⊢
    by_cases d : s = 0 ∧ i = 0
    · rw [if_pos d] at h ⊢
      by_cases e : x = j
      · rw [if_pos ⟨c, d.1, d.2, e⟩, if_pos e]
      · rw [if_neg (by omega), if_neg e]; exact h
    · rw [if_neg d] at h ⊢
      rw [if_neg (by omega)]; exact h
  · rw [if_neg c] at h ⊢
    rw [if_neg (by omega)]; exact h
theorem zQ_ald {m0 m : zM} {k : Nat} {D : Int → Int} {j : Int} (hk : 1 ≤ k) (hQ : zQ (zRow m0 k D) m) : m (44 + k) 0 0 j = D j := by
  rw [hQ.1 (44 + k) 0 0 j (by simp only [zscr, zsct]; omega), zRow_at]
theorem zQ_row {a' a m' m0 : zM} {k : Nat} {D : Int → Int} (hk : 1 ≤ k) (hQ : zQ a' m') (h : zEqc a' a) (hO : zOt a' (zRow m0 k D)) (hO2 : zOt a m0) : zQ (zRow a k D) m' := by
  refine ⟨fun t s i j ht => ?_, hQ.2⟩
  rw [hQ.1 t s i j ht]
  by_cases c : 45 ≤ t
  · rw [hO t s i j (by omega)]
    unfold zRow
    split
    · rfl
    · exact (hO2 t s i j (by omega)).symm
  · rw [zRow_o (by omega)]
    exact h t s i j (fun z => by
      rcases z with z | z | z | z
      · exact ht (Or.inl z)
      · exact ht (Or.inr (Or.inl z))
      · exact ht (Or.inr (Or.inr z))
      · exact c z)
theorem cmr_cook (l : Launch) (g : zG) {m0 m : zM} {B : Int} {k : Nat} {D : Int → Int} (hk : 1 ≤ k) (hI : zInv B m0) (hB : B ≤ 11900000) (hQ : zQ (zRow m0 k D) m) : zMet l g Y_X10_cook [zr 0 0 0] m (fun v m' => v = some (zi (zk_cook m0).1) ∧ zQ (zRow (zk_cook m0).2 k D) m') :=
  zMet_mono (cm_cook l g (zInv_row hk hI) hB hQ) (fun v m' h => ⟨by rw [h.1, (zqd_cook (zRow_c hk)).1], zQ_row hk h.2 (zqd_cook (zRow_c hk)).2 (zki_cook2 (zInv_row hk hI) hB).2 (zki_cook2 hI hB).2⟩)
theorem cmr_put (l : Launch) (g : zG) {m0 m : zM} {B : Int} {k : Nat} {D : Int → Int} {x : Int64} (hk : 1 ≤ k) (hI : zInv B m0) (hB : B ≤ 11900000) (hQ : zQ (zRow m0 k D) m) : zMet l g Y_X10_put [zr 0 0 0, zl x] m (fun v m' => v = some (zi (zk_put x m0).1) ∧ zQ (zRow (zk_put x m0).2 k D) m') :=
  zMet_mono (cm_put l g (zInv_row hk hI) hB hQ) (fun v m' h => ⟨by rw [h.1, (zqd_put (zRow_c hk)).1], zQ_row hk h.2 (zqd_put (zRow_c hk)).2 (zki_put (zInv_row hk hI)).2 (zki_put hI).2⟩)
theorem cmr_fault (l : Launch) (g : zG) {m0 m : zM} {B : Int} {k : Nat} {D : Int → Int} (hk : 1 ≤ k) (hI : zInv B m0) (hB : B ≤ 11900000) (hQ : zQ (zRow m0 k D) m) : zMet l g Y_X10_fault [zr 0 0 0] m (fun v m' => v = some (zi (zk_fault m0).1) ∧ zQ (zRow (zk_fault m0).2 k D) m') :=
  zMet_mono (cm_fault l g (zInv_row hk hI) hB hQ) (fun v m' h => ⟨by rw [h.1, (zqd_fault (zRow_c hk)).1], zQ_row hk h.2 (zqd_fault (zRow_c hk)).2 (zki_fault (zInv_row hk hI)).2 (zki_fault hI).2⟩)
theorem cmr_recipe (l : Launch) (g : zG) {m0 m : zM} {B : Int} {k : Nat} {D : Int → Int} (hk : 1 ≤ k) (hI : zInv B m0) (hB : B ≤ 11900000) (hQ : zQ (zRow m0 k D) m) : zMet l g Y_X10_recipe [zr 0 0 0] m (fun v m' => v = some (zi (zk_recipe m0).1) ∧ zQ (zRow (zk_recipe m0).2 k D) m') :=
  zMet_mono (cm_recipe l g (zInv_row hk hI) hB hQ) (fun v m' h => ⟨by rw [h.1, (zqd_recipe (zRow_c hk)).1], zQ_row hk h.2 (zqd_recipe (zRow_c hk)).2 (zki_recipe (zInv_row hk hI)).2 (zki_recipe hI).2⟩)
theorem cqa_5r (l : Launch) (g : zG) {m0 m : zM} {B : Int} {n : Nat} {D : Int → Int} {i : Int} (hI : zInv B m0) (hB : B ≤ 11900000) (hn : 1 ≤ n) (hQ : zQ (zRow m0 n D) m) (hi : 0 ≤ i ∧ i < m0 2 0 0 4) : zMet l g Y_X10_about [zr 0 0 0, zi i, zi 5] m (fun v m' => v = some (zi (zsum 30 (m0 14 0 i))) ∧ zQ (zRow m0 n D) m') := by
  have h := cqa_5 l g (zInv_row (D := D) hn hI) hB hQ (by simp only [zRow_o (show (2 : Nat) ≠ 44 + n by omega), zRow_o (show (3 : Nat) ≠ 44 + n by omega), zRow_o (show (4 : Nat) ≠ 44 + n by omega), zRow_o (show (5 : Nat) ≠ 44 + n by omega), zRow_o (show (6 : Nat) ≠ 44 + n by omega), zRow_o (show (1 : Nat) ≠ 44 + n by omega), zRow_o (show (14 : Nat) ≠ 44 + n by omega), zRow_o (show (17 : Nat) ≠ 44 + n by omega), zPl0_row hn, zhp_row hn]; exact hi)
  simp only [zRow_o (show (2 : Nat) ≠ 44 + n by omega), zRow_o (show (3 : Nat) ≠ 44 + n by omega), zRow_o (show (4 : Nat) ≠ 44 + n by omega), zRow_o (show (5 : Nat) ≠ 44 + n by omega), zRow_o (show (6 : Nat) ≠ 44 + n by omega), zRow_o (show (1 : Nat) ≠ 44 + n by omega), zRow_o (show (14 : Nat) ≠ 44 + n by omega), zRow_o (show (17 : Nat) ≠ 44 + n by omega), zPl0_row hn, zhp_row hn] at h
  exact h
theorem cqa_8r (l : Launch) (g : zG) {m0 m : zM} {B : Int} {n : Nat} {D : Int → Int} {i : Int} (hI : zInv B m0) (hB : B ≤ 11900000) (hn : 1 ≤ n) (hQ : zQ (zRow m0 n D) m) (hi : 0 ≤ i ∧ i < m0 2 0 0 4) : zMet l g Y_X10_about [zr 0 0 0, zi i, zi 8] m (fun v m' => v = some (zi (m0 3 0 i 8)) ∧ zQ (zRow m0 n D) m') := by
  have h := cqa_8 l g (zInv_row (D := D) hn hI) hB hQ (by simp only [zRow_o (show (2 : Nat) ≠ 44 + n by omega), zRow_o (show (3 : Nat) ≠ 44 + n by omega), zRow_o (show (4 : Nat) ≠ 44 + n by omega), zRow_o (show (5 : Nat) ≠ 44 + n by omega), zRow_o (show (6 : Nat) ≠ 44 + n by omega), zRow_o (show (1 : Nat) ≠ 44 + n by omega), zRow_o (show (14 : Nat) ≠ 44 + n by omega), zRow_o (show (17 : Nat) ≠ 44 + n by omega), zPl0_row hn, zhp_row hn]; exact hi)
  simp only [zRow_o (show (2 : Nat) ≠ 44 + n by omega), zRow_o (show (3 : Nat) ≠ 44 + n by omega), zRow_o (show (4 : Nat) ≠ 44 + n by omega), zRow_o (show (5 : Nat) ≠ 44 + n by omega), zRow_o (show (6 : Nat) ≠ 44 + n by omega), zRow_o (show (1 : Nat) ≠ 44 + n by omega), zRow_o (show (14 : Nat) ≠ 44 + n by omega), zRow_o (show (17 : Nat) ≠ 44 + n by omega), zPl0_row hn, zhp_row hn] at h
  exact h
theorem cqa_9r (l : Launch) (g : zG) {m0 m : zM} {B : Int} {n : Nat} {D : Int → Int} {i : Int} (hI : zInv B m0) (hB : B ≤ 11900000) (hn : 1 ≤ n) (hQ : zQ (zRow m0 n D) m) (hi : 0 ≤ i ∧ i < m0 2 0 0 4) : zMet l g Y_X10_about [zr 0 0 0, zi i, zi 9] m (fun v m' => v = some (zi (m0 3 0 i 9)) ∧ zQ (zRow m0 n D) m') := by
  have h := cqa_9 l g (zInv_row (D := D) hn hI) hB hQ (by simp only [zRow_o (show (2 : Nat) ≠ 44 + n by omega), zRow_o (show (3 : Nat) ≠ 44 + n by omega), zRow_o (show (4 : Nat) ≠ 44 + n by omega), zRow_o (show (5 : Nat) ≠ 44 + n by omega), zRow_o (show (6 : Nat) ≠ 44 + n by omega), zRow_o (show (1 : Nat) ≠ 44 + n by omega), zRow_o (show (14 : Nat) ≠ 44 + n by omega), zRow_o (show (17 : Nat) ≠ 44 + n by omega), zPl0_row hn, zhp_row hn]; exact hi)
  simp only [zRow_o (show (2 : Nat) ≠ 44 + n by omega), zRow_o (show (3 : Nat) ≠ 44 + n by omega), zRow_o (show (4 : Nat) ≠ 44 + n by omega), zRow_o (show (5 : Nat) ≠ 44 + n by omega), zRow_o (show (6 : Nat) ≠ 44 + n by omega), zRow_o (show (1 : Nat) ≠ 44 + n by omega), zRow_o (show (14 : Nat) ≠ 44 + n by omega), zRow_o (show (17 : Nat) ≠ 44 + n by omega), zPl0_row hn, zhp_row hn] at h
  exact h
theorem cqn_0r (l : Launch) (g : zG) {m0 m : zM} {B : Int} {n : Nat} {D : Int → Int} {i : Int} (hI : zInv B m0) (hB : B ≤ 11900000) (hn : 1 ≤ n) (hQ : zQ (zRow m0 n D) m) (hi : 0 ≤ i ∧ i < m0 2 0 0 4) : zMet l g Y_X10_needs [zr 0 0 0, zi i, zi 0] m (fun v m' => v = some (zi (zPl0 m0 0 i)) ∧ zQ (zRow m0 n D) m') := by
  have h := cqn_0 l g (zInv_row (D := D) hn hI) hB hQ (by simp only [zRow_o (show (2 : Nat) ≠ 44 + n by omega), zRow_o (show (3 : Nat) ≠ 44 + n by omega), zRow_o (show (4 : Nat) ≠ 44 + n by omega), zRow_o (show (5 : Nat) ≠ 44 + n by omega), zRow_o (show (6 : Nat) ≠ 44 + n by omega), zRow_o (show (1 : Nat) ≠ 44 + n by omega), zRow_o (show (14 : Nat) ≠ 44 + n by omega), zRow_o (show (17 : Nat) ≠ 44 + n by omega), zPl0_row hn, zhp_row hn]; exact hi)
  simp only [zRow_o (show (2 : Nat) ≠ 44 + n by omega), zRow_o (show (3 : Nat) ≠ 44 + n by omega), zRow_o (show (4 : Nat) ≠ 44 + n by omega), zRow_o (show (5 : Nat) ≠ 44 + n by omega), zRow_o (show (6 : Nat) ≠ 44 + n by omega), zRow_o (show (1 : Nat) ≠ 44 + n by omega), zRow_o (show (14 : Nat) ≠ 44 + n by omega), zRow_o (show (17 : Nat) ≠ 44 + n by omega), zPl0_row hn, zhp_row hn] at h
  exact h
theorem cqn_2r (l : Launch) (g : zG) {m0 m : zM} {B : Int} {n : Nat} {D : Int → Int} {i : Int} (hI : zInv B m0) (hB : B ≤ 11900000) (hn : 1 ≤ n) (hQ : zQ (zRow m0 n D) m) (hi : 0 ≤ i ∧ i < m0 2 0 0 4) : zMet l g Y_X10_needs [zr 0 0 0, zi i, zi 2] m (fun v m' => v = some (zi (zPl0 m0 2 i)) ∧ zQ (zRow m0 n D) m') := by
  have h := cqn_2 l g (zInv_row (D := D) hn hI) hB hQ (by simp only [zRow_o (show (2 : Nat) ≠ 44 + n by omega), zRow_o (show (3 : Nat) ≠ 44 + n by omega), zRow_o (show (4 : Nat) ≠ 44 + n by omega), zRow_o (show (5 : Nat) ≠ 44 + n by omega), zRow_o (show (6 : Nat) ≠ 44 + n by omega), zRow_o (show (1 : Nat) ≠ 44 + n by omega), zRow_o (show (14 : Nat) ≠ 44 + n by omega), zRow_o (show (17 : Nat) ≠ 44 + n by omega), zPl0_row hn, zhp_row hn]; exact hi)
  simp only [zRow_o (show (2 : Nat) ≠ 44 + n by omega), zRow_o (show (3 : Nat) ≠ 44 + n by omega), zRow_o (show (4 : Nat) ≠ 44 + n by omega), zRow_o (show (5 : Nat) ≠ 44 + n by omega), zRow_o (show (6 : Nat) ≠ 44 + n by omega), zRow_o (show (1 : Nat) ≠ 44 + n by omega), zRow_o (show (14 : Nat) ≠ 44 + n by omega), zRow_o (show (17 : Nat) ≠ 44 + n by omega), zPl0_row hn, zhp_row hn] at h
  exact h
theorem cqn_3r (l : Launch) (g : zG) {m0 m : zM} {B : Int} {n : Nat} {D : Int → Int} {i : Int} (hI : zInv B m0) (hB : B ≤ 11900000) (hn : 1 ≤ n) (hQ : zQ (zRow m0 n D) m) (hi : 0 ≤ i ∧ i < m0 2 0 0 4) : zMet l g Y_X10_needs [zr 0 0 0, zi i, zi 3] m (fun v m' => v = some (zi (zPl0 m0 3 i)) ∧ zQ (zRow m0 n D) m') := by
  have h := cqn_3 l g (zInv_row (D := D) hn hI) hB hQ (by simp only [zRow_o (show (2 : Nat) ≠ 44 + n by omega), zRow_o (show (3 : Nat) ≠ 44 + n by omega), zRow_o (show (4 : Nat) ≠ 44 + n by omega), zRow_o (show (5 : Nat) ≠ 44 + n by omega), zRow_o (show (6 : Nat) ≠ 44 + n by omega), zRow_o (show (1 : Nat) ≠ 44 + n by omega), zRow_o (show (14 : Nat) ≠ 44 + n by omega), zRow_o (show (17 : Nat) ≠ 44 + n by omega), zPl0_row hn, zhp_row hn]; exact hi)
  simp only [zRow_o (show (2 : Nat) ≠ 44 + n by omega), zRow_o (show (3 : Nat) ≠ 44 + n by omega), zRow_o (show (4 : Nat) ≠ 44 + n by omega), zRow_o (show (5 : Nat) ≠ 44 + n by omega), zRow_o (show (6 : Nat) ≠ 44 + n by omega), zRow_o (show (1 : Nat) ≠ 44 + n by omega), zRow_o (show (14 : Nat) ≠ 44 + n by omega), zRow_o (show (17 : Nat) ≠ 44 + n by omega), zPl0_row hn, zhp_row hn] at h
  exact h
theorem cqn_4r (l : Launch) (g : zG) {m0 m : zM} {B : Int} {n : Nat} {D : Int → Int} {i : Int} (hI : zInv B m0) (hB : B ≤ 11900000) (hn : 1 ≤ n) (hQ : zQ (zRow m0 n D) m) (hi : 0 ≤ i ∧ i < m0 2 0 0 4) : zMet l g Y_X10_needs [zr 0 0 0, zi i, zi 4] m (fun v m' => v = some (zi (zPl0 m0 4 i)) ∧ zQ (zRow m0 n D) m') := by
  have h := cqn_4 l g (zInv_row (D := D) hn hI) hB hQ (by simp only [zRow_o (show (2 : Nat) ≠ 44 + n by omega), zRow_o (show (3 : Nat) ≠ 44 + n by omega), zRow_o (show (4 : Nat) ≠ 44 + n by omega), zRow_o (show (5 : Nat) ≠ 44 + n by omega), zRow_o (show (6 : Nat) ≠ 44 + n by omega), zRow_o (show (1 : Nat) ≠ 44 + n by omega), zRow_o (show (14 : Nat) ≠ 44 + n by omega), zRow_o (show (17 : Nat) ≠ 44 + n by omega), zPl0_row hn, zhp_row hn]; exact hi)
  simp only [zRow_o (show (2 : Nat) ≠ 44 + n by omega), zRow_o (show (3 : Nat) ≠ 44 + n by omega), zRow_o (show (4 : Nat) ≠ 44 + n by omega), zRow_o (show (5 : Nat) ≠ 44 + n by omega), zRow_o (show (6 : Nat) ≠ 44 + n by omega), zRow_o (show (1 : Nat) ≠ 44 + n by omega), zRow_o (show (14 : Nat) ≠ 44 + n by omega), zRow_o (show (17 : Nat) ≠ 44 + n by omega), zPl0_row hn, zhp_row hn] at h
  exact h
theorem cqn_5r (l : Launch) (g : zG) {m0 m : zM} {B : Int} {n : Nat} {D : Int → Int} {i : Int} (hI : zInv B m0) (hB : B ≤ 11900000) (hn : 1 ≤ n) (hQ : zQ (zRow m0 n D) m) (hi : 0 ≤ i ∧ i < m0 2 0 0 4) : zMet l g Y_X10_needs [zr 0 0 0, zi i, zi 5] m (fun v m' => v = some (zi (zPl0 m0 5 i)) ∧ zQ (zRow m0 n D) m') := by
  have h := cqn_5 l g (zInv_row (D := D) hn hI) hB hQ (by simp only [zRow_o (show (2 : Nat) ≠ 44 + n by omega), zRow_o (show (3 : Nat) ≠ 44 + n by omega), zRow_o (show (4 : Nat) ≠ 44 + n by omega), zRow_o (show (5 : Nat) ≠ 44 + n by omega), zRow_o (show (6 : Nat) ≠ 44 + n by omega), zRow_o (show (1 : Nat) ≠ 44 + n by omega), zRow_o (show (14 : Nat) ≠ 44 + n by omega), zRow_o (show (17 : Nat) ≠ 44 + n by omega), zPl0_row hn, zhp_row hn]; exact hi)
  simp only [zRow_o (show (2 : Nat) ≠ 44 + n by omega), zRow_o (show (3 : Nat) ≠ 44 + n by omega), zRow_o (show (4 : Nat) ≠ 44 + n by omega), zRow_o (show (5 : Nat) ≠ 44 + n by omega), zRow_o (show (6 : Nat) ≠ 44 + n by omega), zRow_o (show (1 : Nat) ≠ 44 + n by omega), zRow_o (show (14 : Nat) ≠ 44 + n by omega), zRow_o (show (17 : Nat) ≠ 44 + n by omega), zPl0_row hn, zhp_row hn] at h
  exact h
theorem cqn_6r (l : Launch) (g : zG) {m0 m : zM} {B : Int} {n : Nat} {D : Int → Int} {i : Int} (hI : zInv B m0) (hB : B ≤ 11900000) (hn : 1 ≤ n) (hQ : zQ (zRow m0 n D) m) (hi : 0 ≤ i ∧ i < m0 2 0 0 4) : zMet l g Y_X10_needs [zr 0 0 0, zi i, zi 6] m (fun v m' => v = some (zi (zPl0 m0 6 i)) ∧ zQ (zRow m0 n D) m') := by
  have h := cqn_6 l g (zInv_row (D := D) hn hI) hB hQ (by simp only [zRow_o (show (2 : Nat) ≠ 44 + n by omega), zRow_o (show (3 : Nat) ≠ 44 + n by omega), zRow_o (show (4 : Nat) ≠ 44 + n by omega), zRow_o (show (5 : Nat) ≠ 44 + n by omega), zRow_o (show (6 : Nat) ≠ 44 + n by omega), zRow_o (show (1 : Nat) ≠ 44 + n by omega), zRow_o (show (14 : Nat) ≠ 44 + n by omega), zRow_o (show (17 : Nat) ≠ 44 + n by omega), zPl0_row hn, zhp_row hn]; exact hi)
  simp only [zRow_o (show (2 : Nat) ≠ 44 + n by omega), zRow_o (show (3 : Nat) ≠ 44 + n by omega), zRow_o (show (4 : Nat) ≠ 44 + n by omega), zRow_o (show (5 : Nat) ≠ 44 + n by omega), zRow_o (show (6 : Nat) ≠ 44 + n by omega), zRow_o (show (1 : Nat) ≠ 44 + n by omega), zRow_o (show (14 : Nat) ≠ 44 + n by omega), zRow_o (show (17 : Nat) ≠ 44 + n by omega), zPl0_row hn, zhp_row hn] at h
  exact h
theorem cqc_1r (l : Launch) (g : zG) {m0 m : zM} {B : Int} {n : Nat} {D : Int → Int}  (hI : zInv B m0) (hB : B ≤ 11900000) (hn : 1 ≤ n) (hQ : zQ (zRow m0 n D) m) : zMet l g Y_X10_count [zr 0 0 0, zi 1] m (fun v m' => v = some (zi (m0 2 0 0 4)) ∧ zQ (zRow m0 n D) m') := by
  have h := cqc_1 l g (zInv_row (D := D) hn hI) hB hQ
  simp only [zRow_o (show (2 : Nat) ≠ 44 + n by omega), zRow_o (show (3 : Nat) ≠ 44 + n by omega), zRow_o (show (4 : Nat) ≠ 44 + n by omega), zRow_o (show (5 : Nat) ≠ 44 + n by omega), zRow_o (show (6 : Nat) ≠ 44 + n by omega), zRow_o (show (1 : Nat) ≠ 44 + n by omega), zRow_o (show (14 : Nat) ≠ 44 + n by omega), zRow_o (show (17 : Nat) ≠ 44 + n by omega), zPl0_row hn, zhp_row hn] at h
  exact h
theorem cqc_2r (l : Launch) (g : zG) {m0 m : zM} {B : Int} {n : Nat} {D : Int → Int}  (hI : zInv B m0) (hB : B ≤ 11900000) (hn : 1 ≤ n) (hQ : zQ (zRow m0 n D) m) : zMet l g Y_X10_count [zr 0 0 0, zi 2] m (fun v m' => v = some (zi (m0 2 0 0 5)) ∧ zQ (zRow m0 n D) m') := by
  have h := cqc_2 l g (zInv_row (D := D) hn hI) hB hQ
  simp only [zRow_o (show (2 : Nat) ≠ 44 + n by omega), zRow_o (show (3 : Nat) ≠ 44 + n by omega), zRow_o (show (4 : Nat) ≠ 44 + n by omega), zRow_o (show (5 : Nat) ≠ 44 + n by omega), zRow_o (show (6 : Nat) ≠ 44 + n by omega), zRow_o (show (1 : Nat) ≠ 44 + n by omega), zRow_o (show (14 : Nat) ≠ 44 + n by omega), zRow_o (show (17 : Nat) ≠ 44 + n by omega), zPl0_row hn, zhp_row hn] at h
  exact h
theorem cqc_4r (l : Launch) (g : zG) {m0 m : zM} {B : Int} {n : Nat} {D : Int → Int}  (hI : zInv B m0) (hB : B ≤ 11900000) (hn : 1 ≤ n) (hQ : zQ (zRow m0 n D) m) : zMet l g Y_X10_count [zr 0 0 0, zi 4] m (fun v m' => v = some (zi (zsum 8 (zPl0 m0 7))) ∧ zQ (zRow m0 n D) m') := by
  have h := cqc_4 l g (zInv_row (D := D) hn hI) hB hQ
  simp only [zRow_o (show (2 : Nat) ≠ 44 + n by omega), zRow_o (show (3 : Nat) ≠ 44 + n by omega), zRow_o (show (4 : Nat) ≠ 44 + n by omega), zRow_o (show (5 : Nat) ≠ 44 + n by omega), zRow_o (show (6 : Nat) ≠ 44 + n by omega), zRow_o (show (1 : Nat) ≠ 44 + n by omega), zRow_o (show (14 : Nat) ≠ 44 + n by omega), zRow_o (show (17 : Nat) ≠ 44 + n by omega), zPl0_row hn, zhp_row hn] at h
  exact h
theorem cqc_5r (l : Launch) (g : zG) {m0 m : zM} {B : Int} {n : Nat} {D : Int → Int}  (hI : zInv B m0) (hB : B ≤ 11900000) (hn : 1 ≤ n) (hQ : zQ (zRow m0 n D) m) : zMet l g Y_X10_count [zr 0 0 0, zi 5] m (fun v m' => v = some (zi (zsum 8 (zPl0 m0 4))) ∧ zQ (zRow m0 n D) m') := by
  have h := cqc_5 l g (zInv_row (D := D) hn hI) hB hQ
  simp only [zRow_o (show (2 : Nat) ≠ 44 + n by omega), zRow_o (show (3 : Nat) ≠ 44 + n by omega), zRow_o (show (4 : Nat) ≠ 44 + n by omega), zRow_o (show (5 : Nat) ≠ 44 + n by omega), zRow_o (show (6 : Nat) ≠ 44 + n by omega), zRow_o (show (1 : Nat) ≠ 44 + n by omega), zRow_o (show (14 : Nat) ≠ 44 + n by omega), zRow_o (show (17 : Nat) ≠ 44 + n by omega), zPl0_row hn, zhp_row hn] at h
  exact h
theorem cqc_7r (l : Launch) (g : zG) {m0 m : zM} {B : Int} {n : Nat} {D : Int → Int}  (hI : zInv B m0) (hB : B ≤ 11900000) (hn : 1 ≤ n) (hQ : zQ (zRow m0 n D) m) : zMet l g Y_X10_count [zr 0 0 0, zi 7] m (fun v m' => v = some (zi (if zmss (zPl0 m0 6) 8 = 0 ∧ zhp m0 then 1 else 0)) ∧ zQ (zRow m0 n D) m') := by
  have h := cqc_7 l g (zInv_row (D := D) hn hI) hB hQ
  simp only [zRow_o (show (2 : Nat) ≠ 44 + n by omega), zRow_o (show (3 : Nat) ≠ 44 + n by omega), zRow_o (show (4 : Nat) ≠ 44 + n by omega), zRow_o (show (5 : Nat) ≠ 44 + n by omega), zRow_o (show (6 : Nat) ≠ 44 + n by omega), zRow_o (show (1 : Nat) ≠ 44 + n by omega), zRow_o (show (14 : Nat) ≠ 44 + n by omega), zRow_o (show (17 : Nat) ≠ 44 + n by omega), zPl0_row hn, zhp_row hn] at h
  exact h
theorem cqc_11r (l : Launch) (g : zG) {m0 m : zM} {B : Int} {n : Nat} {D : Int → Int}  (hI : zInv B m0) (hB : B ≤ 11900000) (hn : 1 ≤ n) (hQ : zQ (zRow m0 n D) m) : zMet l g Y_X10_count [zr 0 0 0, zi 11] m (fun v m' => v = some (zi (m0 2 0 0 2)) ∧ zQ (zRow m0 n D) m') := by
  have h := cqc_11 l g (zInv_row (D := D) hn hI) hB hQ
  simp only [zRow_o (show (2 : Nat) ≠ 44 + n by omega), zRow_o (show (3 : Nat) ≠ 44 + n by omega), zRow_o (show (4 : Nat) ≠ 44 + n by omega), zRow_o (show (5 : Nat) ≠ 44 + n by omega), zRow_o (show (6 : Nat) ≠ 44 + n by omega), zRow_o (show (1 : Nat) ≠ 44 + n by omega), zRow_o (show (14 : Nat) ≠ 44 + n by omega), zRow_o (show (17 : Nat) ≠ 44 + n by omega), zPl0_row hn, zhp_row hn] at h
  exact h
theorem cqc_12r (l : Launch) (g : zG) {m0 m : zM} {B : Int} {n : Nat} {D : Int → Int}  (hI : zInv B m0) (hB : B ≤ 11900000) (hn : 1 ≤ n) (hQ : zQ (zRow m0 n D) m) : zMet l g Y_X10_count [zr 0 0 0, zi 12] m (fun v m' => v = some (zi (m0 2 0 0 3)) ∧ zQ (zRow m0 n D) m') := by
  have h := cqc_12 l g (zInv_row (D := D) hn hI) hB hQ
  simp only [zRow_o (show (2 : Nat) ≠ 44 + n by omega), zRow_o (show (3 : Nat) ≠ 44 + n by omega), zRow_o (show (4 : Nat) ≠ 44 + n by omega), zRow_o (show (5 : Nat) ≠ 44 + n by omega), zRow_o (show (6 : Nat) ≠ 44 + n by omega), zRow_o (show (1 : Nat) ≠ 44 + n by omega), zRow_o (show (14 : Nat) ≠ 44 + n by omega), zRow_o (show (17 : Nat) ≠ 44 + n by omega), zPl0_row hn, zhp_row hn] at h
  exact h
theorem cqc_13r (l : Launch) (g : zG) {m0 m : zM} {B : Int} {n : Nat} {D : Int → Int}  (hI : zInv B m0) (hB : B ≤ 11900000) (hn : 1 ≤ n) (hQ : zQ (zRow m0 n D) m) : zMet l g Y_X10_count [zr 0 0 0, zi 13] m (fun v m' => v = some (zi (m0 6 0 0 0)) ∧ zQ (zRow m0 n D) m') := by
  have h := cqc_13 l g (zInv_row (D := D) hn hI) hB hQ
  simp only [zRow_o (show (2 : Nat) ≠ 44 + n by omega), zRow_o (show (3 : Nat) ≠ 44 + n by omega), zRow_o (show (4 : Nat) ≠ 44 + n by omega), zRow_o (show (5 : Nat) ≠ 44 + n by omega), zRow_o (show (6 : Nat) ≠ 44 + n by omega), zRow_o (show (1 : Nat) ≠ 44 + n by omega), zRow_o (show (14 : Nat) ≠ 44 + n by omega), zRow_o (show (17 : Nat) ≠ 44 + n by omega), zPl0_row hn, zhp_row hn] at h
  exact h
theorem cqr_0r (l : Launch) (g : zG) {m0 m : zM} {B : Int} {n : Nat} {D : Int → Int} {r : Int} (hI : zInv B m0) (hB : B ≤ 11900000) (hn : 1 ≤ n) (hQ : zQ (zRow m0 n D) m) (hr : 0 ≤ r ∧ r < m0 2 0 0 5) : zMet l g Y_X10_ofRecipe [zr 0 0 0, zi r, zi 0] m (fun v m' => v = some (zi (m0 4 0 r 0)) ∧ zQ (zRow m0 n D) m') := by
  have h := cqr_0 l g (zInv_row (D := D) hn hI) hB hQ (by simp only [zRow_o (show (2 : Nat) ≠ 44 + n by omega), zRow_o (show (3 : Nat) ≠ 44 + n by omega), zRow_o (show (4 : Nat) ≠ 44 + n by omega), zRow_o (show (5 : Nat) ≠ 44 + n by omega), zRow_o (show (6 : Nat) ≠ 44 + n by omega), zRow_o (show (1 : Nat) ≠ 44 + n by omega), zRow_o (show (14 : Nat) ≠ 44 + n by omega), zRow_o (show (17 : Nat) ≠ 44 + n by omega), zPl0_row hn, zhp_row hn]; exact hr)
  simp only [zRow_o (show (2 : Nat) ≠ 44 + n by omega), zRow_o (show (3 : Nat) ≠ 44 + n by omega), zRow_o (show (4 : Nat) ≠ 44 + n by omega), zRow_o (show (5 : Nat) ≠ 44 + n by omega), zRow_o (show (6 : Nat) ≠ 44 + n by omega), zRow_o (show (1 : Nat) ≠ 44 + n by omega), zRow_o (show (14 : Nat) ≠ 44 + n by omega), zRow_o (show (17 : Nat) ≠ 44 + n by omega), zPl0_row hn, zhp_row hn] at h
  exact h
theorem cqr_1r (l : Launch) (g : zG) {m0 m : zM} {B : Int} {n : Nat} {D : Int → Int} {r : Int} (hI : zInv B m0) (hB : B ≤ 11900000) (hn : 1 ≤ n) (hQ : zQ (zRow m0 n D) m) (hr : 0 ≤ r ∧ r < m0 2 0 0 5) : zMet l g Y_X10_ofRecipe [zr 0 0 0, zi r, zi 1] m (fun v m' => v = some (zi (m0 4 0 r 2)) ∧ zQ (zRow m0 n D) m') := by
  have h := cqr_1 l g (zInv_row (D := D) hn hI) hB hQ (by simp only [zRow_o (show (2 : Nat) ≠ 44 + n by omega), zRow_o (show (3 : Nat) ≠ 44 + n by omega), zRow_o (show (4 : Nat) ≠ 44 + n by omega), zRow_o (show (5 : Nat) ≠ 44 + n by omega), zRow_o (show (6 : Nat) ≠ 44 + n by omega), zRow_o (show (1 : Nat) ≠ 44 + n by omega), zRow_o (show (14 : Nat) ≠ 44 + n by omega), zRow_o (show (17 : Nat) ≠ 44 + n by omega), zPl0_row hn, zhp_row hn]; exact hr)
  simp only [zRow_o (show (2 : Nat) ≠ 44 + n by omega), zRow_o (show (3 : Nat) ≠ 44 + n by omega), zRow_o (show (4 : Nat) ≠ 44 + n by omega), zRow_o (show (5 : Nat) ≠ 44 + n by omega), zRow_o (show (6 : Nat) ≠ 44 + n by omega), zRow_o (show (1 : Nat) ≠ 44 + n by omega), zRow_o (show (14 : Nat) ≠ 44 + n by omega), zRow_o (show (17 : Nat) ≠ 44 + n by omega), zPl0_row hn, zhp_row hn] at h
  exact h
theorem cqr_2r (l : Launch) (g : zG) {m0 m : zM} {B : Int} {n : Nat} {D : Int → Int} {r : Int} (hI : zInv B m0) (hB : B ≤ 11900000) (hn : 1 ≤ n) (hQ : zQ (zRow m0 n D) m) (hr : 0 ≤ r ∧ r < m0 2 0 0 5) : zMet l g Y_X10_ofRecipe [zr 0 0 0, zi r, zi 2] m (fun v m' => v = some (zi (m0 4 0 r 1)) ∧ zQ (zRow m0 n D) m') := by
  have h := cqr_2 l g (zInv_row (D := D) hn hI) hB hQ (by simp only [zRow_o (show (2 : Nat) ≠ 44 + n by omega), zRow_o (show (3 : Nat) ≠ 44 + n by omega), zRow_o (show (4 : Nat) ≠ 44 + n by omega), zRow_o (show (5 : Nat) ≠ 44 + n by omega), zRow_o (show (6 : Nat) ≠ 44 + n by omega), zRow_o (show (1 : Nat) ≠ 44 + n by omega), zRow_o (show (14 : Nat) ≠ 44 + n by omega), zRow_o (show (17 : Nat) ≠ 44 + n by omega), zPl0_row hn, zhp_row hn]; exact hr)
  simp only [zRow_o (show (2 : Nat) ≠ 44 + n by omega), zRow_o (show (3 : Nat) ≠ 44 + n by omega), zRow_o (show (4 : Nat) ≠ 44 + n by omega), zRow_o (show (5 : Nat) ≠ 44 + n by omega), zRow_o (show (6 : Nat) ≠ 44 + n by omega), zRow_o (show (1 : Nat) ≠ 44 + n by omega), zRow_o (show (14 : Nat) ≠ 44 + n by omega), zRow_o (show (17 : Nat) ≠ 44 + n by omega), zPl0_row hn, zhp_row hn] at h
  exact h
theorem cqr_ir (l : Launch) (g : zG) {m0 m : zM} {B : Int} {n : Nat} {D : Int → Int} {r i : Int} (hI : zInv B m0) (hB : B ≤ 11900000) (hn : 1 ≤ n) (hQ : zQ (zRow m0 n D) m) (hr : 0 ≤ r ∧ r < m0 2 0 0 5) (hi : 0 ≤ i ∧ i < 8) : zMet l g Y_X10_ofRecipe [zr 0 0 0, zi r, zi (3 + i)] m (fun v m' => v = some (zi (m0 17 0 r i)) ∧ zQ (zRow m0 n D) m') := by
  have h := cqr_i l g (zInv_row (D := D) hn hI) hB hQ (by simp only [zRow_o (show (2 : Nat) ≠ 44 + n by omega), zRow_o (show (3 : Nat) ≠ 44 + n by omega), zRow_o (show (4 : Nat) ≠ 44 + n by omega), zRow_o (show (5 : Nat) ≠ 44 + n by omega), zRow_o (show (6 : Nat) ≠ 44 + n by omega), zRow_o (show (1 : Nat) ≠ 44 + n by omega), zRow_o (show (14 : Nat) ≠ 44 + n by omega), zRow_o (show (17 : Nat) ≠ 44 + n by omega), zPl0_row hn, zhp_row hn]; exact hr) hi
  simp only [zRow_o (show (2 : Nat) ≠ 44 + n by omega), zRow_o (show (3 : Nat) ≠ 44 + n by omega), zRow_o (show (4 : Nat) ≠ 44 + n by omega), zRow_o (show (5 : Nat) ≠ 44 + n by omega), zRow_o (show (6 : Nat) ≠ 44 + n by omega), zRow_o (show (1 : Nat) ≠ 44 + n by omega), zRow_o (show (14 : Nat) ≠ 44 + n by omega), zRow_o (show (17 : Nat) ≠ 44 + n by omega), zPl0_row hn, zhp_row hn] at h
  exact h
theorem zlast_row {m : zM} {k : Nat} {D : Int → Int} (hk : 1 ≤ k) : zlast (zRow m k D) = zlast m := by
  funext s r q
  simp only [zlast, zscal, zRow_o (show (4 : Nat) ≠ 44 + k by omega), zRow_o (show (5 : Nat) ≠ 44 + k by omega)]
theorem cqs_0r (l : Launch) (g : zG) {m0 m : zM} {B : Int} {n : Nat} {D : Int → Int} {r k : Int} (hI : zInv B m0) (hB : B ≤ 11900000) (hn : 1 ≤ n) (hQ : zQ (zRow m0 n D) m) (hr : 0 ≤ r ∧ r < m0 2 0 0 5) (hk : 0 ≤ k ∧ k < m0 4 0 r 2) : zMet l g Y_X10_step [zr 0 0 0, zi r, zi k, zi 0] m (fun v m' => v = some (zi (if m0 4 0 r 1 = 0 then m0 5 0 (8 * r + k) 0 else zlast m0 0 r k)) ∧ zQ (zRow m0 n D) m') := by
  have h := cqs_0 l g (zInv_row (D := D) hn hI) hB hQ (by simp only [zRow_o (show (2 : Nat) ≠ 44 + n by omega), zRow_o (show (3 : Nat) ≠ 44 + n by omega), zRow_o (show (4 : Nat) ≠ 44 + n by omega), zRow_o (show (5 : Nat) ≠ 44 + n by omega), zRow_o (show (6 : Nat) ≠ 44 + n by omega), zRow_o (show (1 : Nat) ≠ 44 + n by omega), zRow_o (show (14 : Nat) ≠ 44 + n by omega), zRow_o (show (17 : Nat) ≠ 44 + n by omega), zPl0_row hn, zhp_row hn]; exact hr) (by simp only [zRow_o (show (2 : Nat) ≠ 44 + n by omega), zRow_o (show (3 : Nat) ≠ 44 + n by omega), zRow_o (show (4 : Nat) ≠ 44 + n by omega), zRow_o (show (5 : Nat) ≠ 44 + n by omega), zRow_o (show (6 : Nat) ≠ 44 + n by omega), zRow_o (show (1 : Nat) ≠ 44 + n by omega), zRow_o (show (14 : Nat) ≠ 44 + n by omega), zRow_o (show (17 : Nat) ≠ 44 + n by omega), zPl0_row hn, zhp_row hn]; exact hk)
  simp only [zRow_o (show (2 : Nat) ≠ 44 + n by omega), zRow_o (show (3 : Nat) ≠ 44 + n by omega), zRow_o (show (4 : Nat) ≠ 44 + n by omega), zRow_o (show (5 : Nat) ≠ 44 + n by omega), zRow_o (show (6 : Nat) ≠ 44 + n by omega), zRow_o (show (1 : Nat) ≠ 44 + n by omega), zRow_o (show (14 : Nat) ≠ 44 + n by omega), zRow_o (show (17 : Nat) ≠ 44 + n by omega), zPl0_row hn, zhp_row hn, zlast_row hn] at h
  exact h
theorem cqs_1r (l : Launch) (g : zG) {m0 m : zM} {B : Int} {n : Nat} {D : Int → Int} {r k : Int} (hI : zInv B m0) (hB : B ≤ 11900000) (hn : 1 ≤ n) (hQ : zQ (zRow m0 n D) m) (hr : 0 ≤ r ∧ r < m0 2 0 0 5) (hk : 0 ≤ k ∧ k < m0 4 0 r 2) : zMet l g Y_X10_step [zr 0 0 0, zi r, zi k, zi 1] m (fun v m' => v = some (zi (m0 5 0 (8 * r + k) 1)) ∧ zQ (zRow m0 n D) m') := by
  have h := cqs_1 l g (zInv_row (D := D) hn hI) hB hQ (by simp only [zRow_o (show (2 : Nat) ≠ 44 + n by omega), zRow_o (show (3 : Nat) ≠ 44 + n by omega), zRow_o (show (4 : Nat) ≠ 44 + n by omega), zRow_o (show (5 : Nat) ≠ 44 + n by omega), zRow_o (show (6 : Nat) ≠ 44 + n by omega), zRow_o (show (1 : Nat) ≠ 44 + n by omega), zRow_o (show (14 : Nat) ≠ 44 + n by omega), zRow_o (show (17 : Nat) ≠ 44 + n by omega), zPl0_row hn, zhp_row hn]; exact hr) (by simp only [zRow_o (show (2 : Nat) ≠ 44 + n by omega), zRow_o (show (3 : Nat) ≠ 44 + n by omega), zRow_o (show (4 : Nat) ≠ 44 + n by omega), zRow_o (show (5 : Nat) ≠ 44 + n by omega), zRow_o (show (6 : Nat) ≠ 44 + n by omega), zRow_o (show (1 : Nat) ≠ 44 + n by omega), zRow_o (show (14 : Nat) ≠ 44 + n by omega), zRow_o (show (17 : Nat) ≠ 44 + n by omega), zPl0_row hn, zhp_row hn]; exact hk)
  simp only [zRow_o (show (2 : Nat) ≠ 44 + n by omega), zRow_o (show (3 : Nat) ≠ 44 + n by omega), zRow_o (show (4 : Nat) ≠ 44 + n by omega), zRow_o (show (5 : Nat) ≠ 44 + n by omega), zRow_o (show (6 : Nat) ≠ 44 + n by omega), zRow_o (show (1 : Nat) ≠ 44 + n by omega), zRow_o (show (14 : Nat) ≠ 44 + n by omega), zRow_o (show (17 : Nat) ≠ 44 + n by omega), zPl0_row hn, zhp_row hn] at h
  exact h
theorem cqs_2r (l : Launch) (g : zG) {m0 m : zM} {B : Int} {n : Nat} {D : Int → Int} {r k : Int} (hI : zInv B m0) (hB : B ≤ 11900000) (hn : 1 ≤ n) (hQ : zQ (zRow m0 n D) m) (hr : 0 ≤ r ∧ r < m0 2 0 0 5) (hk : 0 ≤ k ∧ k < m0 4 0 r 2) : zMet l g Y_X10_step [zr 0 0 0, zi r, zi k, zi 2] m (fun v m' => v = some (zi (m0 5 0 (8 * r + k) 2)) ∧ zQ (zRow m0 n D) m') := by
  have h := cqs_2 l g (zInv_row (D := D) hn hI) hB hQ (by simp only [zRow_o (show (2 : Nat) ≠ 44 + n by omega), zRow_o (show (3 : Nat) ≠ 44 + n by omega), zRow_o (show (4 : Nat) ≠ 44 + n by omega), zRow_o (show (5 : Nat) ≠ 44 + n by omega), zRow_o (show (6 : Nat) ≠ 44 + n by omega), zRow_o (show (1 : Nat) ≠ 44 + n by omega), zRow_o (show (14 : Nat) ≠ 44 + n by omega), zRow_o (show (17 : Nat) ≠ 44 + n by omega), zPl0_row hn, zhp_row hn]; exact hr) (by simp only [zRow_o (show (2 : Nat) ≠ 44 + n by omega), zRow_o (show (3 : Nat) ≠ 44 + n by omega), zRow_o (show (4 : Nat) ≠ 44 + n by omega), zRow_o (show (5 : Nat) ≠ 44 + n by omega), zRow_o (show (6 : Nat) ≠ 44 + n by omega), zRow_o (show (1 : Nat) ≠ 44 + n by omega), zRow_o (show (14 : Nat) ≠ 44 + n by omega), zRow_o (show (17 : Nat) ≠ 44 + n by omega), zPl0_row hn, zhp_row hn]; exact hk)
  simp only [zRow_o (show (2 : Nat) ≠ 44 + n by omega), zRow_o (show (3 : Nat) ≠ 44 + n by omega), zRow_o (show (4 : Nat) ≠ 44 + n by omega), zRow_o (show (5 : Nat) ≠ 44 + n by omega), zRow_o (show (6 : Nat) ≠ 44 + n by omega), zRow_o (show (1 : Nat) ≠ 44 + n by omega), zRow_o (show (14 : Nat) ≠ 44 + n by omega), zRow_o (show (17 : Nat) ≠ 44 + n by omega), zPl0_row hn, zhp_row hn] at h
  exact h
theorem cqs_3r (l : Launch) (g : zG) {m0 m : zM} {B : Int} {n : Nat} {D : Int → Int} {r k : Int} (hI : zInv B m0) (hB : B ≤ 11900000) (hn : 1 ≤ n) (hQ : zQ (zRow m0 n D) m) (hr : 0 ≤ r ∧ r < m0 2 0 0 5) (hk : 0 ≤ k ∧ k < m0 4 0 r 2) : zMet l g Y_X10_step [zr 0 0 0, zi r, zi k, zi 3] m (fun v m' => v = some (zi (m0 5 0 (8 * r + k) 3)) ∧ zQ (zRow m0 n D) m') := by
  have h := cqs_3 l g (zInv_row (D := D) hn hI) hB hQ (by simp only [zRow_o (show (2 : Nat) ≠ 44 + n by omega), zRow_o (show (3 : Nat) ≠ 44 + n by omega), zRow_o (show (4 : Nat) ≠ 44 + n by omega), zRow_o (show (5 : Nat) ≠ 44 + n by omega), zRow_o (show (6 : Nat) ≠ 44 + n by omega), zRow_o (show (1 : Nat) ≠ 44 + n by omega), zRow_o (show (14 : Nat) ≠ 44 + n by omega), zRow_o (show (17 : Nat) ≠ 44 + n by omega), zPl0_row hn, zhp_row hn]; exact hr) (by simp only [zRow_o (show (2 : Nat) ≠ 44 + n by omega), zRow_o (show (3 : Nat) ≠ 44 + n by omega), zRow_o (show (4 : Nat) ≠ 44 + n by omega), zRow_o (show (5 : Nat) ≠ 44 + n by omega), zRow_o (show (6 : Nat) ≠ 44 + n by omega), zRow_o (show (1 : Nat) ≠ 44 + n by omega), zRow_o (show (14 : Nat) ≠ 44 + n by omega), zRow_o (show (17 : Nat) ≠ 44 + n by omega), zPl0_row hn, zhp_row hn]; exact hk)
  simp only [zRow_o (show (2 : Nat) ≠ 44 + n by omega), zRow_o (show (3 : Nat) ≠ 44 + n by omega), zRow_o (show (4 : Nat) ≠ 44 + n by omega), zRow_o (show (5 : Nat) ≠ 44 + n by omega), zRow_o (show (6 : Nat) ≠ 44 + n by omega), zRow_o (show (1 : Nat) ≠ 44 + n by omega), zRow_o (show (14 : Nat) ≠ 44 + n by omega), zRow_o (show (17 : Nat) ≠ 44 + n by omega), zPl0_row hn, zhp_row hn] at h
  exact h
