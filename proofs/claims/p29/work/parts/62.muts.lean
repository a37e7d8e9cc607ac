/-! CHANGES, seen over m0 -/
theorem zQ_mut {m0 m a0 a : zM} (hQ : zQ m0 m) (h : zEqa a a0) (hO : zOt a m) : zQ a0 a :=
  ⟨h, zsea_congr (fun t k h1 h2 => hO t 0 0 k (by omega)) hQ.2.1, zsch_cg hQ.2.2 (fun t s i k hh => hO t s i k (by omega))⟩
theorem zEqa_throw {s d : Int} : ∀ (n : Nat) (i acc : Int) (m2 m : zM), zEqa m2 m → zR2 (zthrow s d n i acc m2) (zthrow s d n i acc m)
  | 0, _, _, _, _, h => ⟨rfl, h⟩
  | n + 1, i, acc, m2, m, h => by
    rw [zthrow, zthrow, zEqa_t h 14 (by omega), zEqa_t h 3 (by omega)]
    exact zEqa_throw n _ _ _ _ (zEqa_set (zEqa_set h))
theorem zEqa_pass {s : Int} : ∀ (n : Nat) (acc : Int) (m2 m : zM), zEqa m2 m → zR2 (zpass s n acc m2) (zpass s n acc m)
  | 0, _, _, _, h => ⟨rfl, h⟩
  | n + 1, acc, m2, m, h => by
    rw [zpass, zpass, zEqa_t h 2 (by omega)]
    have h1 := zEqa_throw (s := s) (d := m 2 s 0 0 + 1) 8 0 acc _ _ (zEqa_set (t := 2) (s := s) (i := 0) (k := 0) (v := m 2 s 0 0 + 1) h)
    rw [h1.1]
    exact zEqa_pass n _ _ _ h1.2
theorem zEqa_app {u : Nat} : ∀ (n : Nat) (m2 m : zM), zEqa m2 m → zEqa (zapp u n m2) (zapp u n m)
  | 0, _, _, h => h
  | n + 1, m2, m, h => by
    rw [zapp, zapp, zEqa_t h 6 (by omega)]
    exact zEqa_app n _ _ (zEqa_set (zEqa_set h))
def zR3 (x y : Int × Int × zM) : Prop := x.1 = y.1 ∧ x.2.1 = y.2.1 ∧ zEqa x.2.2 y.2.2
theorem zR3_i {c : Prop} [Decidable c] {a b a' b' : Int × Int × zM} (h1 : c → zR3 a a') (h2 : ¬ c → zR3 b b') : zR3 (if c then a else b) (if c then a' else b') := by
  by_cases q : c
  · rw [if_pos q, if_pos q]; exact h1 q
  · rw [if_neg q, if_neg q]; exact h2 q
theorem zEqa_AmL : ∀ (n : Nat) (p : Int) (m2 m : zM), zEqa m2 m → zR3 (zAmL n p m2) (zAmL n p m)
  | 0, _, _, _, h => ⟨rfl, rfl, h⟩
  | n + 1, p, m2, m, h => by
    rw [zAmL, zAmL, zEqa_t h 17 (by omega), zN_a h]
    exact zR3_i (fun _ => ⟨rfl, rfl, h⟩) (fun _ => zR3_i (fun _ => zEqa_AmL n _ _ _ (zEqa_set h)) (fun _ => ⟨rfl, rfl, zEqa_set h⟩))
theorem zEqa_Sm {k p : Int} {m2 m : zM} (h : zEqa m2 m) : zEqa (zSm m2 k p) (zSm m k p) := by
  unfold zSm
  rw [zN_a h]
  exact zEqa_set (zEqa_set (zEqa_set (zEqa_set (zEqa_set h))))
theorem zEqa_StL : ∀ (n : Nat) (k p : Int) (m2 m : zM), zEqa m2 m → zR3 (zStL n k p m2) (zStL n k p m)
  | 0, _, _, _, _, h => ⟨rfl, rfl, h⟩
  | n + 1, k, p, m2, m, h => by
    rw [zStL, zStL, zN_a h]
    exact zR3_i (fun _ => zR3_i (fun _ => zEqa_StL n _ _ _ _ (zEqa_Sm h)) (fun _ => ⟨rfl, rfl, zEqa_Sm h⟩)) (fun _ => ⟨rfl, rfl, h⟩)
theorem zEqa_Clr {m2 m : zM} (h : zEqa m2 m) : zEqa (zClr m2) (zClr m) := zEqa_fill (zEqa_set (zEqa_set (zEqa_set h)))
theorem zEqa_Then {x y : Int × Int × zM} (h : zR3 x y) : zR3 (zThen x) (zThen y) := by
  unfold zThen
  rw [h.1, h.2.1]
  exact zR3_i (fun _ => zEqa_StL _ _ _ _ _ h.2.2) (fun _ => h)
theorem zEqa_Read {m2 m : zM} (h : zEqa m2 m) : zR3 (zRead m2) (zRead m) := by
  unfold zRead
  rw [zN_a h]
  exact zR3_i (fun _ => zEqa_Then (zEqa_AmL _ _ _ _ (zEqa_set (zEqa_Clr h)))) (fun _ => ⟨rfl, rfl, zEqa_set (zEqa_Clr h)⟩)
theorem zEqa_Flt {m2 m : zM} (h : zEqa m2 m) : zFlt m2 = zFlt m := by
  have h1 := zEqa_Read h
  unfold zFlt
  rw [h1.1, h1.2.1, zEqa_t h 6 (by omega)]
theorem zEqa_Rdm {m2 m : zM} (h : zEqa m2 m) : zEqa (zRdm m2) (zRdm m) := by
  have h1 := zEqa_Read h
  unfold zRdm zRd
  rw [h1.1, h1.2.1]
  exact zEqa_set (zEqa_set h1.2.2)
/-- no lot is greater than B -/
def zL14 (B : Int) (m : zM) : Prop := ∀ s i j : Int, 0 ≤ s → s < 9 → 0 ≤ i → i < 8 → 0 ≤ j → j < 30 → m 14 s i j ≤ B
theorem zL14_of {B : Int} {m : zM} (h : zInv B m) : zL14 B m := fun s i j s0 s1 i0 i1 j0 j1 => ((h.2.2.1 s s0 s1).2.2.2.2.2.2.1 i i0 i1).2.1 j j0 j1 |>.2
theorem zInv_B0 {B : Int} {m : zM} (h : zInv B m) : 0 ≤ B := by
  have := ((zInv0 h).2.2.2.2.2.2.1 0 (by decide) (by decide)).2.1 0 (by decide) (by decide)
  omega
theorem zL14_set {B : Int} {m : zM} (h : zL14 B m) {t : Nat} {s i k v : Int} (hv : t ≠ 14 ∨ v ≤ B) : zL14 B (zset m t s i k v) := by
  intro s' i' j' s0 s1 i0 i1 j0 j1
  simp only [zset]
  split
  · rename_i hc
    rcases hv with hv | hv
    · exact absurd hc.1.symm hv
    · exact hv
  · exact h s' i' j' s0 s1 i0 i1 j0 j1
theorem zL14_fill {B : Int} {m : zM} (h : zL14 B m) {t : Nat} {s i n v : Int} (hv : t ≠ 14 ∨ v ≤ B) : zL14 B (zfill m t s i n v) := by
  intro s' i' j' s0 s1 i0 i1 j0 j1
  simp only [zfill]
  split
  · rename_i hc
    rcases hv with hv | hv
    · exact absurd hc.1.symm hv
    · exact hv
  · exact h s' i' j' s0 s1 i0 i1 j0 j1
theorem zL14_cS {B : Int} {m : zM} (h : zL14 B m) {s s2 : Int} (h0 : 0 ≤ s2) (h1 : s2 < 9) : zL14 B (zcS m s s2 8 4) := by
  intro s' i' j' s0 s1 i0 i1 j0 j1
  simp only [zcS]
  split
  · exact h s2 i' j' h0 h1 i0 i1 j0 j1
  · exact h s' i' j' s0 s1 i0 i1 j0 j1
theorem zL14_cR {B : Int} {m : zM} (h : zL14 B m) {s i s2 i2 n : Int} : zL14 B (zcR m s i s2 i2 n) := by
  intro s' i' j' s0 s1 i0 i1 j0 j1
  simp only [zcR]
  rw [if_neg (by omega), if_neg (by omega)]
  exact h s' i' j' s0 s1 i0 i1 j0 j1
theorem zL14_recd {B : Int} {m : zM} (h : zL14 B m) : zL14 B (zrecd m) := zL14_set (zL14_cS (zL14_set h (Or.inl (by decide))) (by decide) (by decide)) (Or.inl (by decide))
theorem zL14_eq {B : Int} {m m2 : zM} (h : zL14 B m) (he : ∀ s i j : Int, m2 14 s i j = m 14 s i j) : zL14 B m2 := by
  intro s' i' j' s0 s1 i0 i1 j0 j1
  rw [he]
  exact h s' i' j' s0 s1 i0 i1 j0 j1
theorem zL14_throw {B s d : Int} (hB : 0 ≤ B) : ∀ (n : Nat) (i acc : Int) (m : zM), zL14 B m → zL14 B (zthrow s d n i acc m).2
  | 0, _, _, _, h => h
  | n + 1, _, _, _, h => zL14_throw hB n _ _ _ (zL14_set (zL14_set h (Or.inr hB)) (Or.inl (by decide)))
theorem zL14_pass {B s : Int} (hB : 0 ≤ B) : ∀ (n : Nat) (acc : Int) (m : zM), zL14 B m → zL14 B (zpass s n acc m).2
  | 0, _, _, h => h
  | n + 1, _, _, h => zL14_pass hB n _ _ (zL14_throw hB 8 _ _ _ (zL14_set h (Or.inl (by decide))))
theorem zInv_dn {B B' : Int} {m : zM} (h : zInv B' m) (h2 : zL14 B m) : zInv B m := by
  obtain ⟨q1, q2, q3, q4⟩ := h
  refine ⟨q1, q2, fun s s0 s1 => ?_, q4⟩
  obtain ⟨a1, a2, a3, a4, a5, a6, a7, a8⟩ := q3 s s0 s1
  refine ⟨a1, a2, a3, a4, a5, a6, fun i i0 i1 => ?_, a8⟩
  obtain ⟨b1, b2, b3⟩ := a7 i i0 i1
  exact ⟨b1, fun j j0 j1 => ⟨(b2 j j0 j1).1, h2 s i j s0 s1 i0 i1 j0 j1⟩, b3⟩
theorem zqc_ingredient {m2 m : zM} {d : Int} (h : zEqa m2 m) : zR2 (zk_ingredient d m2) (zk_ingredient d m) := by
  have e2 := zEqa_t h 2 (by omega)
  simp only [zk_ingredient, e2]
  exact zR2_i (fun _ => zR2_r h) (fun _ => zR2_i (fun _ => zR2_r h) (fun _ => ⟨rfl, by repeat (first | exact h | exact zEqa_recd h | refine zEqa_set ?_ | refine zEqa_fill ?_ | refine zEqa_empty ?_ | refine zEqa_cS ?_ | refine zEqa_cR ?_)⟩))
theorem zkj_ingredient {B : Int} {m : zM} {d : Int} (hI : zInv B m) : zInv B (zk_ingredient d m).2 := by
  refine zInv_dn (zki_ingredient hI).1 ?_
  have h := zL14_of hI
  have hB0 := zInv_B0 hI
  unfold zk_ingredient
  split
  · exact h
  split
  · exact h
  repeat (first | exact h | exact zL14_recd h | refine zL14_set ?_ (Or.inl (by decide)) | refine zL14_fill ?_ (Or.inl (by decide)) | refine zL14_fill ?_ (Or.inr hB0) | refine zL14_cS ?_ (by omega) (by omega) | refine zL14_cR ?_)
theorem cm_ingredient (l : Launch) (g : zG) {m0 m : zM} {B : Int} {d : Int} (hI : zInv B m0) (hB : B ≤ 11900000) (hQ : zQ m0 m) : zMet l g Y_X10_ingredient [zr 0 0 0, zi d] m (fun v m' => v = some (zi (zk_ingredient d m0).1) ∧ zQ (zk_ingredient d m0).2 m') :=
  zMet_mono (ct_X10_ingredient l g (zQ_inv hQ hI) hB) (fun v m' h => ⟨by rw [h.1, (zqc_ingredient hQ.1).1], by rw [h.2]; exact zQ_mut hQ (zqc_ingredient hQ.1).2 (zki_ingredient (zQ_inv hQ hI)).2⟩)
theorem zqc_tin {m2 m : zM} {i z p : Int} (h : zEqa m2 m) : zR2 (zk_tin i z p m2) (zk_tin i z p m) := by
  have e2 := zEqa_t h 2 (by omega)
  have e3 := zEqa_t h 3 (by omega)
  have e12 := zEqa_t h 12 (by omega)
  simp only [zk_tin, e2, e3, e12]
  exact zR2_i (fun _ => zR2_r h) (fun _ => zR2_i (fun _ => zR2_r h) (fun _ => zR2_i (fun _ => zR2_r h) (fun _ => zR2_i (fun _ => zR2_r h) (fun _ => ⟨rfl, by repeat (first | exact h | exact zEqa_recd h | refine zEqa_set ?_ | refine zEqa_fill ?_ | refine zEqa_empty ?_ | refine zEqa_cS ?_ | refine zEqa_cR ?_)⟩))))
theorem zkj_tin {B : Int} {m : zM} {i z p : Int} (hI : zInv B m) : zInv B (zk_tin i z p m).2 := by
  refine zInv_dn (zki_tin hI).1 ?_
  have h := zL14_of hI
  have hB0 := zInv_B0 hI
  unfold zk_tin
  split
  · exact h
  split
  · exact h
  split
  · exact h
  split
  · exact h
  repeat (first | exact h | exact zL14_recd h | refine zL14_set ?_ (Or.inl (by decide)) | refine zL14_fill ?_ (Or.inl (by decide)) | refine zL14_fill ?_ (Or.inr hB0) | refine zL14_cS ?_ (by omega) (by omega) | refine zL14_cR ?_)
theorem cm_tin (l : Launch) (g : zG) {m0 m : zM} {B : Int} {i z p : Int} (hI : zInv B m0) (hB : B ≤ 11900000) (hQ : zQ m0 m) : zMet l g Y_X10_tin [zr 0 0 0, zi i, zi z, zi p] m (fun v m' => v = some (zi (zk_tin i z p m0).1) ∧ zQ (zk_tin i z p m0).2 m') :=
  zMet_mono (ct_X10_tin l g (zQ_inv hQ hI) hB) (fun v m' h => ⟨by rw [h.1, (zqc_tin hQ.1).1], by rw [h.2]; exact zQ_mut hQ (zqc_tin hQ.1).2 (zki_tin (zQ_inv hQ hI)).2⟩)
theorem zqc_buyable {m2 m : zM} {i b : Int} (h : zEqa m2 m) : zR2 (zk_buyable i b m2) (zk_buyable i b m) := by
  have e2 := zEqa_t h 2 (by omega)
  have e3 := zEqa_t h 3 (by omega)
  simp only [zk_buyable, e2, e3]
  exact zR2_i (fun _ => zR2_r h) (fun _ => zR2_i (fun _ => zR2_r h) (fun _ => ⟨rfl, by repeat (first | exact h | exact zEqa_recd h | refine zEqa_set ?_ | refine zEqa_fill ?_ | refine zEqa_empty ?_ | refine zEqa_cS ?_ | refine zEqa_cR ?_)⟩))
theorem zkj_buyable {B : Int} {m : zM} {i b : Int} (hI : zInv B m) : zInv B (zk_buyable i b m).2 := by
  refine zInv_dn (zki_buyable hI).1 ?_
  have h := zL14_of hI
  have hB0 := zInv_B0 hI
  unfold zk_buyable
  split
  · exact h
  split
  · exact h
  repeat (first | exact h | exact zL14_recd h | refine zL14_set ?_ (Or.inl (by decide)) | refine zL14_fill ?_ (Or.inl (by decide)) | refine zL14_fill ?_ (Or.inr hB0) | refine zL14_cS ?_ (by omega) (by omega) | refine zL14_cR ?_)
theorem cm_buyable (l : Launch) (g : zG) {m0 m : zM} {B : Int} {i b : Int} (hI : zInv B m0) (hB : B ≤ 11900000) (hQ : zQ m0 m) : zMet l g Y_X10_buyable [zr 0 0 0, zi i, zi b] m (fun v m' => v = some (zi (zk_buyable i b m0).1) ∧ zQ (zk_buyable i b m0).2 m') :=
  zMet_mono (ct_X10_buyable l g (zQ_inv hQ hI) hB) (fun v m' h => ⟨by rw [h.1, (zqc_buyable hQ.1).1], by rw [h.2]; exact zQ_mut hQ (zqc_buyable hQ.1).2 (zki_buyable (zQ_inv hQ hI)).2⟩)
theorem zqc_substitute {m2 m : zM} {i o q : Int} (h : zEqa m2 m) : zR2 (zk_substitute i o q m2) (zk_substitute i o q m) := by
  have e2 := zEqa_t h 2 (by omega)
  have e3 := zEqa_t h 3 (by omega)
  simp only [zk_substitute, e2, e3]
  exact zR2_i (fun _ => zR2_r h) (fun _ => zR2_i (fun _ => zR2_r h) (fun _ => ⟨rfl, by repeat (first | exact h | exact zEqa_recd h | refine zEqa_set ?_ | refine zEqa_fill ?_ | refine zEqa_empty ?_ | refine zEqa_cS ?_ | refine zEqa_cR ?_)⟩))
theorem zkj_substitute {B : Int} {m : zM} {i o q : Int} (hI : zInv B m) : zInv B (zk_substitute i o q m).2 := by
  refine zInv_dn (zki_substitute hI).1 ?_
  have h := zL14_of hI
  have hB0 := zInv_B0 hI
  unfold zk_substitute
  split
  · exact h
  split
  · exact h
  repeat (first | exact h | exact zL14_recd h | refine zL14_set ?_ (Or.inl (by decide)) | refine zL14_fill ?_ (Or.inl (by decide)) | refine zL14_fill ?_ (Or.inr hB0) | refine zL14_cS ?_ (by omega) (by omega) | refine zL14_cR ?_)
theorem cm_substitute (l : Launch) (g : zG) {m0 m : zM} {B : Int} {i o q : Int} (hI : zInv B m0) (hB : B ≤ 11900000) (hQ : zQ m0 m) : zMet l g Y_X10_substitute [zr 0 0 0, zi i, zi o, zi q] m (fun v m' => v = some (zi (zk_substitute i o q m0).1) ∧ zQ (zk_substitute i o q m0).2 m') :=
  zMet_mono (ct_X10_substitute l g (zQ_inv hQ hI) hB) (fun v m' h => ⟨by rw [h.1, (zqc_substitute hQ.1).1], by rw [h.2]; exact zQ_mut hQ (zqc_substitute hQ.1).2 (zki_substitute (zQ_inv hQ hI)).2⟩)
theorem zqc_stock {m2 m : zM} {i x : Int} (h : zEqa m2 m) : zR2 (zk_stock i x m2) (zk_stock i x m) := by
  have e2 := zEqa_t h 2 (by omega)
  have e3 := zEqa_t h 3 (by omega)
  have e14 := zEqa_t h 14 (by omega)
  simp only [zk_stock, e2, e3, e14]
  exact zR2_i (fun _ => zR2_r h) (fun _ => zR2_i (fun _ => zR2_r h) (fun _ => zR2_i (fun _ => zR2_r h) (fun _ => ⟨rfl, by repeat (first | exact h | exact zEqa_recd h | refine zEqa_set ?_ | refine zEqa_fill ?_ | refine zEqa_empty ?_ | refine zEqa_cS ?_ | refine zEqa_cR ?_)⟩)))
theorem cm_stock (l : Launch) (g : zG) {m0 m : zM} {B : Int} {i x : Int} (hI : zInv B m0) (hB : B ≤ 11900000) (hQ : zQ m0 m) : zMet l g Y_X10_stock [zr 0 0 0, zi i, zi x] m (fun v m' => v = some (zi (zk_stock i x m0).1) ∧ zQ (zk_stock i x m0).2 m') :=
  zMet_mono (ct_X10_stock l g (zQ_inv hQ hI) hB) (fun v m' h => ⟨by rw [h.1, (zqc_stock hQ.1).1], by rw [h.2]; exact zQ_mut hQ (zqc_stock hQ.1).2 (zki_stock (zQ_inv hQ hI)).2⟩)
theorem zqc_amount {m2 m : zM} {r i x : Int} (h : zEqa m2 m) : zR2 (zk_amount r i x m2) (zk_amount r i x m) := by
  have e2 := zEqa_t h 2 (by omega)
  have e17 := zEqa_t h 17 (by omega)
  simp only [zk_amount, e2, e17]
  exact zR2_i (fun _ => zR2_r h) (fun _ => zR2_i (fun _ => zR2_r h) (fun _ => ⟨rfl, by repeat (first | exact h | exact zEqa_recd h | refine zEqa_set ?_ | refine zEqa_fill ?_ | refine zEqa_empty ?_ | refine zEqa_cS ?_ | refine zEqa_cR ?_)⟩))
theorem zkj_amount {B : Int} {m : zM} {r i x : Int} (hI : zInv B m) : zInv B (zk_amount r i x m).2 := by
  refine zInv_dn (zki_amount hI).1 ?_
  have h := zL14_of hI
  have hB0 := zInv_B0 hI
  unfold zk_amount
  split
  · exact h
  split
  · exact h
  repeat (first | exact h | exact zL14_recd h | refine zL14_set ?_ (Or.inl (by decide)) | refine zL14_fill ?_ (Or.inl (by decide)) | refine zL14_fill ?_ (Or.inr hB0) | refine zL14_cS ?_ (by omega) (by omega) | refine zL14_cR ?_)
theorem cm_amount (l : Launch) (g : zG) {m0 m : zM} {B : Int} {r i x : Int} (hI : zInv B m0) (hB : B ≤ 11900000) (hQ : zQ m0 m) : zMet l g Y_X10_amount [zr 0 0 0, zi r, zi i, zi x] m (fun v m' => v = some (zi (zk_amount r i x m0).1) ∧ zQ (zk_amount r i x m0).2 m') :=
  zMet_mono (ct_X10_amount l g (zQ_inv hQ hI) hB) (fun v m' h => ⟨by rw [h.1, (zqc_amount hQ.1).1], by rw [h.2]; exact zQ_mut hQ (zqc_amount hQ.1).2 (zki_amount (zQ_inv hQ hI)).2⟩)
theorem zqc_menu {m2 m : zM} {r p : Int} (h : zEqa m2 m) : zR2 (zk_menu r p m2) (zk_menu r p m) := by
  have e2 := zEqa_t h 2 (by omega)
  have e4 := zEqa_t h 4 (by omega)
  simp only [zk_menu, e2, e4]
  exact zR2_i (fun _ => zR2_r h) (fun _ => zR2_i (fun _ => zR2_r h) (fun _ => ⟨rfl, by repeat (first | exact h | exact zEqa_recd h | refine zEqa_set ?_ | refine zEqa_fill ?_ | refine zEqa_empty ?_ | refine zEqa_cS ?_ | refine zEqa_cR ?_)⟩))
theorem zkj_menu {B : Int} {m : zM} {r p : Int} (hI : zInv B m) : zInv B (zk_menu r p m).2 := by
  refine zInv_dn (zki_menu hI).1 ?_
  have h := zL14_of hI
  have hB0 := zInv_B0 hI
  unfold zk_menu
  split
  · exact h
  split
  · exact h
  repeat (first | exact h | exact zL14_recd h | refine zL14_set ?_ (Or.inl (by decide)) | refine zL14_fill ?_ (Or.inl (by decide)) | refine zL14_fill ?_ (Or.inr hB0) | refine zL14_cS ?_ (by omega) (by omega) | refine zL14_cR ?_)
theorem cm_menu (l : Launch) (g : zG) {m0 m : zM} {B : Int} {r p : Int} (hI : zInv B m0) (hB : B ≤ 11900000) (hQ : zQ m0 m) : zMet l g Y_X10_menu [zr 0 0 0, zi r, zi p] m (fun v m' => v = some (zi (zk_menu r p m0).1) ∧ zQ (zk_menu r p m0).2 m') :=
  zMet_mono (ct_X10_menu l g (zQ_inv hQ hI) hB) (fun v m' h => ⟨by rw [h.1, (zqc_menu hQ.1).1], by rw [h.2]; exact zQ_mut hQ (zqc_menu hQ.1).2 (zki_menu (zQ_inv hQ hI)).2⟩)
theorem zqc_hands {m2 m : zM} {x : Int} (h : zEqa m2 m) : zR2 (zk_hands x m2) (zk_hands x m) := by
  have e2 := zEqa_t h 2 (by omega)
  simp only [zk_hands, e2]
  exact zR2_i (fun _ => zR2_r h) (fun _ => ⟨rfl, by repeat (first | exact h | exact zEqa_recd h | refine zEqa_set ?_ | refine zEqa_fill ?_ | refine zEqa_empty ?_ | refine zEqa_cS ?_ | refine zEqa_cR ?_)⟩)
theorem zkj_hands {B : Int} {m : zM} {x : Int} (hI : zInv B m) : zInv B (zk_hands x m).2 := by
  refine zInv_dn (zki_hands hI).1 ?_
  have h := zL14_of hI
  have hB0 := zInv_B0 hI
  unfold zk_hands
  split
  · exact h
  repeat (first | exact h | exact zL14_recd h | refine zL14_set ?_ (Or.inl (by decide)) | refine zL14_fill ?_ (Or.inl (by decide)) | refine zL14_fill ?_ (Or.inr hB0) | refine zL14_cS ?_ (by omega) (by omega) | refine zL14_cR ?_)
theorem cm_hands (l : Launch) (g : zG) {m0 m : zM} {B : Int} {x : Int} (hI : zInv B m0) (hB : B ≤ 11900000) (hQ : zQ m0 m) : zMet l g Y_X10_hands [zr 0 0 0, zi x] m (fun v m' => v = some (zi (zk_hands x m0).1) ∧ zQ (zk_hands x m0).2 m') :=
  zMet_mono (ct_X10_hands l g (zQ_inv hQ hI) hB) (fun v m' h => ⟨by rw [h.1, (zqc_hands hQ.1).1], by rw [h.2]; exact zQ_mut hQ (zqc_hands hQ.1).2 (zki_hands (zQ_inv hQ hI)).2⟩)
theorem zqc_undo {m2 m : zM} (h : zEqa m2 m) : zR2 (zk_undo m2) (zk_undo m) := by
  have e1 := zEqa_t h 1 (by omega)
  simp only [zk_undo, e1]
  exact zR2_i (fun _ => zR2_r h) (fun _ => ⟨rfl, by unfold zback; rw [e1]; exact zEqa_set (zEqa_set (zEqa_cS h))⟩)
theorem zkj_undo {B : Int} {m : zM} (hI : zInv B m) : zInv B (zk_undo m).2 := by
  refine zInv_dn (zki_undo hI).1 ?_
  have h := zL14_of hI
  have hB0 := zInv_B0 hI
  unfold zk_undo
  split
  · exact h
  unfold zback
  exact zL14_set (zL14_set (zL14_cS h (by omega) (by omega)) (Or.inl (by decide))) (Or.inl (by decide))
theorem cm_undo (l : Launch) (g : zG) {m0 m : zM} {B : Int} (hI : zInv B m0) (hB : B ≤ 11900000) (hQ : zQ m0 m) : zMet l g Y_X10_undo [zr 0 0 0] m (fun v m' => v = some (zi (zk_undo m0).1) ∧ zQ (zk_undo m0).2 m') :=
  zMet_mono (ct_X10_undo l g (zQ_inv hQ hI) hB) (fun v m' h => ⟨by rw [h.1, (zqc_undo hQ.1).1], by rw [h.2]; exact zQ_mut hQ (zqc_undo hQ.1).2 (zki_undo (zQ_inv hQ hI)).2⟩)
theorem zqc_save {m2 m : zM} {p : Int} (h : zEqa m2 m) : zR2 (zk_save p m2) (zk_save p m) := by
  have e2 := zEqa_t h 2 (by omega)
  simp only [zk_save, e2]
  exact zR2_i (fun _ => zR2_r h) (fun _ => ⟨rfl, by repeat (first | exact h | exact zEqa_recd h | refine zEqa_set ?_ | refine zEqa_fill ?_ | refine zEqa_empty ?_ | refine zEqa_cS ?_ | refine zEqa_cR ?_)⟩)
theorem zkj_save {B : Int} {m : zM} {p : Int} (hI : zInv B m) : zInv B (zk_save p m).2 := by
  refine zInv_dn (zki_save hI).1 ?_
  have h := zL14_of hI
  have hB0 := zInv_B0 hI
  unfold zk_save
  split
  · exact h
  exact zL14_set (zL14_cS h (by decide) (by decide)) (Or.inl (by decide))
theorem cm_save (l : Launch) (g : zG) {m0 m : zM} {B : Int} {p : Int} (hI : zInv B m0) (hB : B ≤ 11900000) (hQ : zQ m0 m) : zMet l g Y_X10_save [zr 0 0 0, zi p] m (fun v m' => v = some (zi (zk_save p m0).1) ∧ zQ (zk_save p m0).2 m') :=
  zMet_mono (ct_X10_save l g (zQ_inv hQ hI) hB) (fun v m' h => ⟨by rw [h.1, (zqc_save hQ.1).1], by rw [h.2]; exact zQ_mut hQ (zqc_save hQ.1).2 (zki_save (zQ_inv hQ hI)).2⟩)
theorem zqc_restore {m2 m : zM} {p : Int} (h : zEqa m2 m) : zR2 (zk_restore p m2) (zk_restore p m) := by
  have e2 := zEqa_t h 2 (by omega)
  have e21 := zEqa_t h 21 (by omega)
  simp only [zk_restore, e2, e21]
  exact zR2_i (fun _ => zR2_r h) (fun _ => zR2_i (fun _ => zR2_r h) (fun _ => ⟨rfl, by exact zEqa_cS (zEqa_recd h)⟩))
theorem zkj_restore {B : Int} {m : zM} {p : Int} (hI : zInv B m) : zInv B (zk_restore p m).2 := by
  refine zInv_dn (zki_restore hI).1 ?_
  have h := zL14_of hI
  have hB0 := zInv_B0 hI
  unfold zk_restore
  split
  · exact h
  split
  · exact h
  exact zL14_cS (zL14_recd h) (by omega) (by omega)
theorem cm_restore (l : Launch) (g : zG) {m0 m : zM} {B : Int} {p : Int} (hI : zInv B m0) (hB : B ≤ 11900000) (hQ : zQ m0 m) : zMet l g Y_X10_restore [zr 0 0 0, zi p] m (fun v m' => v = some (zi (zk_restore p m0).1) ∧ zQ (zk_restore p m0).2 m') :=
  zMet_mono (ct_X10_restore l g (zQ_inv hQ hI) hB) (fun v m' h => ⟨by rw [h.1, (zqc_restore hQ.1).1], by rw [h.2]; exact zQ_mut hQ (zqc_restore hQ.1).2 (zki_restore (zQ_inv hQ hI)).2⟩)
theorem zqc_pass {m2 m : zM} {d : Int} (h : zEqa m2 m) : zR2 (zk_pass d m2) (zk_pass d m) := by
  have e2 := zEqa_t h 2 (by omega)
  simp only [zk_pass, e2]
  exact zR2_i (fun _ => zR2_r h) (fun _ => zR2_i (fun _ => zR2_r h) (fun _ => zEqa_pass _ _ _ _ (zEqa_recd h)))
theorem zkj_pass {B : Int} {m : zM} {d : Int} (hI : zInv B m) : zInv B (zk_pass d m).2 := by
  refine zInv_dn (zki_pass hI).1 ?_
  have h := zL14_of hI
  have hB0 := zInv_B0 hI
  unfold zk_pass
  split
  · exact h
  split
  · exact h
  exact zL14_pass hB0 _ _ _ (zL14_recd h)
theorem zqc_put {m2 m : zM} {x : Int64} (h : zEqa m2 m) : zR2 (zk_put x m2) (zk_put x m) := by
  have e6 := zEqa_t h 6 (by omega)
  simp only [zk_put, e6]
  exact zR2_i (fun _ => zR2_r h) (fun _ => zR2_i (fun _ => zR2_r h) (fun _ => ⟨rfl, zEqa_app _ _ _ h⟩))
theorem zkj_put {B : Int} {m : zM} {x : Int64} (hI : zInv B m) : zInv B (zk_put x m).2 := by
  refine zInv_dn (zki_put hI).1 ?_
  have h := zL14_of hI
  unfold zk_put
  split
  · exact h
  split
  · exact h
  exact zL14_eq h (fun s i j => zapp_o (by decide) (by decide) _ _)
theorem zqc_fault {m2 m : zM} (h : zEqa m2 m) : zR2 (zk_fault m2) (zk_fault m) := ⟨zEqa_Flt h, zEqa_Rdm h⟩
theorem zkj_fault {B : Int} {m : zM} (hI : zInv B m) : zInv B (zk_fault m).2 :=
  zInv_dn (zki_fault hI).1 (show zL14 B (zRdm m) from zL14_eq (zL14_of hI) (fun s i j => zRdm_o (by decide) (Or.inl (by decide))))
theorem zqc_recipe {m2 m : zM} (h : zEqa m2 m) : zR2 (zk_recipe m2) (zk_recipe m) := by
  have e2 := zEqa_t h 2 (by omega)
  have hr := zEqa_Rdm h
  have e17 := zEqa_t hr 17 (by omega)
  simp only [zk_recipe, e2, e17, zEqa_Flt h]
  exact zR2_i (fun _ => ⟨rfl, hr⟩) (fun _ => zR2_i (fun _ => ⟨rfl, hr⟩) (fun _ => zR2_i (fun _ => ⟨rfl, hr⟩) (fun _ => ⟨rfl, zEqa_set (zEqa_set (zEqa_cR (zEqa_recd hr)))⟩)))
theorem zkj_recipe {B : Int} {m : zM} (hI : zInv B m) : zInv B (zk_recipe m).2 := by
  refine zInv_dn (zki_recipe hI).1 ?_
  have h : zL14 B (zRdm m) := zL14_eq (zL14_of hI) (fun s i j => zRdm_o (by decide) (Or.inl (by decide)))
  unfold zk_recipe
  split
  · exact h
  split
  · exact h
  split
  · exact h
  exact zL14_set (zL14_set (zL14_cR (zL14_recd h)) (Or.inl (by decide))) (Or.inl (by decide))
theorem cm_pass (l : Launch) (g : zG) {m0 m : zM} {B : Int} {d : Int} (hI : zInv B m0) (hB : B ≤ 11900000) (hQ : zQ m0 m) : zMet l g Y_X10_pass [zr 0 0 0, zi d] m (fun v m' => v = some (zi (zk_pass d m0).1) ∧ zQ (zk_pass d m0).2 m') :=
  zMet_mono (ct_X10_pass l g (zQ_inv hQ hI) hB) (fun v m' h => ⟨by rw [h.1, (zqc_pass hQ.1).1], by rw [h.2]; exact zQ_mut hQ (zqc_pass hQ.1).2 (zki_pass (zQ_inv hQ hI)).2⟩)
theorem cm_put (l : Launch) (g : zG) {m0 m : zM} {B : Int} {x : Int64} (hI : zInv B m0) (hB : B ≤ 11900000) (hQ : zQ m0 m) : zMet l g Y_X10_put [zr 0 0 0, zl x] m (fun v m' => v = some (zi (zk_put x m0).1) ∧ zQ (zk_put x m0).2 m') :=
  zMet_mono (ct_X10_put l g (zQ_inv hQ hI)) (fun v m' h => ⟨by rw [h.1, (zqc_put hQ.1).1], by rw [h.2]; exact zQ_mut hQ (zqc_put hQ.1).2 (zki_put (zQ_inv hQ hI)).2⟩)
theorem cm_fault (l : Launch) (g : zG) {m0 m : zM} {B : Int} (hI : zInv B m0) (hB : B ≤ 11900000) (hQ : zQ m0 m) : zMet l g Y_X10_fault [zr 0 0 0] m (fun v m' => v = some (zi (zk_fault m0).1) ∧ zQ (zk_fault m0).2 m') :=
  zMet_mono (ct_X10_fault l g (zQ_inv hQ hI) hB) (fun v m' h => ⟨by rw [h.1, (zqc_fault hQ.1).1], by rw [h.2]; exact zQ_mut hQ (zqc_fault hQ.1).2 (zki_fault (zQ_inv hQ hI)).2⟩)
theorem cm_recipe (l : Launch) (g : zG) {m0 m : zM} {B : Int} (hI : zInv B m0) (hB : B ≤ 11900000) (hQ : zQ m0 m) : zMet l g Y_X10_recipe [zr 0 0 0] m (fun v m' => v = some (zi (zk_recipe m0).1) ∧ zQ (zk_recipe m0).2 m') :=
  zMet_mono (ct_X10_recipe l g (zQ_inv hQ hI) hB) (fun v m' h => ⟨by rw [h.1, (zqc_recipe hQ.1).1], by rw [h.2]; exact zQ_mut hQ (zqc_recipe hQ.1).2 (zki_recipe (zQ_inv hQ hI)).2⟩)
