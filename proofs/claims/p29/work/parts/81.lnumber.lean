theorem zPt_app {m : zM} {T : List Int} {c : Int} (h : zPt m T) (hT : T.length + 1 ≤ 80) : zPt (zset (zset m 22 0 0 (m 6 0 0 0) c) 6 0 0 0 (m 6 0 0 0 + 1)) (T ++ [c]) := by
  obtain ⟨h1, h2, h3⟩ := h
  refine ⟨?_, by simpa using hT, fun j hj => ?_⟩
  · simp only [zset, List.length_append, List.length_cons, List.length_nil]
    rw [if_pos (by simp)]
    omega
  · rw [List.length_append, List.length_cons, List.length_nil] at hj
    simp only [zset]
    rw [if_neg (by simp)]
    by_cases q : j = T.length
    · rw [if_pos (by simp; omega), q]
      simp
    · rw [if_neg (by simp; omega), h3 j (by omega)]
      simp only [List.getD_eq_getElem?_getD]
      rw [List.getElem?_append_left (by omega)]
def zTp (B : Int) (m0 m1 : zM) (P : List Int) : Prop := zInv B m1 ∧ zPt m1 P ∧ ∀ (t : Nat) (s i k : Int), t ≠ 6 → t ≠ 22 → m1 t s i k = m0 t s i k
theorem zTp_put1 {B : Int} {m0 m1 : zM} {P : List Int} {x : Int64} {c : Int} (h : zTp B m0 m1 P) (hP : P.length + 1 ≤ 80) (hc : 33 ≤ c ∧ c ≤ 126) (hx : zu x = c.toNat) : zTp B m0 (zk_put x m1).2 (P ++ [c]) := by
  have hI := zkj_put (x := x) h.1
  have e1 : zlen 8 (zu x) 0 = 1 := by
    rw [hx, zlen, if_neg (by omega), if_neg (by omega), show c.toNat / 256 = 0 by omega]
    rfl
  have e2 : zby (zu x) 0 = c := by
    unfold zby
    rw [hx]
    omega
  have e : (zk_put x m1).2 = zset (zset m1 22 0 0 (m1 6 0 0 0) c) 6 0 0 0 (m1 6 0 0 0 + 1) := by
    have h6 := h.2.1.1
    unfold zk_put
    rw [e1, if_neg (by omega), if_neg (by omega)]
    show zapp (zu x) 1 m1 = _
    rw [zapp, zapp, e2]
  rw [e] at hI ⊢
  refine ⟨hI, zPt_app h.2.1 hP, fun t s i k t6 t22 => ?_⟩
  simp only [zset]
  rw [if_neg (by omega), if_neg (by omega)]
  exact h.2.2 t s i k t6 t22
theorem zTp_put2 {B : Int} {m0 m1 : zM} {P : List Int} {x : Int64} {c d : Int} (h : zTp B m0 m1 P) (hP : P.length + 2 ≤ 80) (hc : 33 ≤ c ∧ c ≤ 126) (hd : 33 ≤ d ∧ d ≤ 126) (hx : zu x = c.toNat * 256 + d.toNat) : zTp B m0 (zk_put x m1).2 (P ++ [c, d]) := by
  have hI := zkj_put (x := x) h.1
  have e1 : zlen 8 (zu x) 0 = 2 := by
    rw [hx, zlen, if_neg (by omega), if_neg (by omega), zlen, if_neg (by omega), if_neg (by omega), show (c.toNat * 256 + d.toNat) / 256 / 256 = 0 by omega]
    rfl
  have e2 : zby (zu x) 0 = d := by
    unfold zby
    rw [hx]
    omega
  have e3 : zby (zu x) 1 = c := by
    unfold zby
    rw [hx]
    omega
  have e : (zk_put x m1).2 = zapp (zu x) 2 m1 := by
    have h6 := h.2.1.1
    unfold zk_put
    rw [e1, if_neg (by omega), if_neg (by omega)]
    rfl
  rw [e] at hI ⊢
  rw [zapp, zapp, zapp, e2, e3] at hI ⊢
  refine ⟨hI, ?_, fun t s i k t6 t22 => ?_⟩
  · have := zPt_app (c := d) (zPt_app (c := c) h.2.1 (by omega)) (by simp; omega)
    rw [List.append_assoc] at this
    exact this
  · simp only [zset]
    rw [if_neg (by omega), if_neg (by omega), if_neg (by omega), if_neg (by omega)]
    exact h.2.2 t s i k t6 t22
theorem zu_f : ∀ c : Fin 128, zu (Int32.ofInt (c.val : Int)).toInt64 = c.val := by decide +kernel
theorem zu_i2l {c : Int} (h : 0 ≤ c ∧ c < 128) : zu (Int32.ofInt c).toInt64 = c.toNat := by
  obtain ⟨n, rfl⟩ := Int.eq_ofNat_of_zero_le h.1
  exact zu_f ⟨n, by omega⟩
theorem zu_47 {h : Int} (hh : 0 ≤ h ∧ h ≤ 3) : zu (12032 ||| (Int32.ofInt (48 + h)).toInt64) = (47 : Int).toNat * 256 + (48 + h).toNat := by
  rcases (show h = 0 ∨ h = 1 ∨ h = 2 ∨ h = 3 by omega) with rfl | rfl | rfl | rfl <;> decide +kernel
theorem zu_64 {h : Int} (hh : 0 ≤ h ∧ h ≤ 3) : zu (16384 ||| (Int32.ofInt (48 + h)).toInt64) = (64 : Int).toNat * 256 + (48 + h).toNat := by
  rcases (show h = 0 ∨ h = 1 ∨ h = 2 ∨ h = 3 by omega) with rfl | rfl | rfl | rfl <;> decide +kernel
theorem zu_59 : zu 59 = (59 : Int).toNat := by decide +kernel
theorem zu_42 : zu 42 = (42 : Int).toNat := by decide +kernel
set_option maxRecDepth 20000 in
theorem ct_L_number (l : Launch) (g : zG) {m0 m1 m : zM} {B v : Int} {D : Int → Int} {P : List Int} (hT : zTp B m0 m1 P) (hB : B ≤ 11900000) (hQ : zQ (zRow m1 1 D) m) (hv : 1 ≤ v ∧ v ≤ 999) (hP : P.length + 3 ≤ 80) : zMet l g Y_L_number [zr 0 0 0, zi v] m (fun x m' => x = none ∧ ∃ m2, zTp B m0 m2 (P ++ zdig v) ∧ zQ (zRow m2 1 D) m') := by
  refine zMet_introF (by decide +kernel) (Nat.le_of_ble_eq_true rfl) (ls0 := [some (zr 0 0 0), some (zi v)]) rfl fun X hG hE => ?_
  have hG : zGood X l g RL cL_number 3 2 := hG
  have hE : zEnd X (none) _ := hE
  have h41 : ∀ (m1 m : zM) (Q : List Int), Q.length + 1 ≤ 80 → Q ++ [48 + v % 10] = P ++ zdig v → zTp B m0 m1 Q → zQ (zRow m1 1 D) m → zZ X 41 [some (zr 0 0 0), some (zi v)] [] m := by
    intro m1 m Q hl hq hT hQ
    have hF : ∀ m1, zTp B m0 m1 (Q ++ [48 + v % 10]) → zTp B m0 m1 (P ++ zdig v) := fun m1 h => hq ▸ h
    refine z_aload_n (i := 0) hG dL_number_41 rfl rfl ?_
    refine z_bipush hG dL_number_42 rfl ?_
    refine z_iload_n (i := 1) hG dL_number_44 rfl rfl ?_
    refine z_bipush hG dL_number_45 rfl ?_
    refine z_irem hG dL_number_47 (by omega) (by omega) ?_
    refine z_iadd hG dL_number_48 (by omega) (by omega) ?_
    refine z_i2l hG dL_number_49 ?_
    refine z_callV hG dL_number_50 LV_L_64 (cmr_put l g (by decide) hT.1 hB hQ) (by decide) rfl rfl rfl (Nat.le_of_ble_eq_true rfl) ?_
    intro v9 mm h9
    rw [h9.1]
    replace hQ := h9.2
    clear h9 v9
    obtain ⟨m1, hT, hQ⟩ : ∃ m2, zTp B m0 m2 (Q ++ [48 + v % 10]) ∧ zQ (zRow m2 1 D) mm := ⟨_, zTp_put1 hT (by first | omega | (simp only [List.length_append, List.length_cons, List.length_nil]; omega)) (by omega) (zu_i2l (by omega)), hQ⟩
    refine z_pop hG dL_number_53 ?_
    refine z_vret hG hE dL_number_54 ?_
    exact ⟨rfl, m1, hF m1 hT, hQ⟩
  by_cases d1 : 99 < v
  · have e : zdig v = [48 + v / 100, 48 + v / 10 % 10, 48 + v % 10] := by
      unfold zdig
      rw [if_pos d1, if_pos (by omega)]
      rfl
    refine z_iload_n (i := 1) hG dL_number_0 rfl rfl ?_
    refine z_bipush hG dL_number_1 rfl ?_
    refine z_icmp_le hG dL_number_3 (tgt := 19) rfl (fun zcq3 => ?_) (fun zcq3 => ?_)
    · exfalso; omega
    · refine z_aload_n (i := 0) hG dL_number_6 rfl rfl ?_
      refine z_bipush hG dL_number_7 rfl ?_
      refine z_iload_n (i := 1) hG dL_number_9 rfl rfl ?_
      refine z_bipush hG dL_number_10 rfl ?_
      refine z_idiv hG dL_number_12 (by omega) (by omega) ?_
      refine z_iadd hG dL_number_13 (by omega) (by omega) ?_
      refine z_i2l hG dL_number_14 ?_
      refine z_callV hG dL_number_15 LV_L_64 (cmr_put l g (by decide) hT.1 hB hQ) (by decide) rfl rfl rfl (Nat.le_of_ble_eq_true rfl) ?_
      intro v9 mm h9
      rw [h9.1]
      replace hQ := h9.2
      clear h9 v9
      obtain ⟨m1, hT, hQ⟩ : ∃ m2, zTp B m0 m2 (P ++ [48 + v / 100]) ∧ zQ (zRow m2 1 D) mm := ⟨_, zTp_put1 hT (by first | omega | (simp only [List.length_append, List.length_cons, List.length_nil]; omega)) (by omega) (zu_i2l (by omega)), hQ⟩
      refine z_pop hG dL_number_18 ?_
      refine z_iload_n (i := 1) hG dL_number_19 rfl rfl ?_
      refine z_bipush hG dL_number_20 rfl ?_
      refine z_icmp_le hG dL_number_22 (tgt := 41) rfl (fun zcq22 => ?_) (fun zcq22 => ?_)
      · exfalso; omega
      · refine z_aload_n (i := 0) hG dL_number_25 rfl rfl ?_
        refine z_bipush hG dL_number_26 rfl ?_
        refine z_iload_n (i := 1) hG dL_number_28 rfl rfl ?_
        refine z_bipush hG dL_number_29 rfl ?_
        refine z_idiv hG dL_number_31 (by omega) (by omega) ?_
        refine z_bipush hG dL_number_32 rfl ?_
        refine z_irem hG dL_number_34 (by omega) (by omega) ?_
        refine z_iadd hG dL_number_35 (by omega) (by omega) ?_
        refine z_i2l hG dL_number_36 ?_
        refine z_callV hG dL_number_37 LV_L_64 (cmr_put l g (by decide) hT.1 hB hQ) (by decide) rfl rfl rfl (Nat.le_of_ble_eq_true rfl) ?_
        intro v9 mm h9
        rw [h9.1]
        replace hQ := h9.2
        clear h9 v9
        obtain ⟨m1, hT, hQ⟩ : ∃ m2, zTp B m0 m2 ((P ++ [48 + v / 100]) ++ [48 + v / 10 % 10]) ∧ zQ (zRow m2 1 D) mm := ⟨_, zTp_put1 hT (by first | omega | (simp only [List.length_append, List.length_cons, List.length_nil]; omega)) (by omega) (zu_i2l (by omega)), hQ⟩
        refine z_pop hG dL_number_40 ?_
        exact h41 _ _ _ (by simp only [List.length_append, List.length_cons, List.length_nil]; omega) (by rw [e]; simp) hT hQ
  · by_cases d2 : 9 < v
    · have e : zdig v = [48 + v / 10 % 10, 48 + v % 10] := by
        unfold zdig
        rw [if_neg d1, if_pos d2]
        rfl
      refine z_iload_n (i := 1) hG dL_number_0 rfl rfl ?_
      refine z_bipush hG dL_number_1 rfl ?_
      refine z_icmp_le hG dL_number_3 (tgt := 19) rfl (fun zcq3 => ?_) (fun zcq3 => ?_)
      · refine z_iload_n (i := 1) hG dL_number_19 rfl rfl ?_
        refine z_bipush hG dL_number_20 rfl ?_
        refine z_icmp_le hG dL_number_22 (tgt := 41) rfl (fun zcq22 => ?_) (fun zcq22 => ?_)
        · exfalso; omega
        · refine z_aload_n (i := 0) hG dL_number_25 rfl rfl ?_
          refine z_bipush hG dL_number_26 rfl ?_
          refine z_iload_n (i := 1) hG dL_number_28 rfl rfl ?_
          refine z_bipush hG dL_number_29 rfl ?_
          refine z_idiv hG dL_number_31 (by omega) (by omega) ?_
          refine z_bipush hG dL_number_32 rfl ?_
          refine z_irem hG dL_number_34 (by omega) (by omega) ?_
          refine z_iadd hG dL_number_35 (by omega) (by omega) ?_
          refine z_i2l hG dL_number_36 ?_
          refine z_callV hG dL_number_37 LV_L_64 (cmr_put l g (by decide) hT.1 hB hQ) (by decide) rfl rfl rfl (Nat.le_of_ble_eq_true rfl) ?_
          intro v9 mm h9
          rw [h9.1]
          replace hQ := h9.2
          clear h9 v9
          obtain ⟨m1, hT, hQ⟩ : ∃ m2, zTp B m0 m2 (P ++ [48 + v / 10 % 10]) ∧ zQ (zRow m2 1 D) mm := ⟨_, zTp_put1 hT (by first | omega | (simp only [List.length_append, List.length_cons, List.length_nil]; omega)) (by omega) (zu_i2l (by omega)), hQ⟩
          refine z_pop hG dL_number_40 ?_
          exact h41 _ _ _ (by simp only [List.length_append, List.length_cons, List.length_nil]; omega) (by rw [e]; simp) hT hQ
      · exfalso; omega
    · have e : zdig v = [48 + v % 10] := by
        unfold zdig
        rw [if_neg d1, if_neg d2]
        rfl
      refine z_iload_n (i := 1) hG dL_number_0 rfl rfl ?_
      refine z_bipush hG dL_number_1 rfl ?_
      refine z_icmp_le hG dL_number_3 (tgt := 19) rfl (fun zcq3 => ?_) (fun zcq3 => ?_)
      · refine z_iload_n (i := 1) hG dL_number_19 rfl rfl ?_
        refine z_bipush hG dL_number_20 rfl ?_
        refine z_icmp_le hG dL_number_22 (tgt := 41) rfl (fun zcq22 => ?_) (fun zcq22 => ?_)
        · exact h41 _ _ _ (by omega) (by rw [e]) hT hQ
        · exfalso; omega
      · exfalso; omega
