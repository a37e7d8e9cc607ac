/-- the state of now is taken out of the past's n-th, its first k numbers -/
def zkbk (m : zM) (t0 : Nat) (b k : Int) : zM := fun t s i q => if t = 45 ∧ s = 0 ∧ i = 0 ∧ 0 ≤ q ∧ q < k then m t0 0 0 (b + q) else m t s i q
theorem zkbk_0 {m : zM} {t0 : Nat} {b : Int} : zkbk m t0 b 0 = m := by
  funext t s i q
  simp only [zkbk]
  rw [if_neg (by omega)]
theorem zkbk_s {m : zM} {t0 : Nat} {b k : Int} (h : 0 ≤ k) (ht : t0 ≠ 45) : zset (zkbk m t0 b k) 45 0 0 k (m t0 0 0 (b + k)) = zkbk m t0 b (k + 1) := by
  funext t s i q
  simp only [zkbk, zset]
  grind
theorem zkbk_o {m : zM} {t0 : Nat} {b k : Int} {t : Nat} {s i q : Int} (h : t ≠ 45) : zkbk m t0 b k t s i q = m t s i q := by
  simp only [zkbk]
  rw [if_neg (by omega)]
theorem zkbk_45 {m : zM} {t0 : Nat} {b q : Int} (h : 0 ≤ q ∧ q < 546) : zkbk m t0 b 546 45 0 0 q = m t0 0 0 (b + q) := by
  simp only [zkbk]
  rw [if_pos (by first | omega | (simp; done) | (simp; omega))]
/-- a slot is written -/
def zksl (m : zM) (b k : Int) : zM := fun t s i q => if t = 47 ∧ s = 0 ∧ i = 0 ∧ b ≤ q ∧ q < b + k then m 45 0 0 (q - b) else m t s i q
theorem zksl_0 {m : zM} {b : Int} : zksl m b 0 = m := by
  funext t s i q
  simp only [zksl]
  rw [if_neg (by omega)]
theorem zksl_s {m : zM} {b k : Int} (h : 0 ≤ k) : zset (zksl m b k) 47 0 0 (b + k) (m 45 0 0 k) = zksl m b (k + 1) := by
  funext t s i q
  simp only [zksl, zset]
  grind
theorem zksl_o {m : zM} {b k : Int} {t : Nat} {s i q : Int} (h : t ≠ 47 ∨ q < b ∨ b + k ≤ q) : zksl m b k t s i q = m t s i q := by
  simp only [zksl]
  rw [if_neg (by omega)]
set_option maxRecDepth 20000 in
theorem ct_X11_wipe (l : Launch) (g : zG) {a m : zM} {B : Int} (hI : zInv B a) (hB : B ≤ 11900000) (hR : zRM a m) : zMet l g Y_X11_wipe [zr 11 0 0] m (fun v m' => v = some (zi (zk_wipe a).1) ∧ zRM (zk_wipe a).2 m' ∧ zKt m' m) := by
  refine zMet_introF (by decide +kernel) (Nat.le_of_ble_eq_true rfl) (ls0 := [some (zr 11 0 0), none]) rfl fun X hG hE => ?_
  have hG : zGood X l g RX11 cX11_wipe 0 2 := hG
  have hE : zEnd X (some .int) _ := hE
  have hI0 := zInv0 hI
  obtain ⟨hday, hhan, hing, hrcp, hrec, hboo, hrow, hrow2, hstp⟩ := id hI0
  obtain ⟨⟨e0, e1, e2, e3, e4, e5, eI, eZ, eR⟩, eN, eP, eS, e6, eT⟩ := id hR
  have hb : ∀ (t : Nat) (i k : Int), t ≠ 1 → zrecd a t 0 i k = a t 0 i k := fun t i k ht => zrecd_0 hI.1.1.1 ht
  have hK := zRM_keep hI.1.1 hI.1.2 (fun s s0 s1 => (hI.2.2.1 s s0 s1).1.1) hR
  refine z_aload_n (i := 0) hG dX11_wipe_0 rfl rfl ?_
  refine z_getI hG dX11_wipe_1 FL_X11_215 rfl rfl (kk := 6) rfl ?_
  refine z_istore_n (i := 1) hG dX11_wipe_4 rfl (by decide) (ls2 := [_, _]) rfl ?_
  refine z_aload_n (i := 0) hG dX11_wipe_5 rfl rfl ?_
  refine z_iconst hG dX11_wipe_6 rfl ?_
  refine z_put hG dX11_wipe_7 FP_X11_215 rfl rfl (kk := 6) rfl ?_
  refine z_iload_n (i := 1) hG dX11_wipe_10 rfl rfl ?_
  refine z_iret hG hE dX11_wipe_11 trivial ?_
  refine ⟨by rw [e6]; rfl, ?_, zKt_set zKt_rf (Or.inl rfl)⟩
  unfold zk_wipe
  exact zRM_pad hR (fun t s i k h1 h2 => by simp only [zset]; rw [if_neg (by simp only [zrt] at h2; omega)]) (fun t k h => by simp only [zset]; rw [if_neg (by omega)]) (by simp [zset]) (fun j j0 j1 => by simp [zset] at j1; omega)
set_option maxRecDepth 20000 in
theorem ct_X11_undo (l : Launch) (g : zG) {a m : zM} {B : Int} (hI : zInv B a) (hB : B ≤ 11900000) (hR : zRM a m) : zMet l g Y_X11_undo [zr 11 0 0] m (fun v m' => v = some (zi (zk_undo a).1) ∧ zRM (zk_undo a).2 m' ∧ zKt m' m) := by
  refine zMet_introF (by decide +kernel) (Nat.le_of_ble_eq_true rfl) (ls0 := [some (zr 11 0 0), none]) rfl fun X hG hE => ?_
  have hG : zGood X l g RX11 cX11_undo 0 2 := hG
  have hE : zEnd X (some .int) _ := hE
  have hI0 := zInv0 hI
  obtain ⟨hday, hhan, hing, hrcp, hrec, hboo, hrow, hrow2, hstp⟩ := id hI0
  obtain ⟨⟨e0, e1, e2, e3, e4, e5, eI, eZ, eR⟩, eN, eP, eS, e6, eT⟩ := id hR
  have hb : ∀ (t : Nat) (i k : Int), t ≠ 1 → zrecd a t 0 i k = a t 0 i k := fun t i k ht => zrecd_0 hI.1.1.1 ht
  have hK := zRM_keep hI.1.1 hI.1.2 (fun s s0 s1 => (hI.2.2.1 s s0 s1).1.1) hR

  have back : ∀ (m1 : zM) (n k : Nat), (0 ≤ m1 11 0 0 2 ∧ m1 11 0 0 2 ≤ 5) → k + n = 546 → (∀ m2 : zM, m2 = zkbk m1 46 (546 * m1 11 0 0 2) 546 → zZ X 56 [some (zr 11 0 0), none] [] m2) → zZ X 22 [some (zr 11 0 0), some (zi k)] [] (zkbk m1 46 (546 * m1 11 0 0 2) k) := by
    intro m1 n
    induction n with
    | zero =>
      intro k h5 hk K
      refine z_iload_n (i := 1) hG dX11_undo_22 rfl rfl ?_
      refine z_sipush hG dX11_undo_23 rfl ?_
      refine z_icmp_ge hG dX11_undo_26 (tgt := 56) rfl (fun c26 => ?_) (fun c26 => ?_)
      · refine z_forget [true, false] rfl (K _ ?_)
        rw [show (k : Int) = 546 by omega]
      · exact absurd c26 (by omega)
    | succ n ih =>
      intro k h5 hk K
      have q2 : zkbk m1 46 (546 * m1 11 0 0 2) k 11 0 0 2 = m1 11 0 0 2 := zkbk_o (by decide)
      have q46 : ∀ q : Int, zkbk m1 46 (546 * m1 11 0 0 2) k 46 0 0 q = m1 46 0 0 q := fun q => zkbk_o (by decide)
      refine z_iload_n (i := 1) hG dX11_undo_22 rfl rfl ?_
      refine z_sipush hG dX11_undo_23 rfl ?_
      refine z_icmp_ge hG dX11_undo_26 (tgt := 56) rfl (fun c26 => ?_) (fun c26 => ?_)
      · exact absurd c26 (by omega)
      · refine z_aload_n (i := 0) hG dX11_undo_29 rfl rfl ?_
        refine z_get_11_0 hG dX11_undo_30 FL_X11_7 ?_
        refine z_iload_n (i := 1) hG dX11_undo_33 rfl rfl ?_
        refine z_aload_n (i := 0) hG dX11_undo_34 rfl rfl ?_
        refine z_get_11_1 hG dX11_undo_35 FL_X11_13 ?_
        refine z_sipush hG dX11_undo_38 rfl ?_
        refine z_aload_n (i := 0) hG dX11_undo_41 rfl rfl ?_
        refine z_getI hG dX11_undo_42 FL_X11_72 rfl rfl (kk := 2) rfl ?_
        rw [q2]
        refine z_imul hG dX11_undo_45 (by omega) (by omega) ?_
        refine z_iload_n (i := 1) hG dX11_undo_46 rfl rfl ?_
        refine z_iadd hG dX11_undo_47 (by omega) (by omega) ?_
        refine z_iald hG dX11_undo_48 rfl rfl (by omega) (by omega) ?_
        rw [q46]
        refine z_iast hG dX11_undo_49 rfl rfl (by omega) (by omega) ?_
        refine z_iinc hG dX11_undo_50 (by decide) rfl (by omega) (by omega) (ls2 := [_, _]) rfl ?_
        refine z_goto hG dX11_undo_53 (tgt := 22) rfl ?_
        exact z_mem (zkbk_s (by omega) (by decide)) (ih (k + 1) h5 (by omega) K)
  have hkp9 := hI.1.2
  refine z_aload_n (i := 0) hG dX11_undo_0 rfl rfl ?_
  refine z_getI hG dX11_undo_1 FL_X11_72 rfl rfl (kk := 2) rfl ?_
  refine z_if_ne hG dX11_undo_4 (tgt := 10) rfl (fun c4 => ?_) (fun c4 => ?_)
  · try simp only [zite_eq0, ne_eq, Classical.not_not] at c4
    refine z_aload_n (i := 0) hG dX11_undo_10 rfl rfl ?_
    first | refine z_dup_r hG dX11_undo_11 ?_ | refine z_dup_i hG dX11_undo_11 ?_
    refine z_getI hG dX11_undo_12 FL_X11_72 rfl rfl (kk := 2) rfl ?_
    refine z_iconst hG dX11_undo_15 rfl ?_
    refine z_isub hG dX11_undo_16 (by omega) (by omega) ?_
    refine z_put hG dX11_undo_17 FP_X11_72 rfl rfl (kk := 2) rfl ?_
    refine z_iconst hG dX11_undo_20 rfl ?_
    refine z_istore_n (i := 1) hG dX11_undo_21 rfl (by decide) (ls2 := [_, _]) rfl ?_
    have w2 : zset m 11 0 0 2 (m 11 0 0 2 - 1) 11 0 0 2 = m 11 0 0 2 - 1 := by simp [zset]
    refine z_mem zkbk_0.symm (back (zset m 11 0 0 2 (m 11 0 0 2 - 1)) 546 0 (by rw [w2]; have := hI.1.2; omega) rfl fun m2 hm2 => ?_)
    have hm : ∀ (t : Nat) (s i q : Int), t ≠ 45 → (t = 11 → q ≠ 2) → m2 t s i q = m t s i q := fun t s i q h1 h2 => by
      rw [hm2, zkbk_o h1]
      simp only [zset]
      rw [if_neg (by omega)]
    have hm11 : m2 11 0 0 2 = a 1 0 0 0 - 1 := by rw [hm2, zkbk_o (by decide), w2, eN]
    have hm45 : ∀ q : Int, 0 ≤ q → q < 546 → m2 45 0 0 q = m 46 0 0 (546 * (a 1 0 0 0 - 1) + q) := fun q q0 q1 => by
      rw [hm2, zkbk_45 ⟨q0, q1⟩, w2, eN]
      simp [zset]
    clear hm2
    refine z_aload_n (i := 0) hG dX11_undo_56 rfl rfl ?_
    refine z_getI hG dX11_undo_57 FL_X11_72 rfl rfl (kk := 2) rfl ?_
    refine z_iret hG hE dX11_undo_60 trivial ?_
    unfold zk_undo
    rw [if_neg (by omega)]
    dsimp only
    have hkp := hI.1.2
    have hL := hI.1.1
    refine ⟨by rw [hm11], ?_, fun t s i k h1 h2 => hm t s i k (by omega) (fun z => absurd z h1)⟩
    have z0 : ∀ (t : Nat) (i k : Int), zSt t i k 8 4 = true → zback a t 0 i k = a t (1 + a 1 0 0 1 % 6) i k := fun t i k ht => by
      have := zSt_1 ht
      simp only [zback, zset, zcS]
      rw [if_neg (by omega), if_neg (by omega), if_pos ⟨trivial, ht⟩]
    have zo : ∀ (t : Nat) (s i k : Int), t ≠ 1 → s ≠ 0 → zback a t s i k = a t s i k := fun t s i k h1 h2 => by
      simp only [zback, zset, zcS]
      rw [if_neg (by omega), if_neg (by omega), if_neg (by omega)]
    have z1 : zback a 1 0 0 0 = a 1 0 0 0 - 1 := by simp [zback, zset]
    have z11 : zback a 1 0 0 1 = (a 1 0 0 1 - 1) % 6 := by simp [zback, zset]
    have zq : ∀ (t : Nat) (i k : Int), t = 6 ∨ t = 21 ∨ t = 22 → zback a t 0 i k = a t 0 i k := fun t i k h1 => by
      have hz : zSt t i k 8 4 = false := by simp [zSt]; omega
      simp only [zback, zset, zcS]
      rw [if_neg (by omega), if_neg (by omega), if_neg (by simp [hz])]
    refine ⟨?_, by rw [hm11, z1], fun j j0 j1 => ?_, fun p p0 p1 => ⟨by rw [hm 48 _ _ _ (by omega) (by omega), zq 21 _ _ (by decide)]; exact (eS p p0 p1).1, fun hne => ?_⟩, by rw [hm 11 _ _ _ (by omega) (by omega), zq 6 _ _ (by decide), e6], fun j j0 j1 => ?_⟩
    · have h9 := eP 0 (by decide) (by omega)
      refine zRel_mv (fun t i k ht => ?_) (fun q q0 q1 => ?_) ((hI.2.2.1 (1 + (a 1 0 0 1 - 0) % 6) (by omega) (by omega)).1.1) h9
      · rw [z0 t i k ht, Int.sub_zero]
      · rw [hm45 q q0 q1, Int.sub_zero]
    · rw [z1] at j1
      rw [z1, z11]
      have h9 := eP (j + 1) (by omega) (by omega)
      refine zRel_mv (fun t i k ht => ?_) (fun q q0 q1 => ?_) ((hI.2.2.1 (1 + (a 1 0 0 1 - (j + 1)) % 6) (by omega) (by omega)).1.1) h9
      · rw [zo t _ i k (zSt_1 ht) (by omega)]
        congr 1
        omega
      · rw [hm 46 _ _ _ (by omega) (by omega)]
        congr 1
        omega
    · rw [zq 21 _ _ (by decide)] at hne
      refine zRel_mv (fun t i k ht => zo t _ i k (zSt_1 ht) (by omega)) (fun q q0 q1 => ?_) ((hI.2.2.1 (7 + p) (by omega) (by omega)).1.1) ((eS p p0 p1).2 hne)
      rw [hm 47 _ _ _ (by omega) (by omega)]
    · rw [zq 6 _ _ (by decide)] at j1
      rw [hm 49 _ _ _ (by omega) (by omega), zq 22 _ _ (by decide)]
      exact eT j j0 j1
  · try simp only [zite_eq0, ne_eq, Classical.not_not] at c4
    refine z_bipush hG dX11_undo_7 rfl ?_
    refine z_iret hG hE dX11_undo_9 trivial ?_
    unfold zk_undo
    rw [if_pos (by omega)]
    exact ⟨rfl, hR, zKt_rf⟩
set_option maxRecDepth 20000 in
theorem ct_X11_save (l : Launch) (g : zG) {a m : zM} {B : Int} {p : Int} (hI : zInv B a) (hB : B ≤ 11900000) (hR : zRM a m) : zMet l g Y_X11_save [zr 11 0 0, zi p] m (fun v m' => v = some (zi (zk_save p a).1) ∧ zRM (zk_save p a).2 m' ∧ zKt m' m) := by
  refine zMet_introF (by decide +kernel) (Nat.le_of_ble_eq_true rfl) (ls0 := [some (zr 11 0 0), some (zi p), none]) rfl fun X hG hE => ?_
  have hG : zGood X l g RX11 cX11_save 1 3 := hG
  have hE : zEnd X (some .int) _ := hE
  have hI0 := zInv0 hI
  obtain ⟨hday, hhan, hing, hrcp, hrec, hboo, hrow, hrow2, hstp⟩ := id hI0
  obtain ⟨⟨e0, e1, e2, e3, e4, e5, eI, eZ, eR⟩, eN, eP, eS, e6, eT⟩ := id hR
  have hb : ∀ (t : Nat) (i k : Int), t ≠ 1 → zrecd a t 0 i k = a t 0 i k := fun t i k ht => zrecd_0 hI.1.1.1 ht
  have hK := zRM_keep hI.1.1 hI.1.2 (fun s s0 s1 => (hI.2.2.1 s s0 s1).1.1) hR

  have copy : ∀ (n k : Nat), (0 ≤ p ∧ p ≤ 1) → k + n = 546 → zZ X 14 [some (zr 11 0 0), some (zi p), some (zi k)] [] (zksl m (546 * p) k) := by
    intro n
    induction n with
    | zero =>
      intro k hp hk
      obtain rfl : k = 546 := by omega
      have q0 : zksl m (546 * p) (546 : Nat) 45 0 0 0 = m 45 0 0 0 := zksl_o (by omega)
      refine z_iload_n (i := 2) hG dX11_save_14 rfl rfl ?_
      refine z_sipush hG dX11_save_15 rfl ?_
      refine z_icmp_ge hG dX11_save_18 (tgt := 45) rfl (fun c18 => ?_) (fun c18 => ?_)
      · refine z_aload_n (i := 0) hG dX11_save_45 rfl rfl ?_
        refine z_get_11_4 hG dX11_save_46 FL_X11_19 ?_
        refine z_iload_n (i := 1) hG dX11_save_49 rfl rfl ?_
        refine z_iconst hG dX11_save_50 rfl ?_
        refine z_zast hG dX11_save_51 rfl rfl (by omega) (by omega) (by exact Or.inr rfl) ?_
        refine z_aload_n (i := 0) hG dX11_save_52 rfl rfl ?_
        refine z_get_11_0 hG dX11_save_53 FL_X11_7 ?_
        refine z_iconst hG dX11_save_56 rfl ?_
        refine z_iald hG dX11_save_57 rfl rfl (by omega) (by omega) ?_
        refine z_iret hG hE dX11_save_58 trivial ?_
        unfold zk_save
        rw [if_neg (by omega)]
        dsimp only
        have hz : ∀ (t : Nat) (s i k : Int), (s ≠ 7 + p) → (t ≠ 21 ∨ k ≠ p) → zset (zcS a (7 + p) 0 8 4) 21 0 0 p 1 t s i k = a t s i k := fun t s i k h1 h2 => by
          simp only [zset, zcS]
          rw [if_neg (by omega), if_neg (by omega)]
        have hz7 : ∀ (t : Nat) (i k : Int), zSt t i k 8 4 = true → zset (zcS a (7 + p) 0 8 4) 21 0 0 p 1 t (7 + p) i k = a t 0 i k := fun t i k h1 => by
          simp only [zset, zcS]
          rw [if_neg (by omega), if_pos ⟨trivial, h1⟩]
        have hmo : ∀ (t : Nat) (q : Int), t ≠ 47 → (t ≠ 48 ∨ q ≠ p) → zset (zksl m (546 * p) (546 : Nat)) 48 0 0 p 1 t 0 0 q = m t 0 0 q := fun t q h1 h2 => by
          simp only [zset]
          rw [if_neg (by omega), zksl_o (by omega)]
        refine ⟨by rw [hmo 45 0 (by omega) (by omega), e0], ?_, zKt_set (fun t s i k h1 h2 => zksl_o (by omega)) (Or.inr (by decide))⟩
        refine ⟨?_, by rw [hmo 11 2 (by omega) (by omega), hz 1 0 0 0 (by omega) (by omega), eN], fun j j0 j1 => ?_, fun p' p0 p1 => ⟨?_, fun hne => ?_⟩, by rw [hmo 11 6 (by omega) (by omega), hz 6 0 0 0 (by omega) (by omega), e6], fun j j0 j1 => ?_⟩
        · exact zRel_mv (fun t i k ht => hz t 0 i k (by omega) (by left; rintro rfl; simp [zSt] at ht)) (fun q q0 q1 => hmo 45 q (by omega) (by omega)) hday.1 hR.1
        · rw [hz 1 0 0 0 (by omega) (by omega)] at j1
          rw [hz 1 0 0 0 (by omega) (by omega), hz 1 0 0 1 (by omega) (by omega)]
          exact zRel_mv (fun t i k ht => hz t _ i k (by omega) (by left; rintro rfl; simp [zSt] at ht)) (fun q q0 q1 => hmo 46 _ (by omega) (by omega)) ((hI.2.2.1 _ (by omega) (by omega)).1.1) (eP j j0 j1)
        · by_cases c : p' = p
          · subst c
            simp [zset]
          · rw [hmo 48 p' (by decide) (by omega), hz 21 0 0 p' (by omega) (by omega)]
            exact (eS p' p0 p1).1
        · by_cases c : p' = p
          · subst c
            refine zRel_mv (fun t i k ht => hz7 t i k ht) (fun q q0 q1 => ?_) hday.1 hR.1
            simp only [zset, zksl]
            rw [if_neg (by omega), if_pos (by first | omega | (simp; done) | (simp; omega))]
            congr 1
            omega
          · rw [hz 21 0 0 p' (by omega) (by omega)] at hne
            refine zRel_mv (fun t i k ht => hz t _ i k (by omega) (by left; rintro rfl; simp [zSt] at ht)) (fun q q0 q1 => ?_) ((hI.2.2.1 _ (by omega) (by omega)).1.1) ((eS p' p0 p1).2 hne)
            simp only [zset]
            rw [if_neg (by omega), zksl_o (by omega)]
        · rw [hz 6 0 0 0 (by omega) (by omega)] at j1
          rw [hmo 49 j (by omega) (by omega), hz 22 0 0 j (by omega) (by omega)]
          exact eT j j0 j1
      · exact absurd c18 (by omega)
    | succ n ih =>
      intro k hp hk
      have q45 : zksl m (546 * p) k 45 0 0 k = m 45 0 0 k := zksl_o (by omega)
      refine z_iload_n (i := 2) hG dX11_save_14 rfl rfl ?_
      refine z_sipush hG dX11_save_15 rfl ?_
      refine z_icmp_ge hG dX11_save_18 (tgt := 45) rfl (fun c18 => ?_) (fun c18 => ?_)
      · exact absurd c18 (by omega)
      · refine z_aload_n (i := 0) hG dX11_save_21 rfl rfl ?_
        refine z_get_11_3 hG dX11_save_22 FL_X11_16 ?_
        refine z_sipush hG dX11_save_25 rfl ?_
        refine z_iload_n (i := 1) hG dX11_save_28 rfl rfl ?_
        refine z_imul hG dX11_save_29 (by omega) (by omega) ?_
        refine z_iload_n (i := 2) hG dX11_save_30 rfl rfl ?_
        refine z_iadd hG dX11_save_31 (by omega) (by omega) ?_
        refine z_aload_n (i := 0) hG dX11_save_32 rfl rfl ?_
        refine z_get_11_0 hG dX11_save_33 FL_X11_7 ?_
        refine z_iload_n (i := 2) hG dX11_save_36 rfl rfl ?_
        refine z_iald hG dX11_save_37 rfl rfl (by omega) (by omega) ?_
        rw [q45]
        refine z_iast hG dX11_save_38 rfl rfl (by omega) (by omega) ?_
        refine z_iinc hG dX11_save_39 (by decide) rfl (by omega) (by omega) (ls2 := [_, _, _]) rfl ?_
        refine z_goto hG dX11_save_42 (tgt := 14) rfl ?_
        exact z_mem (zksl_s (by omega)) (ih (k + 1) hp (by omega))
  refine z_iload_n (i := 1) hG dX11_save_0 rfl rfl ?_
  refine z_iconst hG dX11_save_1 rfl ?_
  refine z_iconst hG dX11_save_2 rfl ?_
  refine z_callS hG dX11_save_3 LS_X11_76 (ct_X11_in l g) (by decide) rfl rfl (Nat.le_of_ble_eq_true rfl) ?_
  intro v9 m9 h9
  rw [h9.1, h9.2]
  clear h9 m9 v9
  refine z_if_ne hG dX11_save_6 (tgt := 12) rfl (fun c6 => ?_) (fun c6 => ?_)
  · try simp only [zite_eq0, ne_eq, Classical.not_not] at c6
    refine z_iconst hG dX11_save_12 rfl ?_
    refine z_istore_n (i := 2) hG dX11_save_13 rfl (by decide) (ls2 := [_, _, _]) rfl ?_
    exact z_mem zksl_0.symm (copy 546 0 (by omega) rfl)
  · try simp only [zite_eq0, ne_eq, Classical.not_not] at c6
    refine z_bipush hG dX11_save_9 rfl ?_
    refine z_iret hG hE dX11_save_11 trivial ?_
    unfold zk_save
    repeat (first | rw [if_pos (by omega)] | rw [if_neg (by omega)])
    exact ⟨rfl, hR, zKt_rf⟩
set_option maxRecDepth 20000 in
theorem ct_X11_restore (l : Launch) (g : zG) {a m : zM} {B : Int} {p : Int} (hI : zInv B a) (hB : B ≤ 11900000) (hR : zRM a m) : zMet l g Y_X11_restore [zr 11 0 0, zi p] m (fun v m' => v = some (zi (zk_restore p a).1) ∧ zRM (zk_restore p a).2 m' ∧ zKt m' m) := by
  refine zMet_introF (by decide +kernel) (Nat.le_of_ble_eq_true rfl) (ls0 := [some (zr 11 0 0), some (zi p), none]) rfl fun X hG hE => ?_
  have hG : zGood X l g RX11 cX11_restore 1 3 := hG
  have hE : zEnd X (some .int) _ := hE
  have hI0 := zInv0 hI
  obtain ⟨hday, hhan, hing, hrcp, hrec, hboo, hrow, hrow2, hstp⟩ := id hI0
  obtain ⟨⟨e0, e1, e2, e3, e4, e5, eI, eZ, eR⟩, eN, eP, eS, e6, eT⟩ := id hR
  have hb : ∀ (t : Nat) (i k : Int), t ≠ 1 → zrecd a t 0 i k = a t 0 i k := fun t i k ht => zrecd_0 hI.1.1.1 ht
  have hK := zRM_keep hI.1.1 hI.1.2 (fun s s0 s1 => (hI.2.2.1 s s0 s1).1.1) hR

  have back : ∀ (m1 : zM) (n k : Nat), (0 ≤ p ∧ p ≤ 1) → k + n = 546 → (∀ m2 : zM, m2 = zkbk m1 47 (546 * p) 546 → zZ X 61 [some (zr 11 0 0), some (zi p), none] [] m2) → zZ X 30 [some (zr 11 0 0), some (zi p), some (zi k)] [] (zkbk m1 47 (546 * p) k) := by
    intro m1 n
    induction n with
    | zero =>
      intro k hp hk K
      refine z_iload_n (i := 2) hG dX11_restore_30 rfl rfl ?_
      refine z_sipush hG dX11_restore_31 rfl ?_
      refine z_icmp_ge hG dX11_restore_34 (tgt := 61) rfl (fun c34 => ?_) (fun c34 => ?_)
      · refine z_forget [true, true, false] rfl (K _ ?_)
        rw [show (k : Int) = 546 by omega]
      · exact absurd c34 (by omega)
    | succ n ih =>
      intro k hp hk K
      have q47 : ∀ q : Int, zkbk m1 47 (546 * p) k 47 0 0 q = m1 47 0 0 q := fun q => zkbk_o (by decide)
      refine z_iload_n (i := 2) hG dX11_restore_30 rfl rfl ?_
      refine z_sipush hG dX11_restore_31 rfl ?_
      refine z_icmp_ge hG dX11_restore_34 (tgt := 61) rfl (fun c34 => ?_) (fun c34 => ?_)
      · exact absurd c34 (by omega)
      · refine z_aload_n (i := 0) hG dX11_restore_37 rfl rfl ?_
        refine z_get_11_0 hG dX11_restore_38 FL_X11_7 ?_
        refine z_iload_n (i := 2) hG dX11_restore_41 rfl rfl ?_
        refine z_aload_n (i := 0) hG dX11_restore_42 rfl rfl ?_
        refine z_get_11_3 hG dX11_restore_43 FL_X11_16 ?_
        refine z_sipush hG dX11_restore_46 rfl ?_
        refine z_iload_n (i := 1) hG dX11_restore_49 rfl rfl ?_
        refine z_imul hG dX11_restore_50 (by omega) (by omega) ?_
        refine z_iload_n (i := 2) hG dX11_restore_51 rfl rfl ?_
        refine z_iadd hG dX11_restore_52 (by omega) (by omega) ?_
        refine z_iald hG dX11_restore_53 rfl rfl (by omega) (by omega) ?_
        rw [q47]
        refine z_iast hG dX11_restore_54 rfl rfl (by omega) (by omega) ?_
        refine z_iinc hG dX11_restore_55 (by decide) rfl (by omega) (by omega) (ls2 := [_, _, _]) rfl ?_
        refine z_goto hG dX11_restore_58 (tgt := 30) rfl ?_
        exact z_mem (zkbk_s (by omega) (by decide)) (ih (k + 1) hp (by omega) K)
  refine z_iload_n (i := 1) hG dX11_restore_0 rfl rfl ?_
  refine z_iconst hG dX11_restore_1 rfl ?_
  refine z_iconst hG dX11_restore_2 rfl ?_
  refine z_callS hG dX11_restore_3 LS_X11_76 (ct_X11_in l g) (by decide) rfl rfl (Nat.le_of_ble_eq_true rfl) ?_
  intro v9 m9 h9
  rw [h9.1, h9.2]
  clear h9 m9 v9
  refine z_if_ne hG dX11_restore_6 (tgt := 12) rfl (fun c6 => ?_) (fun c6 => ?_)
  · try simp only [zite_eq0, ne_eq, Classical.not_not] at c6
    refine z_aload_n (i := 0) hG dX11_restore_12 rfl rfl ?_
    refine z_get_11_4 hG dX11_restore_13 FL_X11_19 ?_
    refine z_iload_n (i := 1) hG dX11_restore_16 rfl rfl ?_
    refine z_zald hG dX11_restore_17 rfl rfl (by omega) (by omega) ?_
    rw [(eS p (by omega) (by omega)).1]
    refine z_if_ne hG dX11_restore_18 (tgt := 24) rfl (fun c18 => ?_) (fun c18 => ?_)
    · try simp only [zite_eq0, ne_eq, Classical.not_not] at c18
      refine z_aload_n (i := 0) hG dX11_restore_24 rfl rfl ?_
      refine z_callV hG dX11_restore_25 LV_X11_80 (ct_X11_keep l g (by rw [eN]; exact hI.1.2)) (by decide) rfl rfl rfl (Nat.le_of_ble_eq_true rfl) ?_
      intro v9 m9 h9
      rw [h9.1, h9.2]
      clear h9 m9 v9
      have hkt : zKt (zkp m) m := zKt_kp
      have h45 : ∀ q, zkp m 45 0 0 q = m 45 0 0 q := fun q => zkp_o (by decide) (Or.inl (by decide))
      generalize zkp m = n at *
      refine z_iconst hG dX11_restore_28 rfl ?_
      refine z_istore_n (i := 2) hG dX11_restore_29 rfl (by decide) (ls2 := [_, _, _]) rfl ?_
      refine z_mem zkbk_0.symm (back n 546 0 (by omega) rfl fun m2 hm2 => ?_)
      have hm : ∀ (t : Nat) (s i q : Int), t ≠ 45 → m2 t s i q = n t s i q := fun t s i q h1 => by rw [hm2, zkbk_o h1]
      have hS := hK.2.2.2.1 p (by omega) (by omega)
      have h21 : zrecd a 21 0 0 p ≠ 0 := by rw [hb 21 _ _ (by decide)]; exact c18
      have h9 := hS.2 h21
      have hd7 := (hI.2.2.1 (7 + p) (by omega) (by omega)).1.1
      have hz0 : ∀ (t : Nat) (i k : Int), zSt t i k 8 4 = true → zcS (zrecd a) 0 (7 + p) 8 4 t 0 i k = zrecd a t (7 + p) i k := fun t i k ht => by
        simp only [zcS]
        rw [if_pos ⟨trivial, ht⟩]
      have hzo : ∀ (t : Nat) (s i k : Int), (s ≠ 0 ∨ t = 1 ∨ t = 6 ∨ t = 21 ∨ t = 22) → zcS (zrecd a) 0 (7 + p) 8 4 t s i k = zrecd a t s i k := fun t s i k h1 => by
        simp only [zcS]
        rw [if_neg]
        rintro ⟨h2, h3⟩
        simp [zSt] at h3
        omega
      have hz : zRel (zcS (zrecd a) 0 (7 + p) 8 4) 0 (m2 45 0 0) := zRel_mv (fun t i k ht => hz0 t i k ht) (fun q q0 q1 => by rw [hm2, zkbk_45 ⟨q0, q1⟩]) (by rw [zrecd_7 hI.1.1.1 (by omega)]; exact hd7) h9
      refine z_aload_n (i := 0) hG dX11_restore_61 rfl rfl ?_
      refine z_get_11_0 hG dX11_restore_62 FL_X11_7 ?_
      refine z_iconst hG dX11_restore_65 rfl ?_
      refine z_iald hG dX11_restore_66 rfl rfl (by omega) (by omega) ?_
      refine z_iret hG hE dX11_restore_67 trivial ?_
      unfold zk_restore
      rw [if_neg (by omega), if_neg c18]
      dsimp only
      refine ⟨?_, zRM_now hK (fun t s i k h => hzo t s i k h) (fun t k h => hm t 0 0 k (by omega)) hz, fun t s i k h1 h2 => ?_⟩
      · rw [hz.1, hz0 2 0 0 (by decide), zrecd_7 hI.1.1.1 (by omega)]
      · rw [hm t s i k (by omega)]
        exact hkt t s i k h1 h2
    · try simp only [zite_eq0, ne_eq, Classical.not_not] at c18
      refine z_bipush hG dX11_restore_21 rfl ?_
      refine z_iret hG hE dX11_restore_23 trivial ?_
      unfold zk_restore
      repeat (first | rw [if_pos (by omega)] | rw [if_neg (by omega)])
      exact ⟨rfl, hR, zKt_rf⟩
  · try simp only [zite_eq0, ne_eq, Classical.not_not] at c6
    refine z_bipush hG dX11_restore_9 rfl ?_
    refine z_iret hG hE dX11_restore_11 trivial ?_
    unfold zk_restore
    repeat (first | rw [if_pos (by omega)] | rw [if_neg (by omega)])
    exact ⟨rfl, hR, zKt_rf⟩
