/-- the model's reader: its place, whether something is wrong -/
def zMS (m : zM) (p w : Int) : zM := zset (zset m 11 0 0 25 p) 11 0 0 26 w
theorem zMS_p {m : zM} {p w : Int} : zMS m p w 11 0 0 25 = p := by simp [zMS, zset]
theorem zMS_w {m : zM} {p w : Int} : zMS m p w 11 0 0 26 = w := by simp [zMS, zset]
theorem zMS_o {m : zM} {p w : Int} {t : Nat} {s i k : Int} (h : t ≠ 11 ∨ (k ≠ 25 ∧ k ≠ 26)) : zMS m p w t s i k = m t s i k := by
  simp only [zMS, zset]
  rw [if_neg (by omega), if_neg (by omega)]
theorem zMS_sp {m : zM} {p w q : Int} : zset (zMS m p w) 11 0 0 25 q = zMS m q w := by
  funext t s i k
  simp only [zMS, zset]
  grind
theorem zMS_sw {m : zM} {p w q : Int} : zset (zMS m p w) 11 0 0 26 q = zMS m p q := zset_set
theorem zMS_so {m : zM} {p w : Int} {t : Nat} {s i k v : Int} (h : t ≠ 11 ∨ (k ≠ 25 ∧ k ≠ 26)) : zset (zMS m p w) t s i k v = zMS (zset m t s i k v) p w := by
  funext t' s' i' k'
  simp only [zMS, zset]
  by_cases e1 : t' = t ∧ s' = s ∧ i' = i ∧ k' = k
  · rw [if_pos e1, if_neg (by omega), if_neg (by omega), if_pos e1]
  · rw [if_neg e1, if_neg e1]
theorem zMS_eq {m : zM} : zMS m (m 11 0 0 25) (m 11 0 0 26) = m := by rw [zMS]; funext t s i k; simp only [zset]; grind
/-- the model's pad holds the text N, L signs long -/
def zTm (m : zM) (N : Int → Int) (L : Int) : Prop := (0 ≤ L ∧ L ≤ 80) ∧ m 11 0 0 6 = L ∧ (∀ p : Int, 0 ≤ p → (if p < L then m 49 0 0 p else 0) = N p) ∧ (∀ p : Int, 0 ≤ N p ∧ N p < 127) ∧ (∀ p : Int, N p ≠ 0 → 0 ≤ p ∧ p < L)
theorem zTm_set {m : zM} {N : Int → Int} {L : Int} (h : zTm m N L) {t : Nat} {s i k v : Int} (ht : (t ≠ 11 ∨ k ≠ 6) ∧ t ≠ 49) : zTm (zset m t s i k v) N L := by
  obtain ⟨h1, h2, h3, h4⟩ := h
  refine ⟨h1, ?_, fun p hp => ?_, h4⟩
  · simp only [zset]
    rw [if_neg (by omega), h2]
  · have := h3 p hp
    simp only [zset]
    rw [if_neg (c := 49 = t ∧ 0 = s ∧ 0 = i ∧ p = k) (by omega)]
    exact this
theorem zNm_len {N : Int → Int} {L : Int} (hN : ∀ p : Int, N p ≠ 0 → 0 ≤ p ∧ p < L) {most : Int} : ∀ (n : Nat) (p v : Int), 0 ≤ p ∧ p ≤ L → 0 ≤ (zNm N most n p v).1 ∧ (zNm N most n p v).1 ≤ L
  | 0, p, v, h => h
  | n + 1, p, v, h => by
    rw [zNm]
    split
    · exact h
    · next q =>
      have := hN p (zdg_N (by omega))
      split
      · exact zNm_len hN n _ _ (by omega)
      · exact h
theorem zNum_len {N : Int → Int} {L : Int} (hN : ∀ p : Int, N p ≠ 0 → 0 ≤ p ∧ p < L) {most p : Int} (h : 0 ≤ p ∧ p ≤ L) : 0 ≤ (zNum N most p).1 ∧ (zNum N most p).1 ≤ L := by
  unfold zNum
  split
  · have := hN p (zdg_N (by omega))
    exact zNm_len hN 79 _ _ (by omega)
  · exact h
theorem zdg_v {N : Int → Int} {p : Int} : (0 ≤ zdg N p ↔ (48 ≤ N p ∧ N p ≤ 57)) ∧ (0 ≤ zdg N p → zdg N p = N p - 48) := by
  unfold zdg
  split <;> omega
theorem zbits : ∀ b : Fin 256, ∀ d : Fin 8, ∀ i : Fin 8, (decide (zbit (zor (b.val : Int) (zshl 1 (d.val : Int))) (i.val : Int))) = (decide (zbit (b.val : Int) (i.val : Int)) || decide (i = d)) := by decide +kernel
theorem zbits2 : ∀ b : Fin 256, ∀ d : Fin 8, 0 ≤ zor (b.val : Int) (zshl 1 (d.val : Int)) ∧ zor (b.val : Int) (zshl 1 (d.val : Int)) < 256 := by decide +kernel
theorem zbit_or {b d i : Int} (hb : 0 ≤ b ∧ b < 256) (hd : 0 ≤ d ∧ d < 8) (hi : 0 ≤ i ∧ i < 8) : zbit (zor b (zshl 1 d)) i ↔ zbit b i ∨ i = d := by
  have h := zbits ⟨b.toNat, by omega⟩ ⟨d.toNat, by omega⟩ ⟨i.toNat, by omega⟩
  simp only at h
  rw [show ((b.toNat : Nat) : Int) = b by omega, show ((d.toNat : Nat) : Int) = d by omega, show ((i.toNat : Nat) : Int) = i by omega] at h
  have h2 := congrArg (fun x => x = true) h
  simp only [decide_eq_true_eq, Bool.or_eq_true, Fin.mk.injEq, eq_iff_iff] at h2
  rw [h2]
  constructor
  · rintro (q | q)
    · exact Or.inl q
    · exact Or.inr (by omega)
  · rintro (q | q)
    · exact Or.inl q
    · exact Or.inr (by omega)
theorem zor_bd {b d : Int} (hb : 0 ≤ b ∧ b < 256) (hd : 0 ≤ d ∧ d < 8) : 0 ≤ zor b (zshl 1 d) ∧ zor b (zshl 1 d) < 256 := by
  have h := zbits2 ⟨b.toNat, by omega⟩ ⟨d.toNat, by omega⟩
  simp only at h
  rw [show ((b.toNat : Nat) : Int) = b by omega, show ((d.toNat : Nat) : Int) = d by omega] at h
  exact h
theorem zbit_0 : ∀ i : Fin 8, ¬ zbit 0 (i.val : Int) := by decide +kernel
/-- how many bits -/
def zcb (k : Nat) (b : Int) : Int := zsum k (fun i => if zbit b i then 1 else 0)
theorem zcb_s {k : Nat} {b d : Int} (hk : k ≤ 8) (hb : 0 ≤ b ∧ b < 256) (hd : 0 ≤ d ∧ d < k) (hn : ¬ zbit b d) : zcb k (zor b (zshl 1 d)) = zcb k b + 1 := by
  unfold zcb
  have h := zsum_one (f := fun _ => 1) (p := d) hd.1 (S := fun i => zbit b i) (S' := fun i => zbit (zor b (zshl 1 d)) i) hn ((zbit_or hb ⟨hd.1, by omega⟩ ⟨hd.1, by omega⟩).mpr (Or.inr rfl)) k (fun j j0 j1 hj => by
    rw [zbit_or hb ⟨hd.1, by omega⟩ ⟨j0, by omega⟩]
    exact ⟨fun q => q.resolve_right hj, Or.inl⟩)
  rw [h, if_pos hd.2]
theorem zcb_le {k : Nat} {b : Int} : zcb k b ≤ k := by
  have := (zsum_le (f := fun i => if zbit b i then 1 else 0) (B := 1) k (fun j h0 h1 => by split <;> omega)).2
  unfold zcb
  omega
theorem zcb_0 : ∀ k : Nat, k ≤ 8 → zcb k 0 = 0
  | 0, _ => rfl
  | k + 1, h => by
    have := zcb_0 k (by omega)
    unfold zcb at *
    rw [zsum, this, if_neg]
    · rfl
    · exact zbit_0 ⟨k, by omega⟩
set_option maxRecDepth 20000 in
theorem ct_X11_next (l : Launch) (g : zG) {m : zM} {p w : Int} {N : Int → Int} {L : Int} (hT : zTm m N L) (hp : 0 ≤ p ∧ p ≤ L) : zMet l g Y_X11_next [zr 11 0 0] (zMS m p w) (fun v m' => v = some (zi (N p)) ∧ m' = zMS m p w) := by
  refine zMet_introF (by decide +kernel) (Nat.le_of_ble_eq_true rfl) (ls0 := [some (zr 11 0 0)]) rfl fun X hG hE => ?_
  have hG : zGood X l g RX11 cX11_next 0 1 := hG
  have hE : zEnd X (some .int) _ := hE
  have h80 := hT.1
  have hq := hT.2.2.1 p hp.1
  refine z_aload_n (i := 0) hG dX11_next_0 rfl rfl ?_
  refine z_getI hG dX11_next_1 FL_X11_212 rfl rfl (kk := 25) rfl ?_
  rw [zMS_p]
  refine z_aload_n (i := 0) hG dX11_next_4 rfl rfl ?_
  refine z_getI hG dX11_next_5 FL_X11_215 rfl rfl (kk := 6) rfl ?_
  rw [zMS_o (by omega), hT.2.1]
  refine z_icmp_ge hG dX11_next_8 (tgt := 23) rfl (fun zcq8 => ?_) (fun zcq8 => ?_)
  · refine z_iconst hG dX11_next_23 rfl ?_
    refine z_iret hG hE dX11_next_24 trivial ?_
    first
    | (rw [if_pos (by omega)] at hq; exact ⟨by rw [hq], rfl⟩)
    | (rw [if_neg (by omega)] at hq; exact ⟨by rw [hq], rfl⟩)
  · refine z_aload_n (i := 0) hG dX11_next_11 rfl rfl ?_
    refine z_get_11_5 hG dX11_next_12 FL_X11_23 ?_
    refine z_aload_n (i := 0) hG dX11_next_15 rfl rfl ?_
    refine z_getI hG dX11_next_16 FL_X11_212 rfl rfl (kk := 25) rfl ?_
    rw [zMS_p]
    refine z_iald hG dX11_next_19 rfl rfl (by omega) (by omega) ?_
    rw [zMS_o (by omega)]
    refine z_goto hG dX11_next_20 (tgt := 24) rfl ?_
    refine z_iret hG hE dX11_next_24 trivial ?_
    first
    | (rw [if_pos (by omega)] at hq; exact ⟨by rw [hq], rfl⟩)
    | (rw [if_neg (by omega)] at hq; exact ⟨by rw [hq], rfl⟩)
set_option maxRecDepth 20000 in
theorem ct_X11_takeNumber (l : Launch) (g : zG) {m : zM} {p w high : Int} {N : Int → Int} {L : Int} (hT : zTm m N L) (hp : 0 ≤ p ∧ p ≤ L) (hw : w = 0 ∨ w = 1) (hh : 9 ≤ high ∧ high ≤ 500) : zMet l g Y_X11_takeNumber [zr 11 0 0, zi high] (zMS m p w) (fun v m' => ∃ p' w' x : Int, v = some (zi x) ∧ m' = zMS m p' w' ∧ (w' = 0 ∨ w' = 1) ∧ (0 ≤ x ∧ x ≤ 500) ∧ (0 ≤ p' ∧ p' ≤ L) ∧ (w = 1 → p' = p ∧ w' = 1) ∧ (w = 0 → p' = (zNum N high p).1 ∧ ((zNum N high p).2.2 = 1 → w' = 0 ∧ x = (zNum N high p).2.1) ∧ ((zNum N high p).2.2 ≠ 1 → w' = 1 ∨ 0 ≤ zdg N p'))) := by
  refine zMet_introF (by decide +kernel) (Nat.le_of_ble_eq_true rfl) (ls0 := [some (zr 11 0 0), some (zi high), none]) rfl fun X hG hE => ?_
  have hG : zGood X l g RX11 cX11_takeNumber 1 3 := hG
  have hE : zEnd X (some .int) _ := hE
  have h80 := hT.1
  have hN := hT.2.2.2.1
  have hNl := hT.2.2.2.2
  have hdv := @zdg_v N
  have loop : w = 0 → ∀ (n : Nat) (q v : Int), 0 ≤ q ∧ q ≤ L → 80 ≤ q + n → 1 ≤ v ∧ v ≤ high → zNm N high n q v = zNum N high p → zZ X 57 [some (zr 11 0 0), some (zi high), some (zi v)] [] (zMS m q 0) := by
    intro hw0 n
    induction n with
    | zero =>
      intro q v hq hqn hv hz
      have hNq := hN q
      have hz0 : ¬ (48 ≤ N q ∧ N q ≤ 57) := fun z => by have := hNl q (by omega); omega
      have hz : (q, v, (1 : Int)) = zNum N high p := hz
      refine z_aload_n (i := 0) hG dX11_takeNumber_57 rfl rfl ?_
      refine z_callV hG dX11_takeNumber_58 LV_X11_222 (ct_X11_next l g hT (by omega)) (by decide) rfl rfl rfl (Nat.le_of_ble_eq_true rfl) ?_
      intro v9 m9 h9
      rw [h9.1, h9.2]
      clear h9 m9 v9
      refine z_bipush hG dX11_takeNumber_61 rfl ?_
      refine z_bipush hG dX11_takeNumber_63 rfl ?_
      refine z_callS hG dX11_takeNumber_65 LS_X11_76 (ct_X11_in l g) (by decide) rfl rfl (Nat.le_of_ble_eq_true rfl) ?_
      intro v9 m9 h9
      rw [h9.1, h9.2]
      clear h9 m9 v9
      refine z_if_eq hG dX11_takeNumber_68 (tgt := 113) rfl (fun zcq68 => ?_) (fun zcq68 => ?_)
      · try simp only [zite_eq0, ne_eq, Classical.not_not] at zcq68
        refine z_iload_n (i := 2) hG dX11_takeNumber_113 rfl rfl ?_
        refine z_iret hG hE dX11_takeNumber_114 trivial ?_
        refine ⟨q, 0, v, rfl, rfl, Or.inl rfl, by omega, hq, fun z => by omega, fun _ => ?_⟩
        rw [← hz]
        exact ⟨rfl, fun _ => ⟨rfl, rfl⟩, fun z => absurd rfl z⟩
      · try simp only [zite_eq0, ne_eq, Classical.not_not] at zcq68
        exact absurd zcq68 (by omega)
    | succ n ih =>
      intro q v hq hqn hv hz
      have hNq := hN q
      have hd := hdv (p := q)
      rw [zNm] at hz
      refine z_aload_n (i := 0) hG dX11_takeNumber_57 rfl rfl ?_
      refine z_callV hG dX11_takeNumber_58 LV_X11_222 (ct_X11_next l g hT (by omega)) (by decide) rfl rfl rfl (Nat.le_of_ble_eq_true rfl) ?_
      intro v9 m9 h9
      rw [h9.1, h9.2]
      clear h9 m9 v9
      refine z_bipush hG dX11_takeNumber_61 rfl ?_
      refine z_bipush hG dX11_takeNumber_63 rfl ?_
      refine z_callS hG dX11_takeNumber_65 LS_X11_76 (ct_X11_in l g) (by decide) rfl rfl (Nat.le_of_ble_eq_true rfl) ?_
      intro v9 m9 h9
      rw [h9.1, h9.2]
      clear h9 m9 v9
      refine z_if_eq hG dX11_takeNumber_68 (tgt := 113) rfl (fun zcq68 => ?_) (fun zcq68 => ?_)
      · try simp only [zite_eq0, ne_eq, Classical.not_not] at zcq68
        refine z_iload_n (i := 2) hG dX11_takeNumber_113 rfl rfl ?_
        refine z_iret hG hE dX11_takeNumber_114 trivial ?_
        refine ⟨q, 0, v, rfl, rfl, Or.inl rfl, by omega, hq, fun z => by omega, fun _ => ?_⟩
        rw [← hz]
        first
        | (rw [if_pos (by omega)]
           exact ⟨rfl, fun _ => ⟨rfl, rfl⟩, fun z => absurd rfl z⟩)
        | (rw [if_neg (by omega), if_neg (by rw [hd.2 (by omega)]; omega)]
           exact ⟨rfl, fun z => absurd (show (0 : Int) = 1 from z) (by decide), fun _ => Or.inr (by omega)⟩)
      · try simp only [zite_eq0, ne_eq, Classical.not_not] at zcq68
        refine z_bipush hG dX11_takeNumber_71 rfl ?_
        refine z_iload_n (i := 2) hG dX11_takeNumber_73 rfl rfl ?_
        refine z_imul hG dX11_takeNumber_74 (by omega) (by omega) ?_
        refine z_aload_n (i := 0) hG dX11_takeNumber_75 rfl rfl ?_
        refine z_callV hG dX11_takeNumber_76 LV_X11_222 (ct_X11_next l g hT (by omega)) (by decide) rfl rfl rfl (Nat.le_of_ble_eq_true rfl) ?_
        intro v9 m9 h9
        rw [h9.1, h9.2]
        clear h9 m9 v9
        refine z_iadd hG dX11_takeNumber_79 (by omega) (by omega) ?_
        refine z_bipush hG dX11_takeNumber_80 rfl ?_
        refine z_isub hG dX11_takeNumber_82 (by omega) (by omega) ?_
        refine z_iload_n (i := 1) hG dX11_takeNumber_83 rfl rfl ?_
        refine z_icmp_gt hG dX11_takeNumber_84 (tgt := 113) rfl (fun zcq84 => ?_) (fun zcq84 => ?_)
        · refine z_iload_n (i := 2) hG dX11_takeNumber_113 rfl rfl ?_
          refine z_iret hG hE dX11_takeNumber_114 trivial ?_
          refine ⟨q, 0, v, rfl, rfl, Or.inl rfl, by omega, hq, fun z => by omega, fun _ => ?_⟩
          rw [← hz]
          first
          | (rw [if_pos (by omega)]
             exact ⟨rfl, fun _ => ⟨rfl, rfl⟩, fun z => absurd rfl z⟩)
          | (rw [if_neg (by omega), if_neg (by rw [hd.2 (by omega)]; omega)]
             exact ⟨rfl, fun z => absurd (show (0 : Int) = 1 from z) (by decide), fun _ => Or.inr (by omega)⟩)
        · refine z_bipush hG dX11_takeNumber_87 rfl ?_
          refine z_iload_n (i := 2) hG dX11_takeNumber_89 rfl rfl ?_
          refine z_imul hG dX11_takeNumber_90 (by omega) (by omega) ?_
          refine z_aload_n (i := 0) hG dX11_takeNumber_91 rfl rfl ?_
          refine z_callV hG dX11_takeNumber_92 LV_X11_222 (ct_X11_next l g hT (by omega)) (by decide) rfl rfl rfl (Nat.le_of_ble_eq_true rfl) ?_
          intro v9 m9 h9
          rw [h9.1, h9.2]
          clear h9 m9 v9
          refine z_iadd hG dX11_takeNumber_95 (by omega) (by omega) ?_
          refine z_bipush hG dX11_takeNumber_96 rfl ?_
          refine z_isub hG dX11_takeNumber_98 (by omega) (by omega) ?_
          refine z_istore_n (i := 2) hG dX11_takeNumber_99 rfl (by decide) (ls2 := [_, _, _]) rfl ?_
          refine z_aload_n (i := 0) hG dX11_takeNumber_100 rfl rfl ?_
          first | refine z_dup_r hG dX11_takeNumber_101 ?_ | refine z_dup_i hG dX11_takeNumber_101 ?_
          refine z_getI hG dX11_takeNumber_102 FL_X11_212 rfl rfl (kk := 25) rfl ?_
          rw [zMS_p]
          refine z_iconst hG dX11_takeNumber_105 rfl ?_
          skip
          refine z_iadd hG dX11_takeNumber_106 (by omega) (by omega) ?_
          refine z_put hG dX11_takeNumber_107 FP_X11_212 rfl rfl (kk := 25) rfl ?_
          refine z_goto hG dX11_takeNumber_110 (tgt := 57) rfl ?_
          have hlq := hNl q (by omega)
          rw [if_neg (by omega), if_pos (by rw [hd.2 (by omega)]; omega)] at hz
          refine z_mem zMS_sp ?_
          refine z_forget [true, true, true] ?_ (ih (q + 1) (10 * v + N q - 48) ⟨by omega, by omega⟩ (by omega) ⟨by omega, by omega⟩ ?_)
          · rfl
          · rw [← hz, hd.2 (by omega)]
            congr 1
            omega
  have hNp := hN p
  have hdp := hdv (p := p)
  refine z_aload_n (i := 0) hG dX11_takeNumber_0 rfl rfl ?_
  refine z_aload_n (i := 0) hG dX11_takeNumber_1 rfl rfl ?_
  refine z_getI hG dX11_takeNumber_2 FL_X11_218 rfl rfl (kk := 26) rfl ?_
  rw [zMS_w]
  refine z_if_ne hG dX11_takeNumber_5 (tgt := 22) rfl (fun zcq5 => ?_) (fun zcq5 => ?_)
  · try simp only [zite_eq0, ne_eq, Classical.not_not] at zcq5
    refine z_iconst hG dX11_takeNumber_22 rfl ?_
    refine z_goto hG dX11_takeNumber_23 (tgt := 27) rfl ?_
    refine z_putB hG dX11_takeNumber_27 FP_X11_218 rfl rfl (kk := 26) rfl (by first | exact Or.inl rfl | exact Or.inr rfl) ?_
    refine z_mem zMS_sw ?_
    refine z_aload_n (i := 0) hG dX11_takeNumber_30 rfl rfl ?_
    refine z_getI hG dX11_takeNumber_31 FL_X11_218 rfl rfl (kk := 26) rfl ?_
    rw [zMS_w]
    refine z_if_eq hG dX11_takeNumber_34 (tgt := 39) rfl (fun zcq34 => ?_) (fun zcq34 => ?_)
    · try simp only [zite_eq0, ne_eq, Classical.not_not] at zcq34
      refine z_aload_n (i := 0) hG dX11_takeNumber_39 rfl rfl ?_
      refine z_callV hG dX11_takeNumber_40 LV_X11_222 (ct_X11_next l g hT (by omega)) (by decide) rfl rfl rfl (Nat.le_of_ble_eq_true rfl) ?_
      intro v9 m9 h9
      rw [h9.1, h9.2]
      clear h9 m9 v9
      refine z_bipush hG dX11_takeNumber_43 rfl ?_
      refine z_isub hG dX11_takeNumber_45 (by omega) (by omega) ?_
      refine z_istore_n (i := 2) hG dX11_takeNumber_46 rfl (by decide) (ls2 := [_, _, _]) rfl ?_
      refine z_aload_n (i := 0) hG dX11_takeNumber_47 rfl rfl ?_
      first | refine z_dup_r hG dX11_takeNumber_48 ?_ | refine z_dup_i hG dX11_takeNumber_48 ?_
      refine z_getI hG dX11_takeNumber_49 FL_X11_212 rfl rfl (kk := 25) rfl ?_
      rw [zMS_p]
      refine z_iconst hG dX11_takeNumber_52 rfl ?_
      refine z_iadd hG dX11_takeNumber_53 (by omega) (by omega) ?_
      refine z_put hG dX11_takeNumber_54 FP_X11_212 rfl rfl (kk := 25) rfl ?_
      have hlp := hNl p (by omega)
      refine z_mem zMS_sp ?_
      first
      | (exfalso; omega; done)
      | (refine loop (by omega) 79 (p + 1) (N p - 48) ⟨by omega, by omega⟩ (by omega) ⟨by omega, by omega⟩ ?_
         unfold zNum
         rw [if_pos (by omega), hdp.2 (by omega)])
    · try simp only [zite_eq0, ne_eq, Classical.not_not] at zcq34
      refine z_iconst hG dX11_takeNumber_37 rfl ?_
      refine z_iret hG hE dX11_takeNumber_38 trivial ?_
      first
      | (exfalso; omega; done)
      | exact absurd trivial zcq34
      | (refine ⟨p, 1, 0, rfl, rfl, Or.inr rfl, by omega, hp, fun _ => ⟨rfl, rfl⟩, fun z => ?_⟩
         first
         | (exfalso; omega; done)
         | (unfold zNum
            rw [if_neg (by omega)]
            exact ⟨rfl, fun y => absurd (show (0 : Int) = 1 from y) (by decide), fun _ => Or.inl rfl⟩))
  · try simp only [zite_eq0, ne_eq, Classical.not_not] at zcq5
    refine z_aload_n (i := 0) hG dX11_takeNumber_8 rfl rfl ?_
    refine z_callV hG dX11_takeNumber_9 LV_X11_222 (ct_X11_next l g hT (by omega)) (by decide) rfl rfl rfl (Nat.le_of_ble_eq_true rfl) ?_
    intro v9 m9 h9
    rw [h9.1, h9.2]
    clear h9 m9 v9
    refine z_bipush hG dX11_takeNumber_12 rfl ?_
    refine z_bipush hG dX11_takeNumber_14 rfl ?_
    refine z_callS hG dX11_takeNumber_16 LS_X11_76 (ct_X11_in l g) (by decide) rfl rfl (Nat.le_of_ble_eq_true rfl) ?_
    intro v9 m9 h9
    rw [h9.1, h9.2]
    clear h9 m9 v9
    refine z_if_ne hG dX11_takeNumber_19 (tgt := 26) rfl (fun zcq19 => ?_) (fun zcq19 => ?_)
    · try simp only [zite_eq0, ne_eq, Classical.not_not] at zcq19
      refine z_iconst hG dX11_takeNumber_26 rfl ?_
      refine z_putB hG dX11_takeNumber_27 FP_X11_218 rfl rfl (kk := 26) rfl (by first | exact Or.inl rfl | exact Or.inr rfl) ?_
      refine z_mem zMS_sw ?_
      refine z_aload_n (i := 0) hG dX11_takeNumber_30 rfl rfl ?_
      refine z_getI hG dX11_takeNumber_31 FL_X11_218 rfl rfl (kk := 26) rfl ?_
      rw [zMS_w]
      refine z_if_eq hG dX11_takeNumber_34 (tgt := 39) rfl (fun zcq34 => ?_) (fun zcq34 => ?_)
      · try simp only [zite_eq0, ne_eq, Classical.not_not] at zcq34
        refine z_aload_n (i := 0) hG dX11_takeNumber_39 rfl rfl ?_
        refine z_callV hG dX11_takeNumber_40 LV_X11_222 (ct_X11_next l g hT (by omega)) (by decide) rfl rfl rfl (Nat.le_of_ble_eq_true rfl) ?_
        intro v9 m9 h9
        rw [h9.1, h9.2]
        clear h9 m9 v9
        refine z_bipush hG dX11_takeNumber_43 rfl ?_
        refine z_isub hG dX11_takeNumber_45 (by omega) (by omega) ?_
        refine z_istore_n (i := 2) hG dX11_takeNumber_46 rfl (by decide) (ls2 := [_, _, _]) rfl ?_
        refine z_aload_n (i := 0) hG dX11_takeNumber_47 rfl rfl ?_
        first | refine z_dup_r hG dX11_takeNumber_48 ?_ | refine z_dup_i hG dX11_takeNumber_48 ?_
        refine z_getI hG dX11_takeNumber_49 FL_X11_212 rfl rfl (kk := 25) rfl ?_
        rw [zMS_p]
        refine z_iconst hG dX11_takeNumber_52 rfl ?_
        refine z_iadd hG dX11_takeNumber_53 (by omega) (by omega) ?_
        refine z_put hG dX11_takeNumber_54 FP_X11_212 rfl rfl (kk := 25) rfl ?_
        have hlp := hNl p (by omega)
        refine z_mem zMS_sp ?_
        first
        | (exfalso; omega; done)
        | (refine loop (by omega) 79 (p + 1) (N p - 48) ⟨by omega, by omega⟩ (by omega) ⟨by omega, by omega⟩ ?_
           unfold zNum
           rw [if_pos (by omega), hdp.2 (by omega)])
      · try simp only [zite_eq0, ne_eq, Classical.not_not] at zcq34
        refine z_iconst hG dX11_takeNumber_37 rfl ?_
        refine z_iret hG hE dX11_takeNumber_38 trivial ?_
        first
        | (exfalso; omega; done)
        | exact absurd trivial zcq34
        | (refine ⟨p, 1, 0, rfl, rfl, Or.inr rfl, by omega, hp, fun _ => ⟨rfl, rfl⟩, fun z => ?_⟩
           first
           | (exfalso; omega; done)
           | (unfold zNum
              rw [if_neg (by omega)]
              exact ⟨rfl, fun y => absurd (show (0 : Int) = 1 from y) (by decide), fun _ => Or.inl rfl⟩))
    · try simp only [zite_eq0, ne_eq, Classical.not_not] at zcq19
      refine z_iconst hG dX11_takeNumber_22 rfl ?_
      refine z_goto hG dX11_takeNumber_23 (tgt := 27) rfl ?_
      refine z_putB hG dX11_takeNumber_27 FP_X11_218 rfl rfl (kk := 26) rfl (by first | exact Or.inl rfl | exact Or.inr rfl) ?_
      refine z_mem zMS_sw ?_
      refine z_aload_n (i := 0) hG dX11_takeNumber_30 rfl rfl ?_
      refine z_getI hG dX11_takeNumber_31 FL_X11_218 rfl rfl (kk := 26) rfl ?_
      rw [zMS_w]
      refine z_if_eq hG dX11_takeNumber_34 (tgt := 39) rfl (fun zcq34 => ?_) (fun zcq34 => ?_)
      · try simp only [zite_eq0, ne_eq, Classical.not_not] at zcq34
        refine z_aload_n (i := 0) hG dX11_takeNumber_39 rfl rfl ?_
        refine z_callV hG dX11_takeNumber_40 LV_X11_222 (ct_X11_next l g hT (by omega)) (by decide) rfl rfl rfl (Nat.le_of_ble_eq_true rfl) ?_
        intro v9 m9 h9
        rw [h9.1, h9.2]
        clear h9 m9 v9
        refine z_bipush hG dX11_takeNumber_43 rfl ?_
        refine z_isub hG dX11_takeNumber_45 (by omega) (by omega) ?_
        refine z_istore_n (i := 2) hG dX11_takeNumber_46 rfl (by decide) (ls2 := [_, _, _]) rfl ?_
        refine z_aload_n (i := 0) hG dX11_takeNumber_47 rfl rfl ?_
        first | refine z_dup_r hG dX11_takeNumber_48 ?_ | refine z_dup_i hG dX11_takeNumber_48 ?_
        refine z_getI hG dX11_takeNumber_49 FL_X11_212 rfl rfl (kk := 25) rfl ?_
        rw [zMS_p]
        refine z_iconst hG dX11_takeNumber_52 rfl ?_
        refine z_iadd hG dX11_takeNumber_53 (by omega) (by omega) ?_
        refine z_put hG dX11_takeNumber_54 FP_X11_212 rfl rfl (kk := 25) rfl ?_
        have hlp := hNl p (by omega)
        refine z_mem zMS_sp ?_
        first
        | (exfalso; omega; done)
        | (refine loop (by omega) 79 (p + 1) (N p - 48) ⟨by omega, by omega⟩ (by omega) ⟨by omega, by omega⟩ ?_
           unfold zNum
           rw [if_pos (by omega), hdp.2 (by omega)])
      · try simp only [zite_eq0, ne_eq, Classical.not_not] at zcq34
        refine z_iconst hG dX11_takeNumber_37 rfl ?_
        refine z_iret hG hE dX11_takeNumber_38 trivial ?_
        first
        | (exfalso; omega; done)
        | exact absurd trivial zcq34
        | (refine ⟨p, 1, 0, rfl, rfl, Or.inr rfl, by omega, hp, fun _ => ⟨rfl, rfl⟩, fun z => ?_⟩
           first
           | (exfalso; omega; done)
           | (unfold zNum
              rw [if_neg (by omega)]
              exact ⟨rfl, fun y => absurd (show (0 : Int) = 1 from y) (by decide), fun _ => Or.inl rfl⟩))
set_option maxRecDepth 20000 in
theorem ct_X11_takeDigit (l : Launch) (g : zG) {m : zM} {p w many st : Int} {N : Int → Int} {L : Int} (hT : zTm m N L) (hp : 0 ≤ p ∧ p ≤ L) (hw : w = 0 ∨ w = 1) (hm : 0 ≤ many ∧ many ≤ 8) : zMet l g Y_X11_takeDigit [zr 11 0 0, zi many, zi st] (zMS m p w) (fun v m' => ∃ ok : Bool, (ok = true ↔ (w = 0 ∧ (0 ≤ N p - 48 ∧ N p - 48 ≤ many - 1) ∧ ¬ zbit st (N p - 48))) ∧ v = some (zi (if ok then N p - 48 else 0)) ∧ m' = zMS m (if ok then p + 1 else p) (if ok then 0 else 1)) := by
  refine zMet_introF (by decide +kernel) (Nat.le_of_ble_eq_true rfl) (ls0 := [some (zr 11 0 0), some (zi many), some (zi st), none]) rfl fun X hG hE => ?_
  have hG : zGood X l g RX11 cX11_takeDigit 1 4 := hG
  have hE : zEnd X (some .int) _ := hE
  have h80 := hT.1
  have hNp := hT.2.2.2.1 p
  refine z_aload_n (i := 0) hG dX11_takeDigit_0 rfl rfl ?_
  refine z_callV hG dX11_takeDigit_1 LV_X11_222 (ct_X11_next l g hT (by omega)) (by decide) rfl rfl rfl (Nat.le_of_ble_eq_true rfl) ?_
  intro v9 m9 h9
  rw [h9.1, h9.2]
  clear h9 m9 v9
  refine z_bipush hG dX11_takeDigit_4 rfl ?_
  refine z_isub hG dX11_takeDigit_6 (by omega) (by omega) ?_
  refine z_istore_n (i := 3) hG dX11_takeDigit_7 rfl (by decide) (ls2 := [_, _, _, _]) rfl ?_
  refine z_aload_n (i := 0) hG dX11_takeDigit_8 rfl rfl ?_
  refine z_aload_n (i := 0) hG dX11_takeDigit_9 rfl rfl ?_
  refine z_getI hG dX11_takeDigit_10 FL_X11_218 rfl rfl (kk := 26) rfl ?_
  rw [zMS_w]
  refine z_if_ne hG dX11_takeDigit_13 (tgt := 36) rfl (fun zcq13 => ?_) (fun zcq13 => ?_)
  · try simp only [zite_eq0, ne_eq, Classical.not_not] at zcq13
    refine z_iconst hG dX11_takeDigit_36 rfl ?_
    refine z_goto hG dX11_takeDigit_37 (tgt := 41) rfl ?_
    refine z_putB hG dX11_takeDigit_41 FP_X11_218 rfl rfl (kk := 26) rfl (by first | exact Or.inl rfl | exact Or.inr rfl) ?_
    refine z_mem zMS_sw ?_
    refine z_aload_n (i := 0) hG dX11_takeDigit_44 rfl rfl ?_
    first | refine z_dup_r hG dX11_takeDigit_45 ?_ | refine z_dup_i hG dX11_takeDigit_45 ?_
    refine z_getI hG dX11_takeDigit_46 FL_X11_212 rfl rfl (kk := 25) rfl ?_
    rw [zMS_p]
    refine z_aload_n (i := 0) hG dX11_takeDigit_49 rfl rfl ?_
    refine z_getI hG dX11_takeDigit_50 FL_X11_218 rfl rfl (kk := 26) rfl ?_
    rw [zMS_w]
    refine z_if_eq hG dX11_takeDigit_53 (tgt := 60) rfl (fun zcq53 => ?_) (fun zcq53 => ?_)
    · try simp only [zite_eq0, ne_eq, Classical.not_not] at zcq53
      refine z_iconst hG dX11_takeDigit_60 rfl ?_
      refine z_iadd hG dX11_takeDigit_61 (by omega) (by omega) ?_
      try rw [Int.add_zero]
      refine z_put hG dX11_takeDigit_62 FP_X11_212 rfl rfl (kk := 25) rfl ?_
      refine z_mem zMS_sp ?_
      refine z_aload_n (i := 0) hG dX11_takeDigit_65 rfl rfl ?_
      refine z_getI hG dX11_takeDigit_66 FL_X11_218 rfl rfl (kk := 26) rfl ?_
      rw [zMS_w]
      refine z_if_eq hG dX11_takeDigit_69 (tgt := 76) rfl (fun zcq69 => ?_) (fun zcq69 => ?_)
      · try simp only [zite_eq0, ne_eq, Classical.not_not] at zcq69
        refine z_iload_n (i := 3) hG dX11_takeDigit_76 rfl rfl ?_
        refine z_iret hG hE dX11_takeDigit_77 trivial ?_
        first
        | (exfalso; omega; done)
        | exact absurd trivial zcq53
        | exact absurd trivial zcq69
        | (refine ⟨true, ⟨fun _ => ⟨by omega, by omega, by assumption⟩, fun _ => rfl⟩, rfl, rfl⟩; done)
        | (refine ⟨false, ⟨fun z => absurd z (by decide), fun z => ?_⟩, rfl, rfl⟩
           exfalso
           first
           | (omega; done)
           | exact absurd (by assumption) z.2.2)
      · try simp only [zite_eq0, ne_eq, Classical.not_not] at zcq69
        refine z_iconst hG dX11_takeDigit_72 rfl ?_
        refine z_goto hG dX11_takeDigit_73 (tgt := 77) rfl ?_
        refine z_iret hG hE dX11_takeDigit_77 trivial ?_
        first
        | (exfalso; omega; done)
        | exact absurd trivial zcq53
        | exact absurd trivial zcq69
        | (refine ⟨true, ⟨fun _ => ⟨by omega, by omega, by assumption⟩, fun _ => rfl⟩, rfl, rfl⟩; done)
        | (refine ⟨false, ⟨fun z => absurd z (by decide), fun z => ?_⟩, rfl, rfl⟩
           exfalso
           first
           | (omega; done)
           | exact absurd (by assumption) z.2.2)
    · try simp only [zite_eq0, ne_eq, Classical.not_not] at zcq53
      refine z_iconst hG dX11_takeDigit_56 rfl ?_
      refine z_goto hG dX11_takeDigit_57 (tgt := 61) rfl ?_
      refine z_iadd hG dX11_takeDigit_61 (by omega) (by omega) ?_
      try rw [Int.add_zero]
      refine z_put hG dX11_takeDigit_62 FP_X11_212 rfl rfl (kk := 25) rfl ?_
      refine z_mem zMS_sp ?_
      refine z_aload_n (i := 0) hG dX11_takeDigit_65 rfl rfl ?_
      refine z_getI hG dX11_takeDigit_66 FL_X11_218 rfl rfl (kk := 26) rfl ?_
      rw [zMS_w]
      refine z_if_eq hG dX11_takeDigit_69 (tgt := 76) rfl (fun zcq69 => ?_) (fun zcq69 => ?_)
      · try simp only [zite_eq0, ne_eq, Classical.not_not] at zcq69
        refine z_iload_n (i := 3) hG dX11_takeDigit_76 rfl rfl ?_
        refine z_iret hG hE dX11_takeDigit_77 trivial ?_
        first
        | (exfalso; omega; done)
        | exact absurd trivial zcq53
        | exact absurd trivial zcq69
        | (refine ⟨true, ⟨fun _ => ⟨by omega, by omega, by assumption⟩, fun _ => rfl⟩, rfl, rfl⟩; done)
        | (refine ⟨false, ⟨fun z => absurd z (by decide), fun z => ?_⟩, rfl, rfl⟩
           exfalso
           first
           | (omega; done)
           | exact absurd (by assumption) z.2.2)
      · try simp only [zite_eq0, ne_eq, Classical.not_not] at zcq69
        refine z_iconst hG dX11_takeDigit_72 rfl ?_
        refine z_goto hG dX11_takeDigit_73 (tgt := 77) rfl ?_
        refine z_iret hG hE dX11_takeDigit_77 trivial ?_
        first
        | (exfalso; omega; done)
        | exact absurd trivial zcq53
        | exact absurd trivial zcq69
        | (refine ⟨true, ⟨fun _ => ⟨by omega, by omega, by assumption⟩, fun _ => rfl⟩, rfl, rfl⟩; done)
        | (refine ⟨false, ⟨fun z => absurd z (by decide), fun z => ?_⟩, rfl, rfl⟩
           exfalso
           first
           | (omega; done)
           | exact absurd (by assumption) z.2.2)
  · try simp only [zite_eq0, ne_eq, Classical.not_not] at zcq13
    refine z_iload_n (i := 3) hG dX11_takeDigit_16 rfl rfl ?_
    refine z_iconst hG dX11_takeDigit_17 rfl ?_
    refine z_iload_n (i := 1) hG dX11_takeDigit_18 rfl rfl ?_
    refine z_iconst hG dX11_takeDigit_19 rfl ?_
    refine z_isub hG dX11_takeDigit_20 (by omega) (by omega) ?_
    refine z_callS hG dX11_takeDigit_21 LS_X11_76 (ct_X11_in l g) (by decide) rfl rfl (Nat.le_of_ble_eq_true rfl) ?_
    intro v9 m9 h9
    rw [h9.1, h9.2]
    clear h9 m9 v9
    refine z_if_eq hG dX11_takeDigit_24 (tgt := 36) rfl (fun zcq24 => ?_) (fun zcq24 => ?_)
    · try simp only [zite_eq0, ne_eq, Classical.not_not] at zcq24
      refine z_iconst hG dX11_takeDigit_36 rfl ?_
      refine z_goto hG dX11_takeDigit_37 (tgt := 41) rfl ?_
      refine z_putB hG dX11_takeDigit_41 FP_X11_218 rfl rfl (kk := 26) rfl (by first | exact Or.inl rfl | exact Or.inr rfl) ?_
      refine z_mem zMS_sw ?_
      refine z_aload_n (i := 0) hG dX11_takeDigit_44 rfl rfl ?_
      first | refine z_dup_r hG dX11_takeDigit_45 ?_ | refine z_dup_i hG dX11_takeDigit_45 ?_
      refine z_getI hG dX11_takeDigit_46 FL_X11_212 rfl rfl (kk := 25) rfl ?_
      rw [zMS_p]
      refine z_aload_n (i := 0) hG dX11_takeDigit_49 rfl rfl ?_
      refine z_getI hG dX11_takeDigit_50 FL_X11_218 rfl rfl (kk := 26) rfl ?_
      rw [zMS_w]
      refine z_if_eq hG dX11_takeDigit_53 (tgt := 60) rfl (fun zcq53 => ?_) (fun zcq53 => ?_)
      · try simp only [zite_eq0, ne_eq, Classical.not_not] at zcq53
        refine z_iconst hG dX11_takeDigit_60 rfl ?_
        refine z_iadd hG dX11_takeDigit_61 (by omega) (by omega) ?_
        try rw [Int.add_zero]
        refine z_put hG dX11_takeDigit_62 FP_X11_212 rfl rfl (kk := 25) rfl ?_
        refine z_mem zMS_sp ?_
        refine z_aload_n (i := 0) hG dX11_takeDigit_65 rfl rfl ?_
        refine z_getI hG dX11_takeDigit_66 FL_X11_218 rfl rfl (kk := 26) rfl ?_
        rw [zMS_w]
        refine z_if_eq hG dX11_takeDigit_69 (tgt := 76) rfl (fun zcq69 => ?_) (fun zcq69 => ?_)
        · try simp only [zite_eq0, ne_eq, Classical.not_not] at zcq69
          refine z_iload_n (i := 3) hG dX11_takeDigit_76 rfl rfl ?_
          refine z_iret hG hE dX11_takeDigit_77 trivial ?_
          first
          | (exfalso; omega; done)
          | exact absurd trivial zcq53
          | exact absurd trivial zcq69
          | (refine ⟨true, ⟨fun _ => ⟨by omega, by omega, by assumption⟩, fun _ => rfl⟩, rfl, rfl⟩; done)
          | (refine ⟨false, ⟨fun z => absurd z (by decide), fun z => ?_⟩, rfl, rfl⟩
             exfalso
             first
             | (omega; done)
             | exact absurd (by assumption) z.2.2)
        · try simp only [zite_eq0, ne_eq, Classical.not_not] at zcq69
          refine z_iconst hG dX11_takeDigit_72 rfl ?_
          refine z_goto hG dX11_takeDigit_73 (tgt := 77) rfl ?_
          refine z_iret hG hE dX11_takeDigit_77 trivial ?_
          first
          | (exfalso; omega; done)
          | exact absurd trivial zcq53
          | exact absurd trivial zcq69
          | (refine ⟨true, ⟨fun _ => ⟨by omega, by omega, by assumption⟩, fun _ => rfl⟩, rfl, rfl⟩; done)
          | (refine ⟨false, ⟨fun z => absurd z (by decide), fun z => ?_⟩, rfl, rfl⟩
             exfalso
             first
             | (omega; done)
             | exact absurd (by assumption) z.2.2)
      · try simp only [zite_eq0, ne_eq, Classical.not_not] at zcq53
        refine z_iconst hG dX11_takeDigit_56 rfl ?_
        refine z_goto hG dX11_takeDigit_57 (tgt := 61) rfl ?_
        refine z_iadd hG dX11_takeDigit_61 (by omega) (by omega) ?_
        try rw [Int.add_zero]
        refine z_put hG dX11_takeDigit_62 FP_X11_212 rfl rfl (kk := 25) rfl ?_
        refine z_mem zMS_sp ?_
        refine z_aload_n (i := 0) hG dX11_takeDigit_65 rfl rfl ?_
        refine z_getI hG dX11_takeDigit_66 FL_X11_218 rfl rfl (kk := 26) rfl ?_
        rw [zMS_w]
        refine z_if_eq hG dX11_takeDigit_69 (tgt := 76) rfl (fun zcq69 => ?_) (fun zcq69 => ?_)
        · try simp only [zite_eq0, ne_eq, Classical.not_not] at zcq69
          refine z_iload_n (i := 3) hG dX11_takeDigit_76 rfl rfl ?_
          refine z_iret hG hE dX11_takeDigit_77 trivial ?_
          first
          | (exfalso; omega; done)
          | exact absurd trivial zcq53
          | exact absurd trivial zcq69
          | (refine ⟨true, ⟨fun _ => ⟨by omega, by omega, by assumption⟩, fun _ => rfl⟩, rfl, rfl⟩; done)
          | (refine ⟨false, ⟨fun z => absurd z (by decide), fun z => ?_⟩, rfl, rfl⟩
             exfalso
             first
             | (omega; done)
             | exact absurd (by assumption) z.2.2)
        · try simp only [zite_eq0, ne_eq, Classical.not_not] at zcq69
          refine z_iconst hG dX11_takeDigit_72 rfl ?_
          refine z_goto hG dX11_takeDigit_73 (tgt := 77) rfl ?_
          refine z_iret hG hE dX11_takeDigit_77 trivial ?_
          first
          | (exfalso; omega; done)
          | exact absurd trivial zcq53
          | exact absurd trivial zcq69
          | (refine ⟨true, ⟨fun _ => ⟨by omega, by omega, by assumption⟩, fun _ => rfl⟩, rfl, rfl⟩; done)
          | (refine ⟨false, ⟨fun z => absurd z (by decide), fun z => ?_⟩, rfl, rfl⟩
             exfalso
             first
             | (omega; done)
             | exact absurd (by assumption) z.2.2)
    · try simp only [zite_eq0, ne_eq, Classical.not_not] at zcq24
      refine z_iload_n (i := 2) hG dX11_takeDigit_27 rfl rfl ?_
      refine z_iload_n (i := 3) hG dX11_takeDigit_28 rfl rfl ?_
      refine z_ishr hG dX11_takeDigit_29 ?_
      refine z_iconst hG dX11_takeDigit_30 rfl ?_
      refine z_iand hG dX11_takeDigit_31 ?_
      refine z_iconst hG dX11_takeDigit_32 rfl ?_
      refine z_icmp_ne hG dX11_takeDigit_33 (tgt := 40) rfl (fun zcq33 => ?_) (fun zcq33 => ?_)
      · refine z_iconst hG dX11_takeDigit_40 rfl ?_
        refine z_putB hG dX11_takeDigit_41 FP_X11_218 rfl rfl (kk := 26) rfl (by first | exact Or.inl rfl | exact Or.inr rfl) ?_
        refine z_mem zMS_sw ?_
        refine z_aload_n (i := 0) hG dX11_takeDigit_44 rfl rfl ?_
        first | refine z_dup_r hG dX11_takeDigit_45 ?_ | refine z_dup_i hG dX11_takeDigit_45 ?_
        refine z_getI hG dX11_takeDigit_46 FL_X11_212 rfl rfl (kk := 25) rfl ?_
        rw [zMS_p]
        refine z_aload_n (i := 0) hG dX11_takeDigit_49 rfl rfl ?_
        refine z_getI hG dX11_takeDigit_50 FL_X11_218 rfl rfl (kk := 26) rfl ?_
        rw [zMS_w]
        refine z_if_eq hG dX11_takeDigit_53 (tgt := 60) rfl (fun zcq53 => ?_) (fun zcq53 => ?_)
        · try simp only [zite_eq0, ne_eq, Classical.not_not] at zcq53
          refine z_iconst hG dX11_takeDigit_60 rfl ?_
          refine z_iadd hG dX11_takeDigit_61 (by omega) (by omega) ?_
          try rw [Int.add_zero]
          refine z_put hG dX11_takeDigit_62 FP_X11_212 rfl rfl (kk := 25) rfl ?_
          refine z_mem zMS_sp ?_
          refine z_aload_n (i := 0) hG dX11_takeDigit_65 rfl rfl ?_
          refine z_getI hG dX11_takeDigit_66 FL_X11_218 rfl rfl (kk := 26) rfl ?_
          rw [zMS_w]
          refine z_if_eq hG dX11_takeDigit_69 (tgt := 76) rfl (fun zcq69 => ?_) (fun zcq69 => ?_)
          · try simp only [zite_eq0, ne_eq, Classical.not_not] at zcq69
            refine z_iload_n (i := 3) hG dX11_takeDigit_76 rfl rfl ?_
            refine z_iret hG hE dX11_takeDigit_77 trivial ?_
            first
            | (exfalso; omega; done)
            | exact absurd trivial zcq53
            | exact absurd trivial zcq69
            | (refine ⟨true, ⟨fun _ => ⟨by omega, by omega, by assumption⟩, fun _ => rfl⟩, rfl, rfl⟩; done)
            | (refine ⟨false, ⟨fun z => absurd z (by decide), fun z => ?_⟩, rfl, rfl⟩
               exfalso
               first
               | (omega; done)
               | exact absurd (by assumption) z.2.2)
          · try simp only [zite_eq0, ne_eq, Classical.not_not] at zcq69
            refine z_iconst hG dX11_takeDigit_72 rfl ?_
            refine z_goto hG dX11_takeDigit_73 (tgt := 77) rfl ?_
            refine z_iret hG hE dX11_takeDigit_77 trivial ?_
            first
            | (exfalso; omega; done)
            | exact absurd trivial zcq53
            | exact absurd trivial zcq69
            | (refine ⟨true, ⟨fun _ => ⟨by omega, by omega, by assumption⟩, fun _ => rfl⟩, rfl, rfl⟩; done)
            | (refine ⟨false, ⟨fun z => absurd z (by decide), fun z => ?_⟩, rfl, rfl⟩
               exfalso
               first
               | (omega; done)
               | exact absurd (by assumption) z.2.2)
        · try simp only [zite_eq0, ne_eq, Classical.not_not] at zcq53
          refine z_iconst hG dX11_takeDigit_56 rfl ?_
          refine z_goto hG dX11_takeDigit_57 (tgt := 61) rfl ?_
          refine z_iadd hG dX11_takeDigit_61 (by omega) (by omega) ?_
          try rw [Int.add_zero]
          refine z_put hG dX11_takeDigit_62 FP_X11_212 rfl rfl (kk := 25) rfl ?_
          refine z_mem zMS_sp ?_
          refine z_aload_n (i := 0) hG dX11_takeDigit_65 rfl rfl ?_
          refine z_getI hG dX11_takeDigit_66 FL_X11_218 rfl rfl (kk := 26) rfl ?_
          rw [zMS_w]
          refine z_if_eq hG dX11_takeDigit_69 (tgt := 76) rfl (fun zcq69 => ?_) (fun zcq69 => ?_)
          · try simp only [zite_eq0, ne_eq, Classical.not_not] at zcq69
            refine z_iload_n (i := 3) hG dX11_takeDigit_76 rfl rfl ?_
            refine z_iret hG hE dX11_takeDigit_77 trivial ?_
            first
            | (exfalso; omega; done)
            | exact absurd trivial zcq53
            | exact absurd trivial zcq69
            | (refine ⟨true, ⟨fun _ => ⟨by omega, by omega, by assumption⟩, fun _ => rfl⟩, rfl, rfl⟩; done)
            | (refine ⟨false, ⟨fun z => absurd z (by decide), fun z => ?_⟩, rfl, rfl⟩
               exfalso
               first
               | (omega; done)
               | exact absurd (by assumption) z.2.2)
          · try simp only [zite_eq0, ne_eq, Classical.not_not] at zcq69
            refine z_iconst hG dX11_takeDigit_72 rfl ?_
            refine z_goto hG dX11_takeDigit_73 (tgt := 77) rfl ?_
            refine z_iret hG hE dX11_takeDigit_77 trivial ?_
            first
            | (exfalso; omega; done)
            | exact absurd trivial zcq53
            | exact absurd trivial zcq69
            | (refine ⟨true, ⟨fun _ => ⟨by omega, by omega, by assumption⟩, fun _ => rfl⟩, rfl, rfl⟩; done)
            | (refine ⟨false, ⟨fun z => absurd z (by decide), fun z => ?_⟩, rfl, rfl⟩
               exfalso
               first
               | (omega; done)
               | exact absurd (by assumption) z.2.2)
      · refine z_iconst hG dX11_takeDigit_36 rfl ?_
        refine z_goto hG dX11_takeDigit_37 (tgt := 41) rfl ?_
        refine z_putB hG dX11_takeDigit_41 FP_X11_218 rfl rfl (kk := 26) rfl (by first | exact Or.inl rfl | exact Or.inr rfl) ?_
        refine z_mem zMS_sw ?_
        refine z_aload_n (i := 0) hG dX11_takeDigit_44 rfl rfl ?_
        first | refine z_dup_r hG dX11_takeDigit_45 ?_ | refine z_dup_i hG dX11_takeDigit_45 ?_
        refine z_getI hG dX11_takeDigit_46 FL_X11_212 rfl rfl (kk := 25) rfl ?_
        rw [zMS_p]
        refine z_aload_n (i := 0) hG dX11_takeDigit_49 rfl rfl ?_
        refine z_getI hG dX11_takeDigit_50 FL_X11_218 rfl rfl (kk := 26) rfl ?_
        rw [zMS_w]
        refine z_if_eq hG dX11_takeDigit_53 (tgt := 60) rfl (fun zcq53 => ?_) (fun zcq53 => ?_)
        · try simp only [zite_eq0, ne_eq, Classical.not_not] at zcq53
          refine z_iconst hG dX11_takeDigit_60 rfl ?_
          refine z_iadd hG dX11_takeDigit_61 (by omega) (by omega) ?_
          try rw [Int.add_zero]
          refine z_put hG dX11_takeDigit_62 FP_X11_212 rfl rfl (kk := 25) rfl ?_
          refine z_mem zMS_sp ?_
          refine z_aload_n (i := 0) hG dX11_takeDigit_65 rfl rfl ?_
          refine z_getI hG dX11_takeDigit_66 FL_X11_218 rfl rfl (kk := 26) rfl ?_
          rw [zMS_w]
          refine z_if_eq hG dX11_takeDigit_69 (tgt := 76) rfl (fun zcq69 => ?_) (fun zcq69 => ?_)
          · try simp only [zite_eq0, ne_eq, Classical.not_not] at zcq69
            refine z_iload_n (i := 3) hG dX11_takeDigit_76 rfl rfl ?_
            refine z_iret hG hE dX11_takeDigit_77 trivial ?_
            first
            | (exfalso; omega; done)
            | exact absurd trivial zcq53
            | exact absurd trivial zcq69
            | (refine ⟨true, ⟨fun _ => ⟨by omega, by omega, by assumption⟩, fun _ => rfl⟩, rfl, rfl⟩; done)
            | (refine ⟨false, ⟨fun z => absurd z (by decide), fun z => ?_⟩, rfl, rfl⟩
               exfalso
               first
               | (omega; done)
               | exact absurd (by assumption) z.2.2)
          · try simp only [zite_eq0, ne_eq, Classical.not_not] at zcq69
            refine z_iconst hG dX11_takeDigit_72 rfl ?_
            refine z_goto hG dX11_takeDigit_73 (tgt := 77) rfl ?_
            refine z_iret hG hE dX11_takeDigit_77 trivial ?_
            first
            | (exfalso; omega; done)
            | exact absurd trivial zcq53
            | exact absurd trivial zcq69
            | (refine ⟨true, ⟨fun _ => ⟨by omega, by omega, by assumption⟩, fun _ => rfl⟩, rfl, rfl⟩; done)
            | (refine ⟨false, ⟨fun z => absurd z (by decide), fun z => ?_⟩, rfl, rfl⟩
               exfalso
               first
               | (omega; done)
               | exact absurd (by assumption) z.2.2)
        · try simp only [zite_eq0, ne_eq, Classical.not_not] at zcq53
          refine z_iconst hG dX11_takeDigit_56 rfl ?_
          refine z_goto hG dX11_takeDigit_57 (tgt := 61) rfl ?_
          refine z_iadd hG dX11_takeDigit_61 (by omega) (by omega) ?_
          try rw [Int.add_zero]
          refine z_put hG dX11_takeDigit_62 FP_X11_212 rfl rfl (kk := 25) rfl ?_
          refine z_mem zMS_sp ?_
          refine z_aload_n (i := 0) hG dX11_takeDigit_65 rfl rfl ?_
          refine z_getI hG dX11_takeDigit_66 FL_X11_218 rfl rfl (kk := 26) rfl ?_
          rw [zMS_w]
          refine z_if_eq hG dX11_takeDigit_69 (tgt := 76) rfl (fun zcq69 => ?_) (fun zcq69 => ?_)
          · try simp only [zite_eq0, ne_eq, Classical.not_not] at zcq69
            refine z_iload_n (i := 3) hG dX11_takeDigit_76 rfl rfl ?_
            refine z_iret hG hE dX11_takeDigit_77 trivial ?_
            first
            | (exfalso; omega; done)
            | exact absurd trivial zcq53
            | exact absurd trivial zcq69
            | (refine ⟨true, ⟨fun _ => ⟨by omega, by omega, by assumption⟩, fun _ => rfl⟩, rfl, rfl⟩; done)
            | (refine ⟨false, ⟨fun z => absurd z (by decide), fun z => ?_⟩, rfl, rfl⟩
               exfalso
               first
               | (omega; done)
               | exact absurd (by assumption) z.2.2)
          · try simp only [zite_eq0, ne_eq, Classical.not_not] at zcq69
            refine z_iconst hG dX11_takeDigit_72 rfl ?_
            refine z_goto hG dX11_takeDigit_73 (tgt := 77) rfl ?_
            refine z_iret hG hE dX11_takeDigit_77 trivial ?_
            first
            | (exfalso; omega; done)
            | exact absurd trivial zcq53
            | exact absurd trivial zcq69
            | (refine ⟨true, ⟨fun _ => ⟨by omega, by omega, by assumption⟩, fun _ => rfl⟩, rfl, rfl⟩; done)
            | (refine ⟨false, ⟨fun z => absurd z (by decide), fun z => ?_⟩, rfl, rfl⟩
               exfalso
               first
               | (omega; done)
               | exact absurd (by assumption) z.2.2)
set_option maxRecDepth 20000 in
theorem ct_X11_takeAmount (l : Launch) (g : zG) {m : zM} {p : Int} {N : Int → Int} {L : Int} (hT : zTm m N L) (hp : 0 ≤ p ∧ p ≤ L) (hn : 97 ≤ N p ∧ N p ≤ 104) : zMet l g Y_X11_takeAmount [zr 11 0 0] (zMS m p 0) (fun v m' => v = none ∧ ((0 < m 62 0 0 (N p - 97) ∧ m' = zMS m p 1) ∨ (m 62 0 0 (N p - 97) ≤ 0 ∧ ∃ p' w' x : Int, m' = zMS (zset m 62 0 0 (N p - 97) x) p' w' ∧ (w' = 0 ∨ w' = 1) ∧ (0 ≤ p' ∧ p' ≤ L) ∧ p' = (zNum N 500 (p + 1)).1 ∧ ((zNum N 500 (p + 1)).2.2 = 1 → w' = 0 ∧ x = (zNum N 500 (p + 1)).2.1) ∧ ((zNum N 500 (p + 1)).2.2 ≠ 1 → w' = 1 ∨ 0 ≤ zdg N p')))) := by
  refine zMet_introF (by decide +kernel) (Nat.le_of_ble_eq_true rfl) (ls0 := [some (zr 11 0 0), none]) rfl fun X hG hE => ?_
  have hG : zGood X l g RX11 cX11_takeAmount 2 2 := hG
  have hE : zEnd X (none) _ := hE
  have h80 := hT.1
  have hlp := hT.2.2.2.2 p (by omega)
  refine z_aload_n (i := 0) hG dX11_takeAmount_0 rfl rfl ?_
  refine z_callV hG dX11_takeAmount_1 LV_X11_222 (ct_X11_next l g hT (by omega)) (by decide) rfl rfl rfl (Nat.le_of_ble_eq_true rfl) ?_
  intro v9 m9 h9
  rw [h9.1, h9.2]
  clear h9 m9 v9
  refine z_bipush hG dX11_takeAmount_4 rfl ?_
  refine z_isub hG dX11_takeAmount_6 (by omega) (by omega) ?_
  refine z_istore_n (i := 1) hG dX11_takeAmount_7 rfl (by decide) (ls2 := [_, _]) rfl ?_
  refine z_aload_n (i := 0) hG dX11_takeAmount_8 rfl rfl ?_
  refine z_aload_n (i := 0) hG dX11_takeAmount_9 rfl rfl ?_
  refine z_get_11_28 hG dX11_takeAmount_10 FL_X11_62 ?_
  refine z_iload_n (i := 1) hG dX11_takeAmount_13 rfl rfl ?_
  refine z_iald hG dX11_takeAmount_14 rfl rfl (by omega) (by omega) ?_
  rw [zMS_o (by omega)]
  refine z_if_le hG dX11_takeAmount_15 (tgt := 22) rfl (fun zcq15 => ?_) (fun zcq15 => ?_)
  · refine z_iconst hG dX11_takeAmount_22 rfl ?_
    refine z_putB hG dX11_takeAmount_23 FP_X11_218 rfl rfl (kk := 26) rfl (by first | exact Or.inl rfl | exact Or.inr rfl) ?_
    refine z_mem zMS_sw ?_
    refine z_aload_n (i := 0) hG dX11_takeAmount_26 rfl rfl ?_
    refine z_getI hG dX11_takeAmount_27 FL_X11_218 rfl rfl (kk := 26) rfl ?_
    rw [zMS_w]
    refine z_if_ne hG dX11_takeAmount_30 (tgt := 56) rfl (fun zcq30 => ?_) (fun zcq30 => ?_)
    · try simp only [zite_eq0, ne_eq, Classical.not_not] at zcq30
      first | refine z_mem (zMS_so (by omega)) ?_ | skip
      refine z_vret hG hE dX11_takeAmount_56 ?_
      first
      | (exfalso; omega; done)
      | exact absurd trivial zcq30
      | exact ⟨rfl, Or.inl ⟨by omega, rfl⟩⟩
      | (obtain ⟨g1, g2, g3⟩ := h9g rfl
         exact ⟨rfl, Or.inr ⟨by omega, p', w', x, rfl, h9c, h9e, g1, g2, g3⟩⟩)
    · try simp only [zite_eq0, ne_eq, Classical.not_not] at zcq30
      refine z_aload_n (i := 0) hG dX11_takeAmount_33 rfl rfl ?_
      first | refine z_dup_r hG dX11_takeAmount_34 ?_ | refine z_dup_i hG dX11_takeAmount_34 ?_
      refine z_getI hG dX11_takeAmount_35 FL_X11_212 rfl rfl (kk := 25) rfl ?_
      rw [zMS_p]
      refine z_iconst hG dX11_takeAmount_38 rfl ?_
      refine z_iadd hG dX11_takeAmount_39 (by omega) (by omega) ?_
      refine z_put hG dX11_takeAmount_40 FP_X11_212 rfl rfl (kk := 25) rfl ?_
      refine z_mem zMS_sp ?_
      refine z_aload_n (i := 0) hG dX11_takeAmount_43 rfl rfl ?_
      refine z_get_11_28 hG dX11_takeAmount_44 FL_X11_62 ?_
      refine z_iload_n (i := 1) hG dX11_takeAmount_47 rfl rfl ?_
      refine z_aload_n (i := 0) hG dX11_takeAmount_48 rfl rfl ?_
      refine z_sipush hG dX11_takeAmount_49 rfl ?_
      refine z_callV hG dX11_takeAmount_52 LV_X11_225 (ct_X11_takeNumber l g (high := 500) hT ⟨by omega, by omega⟩ (by first | exact Or.inl rfl | exact Or.inr rfl) (by decide)) (by decide) rfl rfl rfl (Nat.le_of_ble_eq_true rfl) ?_
      intro v9 m9 h9
      obtain ⟨p', w', x, h9a, h9b, h9c, h9d, h9e, h9f, h9g⟩ := h9
      rw [h9a, h9b]
      clear h9a h9b m9 v9
      refine z_iast hG dX11_takeAmount_55 rfl rfl (by omega) (by omega) ?_
      first | refine z_mem (zMS_so (by omega)) ?_ | skip
      refine z_vret hG hE dX11_takeAmount_56 ?_
      first
      | (exfalso; omega; done)
      | exact absurd trivial zcq30
      | exact ⟨rfl, Or.inl ⟨by omega, rfl⟩⟩
      | (obtain ⟨g1, g2, g3⟩ := h9g rfl
         exact ⟨rfl, Or.inr ⟨by omega, p', w', x, rfl, h9c, h9e, g1, g2, g3⟩⟩)
  · refine z_iconst hG dX11_takeAmount_18 rfl ?_
    refine z_goto hG dX11_takeAmount_19 (tgt := 23) rfl ?_
    refine z_putB hG dX11_takeAmount_23 FP_X11_218 rfl rfl (kk := 26) rfl (by first | exact Or.inl rfl | exact Or.inr rfl) ?_
    refine z_mem zMS_sw ?_
    refine z_aload_n (i := 0) hG dX11_takeAmount_26 rfl rfl ?_
    refine z_getI hG dX11_takeAmount_27 FL_X11_218 rfl rfl (kk := 26) rfl ?_
    rw [zMS_w]
    refine z_if_ne hG dX11_takeAmount_30 (tgt := 56) rfl (fun zcq30 => ?_) (fun zcq30 => ?_)
    · try simp only [zite_eq0, ne_eq, Classical.not_not] at zcq30
      first | refine z_mem (zMS_so (by omega)) ?_ | skip
      refine z_vret hG hE dX11_takeAmount_56 ?_
      first
      | (exfalso; omega; done)
      | exact absurd trivial zcq30
      | exact ⟨rfl, Or.inl ⟨by omega, rfl⟩⟩
      | (obtain ⟨g1, g2, g3⟩ := h9g rfl
         exact ⟨rfl, Or.inr ⟨by omega, p', w', x, rfl, h9c, h9e, g1, g2, g3⟩⟩)
    · try simp only [zite_eq0, ne_eq, Classical.not_not] at zcq30
      refine z_aload_n (i := 0) hG dX11_takeAmount_33 rfl rfl ?_
      first | refine z_dup_r hG dX11_takeAmount_34 ?_ | refine z_dup_i hG dX11_takeAmount_34 ?_
      refine z_getI hG dX11_takeAmount_35 FL_X11_212 rfl rfl (kk := 25) rfl ?_
      rw [zMS_p]
      refine z_iconst hG dX11_takeAmount_38 rfl ?_
      refine z_iadd hG dX11_takeAmount_39 (by omega) (by omega) ?_
      refine z_put hG dX11_takeAmount_40 FP_X11_212 rfl rfl (kk := 25) rfl ?_
      refine z_mem zMS_sp ?_
      refine z_aload_n (i := 0) hG dX11_takeAmount_43 rfl rfl ?_
      refine z_get_11_28 hG dX11_takeAmount_44 FL_X11_62 ?_
      refine z_iload_n (i := 1) hG dX11_takeAmount_47 rfl rfl ?_
      refine z_aload_n (i := 0) hG dX11_takeAmount_48 rfl rfl ?_
      refine z_sipush hG dX11_takeAmount_49 rfl ?_
      refine z_callV hG dX11_takeAmount_52 LV_X11_225 (ct_X11_takeNumber l g (high := 500) hT ⟨by omega, by omega⟩ (by first | exact Or.inl rfl | exact Or.inr rfl) (by decide)) (by decide) rfl rfl rfl (Nat.le_of_ble_eq_true rfl) ?_
      intro v9 m9 h9
      obtain ⟨p', w', x, h9a, h9b, h9c, h9d, h9e, h9f, h9g⟩ := h9
      rw [h9a, h9b]
      clear h9a h9b m9 v9
      refine z_iast hG dX11_takeAmount_55 rfl rfl (by omega) (by omega) ?_
      first | refine z_mem (zMS_so (by omega)) ?_ | skip
      refine z_vret hG hE dX11_takeAmount_56 ?_
      first
      | (exfalso; omega; done)
      | exact absurd trivial zcq30
      | exact ⟨rfl, Or.inl ⟨by omega, rfl⟩⟩
      | (obtain ⟨g1, g2, g3⟩ := h9g rfl
         exact ⟨rfl, Or.inr ⟨by omega, p', w', x, rfl, h9c, h9e, g1, g2, g3⟩⟩)
