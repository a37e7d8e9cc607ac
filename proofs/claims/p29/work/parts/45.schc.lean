/-- a menu's steps: 0 whether a place has one, 1 how long it lasts, 2 its hands, 3 the steps before it, 4 its tail -/
abbrev zE : Type := Nat → Int → Int
def zrdy (E : zE) (b : Int → Int) (q t : Int) : Prop := ∀ k : Int, 0 ≤ k → k < 8 → zbit (E 3 q) k → b (q - q % 8 + k) ≠ -6 ∧ b (q - q % 8 + k) + E 1 (q - q % 8 + k) ≤ t
def zcnd (E : zE) (t f : Int) (b : Int → Int) (q : Int) : Prop := (0 ≤ q ∧ q < 32) ∧ E 0 q = 1 ∧ b q = -6 ∧ E 2 q ≤ f ∧ zrdy E b q t
def zahd (E : zE) (q r : Int) : Prop := E 4 r < E 4 q ∨ (E 4 r = E 4 q ∧ q < r)
def zupd (b : Int → Int) (q t : Int) : Int → Int := fun p => if p = q then t else b p
/-- as long as one can begin, the best one begins -/
def zGr (E : zE) (t : Int) : Nat → Int → (Int → Int) → (Int → Int) → Prop
  | 0, f, b, b' => (∀ q, ¬ zcnd E t f b q) ∧ b' = b
  | n + 1, f, b, b' => ∃ q, zcnd E t f b q ∧ (∀ r, zcnd E t f b r → r ≠ q → zahd E q r) ∧ zGr E t n (f - E 2 q) (zupd b q t) b'
def zEok (E : zE) : Prop := ∀ q : Int, 0 ≤ q → q < 32 → E 0 q = 1 → (1 ≤ E 1 q ∧ E 1 q ≤ 5000) ∧ (0 ≤ E 2 q ∧ E 2 q ≤ 3) ∧ (∀ k : Int, 0 ≤ k → k < 8 → zbit (E 3 q) k → k < q % 8 ∧ E 0 (q - q % 8 + k) = 1) ∧ (0 ≤ E 4 q ∧ E 4 q ≤ 50000)
/-- the schedule's arrays hold the menu's steps -/
def zEm (E : zE) (m : zM) : Prop := ∀ q : Int, 0 ≤ q → q < 32 → E 0 q = 1 → m 41 0 0 q = E 1 q ∧ m 42 0 0 q = E 2 q ∧ m 43 0 0 q = E 3 q ∧ m 39 0 0 q = E 4 q
/-- the order holds the menu's places, best first -/
def zOr (E : zE) (m : zM) : Prop := (∀ j : Int, 0 ≤ j → j < m 10 0 0 7 → E 0 (m 44 0 0 j) = 1) ∧ (∀ q : Int, 0 ≤ q → q < 32 → E 0 q = 1 → ∃ j : Int, 0 ≤ j ∧ j < m 10 0 0 7 ∧ m 44 0 0 j = q) ∧ (∀ i j : Int, 0 ≤ i → i < j → j < m 10 0 0 7 → zahd E (m 44 0 0 i) (m 44 0 0 j)) ∧ (∀ f : Int → Int, zsum (m 10 0 0 7).toNat (fun j => f (m 44 0 0 j)) = zsum 32 (fun p => if E 0 p = 1 then f p else 0))
def zbz (E : zE) (b : Int → Int) (t : Int) : Int := zsum 32 (fun p => if E 0 p = 1 then (if b p ≠ -6 ∧ t < b p + E 1 p then E 2 p else 0) else 0)
def zrw (m : zM) (b : Int → Int) : zM := fun t s i k => if t = 40 ∧ s = 0 ∧ i = 0 then b k else m t s i k
theorem zrw_o {m : zM} {b : Int → Int} {t : Nat} {s i k : Int} (h : t ≠ 40) : zrw m b t s i k = m t s i k := by simp [zrw, h]
theorem zrw_b {m : zM} {b : Int → Int} : zrw m b 40 0 0 = b := by funext k; simp [zrw]
theorem zrw_id {m : zM} : zrw m (m 40 0 0) = m := by
  funext t s i k
  simp only [zrw]
  split
  · next h => rw [h.1, h.2.1, h.2.2]
  · rfl
theorem zrw_set {m : zM} {b : Int → Int} {q t : Int} : zset (zrw m b) 40 0 0 q t = zrw m (zupd b q t) := by
  funext t' s' i' k'
  simp only [zset, zrw, zupd]
  grind
theorem zcnd_less {E : zE} (hE : zEok E) {t f : Int} {b : Int → Int} {q r : Int} (ht : 0 ≤ t) (hq : zcnd E t f b q) (h : zcnd E t (f - E 2 q) (zupd b q t) r) : zcnd E t f b r ∧ r ≠ q := by
  obtain ⟨h0, h1, h2, h3, h4⟩ := h
  have hne : r ≠ q := by
    rintro rfl
    simp only [zupd, if_true] at h2
    omega
  have hq2 := (hE q hq.1.1 hq.1.2 hq.2.1).2.1
  refine ⟨⟨h0, h1, by simpa [zupd, hne] using h2, by omega, fun k k0 k1 kb => ?_⟩, hne⟩
  have h5 := h4 k k0 k1 kb
  have h6 := ((hE r h0.1 h0.2 h1).2.2.1 k k0 k1 kb)
  simp only [zupd] at h5
  by_cases e : r - r % 8 + k = q
  · rw [if_pos e, e] at h5
    have := (hE q hq.1.1 hq.1.2 hq.2.1).1
    omega
  · rw [if_neg e] at h5
    exact h5
theorem zGr_det {E : zE} {t : Int} : ∀ (n n' : Nat) (f : Int) (b b1 b2 : Int → Int), zGr E t n f b b1 → zGr E t n' f b b2 → b1 = b2
  | 0, 0, _, _, _, _, h1, h2 => by rw [h1.2, h2.2]
  | 0, _ + 1, _, _, _, _, h1, h2 => by obtain ⟨q, hq, -⟩ := h2; exact absurd hq (h1.1 q)
  | _ + 1, 0, _, _, _, _, h1, h2 => by obtain ⟨q, hq, -⟩ := h1; exact absurd hq (h2.1 q)
  | n + 1, n' + 1, f, b, b1, b2, h1, h2 => by
    obtain ⟨q, hq, hb, hr⟩ := h1
    obtain ⟨q', hq', hb', hr'⟩ := h2
    have e : q = q' := by
      by_cases e : q' = q
      · exact e.symm
      · have a1 := hb q' hq' e
        have a2 := hb' q hq (fun z => e z.symm)
        simp only [zahd] at a1 a2
        omega
    subst e
    exact zGr_det n n' _ _ _ _ hr hr'
theorem zbsy_sum {E : zE} {m : zM} {b : Int → Int} {t : Int} (hm : zEm E m) (ho : zodr m) (hO : zOr E m) : zsum (m 10 0 0 7).toNat (zbsy (zrw m b) t) = zbz E b t := by
  have e := hO.2.2.2 (fun p => if b p ≠ -6 ∧ t < b p + E 1 p then E 2 p else 0)
  rw [zbz, ← e]
  have h : ∀ n : Nat, (n : Int) ≤ m 10 0 0 7 → zsum n (zbsy (zrw m b) t) = zsum n (fun j => (fun p => if b p ≠ -6 ∧ t < b p + E 1 p then E 2 p else 0) (m 44 0 0 j)) := by
    intro n
    induction n with
    | zero => intro _; rfl
    | succ n ih =>
      intro hn
      have h1 := ho.2 n (by omega) (by omega)
      have h2 := hm _ h1.1 h1.2 (hO.1 n (by omega) (by omega))
      rw [zsum, zsum, ih (by omega)]
      simp only [zbsy, zrw_o (show (44 : Nat) ≠ 40 by decide), zrw_b, zrw_o (show (41 : Nat) ≠ 40 by decide), zrw_o (show (42 : Nat) ≠ 40 by decide), h2]
  exact h _ (by have := ho.1; omega)
set_option maxRecDepth 20000 in
theorem ct_X5_beginAt (l : Launch) (g : zG) {E : zE} {m : zM} {b : Int → Int} {t h : Int} (hs : zsch m) (ho : zodr m) (hEE : zEok E) (hm : zEm E m) (hO : zOr E m) (hb : ∀ j : Int, 0 ≤ j → j < 32 → -6 ≤ b j ∧ b j ≤ 300000) (ht : 0 ≤ t ∧ t ≤ 300000) (hh : 0 ≤ h ∧ h ≤ 6) : zMet l g Y_X5_beginAt [zr 10 0 0, zi t, zi h] (zrw m b) (fun v m' => v = none ∧ ∃ b' n, zGr E t n (h - zbz E b t) b b' ∧ (∀ j : Int, 0 ≤ j → j < 32 → b' j = b j ∨ (b j = -6 ∧ b' j = t)) ∧ m' = zrw m b') := by
  refine zMet_introF (by decide +kernel) (Nat.le_of_ble_eq_true rfl) (ls0 := [some (zr 10 0 0), some (zi t), some (zi h), none, none, none]) rfl fun X hG hE => ?_
  have hG : zGood X l g RX5 cX5_beginAt 2 6 := hG
  have hE : zEnd X (none) _ := hE
  have hs0 : ∀ b' : Int → Int, zsch (zrw m b') := fun b' j h0 h1 => by
    rw [zrw_o (by decide), zrw_o (by decide), zrw_o (by decide)]
    exact hs j h0 h1
  have ho0 : ∀ b' : Int → Int, zodr (zrw m b') := fun b' => by
    refine ⟨by rw [zrw_o (by decide)]; exact ho.1, fun j h0 h1 => ?_⟩
    rw [zrw_o (by decide)] at h1 ⊢
    exact ho.2 j h0 h1
  have hb0 : ∀ b' : Int → Int, (∀ j : Int, 0 ≤ j → j < 32 → b' j = b j ∨ (b j = -6 ∧ b' j = t)) → zbgn (zrw m b') := fun b' hbb j h0 h1 => by
    rw [zrw_b]
    have := hb j h0 h1
    have := hbb j h0 h1
    omega
  have loop : ∀ (n k : Nat) (f : Int) (b1 : Int → Int), k + n = (m 10 0 0 7).toNat → (-100 ≤ f + 3 * k ∧ f ≤ 6) → (∀ j : Int, 0 ≤ j → j < 32 → b1 j = b j ∨ (b j = -6 ∧ b1 j = t)) → (∀ j : Int, 0 ≤ j → j < k → ¬ zcnd E t f b1 (m 44 0 0 j)) → (∀ (n' : Nat) (b' : Int → Int), zGr E t n' f b1 b' → ∃ n2, zGr E t n2 (h - zbz E b t) b b') → zZ X 11 [some (zr 10 0 0), some (zi t), some (zi h), some (zi f), some (zi k), none] [] (zrw m b1) := by
    intro n
    induction n with
    | zero =>
      intro k f b1 hk hf hb1 hJ hC
      have h7 := ho.1
      refine z_iload hG dX5_beginAt_11 rfl ?_
      refine z_aload_n (i := 0) hG dX5_beginAt_13 rfl rfl ?_
      refine z_getI hG dX5_beginAt_14 FL_X5_30 rfl rfl (kk := 7) rfl ?_
      rw [zrw_o (by decide)]
      refine z_icmp_ge hG dX5_beginAt_17 (tgt := 93) rfl (fun c17 => ?_) (fun c17 => ?_)
      · refine z_vret hG hE dX5_beginAt_93 ?_
        have hno : ∀ q, ¬ zcnd E t f b1 q := fun q hq => by
          obtain ⟨j, j0, j1, rfl⟩ := hO.2.1 q hq.1.1 hq.1.2 hq.2.1
          exact hJ j j0 (by omega) hq
        obtain ⟨n2, h2⟩ := hC 0 b1 ⟨hno, rfl⟩
        exact ⟨rfl, b1, n2, h2, hb1, rfl⟩
      · exact absurd c17 (by omega)
    | succ n ih =>
      intro k f b1 hk hf hb1 hJ hC
      have h7 := ho.1
      have hq := ho.2 k (by omega) (by omega)
      have hon := hO.1 k (by omega) (by omega)
      have hmq := hm _ hq.1 hq.2 hon
      have hEq := hEE _ hq.1 hq.2 hon
      have skip : ¬ zcnd E t f b1 (m 44 0 0 k) → zZ X 11 [some (zr 10 0 0), some (zi t), some (zi h), some (zi f), some (zi ((k + 1 : Nat) : Int)), none] [] (zrw m b1) := fun hc => by
        refine ih (k + 1) f b1 (by omega) (by omega) hb1 (fun j h0 h1 => ?_) hC
        rcases (show j < k ∨ j = k by omega) with z | rfl
        · exact hJ j h0 z
        · exact hc
      refine z_iload hG dX5_beginAt_11 rfl ?_
      refine z_aload_n (i := 0) hG dX5_beginAt_13 rfl rfl ?_
      refine z_getI hG dX5_beginAt_14 FL_X5_30 rfl rfl (kk := 7) rfl ?_
      rw [zrw_o (by decide)]
      refine z_icmp_ge hG dX5_beginAt_17 (tgt := 93) rfl (fun c17 => ?_) (fun c17 => ?_)
      · exact absurd c17 (by omega)
      · refine z_iload hG dX5_beginAt_20 rfl ?_
        refine z_bipush hG dX5_beginAt_22 rfl ?_
        refine z_icmp_ge hG dX5_beginAt_24 (tgt := 93) rfl (fun c24 => ?_) (fun c24 => ?_)
        · exact absurd c24 (by omega)
        · refine z_aload_n (i := 0) hG dX5_beginAt_27 rfl rfl ?_
          refine z_get_5_6 hG dX5_beginAt_28 FL_X5_27 ?_
          refine z_iload hG dX5_beginAt_31 rfl ?_
          refine z_iald hG dX5_beginAt_33 rfl rfl (by omega) (by omega) ?_
          rw [zrw_o (by decide)]
          refine z_istore hG dX5_beginAt_34 (by decide) (ls2 := [_, _, _, _, _, _]) rfl ?_
          refine z_aload_n (i := 0) hG dX5_beginAt_36 rfl rfl ?_
          refine z_get_5_1 hG dX5_beginAt_37 FL_X5_15 ?_
          refine z_iload hG dX5_beginAt_40 rfl ?_
          refine z_iald hG dX5_beginAt_42 rfl rfl (by omega) (by omega) ?_
          rw [zrw_b]
          refine z_bipush hG dX5_beginAt_43 rfl ?_
          refine z_icmp_ne hG dX5_beginAt_45 (tgt := 87) rfl (fun c45 => ?_) (fun c45 => ?_)
          · refine z_forget [true, true, true, true, true, false] rfl ?_
            refine z_iinc hG dX5_beginAt_87 (by decide) rfl (by omega) (by omega) (ls2 := [_, _, _, _, _, _]) rfl ?_
            refine z_goto hG dX5_beginAt_90 (tgt := 11) rfl ?_
            exact skip (fun z => c45 z.2.2.1)
          · refine z_aload_n (i := 0) hG dX5_beginAt_48 rfl rfl ?_
            refine z_get_5_4 hG dX5_beginAt_49 FL_X5_21 ?_
            refine z_iload hG dX5_beginAt_52 rfl ?_
            refine z_iald hG dX5_beginAt_54 rfl rfl (by omega) (by omega) ?_
            rw [zrw_o (by decide), hmq.2.1]
            refine z_iload_n (i := 3) hG dX5_beginAt_55 rfl rfl ?_
            refine z_icmp_gt hG dX5_beginAt_56 (tgt := 87) rfl (fun c56 => ?_) (fun c56 => ?_)
            · refine z_forget [true, true, true, true, true, false] rfl ?_
              refine z_iinc hG dX5_beginAt_87 (by decide) rfl (by omega) (by omega) (ls2 := [_, _, _, _, _, _]) rfl ?_
              refine z_goto hG dX5_beginAt_90 (tgt := 11) rfl ?_
              exact skip (fun z => by have := z.2.2.2.1; omega)
            · refine z_aload_n (i := 0) hG dX5_beginAt_59 rfl rfl ?_
              refine z_iload hG dX5_beginAt_60 rfl ?_
              refine z_iload_n (i := 1) hG dX5_beginAt_62 rfl rfl ?_
              refine z_callV hG dX5_beginAt_63 LV_X5_98 (ct_X5_isReady l g (hs0 b1) (hb0 b1 hb1) hq) (by decide) rfl rfl rfl (Nat.le_of_ble_eq_true rfl) ?_
              intro v9 m9 h9
              obtain ⟨q9, h9a, h9b, h9c, h9d⟩ := h9
              rw [h9a, h9b]
              clear h9a h9b m9 v9
              have h9e : (q9 = 1 ↔ zrdy E b1 (m 44 0 0 k) t) := by
                rw [h9d, zrdy]
                simp only [zrw_b, zrw_o (show (43 : Nat) ≠ 40 by decide), zrw_o (show (41 : Nat) ≠ 40 by decide), hmq.2.2.1]
                constructor
                · intro hh2 k' k0 k1 kb
                  have hx := hh2 k' k0 k1 kb
                  have hy := hEq.2.2.1 k' k0 k1 kb
                  rw [← (hm (m 44 0 0 k - m 44 0 0 k % 8 + k') (by omega) (by omega) hy.2).1]
                  exact hx
                · intro hh2 k' k0 k1 kb
                  have hx := hh2 k' k0 k1 kb
                  have hy := hEq.2.2.1 k' k0 k1 kb
                  rw [(hm (m 44 0 0 k - m 44 0 0 k % 8 + k') (by omega) (by omega) hy.2).1]
                  exact hx
              refine z_if_eq hG dX5_beginAt_66 (tgt := 87) rfl (fun c66 => ?_) (fun c66 => ?_)
              · try simp only [zite_eq0, ne_eq, Classical.not_not] at c66
                refine z_forget [true, true, true, true, true, false] rfl ?_
                refine z_iinc hG dX5_beginAt_87 (by decide) rfl (by omega) (by omega) (ls2 := [_, _, _, _, _, _]) rfl ?_
                refine z_goto hG dX5_beginAt_90 (tgt := 11) rfl ?_
                exact skip (fun z => by have := h9e.mpr z.2.2.2.2; omega)
              · try simp only [zite_eq0, ne_eq, Classical.not_not] at c66
                refine z_aload_n (i := 0) hG dX5_beginAt_69 rfl rfl ?_
                refine z_get_5_1 hG dX5_beginAt_70 FL_X5_15 ?_
                refine z_iload hG dX5_beginAt_73 rfl ?_
                refine z_iload_n (i := 1) hG dX5_beginAt_75 rfl rfl ?_
                refine z_iast hG dX5_beginAt_76 rfl rfl (by omega) (by omega) ?_
                refine z_iload_n (i := 3) hG dX5_beginAt_77 rfl rfl ?_
                refine z_aload_n (i := 0) hG dX5_beginAt_78 rfl rfl ?_
                refine z_get_5_4 hG dX5_beginAt_79 FL_X5_21 ?_
                refine z_iload hG dX5_beginAt_82 rfl ?_
                refine z_iald hG dX5_beginAt_84 rfl rfl (by omega) (by omega) ?_
                rw [zrw_set, zrw_o (by decide), hmq.2.1]
                refine z_isub hG dX5_beginAt_85 (by omega) (by omega) ?_
                refine z_istore_n (i := 3) hG dX5_beginAt_86 rfl (by decide) (ls2 := [_, _, _, _, _, _]) rfl ?_
                refine z_iinc hG dX5_beginAt_87 (by decide) rfl (by omega) (by omega) (ls2 := [_, _, _, _, _, _]) rfl ?_
                refine z_goto hG dX5_beginAt_90 (tgt := 11) rfl ?_
                have hcq : zcnd E t f b1 (m 44 0 0 k) := ⟨hq, hon, c45, c56, h9e.mp (by omega)⟩
                refine z_forget [true, true, true, true, true, false] rfl (ih (k + 1) _ (zupd b1 (m 44 0 0 k) t) (by omega) ⟨by omega, by omega⟩ (fun j h0 h1 => ?_) (fun j h0 h1 hc => ?_) (fun n' b' hg => hC (n' + 1) b' ⟨m 44 0 0 k, hcq, fun r hr hne => ?_, hg⟩))
                · simp only [zupd]
                  have := hb1 j h0 h1
                  split
                  · next e => rw [e] at this ⊢; right; exact ⟨by omega, rfl⟩
                  · exact this
                · have hl := zcnd_less hEE ht.1 hcq hc
                  rcases (show j < k ∨ j = k by omega) with z | rfl
                  · exact hJ j h0 z hl.1
                  · exact hl.2 rfl
                · obtain ⟨j, j0, j1, rfl⟩ := hO.2.1 r hr.1.1 hr.1.2 hr.2.1
                  rcases (show j < k ∨ j = k ∨ k < j by omega) with z | z | z
                  · exact absurd hr (hJ j j0 z)
                  · rw [z] at hne; exact absurd rfl hne
                  · exact hO.2.2.1 k j (by omega) z j1
  refine z_iload_n (i := 2) hG dX5_beginAt_0 rfl rfl ?_
  refine z_aload_n (i := 0) hG dX5_beginAt_1 rfl rfl ?_
  refine z_iload_n (i := 1) hG dX5_beginAt_2 rfl rfl ?_
  refine z_callV hG dX5_beginAt_3 LV_X5_95 (ct_X5_busyHands l g (hs0 b) (hb0 b (fun j _ _ => Or.inl rfl)) (ho0 b)) (by decide) rfl rfl rfl (Nat.le_of_ble_eq_true rfl) ?_
  intro v9 m9 h9
  rw [h9.1, h9.2]
  clear h9 m9 v9
  rw [zrw_o (by decide), zbsy_sum hm ho hO]
  have hz : 0 ≤ zbz E b t ∧ zbz E b t ≤ 3 * 32 := zsum_le (B := 3) 32 (fun j h0 h1 => by
    split
    · next e => have := (hEE j h0 h1 e).2.1; split <;> omega
    · omega)
  refine z_isub hG dX5_beginAt_6 (by omega) (by omega) ?_
  refine z_istore_n (i := 3) hG dX5_beginAt_7 rfl (by decide) (ls2 := [_, _, _, _, _, _]) rfl ?_
  refine z_iconst hG dX5_beginAt_8 rfl ?_
  refine z_istore hG dX5_beginAt_9 (by decide) (ls2 := [_, _, _, _, _, _]) rfl ?_
  exact loop (m 10 0 0 7).toNat 0 _ b (by omega) ⟨by omega, by omega⟩ (fun j _ _ => Or.inl rfl) (fun j h0 h1 => absurd h0 (by omega)) (fun n' b' hg => ⟨n', hg⟩)
