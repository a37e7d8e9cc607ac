theorem zrbor0 : ∀ b : Fin 256, ∀ d : Fin 8, (0 ≤ zor ((b.val : Nat) : Int) (zshl 1 ((d.val : Nat) : Int)) ∧ zor ((b.val : Nat) : Int) (zshl 1 ((d.val : Nat) : Int)) < 256) ∧ ∀ j : Fin 8, zand (zshr (zor ((b.val : Nat) : Int) (zshl 1 ((d.val : Nat) : Int))) ((j.val : Nat) : Int)) 1 = 1 → j = d ∨ zand (zshr ((b.val : Nat) : Int) ((j.val : Nat) : Int)) 1 = 1 := by decide +kernel
theorem zrbor {b d : Int} (hb : 0 ≤ b ∧ b < 256) (hd : 0 ≤ d ∧ d < 8) : (0 ≤ zor b (zshl 1 d) ∧ zor b (zshl 1 d) < 256) ∧ ∀ j : Int, 0 ≤ j → j < 8 → zand (zshr (zor b (zshl 1 d)) j) 1 = 1 → j = d ∨ zand (zshr b j) 1 = 1 := by
  have h := zrbor0 ⟨b.toNat, by omega⟩ ⟨d.toNat, by omega⟩
  have eb : ((b.toNat : Nat) : Int) = b := by omega
  have ed : ((d.toNat : Nat) : Int) = d := by omega
  simp only [eb, ed] at h
  refine ⟨h.1, fun j j0 j1 hj => ?_⟩
  have ej : ((j.toNat : Nat) : Int) = j := by omega
  rcases h.2 ⟨j.toNat, by omega⟩ (by simp only [ej]; exact hj) with q | q
  · have := congrArg Fin.val q
    simp only at this
    exact Or.inl (by omega)
  · simp only [ej] at q
    exact Or.inr q
theorem zBf_ok {N : Int → Int} {k : Int} (hk : k ≤ 8) : ∀ (n : Nat) (p b : Int), (0 ≤ b ∧ b < 256) → (∀ j : Int, 0 ≤ j → j < 8 → zand (zshr b j) 1 = 1 → j < k) → (zBf N k n p b).2.2 = 1 → ∀ j : Int, 0 ≤ j → j < 8 → zand (zshr (zBf N k n p b).2.1 j) 1 = 1 → j < k
  | 0, p, b, _, hb, _ => hb
  | n + 1, p, b, hB, hb, h => by
    rw [zBf] at h ⊢
    split at h
    · next c =>
      rw [if_pos c]
      split at h
      · next zcq2 =>
        rw [if_pos zcq2]
        have hz := zrbor hB (d := zdg N (p + 1)) ⟨zcq2.1, by omega⟩
        exact zBf_ok hk n _ _ hz.1 (fun j j0 j1 hj => by
          rcases hz.2 j j0 j1 hj with e | e
          · rw [e]; exact zcq2.2.1
          · exact hb j j0 j1 e) h
      · exact absurd h (by simp)
    · next c =>
      rw [if_neg c]
      exact hb
/-- a step that is good -/
def zsok (c : zM) (k : Int) : Prop := (1 ≤ c 5 9 k 0 ∧ c 5 9 k 0 ≤ 240) ∧ (0 ≤ c 5 9 k 1 ∧ c 5 9 k 1 ≤ 3) ∧ ∀ j : Int, 0 ≤ j → j < 8 → zand (zshr (c 5 9 k 2) j) 1 = 1 → j < k
theorem zb0 : ∀ j : Fin 8, ¬ zand (zshr 0 ((j.val : Nat) : Int)) 1 = 1 := by decide
theorem zSp_ok {m : zM} {k p : Int} (hk : 0 ≤ k ∧ k < 8) (hp : 0 ≤ p ∧ p ≤ 80) (h : (zSp (zN m) k p).2.1 = 1) : (1 ≤ (zSp (zN m) k p).2.2.1 ∧ (zSp (zN m) k p).2.2.1 ≤ 240) ∧ (0 ≤ (zSp (zN m) k p).2.2.2.1 ∧ (zSp (zN m) k p).2.2.2.1 ≤ 3) ∧ ∀ j : Int, 0 ≤ j → j < 8 → zand (zshr (zSp (zN m) k p).2.2.2.2.2 j) 1 = 1 → j < k := by
  have hn := zNum_bd (m := m) (most := 240) (by decide) hp
  unfold zSp at h ⊢
  dsimp only at h ⊢
  have h5 : ∀ q g : Int, (zs5 (zN m) k q g).2.2 = 1 → g = 1 ∧ ∀ j : Int, 0 ≤ j → j < 8 → zand (zshr (zs5 (zN m) k q g).2.1 j) 1 = 1 → j < k := fun q g hg => by
    unfold zs5 at hg ⊢
    split at hg
    · next c =>
      rw [if_pos c]
      exact ⟨c, zBf_ok (by omega) 8 q 0 (by decide) (fun j j0 j1 hj => by
        have := zb0 ⟨j.toNat, by omega⟩
        have ej : ((j.toNat : Nat) : Int) = j := by omega
        simp only [ej] at this
        exact absurd hj this) hg⟩
    · exact absurd hg (by simp)
  have h5' := h5 _ _ h
  refine ⟨?_, ?_, h5'.2⟩
  · have e := h5'.1
    clear h h5 h5'
    have e2 : (zs2 (zN m) (zNum (zN m) 240 p).1 (zNum (zN m) 240 p).2.2).2 = 1 := by
      generalize zs2 (zN m) (zNum (zN m) 240 p).1 (zNum (zN m) 240 p).2.2 = b at e
      simp only [zs3] at e
      split at e
      · next c => exact c.1
      · exact absurd e (by decide)
    have e3 : (zNum (zN m) 240 p).2.2 = 1 := by
      simp only [zs2] at e2
      split at e2
      · next c => exact c.1
      · exact absurd e2 (by decide)
    omega
  · have e := h5'.1
    clear h h5 h5' hn
    generalize zs2 (zN m) (zNum (zN m) 240 p).1 (zNum (zN m) 240 p).2.2 = b at e ⊢
    simp only [zs3] at e ⊢
    split at e
    · next c =>
      rw [if_pos c]
      exact c.2
    · exact absurd e (by decide)
theorem zSm_v {m : zM} {k p : Int} : zSm m k p 5 9 k 0 = (zSp (zN m) k p).2.2.1 ∧ zSm m k p 5 9 k 1 = (zSp (zN m) k p).2.2.2.1 ∧ zSm m k p 5 9 k 2 = (zSp (zN m) k p).2.2.2.2.2 ∧ zSm m k p 4 9 0 2 = k + 1 := by
  refine ⟨?_, ?_, ?_, ?_⟩ <;> simp [zSm, zset]
theorem zSm_u {m : zM} {k p : Int} {t : Nat} {s i q : Int} (h : ¬ (t = 5 ∧ i = k) ∧ ¬ (t = 4 ∧ q = 2)) : zSm m k p t s i q = m t s i q := by
  simp only [zSm, zset]
  rw [if_neg (by omega), if_neg (by omega), if_neg (by omega), if_neg (by omega), if_neg (by omega)]
/-- what is read so far is good, k steps of it -/
def zRg (c : zM) (k : Int) : Prop := (1 ≤ c 4 9 0 0 ∧ c 4 9 0 0 ≤ 20) ∧ c 4 9 0 1 = 0 ∧ c 4 9 0 2 = k ∧ (∀ j : Int, 0 ≤ j → j < 8 → 0 ≤ c 17 9 0 j ∧ c 17 9 0 j ≤ 500) ∧ ∀ j : Int, 0 ≤ j → j < k → zsok c j
theorem zAmL_g : ∀ (n : Nat) (p : Int) (m : zM), 0 ≤ p ∧ p ≤ 80 → zRg m 0 → (zAmL n p m).2.1 = 1 → zRg (zAmL n p m).2.2 0 ∧ 0 ≤ (zAmL n p m).1 ∧ (zAmL n p m).1 ≤ 80
  | 0, p, m, hp, hg, _ => ⟨hg, hp⟩
  | n + 1, p, m, hp, hg, h => by
    rw [zAmL] at h ⊢
    have hnm := zname_bd (N := zN m) (A := m 17 9 0) (p := p)
    split at h
    · next c =>
      rw [if_pos c]
      exact ⟨hg, hp⟩
    · next c =>
      rw [if_neg c]
      have hl := zN_lt (m := m) (p := p) (by omega)
      have hsb := zNum_bd (m := m) (most := 500) (p := p + 1) (by decide) ⟨by omega, by omega⟩
      split at h
      · next zcq2 =>
        rw [if_pos zcq2]
        refine zAmL_g n _ _ hsb.1 ⟨by simpa [zset] using hg.1, by simpa [zset] using hg.2.1, by simpa [zset] using hg.2.2.1, fun j j0 j1 => ?_, fun j j0 j1 => absurd j1 (by omega)⟩ h
        have := hg.2.2.2.1 j j0 j1
        simp only [zset]
        split <;> omega
      · exact absurd h (by simp)
theorem zStL_g : ∀ (n : Nat) (k p : Int) (m : zM), 0 ≤ k ∧ k + n = 8 → 0 ≤ p ∧ p ≤ 80 → zRg m k → (zStL n k p m).2.1 = 1 → ∃ k' : Int, (0 ≤ k' ∧ k' ≤ 8) ∧ zRg (zStL n k p m).2.2 k'
  | 0, k, p, m, hk, hp, hg, _ => ⟨k, by omega, hg⟩
  | n + 1, k, p, m, hk, hp, hg, h => by
    rw [zStL] at h ⊢
    split at h
    · next c =>
      rw [if_pos c]
      have hl := zN_lt (m := m) (p := p) (by omega)
      split at h
      · next zcq2 =>
        rw [if_pos zcq2]
        have hsb := zSp_bd (m := m) (k := k) (p := p + 1) ⟨by omega, by omega⟩
        have hok := zSp_ok (m := m) (k := k) (p := p + 1) ⟨by omega, by omega⟩ ⟨by omega, by omega⟩ zcq2
        have hv := zSm_v (m := m) (k := k) (p := p + 1)
        refine zStL_g n (k + 1) _ _ ⟨by omega, by omega⟩ hsb.1 ⟨?_, ?_, hv.2.2.2, fun j j0 j1 => ?_, fun j j0 j1 => ?_⟩ h
        · rw [zSm_u (by omega)]
          exact hg.1
        · rw [zSm_u (by omega)]
          exact hg.2.1
        · rw [zSm_u (by omega)]
          exact hg.2.2.2.1 j j0 j1
        · unfold zsok
          by_cases e : j = k
          · rw [e, hv.1, hv.2.1, hv.2.2.1]
            exact hok
          · rw [zSm_u (by omega), zSm_u (by omega), zSm_u (by omega)]
            exact hg.2.2.2.2 j j0 (by omega)
      · exact absurd h (by simp)
    · next c =>
      rw [if_neg c]
      exact ⟨k, by omega, hg⟩
theorem zRdm_g {m : zM} (h : zFlt m = -6) : ∃ k : Int, (0 ≤ k ∧ k ≤ 8) ∧ zRg (zRdm m) k := by
  have h1 : (zRead m).2.1 = 1 := by
    unfold zFlt at h
    split at h
    · next c => exact c.1
    · next c =>
      exfalso
      revert h
      unfold zRead
      have hsb := zNum_bd (m := m) (most := 20) (p := 0) (by decide) (by decide)
      have hA : ∀ (n : Nat) (p : Int) (m : zM), 0 ≤ p ∧ p ≤ 80 → 0 ≤ (zAmL n p m).1 ∧ (zAmL n p m).1 ≤ 80 := by
        intro n
        induction n with
        | zero => intro p m hp; exact hp
        | succ n ih =>
          intro p m hp
          rw [zAmL]
          have hnm := zname_bd (N := zN m) (A := m 17 9 0) (p := p)
          split
          · exact hp
          · have hl := zN_lt (m := m) (p := p) (by omega)
            have hsb := zNum_bd (m := m) (most := 500) (p := p + 1) (by decide) ⟨by omega, by omega⟩
            split
            · exact ih _ _ hsb.1
            · exact hsb.1
      have hS : ∀ (n : Nat) (k p : Int) (m : zM), 0 ≤ p ∧ p ≤ 80 → 0 ≤ (zStL n k p m).1 ∧ (zStL n k p m).1 ≤ 80 := by
        intro n
        induction n with
        | zero => intro k p m hp; exact hp
        | succ n ih =>
          intro k p m hp
          rw [zStL]
          split
          · have hl := zN_lt (m := m) (p := p) (by omega)
            have hsb := zSp_bd (m := m) (k := k) (p := p + 1) ⟨by omega, by omega⟩
            split
            · exact ih _ _ _ hsb.1
            · exact hsb.1
          · exact hp
      split
      · unfold zThen
        have hq := hA 8 _ (zset (zClr m) 4 9 0 0 (zNum (zN m) 20 0).2.1) hsb.1
        split
        · have := hS 8 0 _ (zAmL 8 (zNum (zN m) 20 0).1 (zset (zClr m) 4 9 0 0 (zNum (zN m) 20 0).2.1)).2.2 hq
          omega
        · omega
      · dsimp only
        omega
  have hR : ∃ k : Int, (0 ≤ k ∧ k ≤ 8) ∧ zRg (zRead m).2.2 k := by
    unfold zRead at h1 ⊢
    have hsb := zNum_bd (m := m) (most := 20) (p := 0) (by decide) (by decide)
    split at h1
    · next c =>
      rw [if_pos c]
      unfold zThen at h1 ⊢
      have hc : zRg (zset (zClr m) 4 9 0 0 (zNum (zN m) 20 0).2.1) 0 := by
        refine ⟨?_, by simp [zset, zClr, zfill], by simp [zset, zClr, zfill], fun j j0 j1 => ?_, fun j j0 j1 => absurd j1 (by omega)⟩
        · have e : zset (zClr m) 4 9 0 0 (zNum (zN m) 20 0).2.1 4 9 0 0 = (zNum (zN m) 20 0).2.1 := by simp [zset]
          rw [e]
          omega
        · have e : zset (zClr m) 4 9 0 0 (zNum (zN m) 20 0).2.1 17 9 0 j = 0 := by simp [zset, zClr, zfill]; omega
          rw [e]
          decide
      split at h1
      · next zcq2 =>
        rw [if_pos zcq2]
        have ha := zAmL_g 8 _ _ hsb.1 hc zcq2
        exact zStL_g 8 0 _ _ (by decide) ha.2 ha.1 h1
      · next zcq2 => exact absurd h1 zcq2
    · exact absurd h1 (by simp)
  obtain ⟨k, hk, hg⟩ := hR
  refine ⟨k, hk, ?_⟩
  unfold zRg zsok zRdm
  simp only [zRd_o (show (4 : Nat) ≠ 7 by decide), zRd_o (show (5 : Nat) ≠ 7 by decide), zRd_o (show (17 : Nat) ≠ 7 by decide)]
  exact hg
set_option maxRecDepth 20000 in
theorem zki_recipe {B : Int} {m : zM} (h : zInv B m) : zInv (B + 22000) (zk_recipe m).2 ∧ zOt (zk_recipe m).2 m := by
  have hF : zInv (B + 22000) (zRdm m) ∧ zOt (zRdm m) m := zki_fault h
  unfold zk_recipe
  split
  · exact hF
  split
  · exact hF
  split
  · exact hF
  next zcq1 zcq2 zcq3 =>
  have hc1 := Classical.not_not.mp zcq1
  have hc2 := Classical.not_not.mp zcq2
  obtain ⟨kk, hkk, hg⟩ := zRdm_g hc1
  have hz : ∀ k : Int, m 2 0 0 4 ≤ k → k < 8 → zRdm m 17 9 0 k = 0 := fun k k0 k1 => by
    have hb := hg.2.2.2.1 k (by have := (zInv0 h).2.2.1; omega) k1
    have hi := zgt_iff (f := zRdm m 17 9 0) (a := m 2 0 0 4) (zInv0 h).2.2.1.1 8
    by_cases e : 0 < zRdm m 17 9 0 k
    · exact absurd (hi.mpr ⟨k, k0, k1, e⟩) zcq3
    · omega
  have hb3 := hF.1.2.2.2.2.2.2
  have e4 : zrecd (zRdm m) 2 0 0 4 = m 2 0 0 4 := by rw [zrecd_0 hF.1.1.1.1 (by decide), zRdm_o (by decide) (by omega)]
  have e5 : zrecd (zRdm m) 2 0 0 5 = m 2 0 0 5 := by rw [zrecd_0 hF.1.1.1.1 (by decide), zRdm_o (by decide) (by omega)]
  have hb := zInv_recd hF.1
  have hbo := zOt_recd hF.2
  have hb0 := zInv0 hb
  have h9 : ∀ (t : Nat) (i k : Int), zrecd (zRdm m) t 9 i k = zRdm m t 9 i k := fun t i k => zrecd_7 hF.1.1.1.1 (by decide)
  rw [← e4] at hz
  clear hF zcq1 zcq3 hc1
  dsimp only
  rw [← e5] at hc2 ⊢
  unfold zRg zsok at hg
  simp only [← h9] at hg hz hb3
  clear e4 e5 h9 zcq2 h
  generalize zrecd (zRdm m) = b at *
  obtain ⟨hday, hhan, hing, hrcp, hrec, hboo, hrow, hrow2, hstp⟩ := id hb0
  obtain ⟨r, hr⟩ : ∃ r, r = b 2 0 0 5 := ⟨_, rfl⟩
  rw [← hr] at hc2 hrcp ⊢
  obtain ⟨g0, g1, g2, g3, g4⟩ := hg
  have ho : ∀ (t : Nat) (s i k : Int), ((t ≠ 4 ∧ t ≠ 17 ∧ t ≠ 5) ∨ s ≠ 0 ∨ ((t = 4 ∨ t = 17) ∧ i ≠ r) ∨ (t = 5 ∧ (i < 8 * r ∨ 8 * r + 8 ≤ i))) → (t ≠ 2 ∨ s ≠ 0 ∨ k ≠ 5) → t ≠ 6 → zset (zset (zcR b 0 r 9 0 8) 2 0 0 5 (r + 1)) 6 0 0 0 0 t s i k = b t s i k := fun t s i k h1 h2 h3 => by
    simp only [zset, zcR]
    rw [if_neg (by omega), if_neg (by omega), if_neg (by omega), if_neg (by omega)]
  have h4 : ∀ k : Int, 0 ≤ k → k < 3 → zset (zset (zcR b 0 r 9 0 8) 2 0 0 5 (r + 1)) 6 0 0 0 0 4 0 r k = b 4 9 0 k := fun k k0 k1 => by
    simp only [zset, zcR]
    rw [if_neg (by omega), if_neg (by omega), if_pos (by first | omega | (simp; done) | (simp; omega))]
  have h17 : ∀ k : Int, 0 ≤ k → k < 8 → zset (zset (zcR b 0 r 9 0 8) 2 0 0 5 (r + 1)) 6 0 0 0 0 17 0 r k = b 17 9 0 k := fun k k0 k1 => by
    simp only [zset, zcR]
    rw [if_neg (by omega), if_neg (by omega), if_pos (by first | omega | (simp; done) | (simp; omega))]
  have h5 : ∀ i k : Int, 8 * r ≤ i → i < 8 * r + 8 → 0 ≤ k → k < 4 → zset (zset (zcR b 0 r 9 0 8) 2 0 0 5 (r + 1)) 6 0 0 0 0 5 0 i k = b 5 9 (i - 8 * r) k := fun i k i0 i1 k0 k1 => by
    simp only [zset, zcR]
    rw [if_neg (by omega), if_neg (by omega), if_neg (by omega), if_pos (by first | omega | (simp; done) | (simp; omega)), show i - 8 * r + 8 * 0 = i - 8 * r by omega]
  have h25 : zset (zset (zcR b 0 r 9 0 8) 2 0 0 5 (r + 1)) 6 0 0 0 0 2 0 0 5 = r + 1 := by simp [zset]
  have h60 : zset (zset (zcR b 0 r 9 0 8) 2 0 0 5 (r + 1)) 6 0 0 0 0 6 0 0 0 = 0 := by simp [zset]
  generalize zset (zset (zcR b 0 r 9 0 8) 2 0 0 5 (r + 1)) 6 0 0 0 0 = n at *
  have hIS : zIS (B + 22000) n 0 := by
    have e3 : ∀ j k, n 3 0 j k = b 3 0 j k := fun j k => ho 3 0 j k (by omega) (by omega) (by omega)
    have e12 : ∀ j k, n 12 0 j k = b 12 0 j k := fun j k => ho 12 0 j k (by omega) (by omega) (by omega)
    have e13 : ∀ j k, n 13 0 j k = b 13 0 j k := fun j k => ho 13 0 j k (by omega) (by omega) (by omega)
    have e14 : ∀ j k, n 14 0 j k = b 14 0 j k := fun j k => ho 14 0 j k (by omega) (by omega) (by omega)
    unfold zIS zrec zbool zkin
    simp only [ho 2 0 0 0 (by omega) (by omega) (by omega), ho 2 0 0 1 (by omega) (by omega) (by omega), ho 2 0 0 4 (by omega) (by omega) (by omega), e3, e12, e13, e14, h25]
    refine ⟨hday, hhan, hing, by omega, fun q q0 q1 => ?_, ⟨hboo.1, fun i i0 i1 => ?_⟩, hrow, fun q q0 q1 => ?_, fun j j0 j1 j2 => ?_⟩
    · by_cases e : q = r
      · rw [e, h4 0 (by decide) (by decide), h4 1 (by decide) (by decide), h4 2 (by decide) (by decide)]
        exact ⟨by omega, by omega, by omega, fun k k0 k1 => by rw [h17 k k0 k1]; exact g3 k k0 k1⟩
      · have := hrec q q0 q1
        rw [ho 4 0 q 0 (by omega) (by omega) (by omega), ho 4 0 q 1 (by omega) (by omega) (by omega), ho 4 0 q 2 (by omega) (by omega) (by omega)]
        exact ⟨this.1, this.2.1, this.2.2.1, fun k k0 k1 => by rw [ho 17 0 q k (by omega) (by omega) (by omega)]; exact this.2.2.2 k k0 k1⟩
    · by_cases e : 8 * r ≤ i ∧ i < 8 * r + 8
      · rw [h5 i 3 e.1 e.2 (by decide) (by decide)]
        exact hb3 (i - 8 * r) (by omega) (by omega)
      · rw [ho 5 0 i 3 (by omega) (by omega) (by omega)]
        exact hboo.2 i i0 i1
    · by_cases e : q = r
      · rw [e, h4 0 (by decide) (by decide), h4 1 (by decide) (by decide)]
        exact ⟨fun k k0 k1 => by rw [h17 k (by omega) k1]; exact hz k k0 k1, fun _ => g1, fun _ => g0.1⟩
      · have := hrow2 q q0 q1
        rw [← hr] at this
        rw [ho 4 0 q 0 (by omega) (by omega) (by omega), ho 4 0 q 1 (by omega) (by omega) (by omega)]
        exact ⟨fun k k0 k1 => by rw [ho 17 0 q k (by omega) (by omega) (by omega)]; exact this.1 k k0 k1, fun z => this.2.1 (by omega), fun z => this.2.2 (by omega)⟩
    · by_cases e : j / 8 = r
      · rw [e, h4 2 (by decide) (by decide), g2] at j2
        rw [h5 j 0 (by omega) (by omega) (by decide) (by decide), h5 j 1 (by omega) (by omega) (by decide) (by decide), h5 j 2 (by omega) (by omega) (by decide) (by decide), show j % 8 = j - 8 * r by omega]
        exact g4 (j - 8 * r) (by omega) (by omega)
      · rw [ho 4 0 (j / 8) 2 (by omega) (by omega) (by omega)] at j2
        rw [ho 5 0 j 0 (by omega) (by omega) (by omega), ho 5 0 j 1 (by omega) (by omega) (by omega), ho 5 0 j 2 (by omega) (by omega) (by omega)]
        exact hstp j j0 j1 j2
  obtain ⟨q1, hsea, hs, hp, ht, hi, h9⟩ := id hb
  refine ⟨⟨by rw [ho 1 _ _ _ (by omega) (by omega) (by omega), ho 1 _ _ _ (by omega) (by omega) (by omega)]; exact q1, fun j j0 j1 => ?_, fun s s0 s1 => ?_, by rw [h60]; decide, fun j j0 j1 => ?_, fun s s0 s1 => ?_, fun j j0 j1 => ?_⟩, fun t s i k hh => by rw [ho t s i k (by omega) (by omega) (by omega)]; exact hbo t s i k hh⟩
  · rw [ho 36 _ _ _ (by omega) (by omega) (by omega), ho 37 _ _ _ (by omega) (by omega) (by omega)]
    exact hsea j j0 j1
  · by_cases e : s = 0
    · rw [e]
      exact hIS
    · exact zIS_cp (fun t i k ht => ho t s i k (by omega) (by omega) (by simp [zSt] at ht; omega)) (hs s s0 s1)
  · rw [ho 22 _ _ _ (by omega) (by omega) (by omega)]
    exact ht j j0 j1
  · rw [ho 21 _ _ _ (by omega) (by omega) (by omega)]
    exact hi s s0 s1
  · rw [ho 5 _ _ _ (by omega) (by omega) (by omega)]
    exact h9 j j0 j1
