def zB (m : zM) : zK5 := (m 9 0 0 0, m 9 0 0 1, m 9 0 0 3, m 33 0 0 0, m 33 0 0 1)
abbrev zrfm (m : zM) (w f s t : Int) : Prop := zrf (m 36 0 0 0) (m 36 0 0 1) (m 36 0 0 2) w f s t
abbrev zrkm (m : zM) (R0 R1 f s t : Int) : zK5 := zrk (m 37 0 0 0) (m 37 0 0 1) (m 37 0 0 2) (m 36 0 0 0) (m 36 0 0 1) (m 36 0 0 2) R0 R1 f s t
/-- the search, so far: over the numbers of the second and third kind in D -/
def zFI (mem : zM) (w R0 R1 : Int) (D : Int → Int → Prop) (m0 : zM) : Prop :=
  (∀ (t' : Nat) (s' i' k' : Int), t' ≠ 9 → t' ≠ 33 → t' ≠ 34 → m0 t' s' i' k' = mem t' s' i' k') ∧
  (m0 9 0 0 4 ≠ 0 → (0 ≤ m0 9 0 0 0 ∧ m0 9 0 0 0 ≤ 200000000) ∧ ∃ f s t : Int, zrfm mem w f s t ∧ zB m0 = zrkm mem R0 R1 f s t ∧ ∀ k : Int, 0 ≤ k → k < 3 → m0 33 0 0 k = zvec R0 R1 f s t k) ∧
  (∀ f s t : Int, zrfm mem w f s t → D s t → m0 9 0 0 4 ≠ 0 ∧ ¬ zklt (zrkm mem R0 R1 f s t) (zB m0))
theorem zFI_mono {mem : zM} {w R0 R1 : Int} {D D2 : Int → Int → Prop} {m0 : zM} (h : zFI mem w R0 R1 D m0) (hD : ∀ f s t : Int, zrfm mem w f s t → D2 s t → D s t) : zFI mem w R0 R1 D2 m0 :=
  ⟨h.1, h.2.1, fun f s t hr hd => h.2.2 f s t hr (hD f s t hr hd)⟩
/-- what find stands on -/
def zfpre (m : zM) (w R0 R1 R2 : Int) : Prop := zsea m ∧ 0 < m 36 0 0 0 ∧ 0 < m 37 0 0 0 ∧ m 37 0 0 0 * m 36 0 0 1 ≤ m 37 0 0 1 * m 36 0 0 0 ∧ m 37 0 0 0 * m 36 0 0 2 ≤ m 37 0 0 2 * m 36 0 0 0 ∧ (0 ≤ m 38 0 0 1 ∧ m 38 0 0 1 ≤ 2000) ∧ (0 ≤ m 38 0 0 2 ∧ m 38 0 0 2 ≤ 2000) ∧ (m 38 0 0 1 ≠ 0 → 0 < m 36 0 0 1) ∧ (m 38 0 0 2 ≠ 0 → 0 < m 36 0 0 2) ∧ (1 ≤ w ∧ w ≤ 100000) ∧ (m 35 0 0 0 = R0 ∧ m 35 0 0 1 = R1 ∧ m 35 0 0 2 = R2) ∧ ((0 ≤ R0 ∧ R0 < 3) ∧ (0 ≤ R1 ∧ R1 < 3) ∧ (0 ≤ R2 ∧ R2 < 3) ∧ R0 ≠ R1 ∧ R0 ≠ R2 ∧ R1 ≠ R2)
theorem zfil_eq (m : zM) (w s t : Int) : zfil m w s t = (zmx (w - s * m 36 0 0 1 - t * m 36 0 0 2) + m 36 0 0 0 - 1) / m 36 0 0 0 := rfl
theorem zfil_le {m : zM} {w s t R0 R1 R2 : Int} (hp : zfpre m w R0 R1 R2) (hs : 0 ≤ s) (ht : 0 ≤ t) : 0 ≤ zfil m w s t ∧ zfil m w s t ≤ 102000 := by
  have h0 := hp.1 0 (by decide) (by decide)
  have h1 := hp.1 1 (by decide) (by decide)
  have h2 := hp.1 2 (by decide) (by decide)
  have a1 : 0 ≤ s * m 36 0 0 1 := Int.mul_nonneg hs h1.1.1
  have a2 : 0 ≤ t * m 36 0 0 2 := Int.mul_nonneg ht h2.1.1
  have hw := hp.2.2.2.2.2.2.2.2.2.1
  have hmx : 0 ≤ zmx (w - s * m 36 0 0 1 - t * m 36 0 0 2) ∧ zmx (w - s * m 36 0 0 1 - t * m 36 0 0 2) ≤ 100000 := by unfold zmx; split <;> omega
  have := hp.2.1
  exact ⟨Int.ediv_nonneg (by omega) (by omega), Int.le_trans (Int.ediv_le_self _ (by omega)) (by omega)⟩
/-- a step of the search -/
theorem zFI_offer {mem m0 m1 : zM} {w R0 R1 R2 s t : Int} {D : Int → Int → Prop} (hp : zfpre mem w R0 R1 R2) (h : zFI mem w R0 R1 D m0) (hs : 0 ≤ s ∧ s ≤ mem 38 0 0 1) (ht : 0 ≤ t ∧ t ≤ mem 38 0 0 2)
    (ho : (∀ (t' : Nat) (s' i' k' : Int), t' ≠ 9 → t' ≠ 33 → t' ≠ 34 → m1 t' s' i' k' = m0 t' s' i' k') ∧
    (((m0 9 0 0 4 = 0 ∨ zklt (zcost m0 (zfil m0 w s t) s t, zgram m0 (zfil m0 w s t) s t, zfil m0 w s t + s + t, zvec R0 R1 (zfil m0 w s t) s t 0, zvec R0 R1 (zfil m0 w s t) s t 1) (m0 9 0 0 0, m0 9 0 0 1, m0 9 0 0 3, m0 33 0 0 0, m0 33 0 0 1)) ∧ m1 9 0 0 4 = 1 ∧ m1 9 0 0 0 = zcost m0 (zfil m0 w s t) s t ∧ m1 9 0 0 1 = zgram m0 (zfil m0 w s t) s t ∧ m1 9 0 0 3 = zfil m0 w s t + s + t ∧ ∀ k : Int, 0 ≤ k → k < 3 → m1 33 0 0 k = zvec R0 R1 (zfil m0 w s t) s t k) ∨
     (¬ (m0 9 0 0 4 = 0 ∨ zklt (zcost m0 (zfil m0 w s t) s t, zgram m0 (zfil m0 w s t) s t, zfil m0 w s t + s + t, zvec R0 R1 (zfil m0 w s t) s t 0, zvec R0 R1 (zfil m0 w s t) s t 1) (m0 9 0 0 0, m0 9 0 0 1, m0 9 0 0 3, m0 33 0 0 0, m0 33 0 0 1)) ∧ (∀ k : Int, m1 9 0 0 k = m0 9 0 0 k) ∧ ∀ k : Int, m1 33 0 0 k = m0 33 0 0 k))) :
    zFI mem w R0 R1 (fun s2 t2 => D s2 t2 ∨ (s2 = s ∧ t2 = t)) m1 := by
  have e36 : ∀ j : Int, m0 36 0 0 j = mem 36 0 0 j := fun j => h.1 36 0 0 j (by decide) (by decide) (by decide)
  have e37 : ∀ j : Int, m0 37 0 0 j = mem 37 0 0 j := fun j => h.1 37 0 0 j (by decide) (by decide) (by decide)
  have ef : zfil m0 w s t = zfil mem w s t := by simp only [zfil, e36]
  have ec : zcost m0 (zfil m0 w s t) s t = zcost mem (zfil mem w s t) s t := by simp only [zcost, e37, ef]
  have eg : zgram m0 (zfil m0 w s t) s t = zgram mem (zfil mem w s t) s t := by simp only [zgram, e36, ef]
  rw [ec, eg, ef] at ho
  have hfl := zfil_le hp hs.1 ht.1
  have hfo := fun f => zfil_ok (R0 := R0) (R1 := R1) (w := w) (f := f) (P1 := mem 37 0 0 1) (P2 := mem 37 0 0 2) hp.2.1 hp.2.2.1 hs.1 ht.1 (fun q => hp.2.2.2.2.2.2.2.1 (by omega)) (fun q => hp.2.2.2.2.2.2.2.2.1 (by omega))
  have hK : (zcost mem (zfil mem w s t) s t, zgram mem (zfil mem w s t) s t, zfil mem w s t + s + t, zvec R0 R1 (zfil mem w s t) s t 0, zvec R0 R1 (zfil mem w s t) s t 1) = zrkm mem R0 R1 (zfil mem w s t) s t := rfl
  rw [hK] at ho
  have hB : (m0 9 0 0 0, m0 9 0 0 1, m0 9 0 0 3, m0 33 0 0 0, m0 33 0 0 1) = zB m0 := rfl
  rw [hB] at ho
  refine ⟨fun t' s' i' k' h1 h2 h3 => by rw [ho.1 t' s' i' k' h1 h2 h3, h.1 t' s' i' k' h1 h2 h3], ?_, ?_⟩
  · rcases ho.2 with ⟨hb, g4, g0, g1, g3, g33⟩ | ⟨hb, g9, g33⟩
    · intro _
      have h0 := hp.1 0 (by decide) (by decide)
      have h1 := hp.1 1 (by decide) (by decide)
      have h2 := hp.1 2 (by decide) (by decide)
      have hm1 := hp.2.2.2.2.2.1
      have hm2 := hp.2.2.2.2.2.2.1
      have b0 := zmulb hfl.1 hfl.2 h0.2.1 h0.2.2
      have b1 := zmulb (x := s) (A := 2000) hs.1 (by omega) h1.2.1 h1.2.2
      have b2 := zmulb (x := t) (A := 2000) ht.1 (by omega) h2.2.1 h2.2.2
      refine ⟨?_, zfil mem w s t, s, t, (hfo 0).1, ?_, g33⟩
      · rw [g0]; unfold zcost; omega
      · unfold zB
        rw [g0, g1, g3, g33 0 (by decide) (by decide), g33 1 (by decide) (by decide)]
        exact hK
    · intro hz
      rw [g9] at hz
      obtain ⟨hb0, f, s2, t2, q1, q2, q3⟩ := h.2.1 hz
      refine ⟨by rw [g9]; exact hb0, f, s2, t2, q1, ?_, fun k k0 k1 => by rw [g33]; exact q3 k k0 k1⟩
      rw [← q2]
      unfold zB
      rw [g9, g9, g9, g33, g33]
  · intro f s2 t2 hr hD
    rcases ho.2 with ⟨hb, g4, g0, g1, g3, g33⟩ | ⟨hb, g9, g33⟩
    · have hB1 : zB m1 = zrkm mem R0 R1 (zfil mem w s t) s t := by
        unfold zB
        rw [g0, g1, g3, g33 0 (by decide) (by decide), g33 1 (by decide) (by decide)]
        exact hK
      refine ⟨by rw [g4]; decide, ?_⟩
      rw [hB1]
      rcases hD with hD | ⟨rfl, rfl⟩
      · have hq := h.2.2 f s2 t2 hr hD
        rcases hb with hb | hb
        · exact absurd hb hq.1
        · exact zkle_trans hq.2 (zklt_asym hb)
      · exact (hfo f).2 hr
    · have hB1 : zB m1 = zB m0 := by
        unfold zB
        rw [g9, g9, g9, g33, g33]
      rw [hB1, g9]
      rcases hD with hD | ⟨rfl, rfl⟩
      · exact h.2.2 f s2 t2 hr hD
      · exact ⟨fun z => hb (Or.inl z), zkle_trans ((hfo f).2 hr) (fun z => hb (Or.inr z))⟩
/-- where it is too dear, nothing better lies further on -/
theorem zFI_dear {mem m0 : zM} {w R0 R1 R2 s t : Int} {D : Int → Int → Prop} (hp : zfpre mem w R0 R1 R2) (h : zFI mem w R0 R1 D m0) (hd : m0 9 0 0 4 ≠ 0 ∧ m0 9 0 0 0 * m0 36 0 0 0 < (s * m0 37 0 0 1 + t * m0 37 0 0 2) * m0 36 0 0 0 + zmx (w - s * m0 36 0 0 1 - t * m0 36 0 0 2) * m0 37 0 0 0) :
    zFI mem w R0 R1 (fun s2 t2 => D s2 t2 ∨ (s ≤ s2 ∧ t ≤ t2)) m0 := by
  have e36 : ∀ j : Int, m0 36 0 0 j = mem 36 0 0 j := fun j => h.1 36 0 0 j (by decide) (by decide) (by decide)
  have e37 : ∀ j : Int, m0 37 0 0 j = mem 37 0 0 j := fun j => h.1 37 0 0 j (by decide) (by decide) (by decide)
  simp only [e36, e37] at hd
  refine ⟨h.1, h.2.1, fun f s2 t2 hr hD => ?_⟩
  rcases hD with hD | ⟨h1, h2⟩
  · exact h.2.2 f s2 t2 hr hD
  · refine ⟨hd.1, fun hlt => ?_⟩
    have := zdear hp.2.1 hp.2.2.1 (hp.1 1 (by decide) (by decide)).1.1 (hp.1 2 (by decide) (by decide)).1.1 hp.2.2.2.1 hp.2.2.2.2.1 hr h1 h2 hd.2
    unfold zklt zB zrkm zrk at hlt
    simp only at hlt
    omega
set_option maxRecDepth 20000 in
theorem ct_X9_find (l : Launch) (g : zG) {mem : zM} {w R0 R1 R2 : Int} (hp : zfpre mem w R0 R1 R2) : zMet l g Y_X9_find [zr 9 0 0, zi w] mem (fun v m' => v = none ∧ zFI mem w R0 R1 (fun s t => s ≤ mem 38 0 0 1 ∧ t ≤ mem 38 0 0 2) m') := by
  refine zMet_introF (by decide +kernel) (Nat.le_of_ble_eq_true rfl) (ls0 := [some (zr 9 0 0), some (zi w), none, none]) rfl fun X hG hE => ?_
  have hG : zGood X l g RX9 cX9_find 2 4 := hG
  have hE : zEnd X (none) _ := hE
  obtain ⟨hpa, hpb, hpc, hpd, hpe, hM1, hM2, hz1, hz2, hw, hRR, hR⟩ := id hp
  have sea2 : ∀ {D : Int → Int → Prop} {m0 : zM}, zFI mem w R0 R1 D m0 → zsea m0 := fun h j h0 h1 => by
    rw [h.1 36 0 0 j (by decide) (by decide) (by decide), h.1 37 0 0 j (by decide) (by decide) (by decide)]
    exact hpa j h0 h1
  have e38 : ∀ {D : Int → Int → Prop} {m0 : zM} (j : Int), zFI mem w R0 R1 D m0 → m0 38 0 0 j = mem 38 0 0 j := fun j h => h.1 38 0 0 j (by decide) (by decide) (by decide)
  have e35 : ∀ {D : Int → Int → Prop} {m0 : zM} (j : Int), zFI mem w R0 R1 D m0 → m0 35 0 0 j = mem 35 0 0 j := fun j h => h.1 35 0 0 j (by decide) (by decide) (by decide)
  have e36 : ∀ {D : Int → Int → Prop} {m0 : zM} (j : Int), zFI mem w R0 R1 D m0 → m0 36 0 0 j = mem 36 0 0 j := fun j h => h.1 36 0 0 j (by decide) (by decide) (by decide)
  have inner : ∀ (n : Nat) (T S : Int) (m0 : zM), 0 ≤ T → T ≤ mem 38 0 0 2 → 0 ≤ S → S + n = mem 38 0 0 1 + 1 → zFI mem w R0 R1 (fun s t => s ≤ mem 38 0 0 1 ∧ (t < T ∨ (t = T ∧ s < S))) m0 →
      (∀ (S' : Int) (m1 : zM), zFI mem w R0 R1 (fun s t => s ≤ mem 38 0 0 1 ∧ t < T + 1) m1 → zZ X 68 [some (zr 9 0 0), some (zi w), some (zi T), some (zi S')] [] m1) →
      zZ X 32 [some (zr 9 0 0), some (zi w), some (zi T), some (zi S)] [] m0 := by
    intro n
    induction n with
    | zero =>
      intro T S m0 hT0 hT1 hS0 hS hI K
      refine z_iload_n (i := 3) hG dX9_find_32 rfl rfl ?_
      refine z_aload_n (i := 0) hG dX9_find_33 rfl rfl ?_
      refine z_get_9_9 hG dX9_find_34 FL_X9_27 ?_
      refine z_iconst hG dX9_find_37 rfl ?_
      refine z_iald hG dX9_find_38 rfl rfl (by omega) (by omega) ?_
      rw [e38 1 hI]
      refine z_icmp_gt hG dX9_find_39 (tgt := 68) rfl (fun c39 => ?_) (fun c39 => ?_)
      · exact K S m0 (zFI_mono hI (fun f s t _ hd => ⟨hd.1, by omega⟩))
      · exact absurd c39 (by omega)
    | succ n ih =>
      intro T S m0 hT0 hT1 hS0 hS hI K
      refine z_iload_n (i := 3) hG dX9_find_32 rfl rfl ?_
      refine z_aload_n (i := 0) hG dX9_find_33 rfl rfl ?_
      refine z_get_9_9 hG dX9_find_34 FL_X9_27 ?_
      refine z_iconst hG dX9_find_37 rfl ?_
      refine z_iald hG dX9_find_38 rfl rfl (by omega) (by omega) ?_
      rw [e38 1 hI]
      refine z_icmp_gt hG dX9_find_39 (tgt := 68) rfl (fun c39 => ?_) (fun c39 => ?_)
      · exact absurd c39 (by omega)
      · refine z_aload_n (i := 0) hG dX9_find_42 rfl rfl ?_
        refine z_iload_n (i := 3) hG dX9_find_43 rfl rfl ?_
        refine z_iload_n (i := 2) hG dX9_find_44 rfl rfl ?_
        refine z_iload_n (i := 1) hG dX9_find_45 rfl rfl ?_
        refine z_callV hG dX9_find_46 LV_X9_54 (ct_X9_isTooDear l g (sea2 hI) ⟨by omega, by omega⟩ ⟨by omega, by omega⟩ ⟨by omega, by omega⟩ (fun z => (hI.2.1 z).1)) (by decide) rfl rfl rfl (Nat.le_of_ble_eq_true rfl) ?_
        intro v9 m9 h9
        obtain ⟨r9, h9a, h9b, hr9, hiff⟩ := h9
        rw [h9a, h9b]
        clear h9a h9b v9 m9
        refine z_if_eq hG dX9_find_49 (tgt := 55) rfl (fun c49 => ?_) (fun c49 => ?_)
        · try simp only [zite_eq0, ne_eq, Classical.not_not] at c49
          refine z_aload_n (i := 0) hG dX9_find_55 rfl rfl ?_
          refine z_iload_n (i := 3) hG dX9_find_56 rfl rfl ?_
          refine z_iload_n (i := 2) hG dX9_find_57 rfl rfl ?_
          refine z_iload_n (i := 1) hG dX9_find_58 rfl rfl ?_
          refine z_callV hG dX9_find_59 LV_X9_58 (ct_X9_offer l g (sea2 hI) (by rw [e36 0 hI]; omega) ⟨by omega, by omega⟩ ⟨by omega, by omega⟩ ⟨by omega, by omega⟩ (by rw [e35 0 hI]; exact hRR.1) (by rw [e35 1 hI]; exact hRR.2.1) (by rw [e35 2 hI]; exact hRR.2.2) hR) (by decide) rfl rfl rfl (Nat.le_of_ble_eq_true rfl) ?_
          intro v9 m9 h9
          obtain ⟨h9a, h9b⟩ := h9
          rw [h9a]
          clear h9a v9
          have hI2 := zFI_offer hp hI ⟨hS0, by omega⟩ ⟨hT0, hT1⟩ h9b
          refine z_iinc hG dX9_find_62 (by decide) rfl (by omega) (by omega) (ls2 := [_, _, _, _]) rfl ?_
          refine z_goto hG dX9_find_65 (tgt := 32) rfl ?_
          exact ih T (S + 1) m9 hT0 hT1 (by omega) (by omega) (zFI_mono hI2 (fun f s t _ hd => by by_cases q : t < T ∨ (t = T ∧ s < S); exact Or.inl ⟨hd.1, q⟩; exact Or.inr ⟨by omega, by omega⟩)) K
        · try simp only [zite_eq0, ne_eq, Classical.not_not] at c49
          refine z_goto hG dX9_find_52 (tgt := 68) rfl ?_
          exact K S m0 (zFI_mono (zFI_dear hp hI (hiff.mp (by omega))) (fun f s t _ hd => by by_cases q : t < T ∨ (t = T ∧ s < S); exact Or.inl ⟨hd.1, q⟩; exact Or.inr ⟨by omega, by omega⟩))
  have outer : ∀ (n : Nat) (T : Int) (m0 : zM), 0 ≤ T → T + n = mem 38 0 0 2 + 1 → zFI mem w R0 R1 (fun s t => s ≤ mem 38 0 0 1 ∧ t < T) m0 →
      zZ X 7 [some (zr 9 0 0), some (zi w), some (zi T), none] [] m0 := by
    intro n
    induction n with
    | zero =>
      intro T m0 hT0 hT hI
      refine z_iload_n (i := 2) hG dX9_find_7 rfl rfl ?_
      refine z_aload_n (i := 0) hG dX9_find_8 rfl rfl ?_
      refine z_get_9_9 hG dX9_find_9 FL_X9_27 ?_
      refine z_iconst hG dX9_find_12 rfl ?_
      refine z_iald hG dX9_find_13 rfl rfl (by omega) (by omega) ?_
      rw [e38 2 hI]
      refine z_icmp_gt hG dX9_find_14 (tgt := 74) rfl (fun c14 => ?_) (fun c14 => ?_)
      · refine z_vret hG hE dX9_find_74 ?_
        exact ⟨rfl, zFI_mono hI (fun f s t _ hd => ⟨hd.1, by omega⟩)⟩
      · exact absurd c14 (by omega)
    | succ n ih =>
      intro T m0 hT0 hT hI
      refine z_iload_n (i := 2) hG dX9_find_7 rfl rfl ?_
      refine z_aload_n (i := 0) hG dX9_find_8 rfl rfl ?_
      refine z_get_9_9 hG dX9_find_9 FL_X9_27 ?_
      refine z_iconst hG dX9_find_12 rfl ?_
      refine z_iald hG dX9_find_13 rfl rfl (by omega) (by omega) ?_
      rw [e38 2 hI]
      refine z_icmp_gt hG dX9_find_14 (tgt := 74) rfl (fun c14 => ?_) (fun c14 => ?_)
      · exact absurd c14 (by omega)
      · refine z_aload_n (i := 0) hG dX9_find_17 rfl rfl ?_
        refine z_iconst hG dX9_find_18 rfl ?_
        refine z_iload_n (i := 2) hG dX9_find_19 rfl rfl ?_
        refine z_iload_n (i := 1) hG dX9_find_20 rfl rfl ?_
        refine z_callV hG dX9_find_21 LV_X9_54 (ct_X9_isTooDear l g (sea2 hI) ⟨by omega, by omega⟩ ⟨by omega, by omega⟩ ⟨by omega, by omega⟩ (fun z => (hI.2.1 z).1)) (by decide) rfl rfl rfl (Nat.le_of_ble_eq_true rfl) ?_
        intro v9 m9 h9
        obtain ⟨r9, h9a, h9b, hr9, hiff⟩ := h9
        rw [h9a, h9b]
        clear h9a h9b v9 m9
        refine z_if_eq hG dX9_find_24 (tgt := 30) rfl (fun c24 => ?_) (fun c24 => ?_)
        · try simp only [zite_eq0, ne_eq, Classical.not_not] at c24
          refine z_iconst hG dX9_find_30 rfl ?_
          refine z_istore_n (i := 3) hG dX9_find_31 rfl (by decide) (ls2 := [_, _, _, _]) rfl ?_
          refine inner (mem 38 0 0 1 + 1).toNat T 0 m0 hT0 (by omega) (by decide) (by omega) (zFI_mono hI (fun f s t hr hd => ⟨hd.1, by have := hr.2.1; omega⟩)) (fun S1 m1 hI1 => ?_)
          refine z_iinc hG dX9_find_68 (by decide) rfl (by omega) (by omega) (ls2 := [_, _, _, _]) rfl ?_
          refine z_goto hG dX9_find_71 (tgt := 7) rfl ?_
          exact z_forget [true, true, true, false] rfl (ih (T + 1) m1 (by omega) (by omega) hI1)
        · try simp only [zite_eq0, ne_eq, Classical.not_not] at c24
          refine z_goto hG dX9_find_27 (tgt := 74) rfl ?_
          refine z_vret hG hE dX9_find_74 ?_
          exact ⟨rfl, zFI_mono (zFI_dear hp hI (hiff.mp (by omega))) (fun f s t hr hd => by by_cases q : t < T; exact Or.inl ⟨hd.1, q⟩; exact Or.inr ⟨hr.2.1, by omega⟩)⟩
  refine z_aload_n (i := 0) hG dX9_find_0 rfl rfl ?_
  refine z_iconst hG dX9_find_1 rfl ?_
  refine z_putB hG dX9_find_2 FP_X9_50 rfl rfl (kk := 4) rfl (by omega) ?_
  refine z_iconst hG dX9_find_5 rfl ?_
  refine z_istore_n (i := 2) hG dX9_find_6 rfl (by decide) (ls2 := [_, _, _, _]) rfl ?_
  refine outer (mem 38 0 0 2 + 1).toNat 0 _ (by decide) (by omega) ⟨fun t' s' i' k' h1 h2 h3 => by simp [zset, h1], fun z => ?_, fun f s t hr hd => ?_⟩
  · exact absurd (by simp [zset]) z
  · have := hr.2.2.1
    omega
