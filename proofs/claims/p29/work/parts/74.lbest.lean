/-- state 0 is as before, but for one recipe's portions -/
def zS0 (r : Int) (m1 m0 : zM) : Prop := ∀ (t : Nat) (i k : Int), (t = 2 ∨ t = 3 ∨ t = 4 ∨ t = 12 ∨ t = 13 ∨ t = 14 ∨ t = 17) → ¬ (t = 4 ∧ i = r ∧ k = 1) → m1 t 0 i k = m0 t 0 i k
theorem zDc_S0 {r p : Int} {m1 m0 : zM} (h : zS0 r m1 m0) (hp : m1 4 0 r 1 = p) : zDc m1 = zDc (zset m0 4 0 r 1 p) := by
  have e : ∀ (t : Nat) (i k : Int), (t = 2 ∨ t = 3 ∨ t = 4 ∨ t = 12 ∨ t = 13 ∨ t = 14 ∨ t = 17) → m1 t 0 i k = zset m0 4 0 r 1 p t 0 i k := fun t i k ht => by
    simp only [zset]
    by_cases q : t = 4 ∧ i = r ∧ k = 1
    · rw [if_pos (by first | exact ⟨q.1, rfl, q.2.1, q.2.2⟩ | exact ⟨q.1, trivial, q.2.1, q.2.2⟩), q.1, q.2.1, q.2.2]
      exact hp
    · rw [if_neg (fun z => q (by first | exact ⟨z.1, z.2.2.1, z.2.2.2⟩ | exact ⟨z.1, z.2.1, z.2.2⟩))]
      exact h t i k ht q
  have f : ∀ (t : Nat) (i : Int), (t = 2 ∨ t = 3 ∨ t = 4 ∨ t = 12 ∨ t = 13 ∨ t = 14 ∨ t = 17) → m1 t 0 i = zset m0 4 0 r 1 p t 0 i := fun t i ht => by funext k; exact e t i k ht
  funext a i k
  unfold zDc
  split
  · simp only [zscal, e 2 _ _ (by omega), e 4 _ _ (by omega), e 17 _ _ (by omega)]
  · rw [f 14 i (by omega)]
  · exact e 3 i 1 (by omega)
  · exact e 3 i 2 (by omega)
  · exact e 12 i k (by omega)
  · exact e 13 i k (by omega)
  · exact e 3 i 5 (by omega)
  · exact e 3 i 6 (by omega)
  · rfl
theorem zPl0_S0 {r p : Int} {m1 m0 : zM} (h : zS0 r m1 m0) (hp : m1 4 0 r 1 = p) : zPl0 m1 = zPl0 (zset m0 4 0 r 1 p) := by rw [zPl0, zPl0, zDc_S0 h hp]
theorem zS0_menu {r p : Int} {m1 m0 : zM} (hL : 0 ≤ m1 1 0 0 1) (h : zS0 r m1 m0) (hr : 0 ≤ r ∧ r < m1 2 0 0 5 ∧ r < 4) (hp : 0 ≤ p ∧ p ≤ 20) : zS0 r (zk_menu r p m1).2 m0 ∧ (zk_menu r p m1).2 4 0 r 1 = p ∧ (zk_menu r p m1).1 = m1 4 0 r 1 := by
  unfold zk_menu
  rw [if_neg (by omega), if_neg (by omega)]
  refine ⟨fun t i k ht hn => ?_, by simp [zset], rfl⟩
  simp only [zset]
  rw [if_neg (fun z => hn (by first | exact ⟨z.1, z.2.2.1, z.2.2.2⟩ | exact ⟨z.1, z.2.1, z.2.2⟩)), zrecd_0 hL (by omega)]
  exact h t i k ht hn
/-- the best portions -/
theorem zbp_at {m : zM} {r : Int} : ∀ (n : Nat) (p b l a : Int), 1 ≤ a → a ≤ p → ((b = -6 ∧ ∀ k : Int, a ≤ k → k < p → ¬ zmss (zPl0 (zset m 4 0 r 1 k) 6) 8 = 0) ∨ (a ≤ b ∧ b < p ∧ l = zsum 8 (zPl0 (zset m 4 0 r 1 b) 4) ∧ zmss (zPl0 (zset m 4 0 r 1 b) 6) 8 = 0 ∧ ∀ k : Int, a ≤ k → k < p → zmss (zPl0 (zset m 4 0 r 1 k) 6) 8 = 0 → l ≤ zsum 8 (zPl0 (zset m 4 0 r 1 k) 4) ∧ (zsum 8 (zPl0 (zset m 4 0 r 1 k) 4) = l → k ≤ b))) →
    ((zbp m r n p b l = -6 ∧ ∀ k : Int, a ≤ k → k < p + n → ¬ zmss (zPl0 (zset m 4 0 r 1 k) 6) 8 = 0) ∨ (a ≤ zbp m r n p b l ∧ zbp m r n p b l < p + n ∧ zmss (zPl0 (zset m 4 0 r 1 (zbp m r n p b l)) 6) 8 = 0 ∧ ∀ k : Int, a ≤ k → k < p + n → zmss (zPl0 (zset m 4 0 r 1 k) 6) 8 = 0 → zsum 8 (zPl0 (zset m 4 0 r 1 (zbp m r n p b l)) 4) ≤ zsum 8 (zPl0 (zset m 4 0 r 1 k) 4) ∧ (zsum 8 (zPl0 (zset m 4 0 r 1 k) 4) = zsum 8 (zPl0 (zset m 4 0 r 1 (zbp m r n p b l)) 4) → k ≤ zbp m r n p b l)))
  | 0, p, b, l, a, ha, hap, h => by
    show (b = -6 ∧ _) ∨ (a ≤ b ∧ b < _ ∧ zmss (zPl0 (zset m 4 0 r 1 b) 6) 8 = 0 ∧ ∀ k : Int, a ≤ k → k < _ → zmss (zPl0 (zset m 4 0 r 1 k) 6) 8 = 0 → zsum 8 (zPl0 (zset m 4 0 r 1 b) 4) ≤ _ ∧ (_ = zsum 8 (zPl0 (zset m 4 0 r 1 b) 4) → k ≤ b))
    rcases h with ⟨h1, h2⟩ | ⟨h1, h2, h3, h4, h5⟩
    · exact Or.inl ⟨h1, fun k k0 k1 => h2 k k0 (by omega)⟩
    · refine Or.inr ⟨h1, by omega, h4, fun k k0 k1 kz => ?_⟩
      have := h5 k k0 (by omega) kz
      rw [h3] at this
      exact this
  | n + 1, p, b, l, a, ha, hap, h => by
    have e : zbp m r (n + 1) p b l = if zmss (zPl0 (zset m 4 0 r 1 p) 6) 8 = 0 ∧ (b = -6 ∨ zsum 8 (zPl0 (zset m 4 0 r 1 p) 4) ≤ l) then zbp m r n (p + 1) p (zsum 8 (zPl0 (zset m 4 0 r 1 p) 4)) else zbp m r n (p + 1) b l := rfl
    rw [e, show p + ((n + 1 : Nat) : Int) = p + 1 + n by omega]
    by_cases c : zmss (zPl0 (zset m 4 0 r 1 p) 6) 8 = 0 ∧ (b = -6 ∨ zsum 8 (zPl0 (zset m 4 0 r 1 p) 4) ≤ l)
    · rw [if_pos c]
      refine zbp_at n (p + 1) p _ a ha (by omega) (Or.inr ⟨hap, by omega, rfl, c.1, fun k k0 k1 kz => ?_⟩)
      by_cases q : k = p
      · subst q
        exact ⟨Int.le_refl _, fun _ => Int.le_refl _⟩
      · rcases h with ⟨h1, h2⟩ | ⟨h1, h2, h3, h4, h5⟩
        · exact absurd kz (h2 k k0 (by omega))
        · have h6 := h5 k k0 (by omega) kz
          omega
    · rw [if_neg c]
      refine zbp_at n (p + 1) b l a ha (by omega) ?_
      rcases h with ⟨h1, h2⟩ | ⟨h1, h2, h3, h4, h5⟩
      · refine Or.inl ⟨h1, fun k k0 k1 => ?_⟩
        by_cases q : k = p
        · subst q
          exact fun z => c ⟨z, Or.inl h1⟩
        · exact h2 k k0 (by omega)
      · refine Or.inr ⟨h1, by omega, h3, h4, fun k k0 k1 kz => ?_⟩
        by_cases q : k = p
        · subst q
          have : ¬ zsum 8 (zPl0 (zset m 4 0 r 1 k) 4) ≤ l := fun z => c ⟨kz, Or.inr z⟩
          omega
        · exact h5 k k0 (by omega) kz
set_option maxRecDepth 20000 in
theorem ct_L_best (l : Launch) (g : zG) {m0 m : zM} {B v : Int} (hI : zInv B m0) (hB : B ≤ 11900000) (hQ : zQ m0 m) (hnr : 1 ≤ m0 2 0 0 5) : zMet l g Y_L_best [zr 0 0 0, zi v] m (fun x m' => x = some (zi 1) ∧ ∃ m1, zInv B m1 ∧ zF m1 m0 ∧ zQ m1 m') := by
  refine zMet_introF (by decide +kernel) (Nat.le_of_ble_eq_true rfl) (ls0 := [some (zr 0 0 0), some (zi v), none, none, none, none, none, none, none]) rfl fun X hG hE => ?_
  have hG : zGood X l g RL cL_best 7 9 := hG
  have hE : zEnd X (some .boolean) _ := hE
  have hrcp := (zInv0 hI).2.2.2.1
  have hrec := (zInv0 hI).2.2.2.2.1
  obtain ⟨r, hr⟩ : ∃ r : Int, r = zUp v (m0 2 0 0 5) := ⟨_, rfl⟩
  have hrb : 0 ≤ r ∧ r < m0 2 0 0 5 := by rw [hr]; exact zUp_bd (by omega)
  have hwas := (hrec r (by omega) (by omega)).1
  obtain ⟨a, ha⟩ : ∃ a : Int, a = 1 + zUp (zshr v 3) 20 := ⟨_, rfl⟩
  have hab : 1 ≤ a ∧ a ≤ 20 := by
    have := zUp_bd (v := zshr v 3) (m := 20) (by decide)
    omega
  obtain ⟨z, hz⟩ : ∃ z : Int, z = a + zUp (zshr v 6) (21 - a) := ⟨_, rfl⟩
  have hzb : a ≤ z ∧ z ≤ 20 := by
    have := zUp_bd (v := zshr v 6) (m := 21 - a) (by omega)
    omega
  obtain ⟨is, hisd⟩ : ∃ is : Int, is = zbp m0 r (z + 1 - a).toNat a (-6) 0 := ⟨_, rfl⟩
  have his := zbp_at (m := m0) (r := r) (z + 1 - a).toNat a (-6) 0 a hab.1 (Int.le_refl a) (Or.inl ⟨rfl, fun k k0 k1 => by omega⟩)
  rw [← hisd, show a + ((z + 1 - a).toNat : Int) = z + 1 by omega] at his
  have hb : zk_bestPortions r a z m0 = is := by
    unfold zk_bestPortions
    rw [if_neg (by omega), if_neg (by omega), hisd]
  have loop : ∀ (N : Nat) (p : Int) (m1 mm : zM), p + N = z + 1 → a ≤ p → ∀ over : Int, (0 ≤ is → over = zsum 8 (zPl0 (zset m0 4 0 r 1 is) 4)) → zInv B m1 → zF m1 m0 → zS0 r m1 m0 → (a < p → m1 4 0 r 1 = p - 1) → zQ m1 mm → zZ X 105 [some (zr 0 0 0), some (zi v), some (zi r), some (zi a), some (zi z), some (zi is), some (zi (m0 4 0 r 1)), some (zi over), some (zi p)] [] mm := by
    intro N
    induction N with
    | zero =>
      intro p m1 mm hpz hap over hov hI hF hS hlast hQ
      have e5 := hF.2.2.1 5 (by decide)
      refine z_iload hG dL_best_105 rfl ?_
      refine z_iload hG dL_best_107 rfl ?_
      refine z_icmp_gt hG dL_best_109 (tgt := 170) rfl (fun zcq109 => ?_) (fun zcq109 => ?_)
      · refine z_aload_n (i := 0) hG dL_best_170 rfl rfl ?_
        refine z_iload_n (i := 2) hG dL_best_171 rfl rfl ?_
        refine z_iload hG dL_best_172 rfl ?_
        refine z_callV hG dL_best_174 LV_L_115 (cm_menu l g hI hB hQ) (by decide) rfl rfl rfl (Nat.le_of_ble_eq_true rfl) ?_
        intro v9 mm h9
        rw [h9.1, (zS0_menu hI.1.1.1 hS (by omega) (by omega)).2.2]
        replace hQ := h9.2
        clear h9 v9
        refine z_iload hG dL_best_177 rfl ?_
        refine z_icmp_ne hG dL_best_179 (tgt := 186) rfl (fun zcq179 => ?_) (fun zcq179 => ?_)
        · exfalso; omega
        · refine z_iconst hG dL_best_182 rfl ?_
          refine z_goto hG dL_best_183 (tgt := 187) rfl ?_
          refine z_iret hG hE dL_best_187 (by first | exact Or.inl rfl | exact Or.inr rfl | (show _ ∨ _; omega)) ?_
          refine ⟨rfl, _, zkj_menu hI, zF_tr (zF_menu hI.1.1.1) hF, hQ⟩
      · exact absurd zcq109 (by omega)
    | succ N ih =>
      intro p m1 mm hpz hap over hov hI hF hS hlast hQ
      have e5 := hF.2.2.1 5 (by decide)
      refine z_iload hG dL_best_105 rfl ?_
      refine z_iload hG dL_best_107 rfl ?_
      refine z_icmp_gt hG dL_best_109 (tgt := 170) rfl (fun zcq109 => ?_) (fun zcq109 => ?_)
      · exact absurd zcq109 (by omega)
      · refine z_aload_n (i := 0) hG dL_best_112 rfl rfl ?_
        refine z_iload_n (i := 2) hG dL_best_113 rfl rfl ?_
        refine z_iload hG dL_best_114 rfl ?_
        refine z_callV hG dL_best_116 LV_L_115 (cm_menu l g hI hB hQ) (by decide) rfl rfl rfl (Nat.le_of_ble_eq_true rfl) ?_
        intro v9 mm h9
        rw [h9.1]
        replace hQ := h9.2
        clear h9 v9
        have hS := zS0_menu (r := r) (p := p) hI.1.1.1 hS (by omega) (by omega)
        have e5 := (zF_tr (zF_menu (r := r) (p := p) hI.1.1.1) hF).2.2.1 5 (by decide)
        replace hF := zF_tr (zF_menu (r := r) (p := p) hI.1.1.1) hF
        replace hI := zkj_menu (r := r) (p := p) hI
        have hpl := zPl0_S0 hS.1 hS.2.1
        have hOK : (if zmss (zPl0 (zset m0 4 0 r 1 p) 6) 8 = 0 ∧ zhp (zk_menu r p m1).2 then (1 : Int) else 0) = 1 → zmss (zPl0 (zset m0 4 0 r 1 p) 6) 8 = 0 := fun q => by
          by_cases y : zmss (zPl0 (zset m0 4 0 r 1 p) 6) 8 = 0 ∧ zhp (zk_menu r p m1).2
          · exact y.1
          · rw [if_neg y] at q; omega
        refine z_pop hG dL_best_119 ?_
        refine z_aload_n (i := 0) hG dL_best_120 rfl rfl ?_
        refine z_bipush hG dL_best_121 rfl ?_
        refine z_callV hG dL_best_123 LV_L_68 (cqc_7 l g hI hB hQ) (by decide) rfl rfl rfl (Nat.le_of_ble_eq_true rfl) ?_
        intro v9 mm h9
        rw [h9.1, hpl]
        replace hQ := h9.2
        clear h9 v9
        refine z_iconst hG dL_best_126 rfl ?_
        refine z_icmp_ne hG dL_best_127 (tgt := 164) rfl (fun zcq127 => ?_) (fun zcq127 => ?_)
        · refine z_iinc hG dL_best_164 (by decide) rfl (by omega) (by omega) (ls2 := [_, _, _, _, _, _, _, _, _]) rfl ?_
          refine z_goto hG dL_best_167 (tgt := 105) rfl ?_
          exact ih (p + 1) _ mm (by omega) (by omega) over hov hI hF hS.1 (fun _ => by rw [hS.2.1]; omega) hQ
        · refine z_iload hG dL_best_130 rfl ?_
          refine z_if_lt hG dL_best_132 (tgt := 162) rfl (fun zcq132 => ?_) (fun zcq132 => ?_)
          · exfalso
            have hc := hOK zcq127
            rcases his with ⟨i1, i2⟩ | ⟨i1, i2, i3, i4⟩
            · exact i2 p (by omega) (by omega) hc
            · have i5 := i4 p (by omega) (by omega) hc
              have ho := hov (by omega)
              omega
          · refine z_aload_n (i := 0) hG dL_best_135 rfl rfl ?_
            refine z_iconst hG dL_best_136 rfl ?_
            refine z_callV hG dL_best_137 LV_L_68 (cqc_5 l g hI hB hQ) (by decide) rfl rfl rfl (Nat.le_of_ble_eq_true rfl) ?_
            intro v9 mm h9
            rw [h9.1, hpl]
            replace hQ := h9.2
            clear h9 v9
            refine z_iload hG dL_best_140 rfl ?_
            refine z_icmp_lt hG dL_best_142 (tgt := 162) rfl (fun zcq142 => ?_) (fun zcq142 => ?_)
            · exfalso
              have hc := hOK zcq127
              rcases his with ⟨i1, i2⟩ | ⟨i1, i2, i3, i4⟩
              · exact i2 p (by omega) (by omega) hc
              · have i5 := i4 p (by omega) (by omega) hc
                have ho := hov (by omega)
                omega
            · refine z_aload_n (i := 0) hG dL_best_145 rfl rfl ?_
              refine z_iconst hG dL_best_146 rfl ?_
              refine z_callV hG dL_best_147 LV_L_68 (cqc_5 l g hI hB hQ) (by decide) rfl rfl rfl (Nat.le_of_ble_eq_true rfl) ?_
              intro v9 mm h9
              rw [h9.1, hpl]
              replace hQ := h9.2
              clear h9 v9
              refine z_iload hG dL_best_150 rfl ?_
              refine z_icmp_ne hG dL_best_152 (tgt := 164) rfl (fun zcq152 => ?_) (fun zcq152 => ?_)
              · refine z_iinc hG dL_best_164 (by decide) rfl (by omega) (by omega) (ls2 := [_, _, _, _, _, _, _, _, _]) rfl ?_
                refine z_goto hG dL_best_167 (tgt := 105) rfl ?_
                exact ih (p + 1) _ mm (by omega) (by omega) over hov hI hF hS.1 (fun _ => by rw [hS.2.1]; omega) hQ
              · refine z_iload hG dL_best_155 rfl ?_
                refine z_iload hG dL_best_157 rfl ?_
                refine z_icmp_le hG dL_best_159 (tgt := 164) rfl (fun zcq159 => ?_) (fun zcq159 => ?_)
                · refine z_iinc hG dL_best_164 (by decide) rfl (by omega) (by omega) (ls2 := [_, _, _, _, _, _, _, _, _]) rfl ?_
                  refine z_goto hG dL_best_167 (tgt := 105) rfl ?_
                  exact ih (p + 1) _ mm (by omega) (by omega) over hov hI hF hS.1 (fun _ => by rw [hS.2.1]; omega) hQ
                · exfalso
                  have hc := hOK zcq127
                  rcases his with ⟨i1, i2⟩ | ⟨i1, i2, i3, i4⟩
                  · exact i2 p (by omega) (by omega) hc
                  · have i5 := i4 p (by omega) (by omega) hc
                    have ho := hov (by omega)
                    omega
  have h57 : ∀ (mm : zM) (v8 : Option zV), zQ m0 mm → zZ X 57 [some (zr 0 0 0), some (zi v), some (zi r), some (zi a), some (zi z), some (zi is), some (zi (m0 4 0 r 1)), some (zi (-1)), v8] [] mm := by
    intro mm v8 hQ
    have hI := hI
    have hF : zF m0 m0 := zF_rf
    have hS : zS0 r m0 m0 := fun _ _ _ _ _ => rfl
    refine z_iload hG dL_best_57 rfl ?_
    refine z_if_lt hG dL_best_59 (tgt := 102) rfl (fun zcq59 => ?_) (fun zcq59 => ?_)
    · refine z_iload_n (i := 3) hG dL_best_102 rfl rfl ?_
      refine z_istore hG dL_best_103 (by decide) (ls2 := [_, _, _, _, _, _, _, _, _]) rfl ?_
      first | exact loop (z + 1 - a).toNat a _ mm (by omega) (Int.le_refl a) (-1) (fun q => by omega) hI hF hS (fun q => by omega) hQ | exact loop (z + 1 - a).toNat a _ mm (by omega) (Int.le_refl a) _ (fun _ => rfl) hI hF hS.1 (fun q => by omega) hQ
    · have his0 := his.resolve_left (fun q => by omega)
      refine z_aload_n (i := 0) hG dL_best_62 rfl rfl ?_
      refine z_iload_n (i := 2) hG dL_best_63 rfl rfl ?_
      refine z_iload hG dL_best_64 rfl ?_
      refine z_callV hG dL_best_66 LV_L_115 (cm_menu l g hI hB hQ) (by decide) rfl rfl rfl (Nat.le_of_ble_eq_true rfl) ?_
      intro v9 mm h9
      rw [h9.1]
      replace hQ := h9.2
      clear h9 v9
      have hS := zS0_menu (r := r) (p := is) hI.1.1.1 hS (by omega) (by omega)
      have e5 := (zF_tr (zF_menu (r := r) (p := is) hI.1.1.1) hF).2.2.1 5 (by decide)
      replace hF := zF_tr (zF_menu (r := r) (p := is) hI.1.1.1) hF
      replace hI := zkj_menu (r := r) (p := is) hI
      have hpl := zPl0_S0 hS.1 hS.2.1
      refine z_pop hG dL_best_69 ?_
      refine z_aload_n (i := 0) hG dL_best_70 rfl rfl ?_
      refine z_bipush hG dL_best_71 rfl ?_
      refine z_callV hG dL_best_73 LV_L_68 (cqc_7 l g hI hB hQ) (by decide) rfl rfl rfl (Nat.le_of_ble_eq_true rfl) ?_
      intro v9 mm h9
      rw [h9.1, hpl]
      replace hQ := h9.2
      clear h9 v9
      refine z_iconst hG dL_best_76 rfl ?_
      refine z_icmp_ne hG dL_best_77 (tgt := 93) rfl (fun zcq77 => ?_) (fun zcq77 => ?_)
      · exfalso
        exact zcq77 (if_pos ⟨his0.2.2.1, zhp_iff.mp ⟨r, by omega, by omega, by rw [hS.2.1]; omega⟩⟩)
      · refine z_iload hG dL_best_80 rfl ?_
        refine z_iload_n (i := 3) hG dL_best_82 rfl rfl ?_
        refine z_icmp_lt hG dL_best_83 (tgt := 93) rfl (fun zcq83 => ?_) (fun zcq83 => ?_)
        · exfalso; omega
        · refine z_iload hG dL_best_86 rfl ?_
          refine z_iload hG dL_best_88 rfl ?_
          refine z_icmp_le hG dL_best_90 (tgt := 95) rfl (fun zcq90 => ?_) (fun zcq90 => ?_)
          · refine z_aload_n (i := 0) hG dL_best_95 rfl rfl ?_
            refine z_iconst hG dL_best_96 rfl ?_
            refine z_callV hG dL_best_97 LV_L_68 (cqc_5 l g hI hB hQ) (by decide) rfl rfl rfl (Nat.le_of_ble_eq_true rfl) ?_
            intro v9 mm h9
            rw [h9.1, hpl]
            replace hQ := h9.2
            clear h9 v9
            refine z_istore hG dL_best_100 (by decide) (ls2 := [_, _, _, _, _, _, _, _, _]) rfl ?_
            refine z_iload_n (i := 3) hG dL_best_102 rfl rfl ?_
            refine z_istore hG dL_best_103 (by decide) (ls2 := [_, _, _, _, _, _, _, _, _]) rfl ?_
            first | exact loop (z + 1 - a).toNat a _ mm (by omega) (Int.le_refl a) (-1) (fun q => by omega) hI hF hS (fun q => by omega) hQ | exact loop (z + 1 - a).toNat a _ mm (by omega) (Int.le_refl a) _ (fun _ => rfl) hI hF hS.1 (fun q => by omega) hQ
          · exfalso; omega
  refine z_iload_n (i := 1) hG dL_best_0 rfl rfl ?_
  refine z_aload_n (i := 0) hG dL_best_1 rfl rfl ?_
  refine z_iconst hG dL_best_2 rfl ?_
  refine z_callV hG dL_best_3 LV_L_68 (cqc_2 l g hI hB hQ) (by decide) rfl rfl rfl (Nat.le_of_ble_eq_true rfl) ?_
  intro v9 mm h9
  rw [h9.1]
  replace hQ := h9.2
  clear h9 v9
  refine z_callS hG dL_best_6 LS_L_22 (ct_L_up l g (by omega)) (by decide) rfl rfl (Nat.le_of_ble_eq_true rfl) ?_
  intro v9 m9 h9
  rw [h9.1, h9.2, ← hr]
  clear h9 m9 v9
  refine z_istore_n (i := 2) hG dL_best_9 rfl (by decide) (ls2 := [_, _, _, _, _, _, _, _, _]) rfl ?_
  refine z_iconst hG dL_best_10 rfl ?_
  refine z_iload_n (i := 1) hG dL_best_11 rfl rfl ?_
  refine z_iconst hG dL_best_12 rfl ?_
  refine z_ishr hG dL_best_13 ?_
  refine z_bipush hG dL_best_14 rfl ?_
  refine z_callS hG dL_best_16 LS_L_22 (ct_L_up l g (by decide)) (by decide) rfl rfl (Nat.le_of_ble_eq_true rfl) ?_
  intro v9 m9 h9
  rw [h9.1, h9.2]
  clear h9 m9 v9
  have hu3 := zUp_bd (v := zshr v 3) (m := 20) (by decide)
  refine z_iadd hG dL_best_19 (by omega) (by omega) ?_
  rw [← ha]
  refine z_istore_n (i := 3) hG dL_best_20 rfl (by decide) (ls2 := [_, _, _, _, _, _, _, _, _]) rfl ?_
  refine z_iload_n (i := 3) hG dL_best_21 rfl rfl ?_
  refine z_iload_n (i := 1) hG dL_best_22 rfl rfl ?_
  refine z_bipush hG dL_best_23 rfl ?_
  refine z_ishr hG dL_best_25 ?_
  refine z_bipush hG dL_best_26 rfl ?_
  refine z_iload_n (i := 3) hG dL_best_28 rfl rfl ?_
  refine z_isub hG dL_best_29 (by omega) (by omega) ?_
  refine z_callS hG dL_best_30 LS_L_22 (ct_L_up l g (by omega)) (by decide) rfl rfl (Nat.le_of_ble_eq_true rfl) ?_
  intro v9 m9 h9
  rw [h9.1, h9.2]
  clear h9 m9 v9
  have hu6 := zUp_bd (v := zshr v 6) (m := 21 - a) (by omega)
  refine z_iadd hG dL_best_33 (by omega) (by omega) ?_
  rw [← hz]
  refine z_istore hG dL_best_34 (by decide) (ls2 := [_, _, _, _, _, _, _, _, _]) rfl ?_
  refine z_aload_n (i := 0) hG dL_best_36 rfl rfl ?_
  refine z_iload_n (i := 2) hG dL_best_37 rfl rfl ?_
  refine z_iload_n (i := 3) hG dL_best_38 rfl rfl ?_
  refine z_iload hG dL_best_39 rfl ?_
  refine z_callV hG dL_best_41 LV_L_145 (cq_bestPortions l g hI hB hQ) (by decide) rfl rfl rfl (Nat.le_of_ble_eq_true rfl) ?_
  intro v9 mm h9
  rw [h9.1, hb]
  replace hQ := h9.2
  clear h9 v9
  refine z_istore hG dL_best_44 (by decide) (ls2 := [_, _, _, _, _, _, _, _, _]) rfl ?_
  refine z_aload_n (i := 0) hG dL_best_46 rfl rfl ?_
  refine z_iload_n (i := 2) hG dL_best_47 rfl rfl ?_
  refine z_iconst hG dL_best_48 rfl ?_
  refine z_callV hG dL_best_49 LV_L_90 (cqr_2 l g hI hB hQ (by omega)) (by decide) rfl rfl rfl (Nat.le_of_ble_eq_true rfl) ?_
  intro v9 mm h9
  rw [h9.1]
  replace hQ := h9.2
  clear h9 v9
  refine z_istore hG dL_best_52 (by decide) (ls2 := [_, _, _, _, _, _, _, _, _]) rfl ?_
  refine z_iconst hG dL_best_54 rfl ?_
  refine z_istore hG dL_best_55 (by decide) (ls2 := [_, _, _, _, _, _, _, _, _]) rfl ?_
  exact h57 mm _ hQ
