set_option maxRecDepth 20000 in
theorem ct_L_accounts (l : Launch) (g : zG) {m0 m : zM} {B : Int} (hI : zInv B m0) (hB : B ≤ 8000000) (hQ : zQ m0 m) (hA : zAc m0) : zMet l g Y_L_accounts [zr 0 0 0] m (fun v m' => v = some (zi 1) ∧ zQ m0 m') := by
  refine zMet_introF (by decide +kernel) (Nat.le_of_ble_eq_true rfl) (ls0 := [some (zr 0 0 0), none]) rfl fun X hG hE => ?_
  have hG : zGood X l g RL cL_accounts 7 2 := hG
  have hE : zEnd X (some .boolean) _ := hE
  have hB : B ≤ 11900000 := by omega
  have hI0 := zInv0 hI
  obtain ⟨hday, hhan, hing, hrcp, hrec, hboo, hrow, hrow2, hstp⟩ := id hI0
  obtain ⟨n, hn⟩ := Int.eq_ofNat_of_zero_le hing.1
  have loop : ∀ (N i : Nat) (mm : zM), i + N = n → zQ m0 mm → zZ X 2 [some (zr 0 0 0), some (zi i)] [] mm := by
    intro N
    induction N with
    | zero =>
      intro i mm hin hQ
      refine z_iload_n (i := 1) hG dL_accounts_2 rfl rfl ?_
      refine z_aload_n (i := 0) hG dL_accounts_3 rfl rfl ?_
      refine z_iconst hG dL_accounts_4 rfl ?_
      refine z_callV hG dL_accounts_5 LV_L_68 (cqc_1 l g hI hB hQ) (by decide) rfl rfl rfl (Nat.le_of_ble_eq_true rfl) ?_
      intro v9 mm h9
      rw [h9.1]
      replace hQ := h9.2
      clear h9 v9
      refine z_icmp_ge hG dL_accounts_8 (tgt := 142) rfl (fun zcq8 => ?_) (fun zcq8 => ?_)
      · refine z_iconst hG dL_accounts_142 rfl ?_
        refine z_iret hG hE dL_accounts_143 (by first | exact Or.inl rfl | exact Or.inr rfl | (show _ ∨ _; omega)) ?_
        exact ⟨rfl, hQ⟩
      · exact absurd zcq8 (by omega)
    | succ N ih =>
      intro i mm hin hQ
      have hro := hrow i (by omega) (by omega)
      obtain ⟨a1, a2⟩ := hA i (by omega) (by omega)
      have hl := lz_lots (f := m0 14 0 i) (t := m0 2 0 0 0) (kept := m0 3 0 i 0) (fun j j0 j1 => (hro.2.1 j j0 j1).1) hday.1 ⟨hro.2.2.2.2.2 (by omega), hro.2.2.1.2⟩ a2
      have w1 := zwr_mod (m0 3 0 i 9 + m0 3 0 i 10)
      have he : zwr (m0 3 0 i 8 + m0 3 0 i 11) = zwr (zwr (m0 3 0 i 9 + m0 3 0 i 10) + zsum 30 (m0 14 0 i)) := zwr_eq2 (by omega)
      have h1 : (if zsum 30 (m0 14 0 i) ≤ 0 then (0 : Int) else 1) = (if zsum 30 (fun j => if 0 < m0 14 0 i j then 1 else 0) ≤ 0 then 0 else 1) := by
        split <;> split <;> omega
      have h2 : (if zsum 30 (fun j => if 0 < m0 14 0 i j then 1 else 0) ≤ 0 then (0 : Int) else 1) = (if zfst (m0 14 0 i) 30 (m0 2 0 0 0) 30 1 < 0 then 0 else 1) := by
        split <;> split <;> omega
      refine z_iload_n (i := 1) hG dL_accounts_2 rfl rfl ?_
      refine z_aload_n (i := 0) hG dL_accounts_3 rfl rfl ?_
      refine z_iconst hG dL_accounts_4 rfl ?_
      refine z_callV hG dL_accounts_5 LV_L_68 (cqc_1 l g hI hB hQ) (by decide) rfl rfl rfl (Nat.le_of_ble_eq_true rfl) ?_
      intro v9 mm h9
      rw [h9.1]
      replace hQ := h9.2
      clear h9 v9
      refine z_icmp_ge hG dL_accounts_8 (tgt := 142) rfl (fun zcq8 => ?_) (fun zcq8 => ?_)
      · exact absurd zcq8 (by omega)
      · refine z_aload_n (i := 0) hG dL_accounts_11 rfl rfl ?_
        refine z_iload_n (i := 1) hG dL_accounts_12 rfl rfl ?_
        refine z_bipush hG dL_accounts_13 rfl ?_
        refine z_callV hG dL_accounts_15 LV_L_96 (cqa_8 l g hI hB hQ (by omega)) (by decide) rfl rfl rfl (Nat.le_of_ble_eq_true rfl) ?_
        intro v9 mm h9
        rw [h9.1]
        replace hQ := h9.2
        clear h9 v9
        refine z_aload_n (i := 0) hG dL_accounts_18 rfl rfl ?_
        refine z_iload_n (i := 1) hG dL_accounts_19 rfl rfl ?_
        refine z_bipush hG dL_accounts_20 rfl ?_
        refine z_callV hG dL_accounts_22 LV_L_96 (cqa_11 l g hI hB hQ (by omega)) (by decide) rfl rfl rfl (Nat.le_of_ble_eq_true rfl) ?_
        intro v9 mm h9
        rw [h9.1]
        replace hQ := h9.2
        clear h9 v9
        refine z_iaddw hG dL_accounts_25 ?_
        refine z_aload_n (i := 0) hG dL_accounts_26 rfl rfl ?_
        refine z_iload_n (i := 1) hG dL_accounts_27 rfl rfl ?_
        refine z_bipush hG dL_accounts_28 rfl ?_
        refine z_callV hG dL_accounts_30 LV_L_96 (cqa_9 l g hI hB hQ (by omega)) (by decide) rfl rfl rfl (Nat.le_of_ble_eq_true rfl) ?_
        intro v9 mm h9
        rw [h9.1]
        replace hQ := h9.2
        clear h9 v9
        refine z_aload_n (i := 0) hG dL_accounts_33 rfl rfl ?_
        refine z_iload_n (i := 1) hG dL_accounts_34 rfl rfl ?_
        refine z_bipush hG dL_accounts_35 rfl ?_
        refine z_callV hG dL_accounts_37 LV_L_96 (cqa_10 l g hI hB hQ (by omega)) (by decide) rfl rfl rfl (Nat.le_of_ble_eq_true rfl) ?_
        intro v9 mm h9
        rw [h9.1]
        replace hQ := h9.2
        clear h9 v9
        refine z_iaddw hG dL_accounts_40 ?_
        refine z_aload_n (i := 0) hG dL_accounts_41 rfl rfl ?_
        refine z_iload_n (i := 1) hG dL_accounts_42 rfl rfl ?_
        refine z_iconst hG dL_accounts_43 rfl ?_
        refine z_callV hG dL_accounts_44 LV_L_96 (cqa_5 l g hI hB hQ (by omega)) (by decide) rfl rfl rfl (Nat.le_of_ble_eq_true rfl) ?_
        intro v9 mm h9
        rw [h9.1]
        replace hQ := h9.2
        clear h9 v9
        refine z_iaddw hG dL_accounts_47 ?_
        refine z_icmp_eq hG dL_accounts_48 (tgt := 53) rfl (fun zcq48 => ?_) (fun zcq48 => ?_)
        · refine z_aload_n (i := 0) hG dL_accounts_53 rfl rfl ?_
          refine z_iload_n (i := 1) hG dL_accounts_54 rfl rfl ?_
          refine z_iconst hG dL_accounts_55 rfl ?_
          refine z_callV hG dL_accounts_56 LV_L_96 (cqa_5 l g hI hB hQ (by omega)) (by decide) rfl rfl rfl (Nat.le_of_ble_eq_true rfl) ?_
          intro v9 mm h9
          rw [h9.1]
          replace hQ := h9.2
          clear h9 v9
          refine z_tif_le hG dL_accounts_59 (tgt := 66) (j := 67) rfl (fun K => (z_iconst hG dL_accounts_66 rfl K)) (fun K => (z_iconst hG dL_accounts_62 rfl (z_goto hG dL_accounts_63 (tgt := 67) rfl K))) ?_
          refine z_aload_n (i := 0) hG dL_accounts_67 rfl rfl ?_
          refine z_iload_n (i := 1) hG dL_accounts_68 rfl rfl ?_
          refine z_bipush hG dL_accounts_69 rfl ?_
          refine z_callV hG dL_accounts_71 LV_L_96 (cqa_6 l g hI hB hQ (by omega)) (by decide) rfl rfl rfl (Nat.le_of_ble_eq_true rfl) ?_
          intro v9 mm h9
          rw [h9.1]
          replace hQ := h9.2
          clear h9 v9
          refine z_tif_le hG dL_accounts_74 (tgt := 81) (j := 82) rfl (fun K => (z_iconst hG dL_accounts_81 rfl K)) (fun K => (z_iconst hG dL_accounts_77 rfl (z_goto hG dL_accounts_78 (tgt := 82) rfl K))) ?_
          refine z_icmp_ne hG dL_accounts_82 (tgt := 134) rfl (fun zcq82 => ?_) (fun zcq82 => ?_)
          · exact absurd h1 zcq82
          · refine z_aload_n (i := 0) hG dL_accounts_85 rfl rfl ?_
            refine z_iload_n (i := 1) hG dL_accounts_86 rfl rfl ?_
            refine z_bipush hG dL_accounts_87 rfl ?_
            refine z_callV hG dL_accounts_89 LV_L_96 (cqa_6 l g hI hB hQ (by omega)) (by decide) rfl rfl rfl (Nat.le_of_ble_eq_true rfl) ?_
            intro v9 mm h9
            rw [h9.1]
            replace hQ := h9.2
            clear h9 v9
            refine z_tif_le hG dL_accounts_92 (tgt := 99) (j := 100) rfl (fun K => (z_iconst hG dL_accounts_99 rfl K)) (fun K => (z_iconst hG dL_accounts_95 rfl (z_goto hG dL_accounts_96 (tgt := 100) rfl K))) ?_
            refine z_aload_n (i := 0) hG dL_accounts_100 rfl rfl ?_
            refine z_iload_n (i := 1) hG dL_accounts_101 rfl rfl ?_
            refine z_bipush hG dL_accounts_102 rfl ?_
            refine z_callV hG dL_accounts_104 LV_L_96 (cqa_7 l g hI hB hQ (by omega)) (by decide) rfl rfl rfl (Nat.le_of_ble_eq_true rfl) ?_
            intro v9 mm h9
            rw [h9.1]
            replace hQ := h9.2
            clear h9 v9
            refine z_tif_lt hG dL_accounts_107 (tgt := 114) (j := 115) rfl (fun K => (z_iconst hG dL_accounts_114 rfl K)) (fun K => (z_iconst hG dL_accounts_110 rfl (z_goto hG dL_accounts_111 (tgt := 115) rfl K))) ?_
            refine z_icmp_ne hG dL_accounts_115 (tgt := 134) rfl (fun zcq115 => ?_) (fun zcq115 => ?_)
            · exact absurd h2 zcq115
            · refine z_aload_n (i := 0) hG dL_accounts_118 rfl rfl ?_
              refine z_iload_n (i := 1) hG dL_accounts_119 rfl rfl ?_
              refine z_bipush hG dL_accounts_120 rfl ?_
              refine z_callV hG dL_accounts_122 LV_L_96 (cqa_6 l g hI hB hQ (by omega)) (by decide) rfl rfl rfl (Nat.le_of_ble_eq_true rfl) ?_
              intro v9 mm h9
              rw [h9.1]
              replace hQ := h9.2
              clear h9 v9
              refine z_aload_n (i := 0) hG dL_accounts_125 rfl rfl ?_
              refine z_iload_n (i := 1) hG dL_accounts_126 rfl rfl ?_
              refine z_iconst hG dL_accounts_127 rfl ?_
              refine z_callV hG dL_accounts_128 LV_L_96 (cqa_0 l g hI hB hQ (by omega)) (by decide) rfl rfl rfl (Nat.le_of_ble_eq_true rfl) ?_
              intro v9 mm h9
              rw [h9.1]
              replace hQ := h9.2
              clear h9 v9
              refine z_icmp_le hG dL_accounts_131 (tgt := 136) rfl (fun zcq131 => ?_) (fun zcq131 => ?_)
              · refine z_iinc hG dL_accounts_136 (by decide) rfl (by omega) (by omega) (ls2 := [_, _]) rfl ?_
                refine z_goto hG dL_accounts_139 (tgt := 2) rfl ?_
                exact ih (i + 1) mm (by omega) hQ
              · exfalso; omega
        · exact absurd he zcq48
  refine z_iconst hG dL_accounts_0 rfl ?_
  refine z_istore_n (i := 1) hG dL_accounts_1 rfl (by decide) (ls2 := [_, _]) rfl ?_
  exact loop n 0 m (by omega) hQ
theorem ct_L_schedule2 (l : Launch) (g : zG) {m0 m : zM} {B h : Int} (hI : zInv B m0) (hB : B ≤ 11900000) (hQ : zQ m0 m) (hh : m0 2 0 0 1 = h) : zMet l g Y_L_schedule [zr 0 0 0, zi h] m (fun v m' => v = some (zi 1) ∧ zQ m0 m') := by
  subst hh
  exact ct_L_schedule l g hI hB hQ
theorem ztb_45 {a m : zM} (h4 : ∀ i k : Int, a 4 0 i k = m 4 0 i k) (h5 : ∀ i k : Int, a 5 0 i k = m 5 0 i k) {r c : Int} : ∀ n : Nat, ztb a r c n = ztb m r c n
  | 0 => rfl
  | n + 1 => by
    funext k
    simp only [ztb, ztb_45 h4 h5 n, zlast, zscal, h4, h5]
theorem zEc_45 {a m : zM} (h4 : ∀ i k : Int, a 4 0 i k = m 4 0 i k) (h5 : ∀ i k : Int, a 5 0 i k = m 5 0 i k) : zEc a = zEc m := by
  funext t p
  simp only [zEc, zlast, zscal, ztb_45 h4 h5, h4, h5]
theorem zk_hands_1 {m : zM} {h : Int} (hh : 1 ≤ h ∧ h ≤ 6) : (zk_hands h m).1 = m 2 0 0 1 := by
  unfold zk_hands
  rw [if_neg (by omega)]
theorem zk_hands_2 {m : zM} {h : Int} (hL : 0 ≤ m 1 0 0 1) (hh : 1 ≤ h ∧ h ≤ 6) : (zk_hands h m).2 2 0 0 1 = h ∧ zEc (zk_hands h m).2 = zEc m := by
  unfold zk_hands
  rw [if_neg (by omega)]
  refine ⟨by simp [zset], zEc_45 (fun i k => ?_) (fun i k => ?_)⟩
  · simp only [zset]; rw [if_neg (by omega)]; exact zrecd_0 hL (by decide)
  · simp only [zset]; rw [if_neg (by omega)]; exact zrecd_0 hL (by decide)
/-- the fewest hands -/
theorem zfh_at {E : zE} (hE : zEok E) {t : Int} : ∀ (n : Nat) (h : Int), 1 ≤ h → (zfh E t n h = -6 ∧ ∀ k : Int, h ≤ k → k < h + n → ¬ (0 ≤ zre E k ∧ zre E k ≤ t)) ∨ (h ≤ zfh E t n h ∧ zfh E t n h < h + n ∧ (0 ≤ zre E (zfh E t n h) ∧ zre E (zfh E t n h) ≤ t) ∧ ∀ k : Int, h ≤ k → k < zfh E t n h → ¬ (0 ≤ zre E k ∧ zre E k ≤ t))
  | 0, h, _ => Or.inl ⟨rfl, fun k k0 k1 => by omega⟩
  | n + 1, h, hh => by
    have hd := (lz_run hE (show 0 ≤ h by omega)).2
    have hz : zre E h = -6 ∨ 0 ≤ zre E h := by
      rcases hd with ⟨e, -⟩ | ⟨-, e, -⟩
      · exact Or.inl e
      · exact Or.inr e
    have e : zfh E t (n + 1) h = if zre E h ≠ -6 ∧ zre E h ≤ t then h else zfh E t n (h + 1) := rfl
    rw [e]
    by_cases c : zre E h ≠ -6 ∧ zre E h ≤ t
    · rw [if_pos c]
      exact Or.inr ⟨by omega, by omega, by omega, fun k k0 k1 => by omega⟩
    · rw [if_neg c]
      rcases zfh_at hE (t := t) n (h + 1) (by omega) with ⟨h1, h2⟩ | ⟨h1, h2, h3, h4⟩
      · refine Or.inl ⟨h1, fun k k0 k1 => ?_⟩
        by_cases q : k = h
        · rw [q]; omega
        · exact h2 k (by omega) (by omega)
      · refine Or.inr ⟨by omega, by omega, h3, fun k k0 k1 => ?_⟩
        by_cases q : k = h
        · rw [q]; omega
        · exact h4 k (by omega) k1
set_option maxRecDepth 20000 in
theorem ct_L_times (l : Launch) (g : zG) {m0 m : zM} {B v : Int} (hI : zInv B m0) (hB : B ≤ 11900000) (hQ : zQ m0 m) : zMet l g Y_L_times [zr 0 0 0, zi v] m (fun x m' => x = some (zi 1) ∧ ∃ m1, zInv B m1 ∧ zF m1 m0 ∧ zQ m1 m') := by
  refine zMet_introF (by decide +kernel) (Nat.le_of_ble_eq_true rfl) (ls0 := [some (zr 0 0 0), some (zi v), none, none, none, none]) rfl fun X hG hE => ?_
  have hG : zGood X l g RL cL_times 9 6 := hG
  have hE : zEnd X (some .boolean) _ := hE
  have hrcp := (zInv0 hI).2.2.2.1
  obtain ⟨nr, hnr⟩ := Int.eq_ofNat_of_zero_le hrcp.1
  have loop2 : ∀ (N h : Nat) (m1 mm : zM) (v3 v4 v5 : Option zV), h + N = 7 → 1 ≤ h → zInv B m1 → zF m1 m0 → zQ m1 mm → zZ X 35 [some (zr 0 0 0), some (zi v), some (zi h), v3, v4, v5] [] mm := by
    intro N
    induction N with
    | zero =>
      intro h m1 mm v3 v4 v5 hhn hh hI hF hQ
      obtain ⟨t, ht⟩ : ∃ t : Int, t = zUp (zshr v 7) 900 := ⟨_, rfl⟩
      have htb : 0 ≤ t ∧ t < 900 := by rw [ht]; exact zUp_bd (by decide)
      obtain ⟨E, hEE⟩ : ∃ E : zE, E = zEc m1 := ⟨_, rfl⟩
      have hEk : zEok E := by rw [hEE]; exact zEc_ok (zInv0 hI)
      obtain ⟨F, hFF⟩ : ∃ F : Int, F = zfh E t 6 1 := ⟨_, rfl⟩
      have Fs := zfh_at hEk (t := t) 6 1 (by decide)
      rw [← hFF] at Fs
      have eF : zk_fewestHands t m1 = F := by
        unfold zk_fewestHands
        rw [if_neg (by omega), hFF, hEE]
      have loop3 : ∀ (N h : Nat) (m1 mm : zM) (v5 : Option zV), h + N = 7 → 1 ≤ h → zInv B m1 → zF m1 m0 → zEc m1 = E → zQ m1 mm → zZ X 86 [some (zr 0 0 0), some (zi v), some (zi t), some (zi F), some (zi h), v5] [] mm := by
        intro N
        induction N with
        | zero =>
          intro h m1 mm v5 hhn hh hI hF hEe hQ
          refine z_iload hG dL_times_86 rfl ?_
          refine z_bipush hG dL_times_88 rfl ?_
          refine z_icmp_ge hG dL_times_90 (tgt := 160) rfl (fun zcq90 => ?_) (fun zcq90 => ?_)
          · refine z_iconst hG dL_times_160 rfl ?_
            refine z_iret hG hE dL_times_161 (by first | exact Or.inl rfl | exact Or.inr rfl | (show _ ∨ _; omega)) ?_
            exact ⟨rfl, m1, hI, hF, hQ⟩
          · exact absurd zcq90 (by omega)
        | succ N ih =>
          intro h m1 mm v5 hhn hh hI hF hEe hQ
          have Fh : (F = -6 ∧ ¬ (0 ≤ zre E h ∧ zre E h ≤ t)) ∨ (1 ≤ F ∧ F ≤ 6 ∧ (F = h → 0 ≤ zre E h ∧ zre E h ≤ t) ∧ ((h : Int) < F → ¬ (0 ≤ zre E h ∧ zre E h ≤ t))) := by
            rcases Fs with ⟨f1, f2⟩ | ⟨f1, f2, f3, f4⟩
            · exact Or.inl ⟨f1, f2 h (by omega) (by omega)⟩
            · exact Or.inr ⟨f1, by omega, fun q => by rw [← q]; exact f3, fun q => f4 h (by omega) q⟩
          refine z_iload hG dL_times_86 rfl ?_
          refine z_bipush hG dL_times_88 rfl ?_
          refine z_icmp_ge hG dL_times_90 (tgt := 160) rfl (fun zcq90 => ?_) (fun zcq90 => ?_)
          · exact absurd zcq90 (by omega)
          · refine z_aload_n (i := 0) hG dL_times_93 rfl rfl ?_
            refine z_iload hG dL_times_94 rfl ?_
            refine z_callV hG dL_times_96 LV_L_132 (cm_hands l g (x := (h : Int)) hI hB hQ) (by decide) rfl rfl rfl (Nat.le_of_ble_eq_true rfl) ?_
            intro v9 mm h9
            rw [h9.1, zk_hands_1 (by omega)]
            replace hQ := h9.2
            have eh := zk_hands_2 (m := m1) (h := h) hI.1.1.1 (by omega)
            replace hF := zF_tr (zF_hands (x := h) hI.1.1.1) hF
            have hb1 := (zInv0 hI).2.1
            replace hI := zkj_hands (x := (h : Int)) hI
            clear h9 v9
            refine z_pop hG dL_times_99 ?_
            refine z_aload_n (i := 0) hG dL_times_100 rfl rfl ?_
            refine z_bipush hG dL_times_101 rfl ?_
            refine z_callV hG dL_times_103 LV_L_68 (cqc_8 l g hI hB hQ) (by decide) rfl rfl rfl (Nat.le_of_ble_eq_true rfl) ?_
            intro v9 mm h9
            rw [h9.1, eh.1, eh.2, hEe]
            replace hQ := h9.2
            clear h9 v9
            refine z_if_lt hG dL_times_106 (tgt := 123) rfl (fun zcq106 => ?_) (fun zcq106 => ?_)
            · refine z_iconst hG dL_times_123 rfl ?_
              refine z_istore hG dL_times_124 (by decide) (ls2 := [_, _, _, _, _, _]) rfl ?_
              refine z_iload hG dL_times_126 rfl ?_
              refine z_if_eq hG dL_times_128 (tgt := 141) rfl (fun zcq128 => ?_) (fun zcq128 => ?_)
              · try simp only [zite_eq0, ne_eq, Classical.not_not] at zcq128
                refine z_iload hG dL_times_141 rfl ?_
                refine z_iload_n (i := 3) hG dL_times_143 rfl rfl ?_
                refine z_icmp_ne hG dL_times_144 (tgt := 154) rfl (fun zcq144 => ?_) (fun zcq144 => ?_)
                · refine z_iinc hG dL_times_154 (by decide) rfl (by omega) (by omega) (ls2 := [_, _, _, _, _, _]) rfl ?_
                  refine z_goto hG dL_times_157 (tgt := 86) rfl ?_
                  exact ih (h + 1) _ mm _ (by omega) (by omega) hI hF (eh.2.trans hEe) hQ
                · refine z_iload hG dL_times_147 rfl ?_
                  refine z_if_ne hG dL_times_149 (tgt := 154) rfl (fun zcq149 => ?_) (fun zcq149 => ?_)
                  · try simp only [zite_eq0, ne_eq, Classical.not_not] at zcq149
                    refine z_iinc hG dL_times_154 (by decide) rfl (by omega) (by omega) (ls2 := [_, _, _, _, _, _]) rfl ?_
                    refine z_goto hG dL_times_157 (tgt := 86) rfl ?_
                    exact ih (h + 1) _ mm _ (by omega) (by omega) hI hF (eh.2.trans hEe) hQ
                  · try simp only [zite_eq0, ne_eq, Classical.not_not] at zcq149
                    first | (exfalso; omega) | exact absurd rfl zcq128 | (exfalso; simp at zcq128)
              · try simp only [zite_eq0, ne_eq, Classical.not_not] at zcq128
                refine z_iload_n (i := 3) hG dL_times_131 rfl rfl ?_
                refine z_if_lt hG dL_times_132 (tgt := 152) rfl (fun zcq132 => ?_) (fun zcq132 => ?_)
                · first | (exfalso; omega) | exact absurd rfl zcq128 | (exfalso; simp at zcq128)
                · refine z_iload hG dL_times_135 rfl ?_
                  refine z_iload_n (i := 3) hG dL_times_137 rfl rfl ?_
                  refine z_icmp_lt hG dL_times_138 (tgt := 152) rfl (fun zcq138 => ?_) (fun zcq138 => ?_)
                  · first | (exfalso; omega) | exact absurd rfl zcq128 | (exfalso; simp at zcq128)
                  · refine z_iload hG dL_times_141 rfl ?_
                    refine z_iload_n (i := 3) hG dL_times_143 rfl rfl ?_
                    refine z_icmp_ne hG dL_times_144 (tgt := 154) rfl (fun zcq144 => ?_) (fun zcq144 => ?_)
                    · refine z_iinc hG dL_times_154 (by decide) rfl (by omega) (by omega) (ls2 := [_, _, _, _, _, _]) rfl ?_
                      refine z_goto hG dL_times_157 (tgt := 86) rfl ?_
                      exact ih (h + 1) _ mm _ (by omega) (by omega) hI hF (eh.2.trans hEe) hQ
                    · refine z_iload hG dL_times_147 rfl ?_
                      refine z_if_ne hG dL_times_149 (tgt := 154) rfl (fun zcq149 => ?_) (fun zcq149 => ?_)
                      · try simp only [zite_eq0, ne_eq, Classical.not_not] at zcq149
                        refine z_iinc hG dL_times_154 (by decide) rfl (by omega) (by omega) (ls2 := [_, _, _, _, _, _]) rfl ?_
                        refine z_goto hG dL_times_157 (tgt := 86) rfl ?_
                        exact ih (h + 1) _ mm _ (by omega) (by omega) hI hF (eh.2.trans hEe) hQ
                      · try simp only [zite_eq0, ne_eq, Classical.not_not] at zcq149
                        first | (exfalso; omega) | exact absurd rfl zcq128 | (exfalso; simp at zcq128)
            · refine z_aload_n (i := 0) hG dL_times_109 rfl rfl ?_
              refine z_bipush hG dL_times_110 rfl ?_
              refine z_callV hG dL_times_112 LV_L_68 (cqc_8 l g hI hB hQ) (by decide) rfl rfl rfl (Nat.le_of_ble_eq_true rfl) ?_
              intro v9 mm h9
              rw [h9.1, eh.1, eh.2, hEe]
              replace hQ := h9.2
              clear h9 v9
              refine z_iload_n (i := 2) hG dL_times_115 rfl rfl ?_
              refine z_icmp_gt hG dL_times_116 (tgt := 123) rfl (fun zcq116 => ?_) (fun zcq116 => ?_)
              · refine z_iconst hG dL_times_123 rfl ?_
                refine z_istore hG dL_times_124 (by decide) (ls2 := [_, _, _, _, _, _]) rfl ?_
                refine z_iload hG dL_times_126 rfl ?_
                refine z_if_eq hG dL_times_128 (tgt := 141) rfl (fun zcq128 => ?_) (fun zcq128 => ?_)
                · try simp only [zite_eq0, ne_eq, Classical.not_not] at zcq128
                  refine z_iload hG dL_times_141 rfl ?_
                  refine z_iload_n (i := 3) hG dL_times_143 rfl rfl ?_
                  refine z_icmp_ne hG dL_times_144 (tgt := 154) rfl (fun zcq144 => ?_) (fun zcq144 => ?_)
                  · refine z_iinc hG dL_times_154 (by decide) rfl (by omega) (by omega) (ls2 := [_, _, _, _, _, _]) rfl ?_
                    refine z_goto hG dL_times_157 (tgt := 86) rfl ?_
                    exact ih (h + 1) _ mm _ (by omega) (by omega) hI hF (eh.2.trans hEe) hQ
                  · refine z_iload hG dL_times_147 rfl ?_
                    refine z_if_ne hG dL_times_149 (tgt := 154) rfl (fun zcq149 => ?_) (fun zcq149 => ?_)
                    · try simp only [zite_eq0, ne_eq, Classical.not_not] at zcq149
                      refine z_iinc hG dL_times_154 (by decide) rfl (by omega) (by omega) (ls2 := [_, _, _, _, _, _]) rfl ?_
                      refine z_goto hG dL_times_157 (tgt := 86) rfl ?_
                      exact ih (h + 1) _ mm _ (by omega) (by omega) hI hF (eh.2.trans hEe) hQ
                    · try simp only [zite_eq0, ne_eq, Classical.not_not] at zcq149
                      first | (exfalso; omega) | exact absurd rfl zcq128 | (exfalso; simp at zcq128)
                · try simp only [zite_eq0, ne_eq, Classical.not_not] at zcq128
                  refine z_iload_n (i := 3) hG dL_times_131 rfl rfl ?_
                  refine z_if_lt hG dL_times_132 (tgt := 152) rfl (fun zcq132 => ?_) (fun zcq132 => ?_)
                  · first | (exfalso; omega) | exact absurd rfl zcq128 | (exfalso; simp at zcq128)
                  · refine z_iload hG dL_times_135 rfl ?_
                    refine z_iload_n (i := 3) hG dL_times_137 rfl rfl ?_
                    refine z_icmp_lt hG dL_times_138 (tgt := 152) rfl (fun zcq138 => ?_) (fun zcq138 => ?_)
                    · first | (exfalso; omega) | exact absurd rfl zcq128 | (exfalso; simp at zcq128)
                    · refine z_iload hG dL_times_141 rfl ?_
                      refine z_iload_n (i := 3) hG dL_times_143 rfl rfl ?_
                      refine z_icmp_ne hG dL_times_144 (tgt := 154) rfl (fun zcq144 => ?_) (fun zcq144 => ?_)
                      · refine z_iinc hG dL_times_154 (by decide) rfl (by omega) (by omega) (ls2 := [_, _, _, _, _, _]) rfl ?_
                        refine z_goto hG dL_times_157 (tgt := 86) rfl ?_
                        exact ih (h + 1) _ mm _ (by omega) (by omega) hI hF (eh.2.trans hEe) hQ
                      · refine z_iload hG dL_times_147 rfl ?_
                        refine z_if_ne hG dL_times_149 (tgt := 154) rfl (fun zcq149 => ?_) (fun zcq149 => ?_)
                        · try simp only [zite_eq0, ne_eq, Classical.not_not] at zcq149
                          refine z_iinc hG dL_times_154 (by decide) rfl (by omega) (by omega) (ls2 := [_, _, _, _, _, _]) rfl ?_
                          refine z_goto hG dL_times_157 (tgt := 86) rfl ?_
                          exact ih (h + 1) _ mm _ (by omega) (by omega) hI hF (eh.2.trans hEe) hQ
                        · try simp only [zite_eq0, ne_eq, Classical.not_not] at zcq149
                          first | (exfalso; omega) | exact absurd rfl zcq128 | (exfalso; simp at zcq128)
              · refine z_iconst hG dL_times_119 rfl ?_
                refine z_goto hG dL_times_120 (tgt := 124) rfl ?_
                refine z_istore hG dL_times_124 (by decide) (ls2 := [_, _, _, _, _, _]) rfl ?_
                refine z_iload hG dL_times_126 rfl ?_
                refine z_if_eq hG dL_times_128 (tgt := 141) rfl (fun zcq128 => ?_) (fun zcq128 => ?_)
                · try simp only [zite_eq0, ne_eq, Classical.not_not] at zcq128
                  refine z_iload hG dL_times_141 rfl ?_
                  refine z_iload_n (i := 3) hG dL_times_143 rfl rfl ?_
                  refine z_icmp_ne hG dL_times_144 (tgt := 154) rfl (fun zcq144 => ?_) (fun zcq144 => ?_)
                  · refine z_iinc hG dL_times_154 (by decide) rfl (by omega) (by omega) (ls2 := [_, _, _, _, _, _]) rfl ?_
                    refine z_goto hG dL_times_157 (tgt := 86) rfl ?_
                    exact ih (h + 1) _ mm _ (by omega) (by omega) hI hF (eh.2.trans hEe) hQ
                  · refine z_iload hG dL_times_147 rfl ?_
                    refine z_if_ne hG dL_times_149 (tgt := 154) rfl (fun zcq149 => ?_) (fun zcq149 => ?_)
                    · try simp only [zite_eq0, ne_eq, Classical.not_not] at zcq149
                      refine z_iinc hG dL_times_154 (by decide) rfl (by omega) (by omega) (ls2 := [_, _, _, _, _, _]) rfl ?_
                      refine z_goto hG dL_times_157 (tgt := 86) rfl ?_
                      exact ih (h + 1) _ mm _ (by omega) (by omega) hI hF (eh.2.trans hEe) hQ
                    · try simp only [zite_eq0, ne_eq, Classical.not_not] at zcq149
                      first | (exfalso; omega) | exact absurd rfl zcq128 | (exfalso; simp at zcq128)
                · try simp only [zite_eq0, ne_eq, Classical.not_not] at zcq128
                  refine z_iload_n (i := 3) hG dL_times_131 rfl rfl ?_
                  refine z_if_lt hG dL_times_132 (tgt := 152) rfl (fun zcq132 => ?_) (fun zcq132 => ?_)
                  · first | (exfalso; omega) | exact absurd rfl zcq128 | (exfalso; simp at zcq128)
                  · refine z_iload hG dL_times_135 rfl ?_
                    refine z_iload_n (i := 3) hG dL_times_137 rfl rfl ?_
                    refine z_icmp_lt hG dL_times_138 (tgt := 152) rfl (fun zcq138 => ?_) (fun zcq138 => ?_)
                    · first | (exfalso; omega) | exact absurd rfl zcq128 | (exfalso; simp at zcq128)
                    · refine z_iload hG dL_times_141 rfl ?_
                      refine z_iload_n (i := 3) hG dL_times_143 rfl rfl ?_
                      refine z_icmp_ne hG dL_times_144 (tgt := 154) rfl (fun zcq144 => ?_) (fun zcq144 => ?_)
                      · refine z_iinc hG dL_times_154 (by decide) rfl (by omega) (by omega) (ls2 := [_, _, _, _, _, _]) rfl ?_
                        refine z_goto hG dL_times_157 (tgt := 86) rfl ?_
                        exact ih (h + 1) _ mm _ (by omega) (by omega) hI hF (eh.2.trans hEe) hQ
                      · refine z_iload hG dL_times_147 rfl ?_
                        refine z_if_ne hG dL_times_149 (tgt := 154) rfl (fun zcq149 => ?_) (fun zcq149 => ?_)
                        · try simp only [zite_eq0, ne_eq, Classical.not_not] at zcq149
                          refine z_iinc hG dL_times_154 (by decide) rfl (by omega) (by omega) (ls2 := [_, _, _, _, _, _]) rfl ?_
                          refine z_goto hG dL_times_157 (tgt := 86) rfl ?_
                          exact ih (h + 1) _ mm _ (by omega) (by omega) hI hF (eh.2.trans hEe) hQ
                        · try simp only [zite_eq0, ne_eq, Classical.not_not] at zcq149
                          first | (exfalso; omega) | exact absurd rfl zcq128 | (exfalso; simp at zcq128)
      refine z_iload_n (i := 2) hG dL_times_35 rfl rfl ?_
      refine z_bipush hG dL_times_36 rfl ?_
      refine z_icmp_ge hG dL_times_38 (tgt := 66) rfl (fun zcq38 => ?_) (fun zcq38 => ?_)
      · refine z_iload_n (i := 1) hG dL_times_66 rfl rfl ?_
        refine z_bipush hG dL_times_67 rfl ?_
        refine z_ishr hG dL_times_69 ?_
        refine z_sipush hG dL_times_70 rfl ?_
        refine z_callS hG dL_times_73 LS_L_22 (ct_L_up l g (by decide)) (by decide) rfl rfl (Nat.le_of_ble_eq_true rfl) ?_
        intro v9 m9 h9
        rw [h9.1, h9.2, ← ht]
        clear h9 m9 v9
        refine z_istore_n (i := 2) hG dL_times_76 rfl (by decide) (ls2 := [_, _, _, _, _, _]) rfl ?_
        refine z_aload_n (i := 0) hG dL_times_77 rfl rfl ?_
        refine z_iload_n (i := 2) hG dL_times_78 rfl rfl ?_
        refine z_callV hG dL_times_79 LV_L_138 (cq_fewestHands l g hI hB hQ) (by decide) rfl rfl rfl (Nat.le_of_ble_eq_true rfl) ?_
        intro v9 mm h9
        rw [h9.1, eF]
        replace hQ := h9.2
        clear h9 v9
        refine z_istore_n (i := 3) hG dL_times_82 rfl (by decide) (ls2 := [_, _, _, _, _, _]) rfl ?_
        refine z_iconst hG dL_times_83 rfl ?_
        refine z_istore hG dL_times_84 (by decide) (ls2 := [_, _, _, _, _, _]) rfl ?_
        exact loop3 6 1 m1 mm _ (by decide) (by decide) hI hF hEE.symm hQ
      · exact absurd zcq38 (by omega)
    | succ N ih =>
      intro h m1 mm v3 v4 v5 hhn hh hI hF hQ
      refine z_iload_n (i := 2) hG dL_times_35 rfl rfl ?_
      refine z_bipush hG dL_times_36 rfl ?_
      refine z_icmp_ge hG dL_times_38 (tgt := 66) rfl (fun zcq38 => ?_) (fun zcq38 => ?_)
      · exact absurd zcq38 (by omega)
      · refine z_aload_n (i := 0) hG dL_times_41 rfl rfl ?_
        refine z_iload_n (i := 2) hG dL_times_42 rfl rfl ?_
        refine z_callV hG dL_times_43 LV_L_132 (cm_hands l g (x := (h : Int)) hI hB hQ) (by decide) rfl rfl rfl (Nat.le_of_ble_eq_true rfl) ?_
        intro v9 mm h9
        rw [h9.1, zk_hands_1 (by omega)]
        replace hQ := h9.2
        have eh := zk_hands_2 (m := m1) (h := h) hI.1.1.1 (by omega)
        replace hF := zF_tr (zF_hands (x := h) hI.1.1.1) hF
        have hb1 := (zInv0 hI).2.1
        replace hI := zkj_hands (x := (h : Int)) hI
        clear h9 v9
        refine z_iconst hG dL_times_46 rfl ?_
        refine z_icmp_lt hG dL_times_47 (tgt := 58) rfl (fun zcq47 => ?_) (fun zcq47 => ?_)
        · exact absurd zcq47 (by omega)
        · refine z_aload_n (i := 0) hG dL_times_50 rfl rfl ?_
          refine z_iload_n (i := 2) hG dL_times_51 rfl rfl ?_
          refine z_callS hG dL_times_52 LS_L_135 (ct_L_schedule2 l g hI hB hQ eh.1) (by decide) rfl rfl (Nat.le_of_ble_eq_true rfl) ?_
          intro v9 mm h9
          rw [h9.1]
          replace hQ := h9.2
          clear h9 v9
          refine z_if_ne hG dL_times_55 (tgt := 60) rfl (fun zcq55 => ?_) (fun zcq55 => ?_)
          · try simp only [zite_eq0, ne_eq, Classical.not_not] at zcq55
            refine z_iinc hG dL_times_60 (by decide) rfl (by omega) (by omega) (ls2 := [_, _, _, _, _, _]) rfl ?_
            refine z_goto hG dL_times_63 (tgt := 35) rfl ?_
            exact ih (h + 1) _ mm _ _ _ (by omega) (by omega) hI hF hQ
          · try simp only [zite_eq0, ne_eq, Classical.not_not] at zcq55
            exact absurd zcq55 (by decide)
  have loop1 : ∀ (N r : Nat) (m1 mm : zM) (v3 v4 v5 : Option zV), r + N = nr → zInv B m1 → zF m1 m0 → zQ m1 mm → zZ X 2 [some (zr 0 0 0), some (zi v), some (zi r), v3, v4, v5] [] mm := by
    intro N
    induction N with
    | zero =>
      intro r m1 mm v3 v4 v5 hrn hI hF hQ
      have e5 := hF.2.2.1 5 (by decide)
      refine z_iload_n (i := 2) hG dL_times_2 rfl rfl ?_
      refine z_aload_n (i := 0) hG dL_times_3 rfl rfl ?_
      refine z_iconst hG dL_times_4 rfl ?_
      refine z_callV hG dL_times_5 LV_L_68 (cqc_2 l g hI hB hQ) (by decide) rfl rfl rfl (Nat.le_of_ble_eq_true rfl) ?_
      intro v9 mm h9
      rw [h9.1]
      replace hQ := h9.2
      clear h9 v9
      refine z_icmp_ge hG dL_times_8 (tgt := 33) rfl (fun zcq8 => ?_) (fun zcq8 => ?_)
      · refine z_iconst hG dL_times_33 rfl ?_
        refine z_istore_n (i := 2) hG dL_times_34 rfl (by decide) (ls2 := [_, _, _, _, _, _]) rfl ?_
        exact loop2 6 1 m1 mm _ _ _ (by decide) (by decide) hI hF hQ
      · exact absurd zcq8 (by omega)
    | succ N ih =>
      intro r m1 mm v3 v4 v5 hrn hI hF hQ
      have e5 := hF.2.2.1 5 (by decide)
      refine z_iload_n (i := 2) hG dL_times_2 rfl rfl ?_
      refine z_aload_n (i := 0) hG dL_times_3 rfl rfl ?_
      refine z_iconst hG dL_times_4 rfl ?_
      refine z_callV hG dL_times_5 LV_L_68 (cqc_2 l g hI hB hQ) (by decide) rfl rfl rfl (Nat.le_of_ble_eq_true rfl) ?_
      intro v9 mm h9
      rw [h9.1]
      replace hQ := h9.2
      clear h9 v9
      refine z_icmp_ge hG dL_times_8 (tgt := 33) rfl (fun zcq8 => ?_) (fun zcq8 => ?_)
      · exact absurd zcq8 (by omega)
      · refine z_aload_n (i := 0) hG dL_times_11 rfl rfl ?_
        refine z_iload_n (i := 2) hG dL_times_12 rfl rfl ?_
        refine z_iload_n (i := 1) hG dL_times_13 rfl rfl ?_
        refine z_iconst hG dL_times_14 rfl ?_
        refine z_iload_n (i := 2) hG dL_times_15 rfl rfl ?_
        refine z_imul hG dL_times_16 (by omega) (by omega) ?_
        refine z_ishr hG dL_times_17 ?_
        refine z_bipush hG dL_times_18 rfl ?_
        refine z_callS hG dL_times_20 LS_L_22 (ct_L_up l g (by decide)) (by decide) rfl rfl (Nat.le_of_ble_eq_true rfl) ?_
        intro v9 m9 h9
        rw [h9.1, h9.2]
        clear h9 m9 v9
        refine z_callV hG dL_times_23 LV_L_115 (cm_menu l g hI hB hQ) (by decide) rfl rfl rfl (Nat.le_of_ble_eq_true rfl) ?_
        intro v9 mm h9
        rw [h9.1]
        replace hQ := h9.2
        clear h9 v9
        refine z_pop hG dL_times_26 ?_
        refine z_iinc hG dL_times_27 (by decide) rfl (by omega) (by omega) (ls2 := [_, _, _, _, _, _]) rfl ?_
        refine z_goto hG dL_times_30 (tgt := 2) rfl ?_
        exact ih (r + 1) _ mm _ _ _ (by omega) (zkj_menu hI) (zF_tr (zF_menu hI.1.1.1) hF) hQ
  refine z_iconst hG dL_times_0 rfl ?_
  refine z_istore_n (i := 2) hG dL_times_1 rfl (by decide) (ls2 := [_, _, _, _, _, _]) rfl ?_
  exact loop1 nr 0 m0 m _ _ _ (by omega) hI zF_rf hQ
