/-- the schedule's arrays stand for a menu -/
def zBd (E : zE) (m mm : zM) : Prop := (∀ (t : Nat) (s i k : Int), ¬ (zsct t ∨ t = 40) → mm t s i k = m t s i k) ∧ zsch mm ∧ zodr mm ∧ zEm E mm ∧ zOr E mm
theorem zBd_rw {E : zE} {m mm : zM} {c : Int → Int} (h : zBd E m mm) : zBd E m (zrw mm c) := by
  obtain ⟨h1, h2, h3, h4, h5⟩ := h
  have e44 : ∀ j : Int, zrw mm c 44 0 0 j = mm 44 0 0 j := fun j => zrw_o (by decide)
  have e7 : zrw mm c 10 0 0 7 = mm 10 0 0 7 := zrw_o (by decide)
  refine ⟨fun t s i k h => ?_, fun j j0 j1 => ?_, zodr_congr e44 e7 h3, fun q q0 q1 q2 => ?_, zOr_congr e44 e7 h5⟩
  · rw [zrw_o (fun z => h (Or.inr z))]
    exact h1 t s i k h
  · rw [zrw_o (by decide), zrw_o (by decide), zrw_o (by decide)]
    exact h2 j j0 j1
  · rw [zrw_o (by decide), zrw_o (by decide), zrw_o (by decide), zrw_o (by decide)]
    exact h4 q q0 q1 q2
theorem zGI_done {E : zE} {m mm : zM} (h : zGI E m 32 32 (fun p => p < 32) mm) : zBd E m mm := by
  obtain ⟨hf, hs, ho, hn, hO, hd, ht, hw, hx⟩ := h
  have e : ∀ p : Int, p < 32 → zEr E 32 0 p = E 0 p := fun p hp => by simp [zEr, hp]
  refine ⟨fun t s i k h => hf t s i k (fun z => h (Or.inl z)), hs, ho, fun q q0 q1 q2 => ?_, fun j j0 j1 => ?_, fun q q0 q1 q2 => ?_, fun i j i0 ij jn => ?_, fun f => ?_⟩
  · have a := hd q q0 q1 q2
    exact ⟨a.1, a.2.1, a.2.2, ht q q0 q1 q1 q2⟩
  · have := hO.1 j j0 j1
    rwa [e _ (ho.2 j j0 j1).2] at this
  · exact hO.2.1 q q0 q1 (by rw [e q q1]; exact q2)
  · have := hO.2.2.1 i j i0 ij jn
    simpa [zahd, zEr] using this
  · rw [hO.2.2.2 f]
    exact zsum_congr 32 (fun j j0 j1 => by rw [e j j1])
noncomputable def zfh (E : zE) (t : Int) : Nat → Int → Int
  | 0, _ => -6
  | n + 1, h => if zre E h ≠ -6 ∧ zre E h ≤ t then h else zfh E t n (h + 1)
noncomputable def zk_fewestHands (t : Int) (m : zM) : Int := if ¬ (0 ≤ t ∧ t ≤ 5000) then -2 else zfh (zEc m) t 6 1
/-- two memories are the same but for what the schedule writes -/
def zEqs (m2 m : zM) : Prop := ∀ (t : Nat) (s i k : Int), ¬ (zsct t ∨ t = 40) → m2 t s i k = m t s i k
set_option maxRecDepth 20000 in
theorem ct_X10_fewestHands (l : Launch) (g : zG) {mem : zM} {B : Int} {t : Int} (hI : zInv B mem) (hB : B ≤ 11900000) (hsc : zsch mem) : zMet l g Y_X10_fewestHands [zr 0 0 0, zi t] mem (fun v m' => v = some (zi (zk_fewestHands t mem)) ∧ zEqs m' mem ∧ zsch m') := by
  refine zMet_introF (by decide +kernel) (Nat.le_of_ble_eq_true rfl) (ls0 := [some (zr 0 0 0), some (zi t), none, none]) rfl fun X hG hE => ?_
  have hG : zGood X l g RX10 cX10_fewestHands 5 4 := hG
  have hE : zEnd X (some .int) _ := hE
  have hI0 := zInv0 hI
  obtain ⟨hday, hhan, hing, hrcp, hrec, hboo, hrow, hrow2, hstp⟩ := id hI0
  have hr0 : ∀ (t : Nat) (i k : Int), t ≠ 1 → zrecd mem t 0 i k = mem t 0 i k := fun t i k ht => zrecd_0 hI.1.1.1 ht
  have loop : ∀ (n : Nat) (h : Int) (m1 : zM), 1 ≤ h ∧ h + n = 7 → zBd (zEc mem) mem m1 → zk_fewestHands t mem = zfh (zEc mem) t n h → zZ X 27 [some (zr 0 0 0), some (zi t), some (zi h), none] [] m1 := by
    intro n
    induction n with
    | zero =>
      intro h m1 hh hBd hk
      refine z_iload_n (i := 2) hG dX10_fewestHands_27 rfl rfl ?_
      refine z_bipush hG dX10_fewestHands_28 rfl ?_
      refine z_icmp_gt hG dX10_fewestHands_30 (tgt := 68) rfl (fun c30 => ?_) (fun c30 => ?_)
      · refine z_bipush hG dX10_fewestHands_68 rfl ?_
        refine z_iret hG hE dX10_fewestHands_70 trivial ?_
        exact ⟨by rw [hk]; rfl, hBd.1, hBd.2.1⟩
      · exact absurd c30 (by omega)
    | succ n ih =>
      intro h m1 hh hBd hk
      have hEE := zEc_ok hI0
      rw [zfh] at hk
      refine z_iload_n (i := 2) hG dX10_fewestHands_27 rfl rfl ?_
      refine z_bipush hG dX10_fewestHands_28 rfl ?_
      refine z_icmp_gt hG dX10_fewestHands_30 (tgt := 68) rfl (fun c30 => ?_) (fun c30 => ?_)
      · exact absurd c30 (by omega)
      · refine z_aload_n (i := 0) hG dX10_fewestHands_33 rfl rfl ?_
        refine z_get_10_7 hG dX10_fewestHands_34 FL_X10_53 ?_
        refine z_iload_n (i := 2) hG dX10_fewestHands_37 rfl rfl ?_
        refine z_callV hG dX10_fewestHands_38 LV_X10_297 (ct_X5_run l g hBd.2.1 hBd.2.2.1 hEE hBd.2.2.2.1 hBd.2.2.2.2 ⟨by omega, by omega⟩) (by decide) rfl rfl rfl (Nat.le_of_ble_eq_true rfl) ?_
        intro v9 m9 h9
        obtain ⟨h9a, b2, k2, last2, hR2, c2, ha2, hb2, h9b⟩ := h9
        rw [h9a, h9b]
        clear h9a h9b m9 v9
        refine z_aload_n (i := 0) hG dX10_fewestHands_41 rfl rfl ?_
        refine z_get_10_7 hG dX10_fewestHands_42 FL_X10_53 ?_
        refine z_callV hG dX10_fewestHands_45 LV_X10_300 (ct_X5_end l g (zBd_rw hBd).2.1 (fun j j0 j1 => by rw [zrw_b]; exact hb2 j j0 j1) (zBd_rw hBd).2.2.1) (by decide) rfl rfl rfl (Nat.le_of_ble_eq_true rfl) ?_
        intro v9 m9 h9
        obtain ⟨r9, h9a, h9b, h9c⟩ := h9
        rw [h9a, h9b]
        clear h9a h9b m9 v9
        have hre : zre (zEc mem) h = r9 := zre_eq ⟨k2, b2, last2, hR2, zEd_ag ha2 (zEd_of hBd.2.2.2.1 hBd.2.2.1 hBd.2.2.2.2 h9c)⟩
        rw [hre] at hk
        refine z_istore_n (i := 3) hG dX10_fewestHands_48 rfl (by decide) (ls2 := [_, _, _, _]) rfl ?_
        refine z_iload_n (i := 3) hG dX10_fewestHands_49 rfl rfl ?_
        refine z_bipush hG dX10_fewestHands_50 rfl ?_
        refine z_icmp_eq hG dX10_fewestHands_52 (tgt := 62) rfl (fun c52 => ?_) (fun c52 => ?_)
        · refine z_iinc hG dX10_fewestHands_62 (by decide) rfl (by omega) (by omega) (ls2 := [_, _, _, _]) rfl ?_
          refine z_goto hG dX10_fewestHands_65 (tgt := 27) rfl ?_
          refine z_forget [true, true, true, false] rfl (ih (h + 1) _ ⟨by omega, by omega⟩ (zBd_rw hBd) ?_)
          rw [hk, if_neg (by omega)]
        · refine z_iload_n (i := 3) hG dX10_fewestHands_55 rfl rfl ?_
          refine z_iload_n (i := 1) hG dX10_fewestHands_56 rfl rfl ?_
          refine z_icmp_gt hG dX10_fewestHands_57 (tgt := 62) rfl (fun c57 => ?_) (fun c57 => ?_)
          · refine z_iinc hG dX10_fewestHands_62 (by decide) rfl (by omega) (by omega) (ls2 := [_, _, _, _]) rfl ?_
            refine z_goto hG dX10_fewestHands_65 (tgt := 27) rfl ?_
            refine z_forget [true, true, true, false] rfl (ih (h + 1) _ ⟨by omega, by omega⟩ (zBd_rw hBd) ?_)
            rw [hk, if_neg (by omega)]
          · refine z_iload_n (i := 2) hG dX10_fewestHands_60 rfl rfl ?_
            refine z_iret hG hE dX10_fewestHands_61 trivial ?_
            exact ⟨by rw [hk, if_pos (by omega)], (zBd_rw hBd).1, (zBd_rw hBd).2.1⟩
  refine z_iload_n (i := 1) hG dX10_fewestHands_0 rfl rfl ?_
  refine z_iconst hG dX10_fewestHands_1 rfl ?_
  refine z_sipush hG dX10_fewestHands_2 rfl ?_
  refine z_callS hG dX10_fewestHands_5 LS_X10_57 (ct_X10_isWithin l g) (by decide) rfl rfl (Nat.le_of_ble_eq_true rfl) ?_
  intro v9 m9 h9
  rw [h9.1, h9.2]
  clear h9 m9 v9
  refine z_if_ne hG dX10_fewestHands_8 (tgt := 14) rfl (fun c8 => ?_) (fun c8 => ?_)
  · try simp only [zite_eq0, ne_eq, Classical.not_not] at c8
    refine z_aload_n (i := 0) hG dX10_fewestHands_14 rfl rfl ?_
    refine z_get_10_7 hG dX10_fewestHands_15 FL_X10_53 ?_
    refine z_aload_n (i := 0) hG dX10_fewestHands_18 rfl rfl ?_
    refine z_get_10_0 hG dX10_fewestHands_19 FL_X10_12 ?_
    refine z_callV hG dX10_fewestHands_22 LV_X10_282 (ct_X5_gather l g hI0 hsc) (by decide) rfl rfl rfl (Nat.le_of_ble_eq_true rfl) ?_
    intro v9 m1 h9
    obtain ⟨h9a, hGI⟩ := h9
    rw [h9a]
    clear h9a v9
    have hBd := zGI_done hGI
    have hEE := zEc_ok hI0
    refine z_iconst hG dX10_fewestHands_25 rfl ?_
    refine z_istore_n (i := 2) hG dX10_fewestHands_26 rfl (by decide) (ls2 := [_, _, _, _]) rfl ?_
    exact loop 6 1 m1 (by decide) hBd (by rw [zk_fewestHands, if_neg (fun z => z c8)])
  · try simp only [zite_eq0, ne_eq, Classical.not_not] at c8
    refine z_bipush hG dX10_fewestHands_11 rfl ?_
    refine z_iret hG hE dX10_fewestHands_13 trivial ?_
    exact ⟨by rw [zk_fewestHands, if_pos c8], fun _ _ _ _ _ => rfl, hsc⟩
