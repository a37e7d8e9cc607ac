set_option maxRecDepth 20000 in
theorem ct_X5_run (l : Launch) (g : zG) {E : zE} {m : zM} {h : Int} (hs : zsch m) (ho : zodr m) (hEE : zEok E) (hm : zEm E m) (hO : zOr E m) (hh : 0 ≤ h ∧ h ≤ 6) : zMet l g Y_X5_run [zr 10 0 0, zi h] m (fun v m' => v = none ∧ ∃ b' k last, zRn E h k 0 (fun _ => -6) b' last ∧ ∃ c, zag b' c ∧ (∀ j : Int, 0 ≤ j → j < 32 → -6 ≤ c j ∧ c j ≤ 300000) ∧ m' = zrw m c) := by
  refine zMet_introF (by decide +kernel) (Nat.le_of_ble_eq_true rfl) (ls0 := [some (zr 10 0 0), some (zi h), none, none]) rfl fun X hG hE => ?_
  have hG : zGood X l g RX5 cX5_run 3 4 := hG
  have hE : zEnd X (none) _ := hE
  have h7 := ho.1
  have hs0 : ∀ b' : Int → Int, zsch (zrw m b') := fun b' j h0 h1 => by
    rw [zrw_o (by decide), zrw_o (by decide), zrw_o (by decide)]
    exact hs j h0 h1
  have ho0 : ∀ b' : Int → Int, zodr (zrw m b') := fun b' => by
    refine ⟨by rw [zrw_o (by decide)]; exact ho.1, fun j h0 h1 => ?_⟩
    rw [zrw_o (by decide)] at h1 ⊢
    exact ho.2 j h0 h1
  have dn : ∀ (k : Nat) (last tu : Int) (b' : Int → Int), (∀ j : Int, 0 ≤ j → j < 32 → -6 ≤ b' j ∧ b' j ≤ 300000) → zRn E h k 0 (zfill m 40 0 0 32 (-6) 40 0 0) b' last → zZ X 26 [some (zr 10 0 0), some (zi h), some (zi (-6)), some (zi tu)] [] (zrw m b') := by
    intro k last tu b' hbb hR
    have fin : (none : Option zV) = none ∧ ∃ b2 k last, zRn E h k 0 (fun _ => -6) b2 last ∧ ∃ c, zag b2 c ∧ (∀ j : Int, 0 ≤ j → j < 32 → -6 ≤ c j ∧ c j ≤ 300000) ∧ zrw m b' = zrw m c := by
      obtain ⟨c', hc, ha⟩ := zRn_ag k _ _ _ (fun _ => -6) _ hR (fun p p0 p1 => by simp [zfill, p0, p1])
      exact ⟨rfl, c', k, last, hc, b', fun p p0 p1 => (ha p p0 p1).symm, hbb, rfl⟩
    refine z_iload_n (i := 3) hG dX5_run_26 rfl rfl ?_
    refine z_bipush hG dX5_run_27 rfl ?_
    refine z_icmp_gt hG dX5_run_29 (tgt := 56) rfl (fun c29 => ?_) (fun c29 => ?_)
    · refine z_vret hG hE dX5_run_56 ?_
      exact fin
    · refine z_iload_n (i := 2) hG dX5_run_32 rfl rfl ?_
      refine z_bipush hG dX5_run_33 rfl ?_
      refine z_icmp_eq hG dX5_run_35 (tgt := 56) rfl (fun c35 => ?_) (fun c35 => ?_)
      · refine z_vret hG hE dX5_run_56 ?_
        exact fin
      · exact absurd rfl c35
  have loop : ∀ (n tu : Nat) (t : Int) (b : Int → Int), tu + n = 33 → (0 ≤ t ∧ t ≤ 5000 * tu) → (tu : Int) ≤ zcn E b t → (∀ j : Int, 0 ≤ j → j < 32 → -6 ≤ b j ∧ b j ≤ t) → (∀ (k : Nat) (b' : Int → Int) (last : Int), zRn E h k t b b' last → ∃ k2, zRn E h k2 0 (zfill m 40 0 0 32 (-6) 40 0 0) b' last) → zZ X 26 [some (zr 10 0 0), some (zi h), some (zi t), some (zi tu)] [] (zrw m b) := by
    intro n
    induction n with
    | zero =>
      intro tu t b htu ht hc hb hC
      have := zcn_le (E := E) (b := b) (t := t)
      omega
    | succ n ih =>
      intro tu t b htu ht hc hb hC
      refine z_iload_n (i := 3) hG dX5_run_26 rfl rfl ?_
      refine z_bipush hG dX5_run_27 rfl ?_
      refine z_icmp_gt hG dX5_run_29 (tgt := 56) rfl (fun c29 => ?_) (fun c29 => ?_)
      · exact absurd c29 (by omega)
      · refine z_iload_n (i := 2) hG dX5_run_32 rfl rfl ?_
        refine z_bipush hG dX5_run_33 rfl ?_
        refine z_icmp_eq hG dX5_run_35 (tgt := 56) rfl (fun c35 => ?_) (fun c35 => ?_)
        · exact absurd c35 (by omega)
        · refine z_aload_n (i := 0) hG dX5_run_38 rfl rfl ?_
          refine z_iload_n (i := 2) hG dX5_run_39 rfl rfl ?_
          refine z_iload_n (i := 1) hG dX5_run_40 rfl rfl ?_
          refine z_callV hG dX5_run_41 LV_X5_88 (ct_X5_beginAt l g hs ho hEE hm hO (fun j h0 h1 => by have := hb j h0 h1; omega) ⟨by omega, by omega⟩ hh) (by decide) rfl rfl rfl (Nat.le_of_ble_eq_true rfl) ?_
          intro v9 m9 h9
          obtain ⟨h9a, b1, n1, hg, hb1, h9b⟩ := h9
          rw [h9a, h9b]
          clear h9a h9b m9 v9
          refine z_aload_n (i := 0) hG dX5_run_44 rfl rfl ?_
          refine z_iload_n (i := 2) hG dX5_run_45 rfl rfl ?_
          refine z_callV hG dX5_run_46 LV_X5_92 (ct_X5_nextEnd l g (hs0 b1) (fun j h0 h1 => by rw [zrw_b]; have := hb1 j h0 h1; have := hb j h0 h1; omega) (ho0 b1)) (by decide) rfl rfl rfl (Nat.le_of_ble_eq_true rfl) ?_
          intro v9 m9 h9
          rw [h9.1, h9.2]
          clear h9 m9 v9
          rw [zrw_o (by decide)]
          have hr := znx_E (b := b1) ht.1 hm ho hO
          generalize znx (zrw m b1) t (m 10 0 0 7).toNat = r at hr ⊢
          refine z_istore_n (i := 2) hG dX5_run_49 rfl (by decide) (ls2 := [_, _, _, _]) rfl ?_
          refine z_iinc hG dX5_run_50 (by decide) rfl (by omega) (by omega) (ls2 := [_, _, _, _]) rfl ?_
          refine z_goto hG dX5_run_53 (tgt := 26) rfl ?_
          by_cases e : r = -6
          · obtain ⟨k2, hk2⟩ := hC 1 b1 t ⟨b1, n1, r, hg, hr, Or.inl ⟨e, rfl, rfl⟩⟩
            rw [e]
            exact dn k2 t _ b1 (fun j h0 h1 => by have := hb1 j h0 h1; have := hb j h0 h1; omega) hk2
          · have hup := zcn_up hb1 hr e
            have hrt : t < r ∧ r ≤ t + 5000 := by
              rcases hr with ⟨q, -⟩ | ⟨q, ⟨p, p0, p1, p2, p3, p4⟩, -⟩
              · exact absurd q e
              · have := (hEE p p0 p1 p2).1
                have := hb1 p p0 p1
                have := hb p p0 p1
                omega
            exact ih (tu + 1) r b1 (by omega) ⟨by omega, by omega⟩ (by omega) (fun j h0 h1 => by have := hb1 j h0 h1; have := hb j h0 h1; omega) (fun k b' last hR => hC (k + 1) b' last ⟨b1, n1, r, hg, hr, Or.inr ⟨e, hR⟩⟩)
  have fill : ∀ (n : Nat) (j : Int), 0 ≤ j → j + n = 32 → zZ X 2 [some (zr 10 0 0), some (zi h), some (zi j), none] [] (zfill m 40 0 0 j (-6)) := by
    intro n
    induction n with
    | zero =>
      intro j hj0 hj
      refine z_iload_n (i := 2) hG dX5_run_2 rfl rfl ?_
      refine z_bipush hG dX5_run_3 rfl ?_
      refine z_icmp_ge hG dX5_run_5 (tgt := 22) rfl (fun c5 => ?_) (fun c5 => ?_)
      · refine z_iconst hG dX5_run_22 rfl ?_
        refine z_istore_n (i := 2) hG dX5_run_23 rfl (by decide) (ls2 := [_, _, _, _]) rfl ?_
        refine z_iconst hG dX5_run_24 rfl ?_
        refine z_istore_n (i := 3) hG dX5_run_25 rfl (by decide) (ls2 := [_, _, _, _]) rfl ?_
        rw [show j = 32 by omega]
        have e := loop 33 0 0 (zfill m 40 0 0 32 (-6) 40 0 0) rfl (by decide) (zsum_le (B := 1) 32 (fun j h0 h1 => by split <;> omega)).1 (fun j h0 h1 => by simp [zfill, h0, h1]) (fun k b' last hR => ⟨k, hR⟩)
        have e2 : zrw m (zfill m 40 0 0 32 (-6) 40 0 0) = zfill m 40 0 0 32 (-6) := by
          funext t s i k
          simp only [zrw, zfill]
          grind
        rw [e2] at e
        exact e
      · exact absurd c5 (by omega)
    | succ n ih =>
      intro j hj0 hj
      refine z_iload_n (i := 2) hG dX5_run_2 rfl rfl ?_
      refine z_bipush hG dX5_run_3 rfl ?_
      refine z_icmp_ge hG dX5_run_5 (tgt := 22) rfl (fun c5 => ?_) (fun c5 => ?_)
      · exact absurd c5 (by omega)
      · refine z_aload_n (i := 0) hG dX5_run_8 rfl rfl ?_
        refine z_get_5_1 hG dX5_run_9 FL_X5_15 ?_
        refine z_iload_n (i := 2) hG dX5_run_12 rfl rfl ?_
        refine z_bipush hG dX5_run_13 rfl ?_
        refine z_iast hG dX5_run_15 rfl rfl (by omega) (by omega) ?_
        refine z_iinc hG dX5_run_16 (by decide) rfl (by omega) (by omega) (ls2 := [_, _, _, _]) rfl ?_
        refine z_goto hG dX5_run_19 (tgt := 2) rfl ?_
        exact z_mem (zfill_s hj0 rfl) (ih (j + 1) (by omega) (by omega))
  refine z_iconst hG dX5_run_0 rfl ?_
  refine z_istore_n (i := 2) hG dX5_run_1 rfl (by decide) (ls2 := [_, _, _, _]) rfl ?_
  exact z_mem zfill_0.symm (fill 32 0 (by decide) rfl)
