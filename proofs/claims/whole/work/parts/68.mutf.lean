/-- a day ends: i ingredients are done -/
def zRp (A : zM) (f : Int → Int) (i t : Int) : Prop := (f 0 = A 2 0 0 0 ∧ A 2 0 0 0 = t + 1) ∧ f 1 = A 2 0 0 4 ∧ f 2 = A 2 0 0 5 ∧ f 3 = A 2 0 0 1 ∧ f 4 = A 2 0 0 2 ∧ f 5 = A 2 0 0 3 ∧ (∀ j : Int, 0 ≤ j → j < 8 → j < A 2 0 0 4 → (j < i → zRi A 0 j f) ∧ (i ≤ j → zRi (zset A 2 0 0 0 t) 0 j f)) ∧ (∀ j k : Int, 0 ≤ j → j < 8 → A 2 0 0 4 ≤ j → 0 ≤ k → k < 46 → f (6 + 46 * j + k) = 0) ∧ (∀ r : Int, 0 ≤ r → r < 4 → r < A 2 0 0 5 → zRr A 0 r f)
theorem zRp_0 {A : zM} {f f' : Int → Int} {t : Int} (h : zRel A 0 f) (ht : A 2 0 0 0 = t) (hf : ∀ q : Int, f' q = if q = 0 then t + 1 else f q) : zRp (zset A 2 0 0 0 (t + 1)) f' 0 t := by
  obtain ⟨h0, h1, h2, h3, h4, h5, hi, hz, hr⟩ := h
  have hf' : ∀ q : Int, q ≠ 0 → f' q = f q := fun q hq => by rw [hf, if_neg hq]
  have hA : ∀ (t' : Nat) (s j k : Int), (t' ≠ 2 ∨ k ≠ 0) → zset A 2 0 0 0 (t + 1) t' s j k = A t' s j k := fun t' s j k hh => by
    simp only [zset]
    rw [if_neg (by omega)]
  refine ⟨⟨by rw [hf, if_pos rfl]; simp [zset], by simp [zset]⟩, ?_, ?_, ?_, ?_, ?_, fun j j0 j1 j2 => ⟨fun q => by omega, fun q => ?_⟩, fun j k j0 j1 j2 k0 k1 => ?_, fun r r0 r1 r2 => ?_⟩
  · rw [hf' 1 (by decide), hA 2 0 0 4 (by decide), h1]
  · rw [hf' 2 (by decide), hA 2 0 0 5 (by decide), h2]
  · rw [hf' 3 (by decide), hA 2 0 0 1 (by decide), h3]
  · rw [hf' 4 (by decide), hA 2 0 0 2 (by decide), h4]
  · rw [hf' 5 (by decide), hA 2 0 0 3 (by decide), h5]
  · rw [hA 2 0 0 4 (by decide)] at j2
    rw [zset_set, ← ht, zset_same]
    exact zRi_mv (fun q q0 q1 => hf' q (by omega)) (fun _ _ _ => rfl) rfl (hi j j0 j1 j2)
  · rw [hA 2 0 0 4 (by decide)] at j2
    rw [hf' _ (by omega)]
    exact hz j k j0 j1 j2 k0 k1
  · rw [hA 2 0 0 5 (by decide)] at r2
    exact zRr_mv (fun q q0 q1 => hf' q (by omega)) (fun t' k hh => hA t' 0 r k (by omega)) (fun k w k0 k1 => hA 5 0 _ w (by omega)) (hr r r0 r1 r2)
theorem zRp_s {A : zM} {f f' : Int → Int} {i t v : Int} (h : zRp A f i t) (ht : 0 ≤ t) (hi0 : 0 ≤ i ∧ i < 8) (hi4 : i < A 2 0 0 4) (hf : ∀ q : Int, f' q = if q = 6 + 46 * i + 7 then v else if q = 6 + 46 * i + (15 + (t + 1) % 31) then 0 else f q) : zRp (zset (zset A 14 0 i ((t + 1) % 30) 0) 3 0 i 10 v) f' (i + 1) t := by
  obtain ⟨⟨h0, ht1⟩, h1, h2, h3, h4, h5, hi, hz, hr⟩ := h
  have hf' : ∀ q : Int, (q < 6 + 46 * i ∨ 52 + 46 * i ≤ q) → f' q = f q := fun q hq => by rw [hf, if_neg (by omega), if_neg (by omega)]
  obtain ⟨A', hA'⟩ : ∃ A', A' = zset (zset A 14 0 i ((t + 1) % 30) 0) 3 0 i 10 v := ⟨_, rfl⟩
  rw [← hA']
  have hA : ∀ (t' : Nat) (j k : Int), ((t' ≠ 14 ∧ t' ≠ 3) ∨ j ≠ i ∨ (t' = 3 ∧ k ≠ 10)) → A' t' 0 j k = A t' 0 j k := fun t' j k hh => by
    rw [hA']
    simp only [zset]
    rw [if_neg (by omega), if_neg (by omega)]
  have hA10 : A' 3 0 i 10 = v := by rw [hA']; simp [zset]
  have hA14 : ∀ k : Int, A' 14 0 i k = if k = (t + 1) % 30 then 0 else A 14 0 i k := fun k => by
    rw [hA']
    simp only [zset]
    rw [if_neg (by omega)]
    by_cases c : k = (t + 1) % 30
    · rw [if_pos (by simp [c]), if_pos c]
    · rw [if_neg (by simp [c]), if_neg c]
  clear hA'
  have hA2 : ∀ k : Int, A' 2 0 0 k = A 2 0 0 k := fun k => hA 2 0 k (by omega)
  refine ⟨⟨by rw [hf' 0 (by omega), hA2, h0], by rw [hA2, ht1]⟩, by rw [hf' 1 (by omega), hA2, h1], by rw [hf' 2 (by omega), hA2, h2], by rw [hf' 3 (by omega), hA2, h3], by rw [hf' 4 (by omega), hA2, h4], by rw [hf' 5 (by omega), hA2, h5], fun j j0 j1 j2 => ?_, fun j k j0 j1 j2 k0 k1 => ?_, fun r r0 r1 r2 => ?_⟩
  · rw [hA2] at j2
    have hj := hi j j0 j1 j2
    refine ⟨fun q => ?_, fun q => ?_⟩
    · by_cases c : j = i
      · subst c
        obtain ⟨a0, a1, a2, a3, a4, a5, a6, a7, a8, a9, a10, a11, a12⟩ := hj.2 (Int.le_refl _)
        have e3 : ∀ k : Int, zset A 2 0 0 0 t 3 0 j k = A 3 0 j k := fun k => by simp [zset]
        have e12 : ∀ k : Int, zset A 2 0 0 0 t 12 0 j k = A 12 0 j k := fun k => by simp [zset]
        have e13 : ∀ k : Int, zset A 2 0 0 0 t 13 0 j k = A 13 0 j k := fun k => by simp [zset]
        have e14 : ∀ k : Int, zset A 2 0 0 0 t 14 0 j k = A 14 0 j k := fun k => by simp [zset]
        have e2 : zset A 2 0 0 0 t 2 0 0 0 = t := by simp [zset]
        simp only [e3, e12, e13, e14, e2] at a0 a1 a2 a3 a4 a5 a6 a7 a8 a9 a10 a11 a12
        have hfo : ∀ q : Int, q ≠ 6 + 46 * j + 7 → q < 6 + 46 * j + 15 → f' q = f q := fun q h1 h2 => by rw [hf, if_neg h1, if_neg (by omega)]
        rw [zRi, hA2, ht1, hA 3 j 0 (by omega), hA 3 j 1 (by omega), hA 3 j 2 (by omega), hA 3 j 5 (by omega), hA 3 j 6 (by omega), hA 3 j 8 (by omega), hA 3 j 9 (by omega), hA 3 j 11 (by omega), hA10]
        refine ⟨?_, ?_, ?_, ?_, fun q => ?_, a5, ?_, ?_, ?_, ?_, fun k k0 k1 k2 => ?_, fun d d0 d1 => ?_, ?_⟩
        · rw [hfo _ (by omega) (by omega), a0]
        · rw [hfo _ (by omega) (by omega), a1]
        · rw [hfo _ (by omega) (by omega), a2]
        · rw [hfo _ (by omega) (by omega), a3]
        · rw [hfo _ (by omega) (by omega), a4 q]
        · rw [hfo _ (by omega) (by omega), a6]
        · rw [hfo _ (by omega) (by omega), a7]
        · rw [hf, if_pos rfl]
        · rw [hfo _ (by omega) (by omega), a9]
        · rw [hfo _ (by omega) (by omega), hfo (6 + 46 * j + (9 + 2 * k + 1)) (by omega) (by omega), hA 12 j k (by omega), hA 13 j k (by omega)]
          exact a10 k k0 k1 k2
        · rw [hf, if_neg (by omega), hA14]
          by_cases c : d = 30
          · subst c
            rw [if_neg (by omega), if_pos (by omega), show (t + 1 + 30) % 31 = t % 31 by omega, a12]
          · rw [if_neg (by omega), if_neg (by omega), show t + 1 + d = t + (d + 1) by omega]
            exact a11 (d + 1) (by omega) (by omega)
        · rw [hf, if_neg (by omega), if_pos rfl]
      · exact zRi_mv (fun q q0 q1 => hf' q (by omega)) (fun t' k hh => hA t' j k (by omega)) (hA2 0) (hj.1 (by omega))
    · exact zRi_mv (fun q q0 q1 => hf' q (by omega)) (fun t' k hh => by
        have := hA t' j k (by omega)
        simp only [zset]
        rw [if_neg (by omega), if_neg (by omega), this]) (by simp [zset]) (hj.2 (by omega))
  · rw [hA2] at j2
    rw [hf' _ (by omega)]
    exact hz j k j0 j1 j2 k0 k1
  · rw [hA2] at r2
    exact zRr_mv (fun q q0 q1 => hf' q (by omega)) (fun t' k hh => hA t' r k (by omega)) (fun k w k0 k1 => hA 5 _ w (by omega)) (hr r r0 r1 r2)
theorem zRp_end {A A' : zM} {f : Int → Int} {i t : Int} (h : zRp A f i t) (hi4 : A 2 0 0 4 ≤ i) (hA : ∀ (t : Nat) (j k : Int), (t ≠ 14 ∧ t ≠ 3) ∨ j < i → A' t 0 j k = A t 0 j k) : zRel A' 0 f := by
  obtain ⟨⟨h0, ht1⟩, h1, h2, h3, h4, h5, hi, hz, hr⟩ := h
  have hA2 : ∀ k : Int, A' 2 0 0 k = A 2 0 0 k := fun k => hA 2 0 k (by omega)
  refine ⟨by rw [hA2, h0], by rw [hA2, h1], by rw [hA2, h2], by rw [hA2, h3], by rw [hA2, h4], by rw [hA2, h5], fun j j0 j1 j2 => ?_, fun j k j0 j1 j2 k0 k1 => ?_, fun r r0 r1 r2 => ?_⟩
  · rw [hA2] at j2
    exact zRi_mv (fun _ _ _ => rfl) (fun t' k hh => hA t' j k (by omega)) (hA2 0) ((hi j j0 j1 j2).1 (by omega))
  · rw [hA2] at j2
    exact hz j k j0 j1 j2 k0 k1
  · rw [hA2] at r2
    exact zRr_mv (fun _ _ _ => rfl) (fun t' k hh => hA t' r k (by omega)) (fun k w k0 k1 => hA 5 _ w (by omega)) (hr r r0 r1 r2)
theorem zthrow_o {d : Int} {t' : Nat} {s' j k : Int} : ∀ (n : Nat) (i acc : Int) (A : zM), ((t' ≠ 14 ∧ t' ≠ 3) ∨ s' ≠ 0 ∨ j < i ∨ (t' = 3 ∧ k ≠ 10) ∨ (t' = 14 ∧ k ≠ d % 30)) → (zthrow 0 d n i acc A).2 t' s' j k = A t' s' j k
  | 0, _, _, _, _ => rfl
  | n + 1, i, acc, A, h => by
    rw [zthrow, zthrow_o n _ _ _ (by omega)]
    simp only [zset]
    rw [if_neg (by omega), if_neg (by omega)]
theorem zthrow_z {d : Int} {j k : Int} : ∀ (n : Nat) (i acc : Int) (A : zM), A 14 0 j k = 0 → (zthrow 0 d n i acc A).2 14 0 j k = 0
  | 0, _, _, _, h => h
  | n + 1, i, acc, A, h => by
    rw [zthrow]
    refine zthrow_z n _ _ _ ?_
    simp only [zset]
    rw [if_neg (by omega)]
    split
    · rfl
    · exact h
theorem zthrow_v {d : Int} : ∀ (n : Nat) (i acc : Int) (A : zM), zin acc → (∀ j : Int, i ≤ j → j < i + n → A 14 0 j (d % 30) = 0) → (zthrow 0 d n i acc A).1 = acc
  | 0, _, _, _, _, _ => rfl
  | n + 1, i, acc, A, ha, h => by
    rw [zthrow, h i (Int.le_refl _) (by omega), Int.add_zero, zwr_eq ha]
    refine zthrow_v n _ _ _ ha (fun j j0 j1 => ?_)
    simp only [zset]
    rw [if_neg (by omega), if_neg (by omega)]
    exact h j (by omega) (by omega)
theorem zwr_in {x : Int} : zin (zwr x) := zinT _
/-- what passing keeps beside -/
def zBk (b n0 A M : zM) : Prop := (∀ (t : Nat) (s j k : Int), (s ≠ 0 ∨ (t ≠ 2 ∧ t ≠ 3 ∧ t ≠ 14) ∨ (t = 2 ∧ k ≠ 0)) → A t s j k = b t s j k) ∧ (∀ (t : Nat) (s j k : Int), t ≠ 45 → M t s j k = n0 t s j k) ∧ (∀ j k : Int, A 2 0 0 4 ≤ j → j < 8 → 0 ≤ k → k < 30 → A 14 0 j k = 0)
set_option maxRecDepth 20000 in
theorem ct_X11_pass (l : Launch) (g : zG) {a m : zM} {B : Int} {d : Int} (hI : zInv B a) (hB : B ≤ 11900000) (hR : zRM a m) : zMet l g Y_X11_pass [zr 11 0 0, zi d] m (fun v m' => v = some (zi (zk_pass d a).1) ∧ zRM (zk_pass d a).2 m' ∧ zKt m' m) := by
  refine zMet_introF (by decide +kernel) (Nat.le_of_ble_eq_true rfl) (ls0 := [some (zr 11 0 0), some (zi d), none, none, none, none]) rfl fun X hG hE => ?_
  have hG : zGood X l g RX11 cX11_pass 2 6 := hG
  have hE : zEnd X (some .int) _ := hE
  have hI0 := zInv0 hI
  obtain ⟨hday, hhan, hing, hrcp, hrec, hboo, hrow, hrow2, hstp⟩ := id hI0
  obtain ⟨⟨e0, e1, e2, e3, e4, e5, eI, eZ, eR⟩, eN, eP, eS, e6, eT⟩ := id hR
  have hb : ∀ (t : Nat) (i k : Int), t ≠ 1 → zrecd a t 0 i k = a t 0 i k := fun t i k ht => zrecd_0 hI.1.1.1 ht
  have hK := zRM_keep hI.1.1 hI.1.2 (fun s s0 s1 => (hI.2.2.1 s s0 s1).1.1) hR
  refine z_iload_n (i := 1) hG dX11_pass_0 rfl rfl ?_
  refine z_iconst hG dX11_pass_1 rfl ?_
  refine z_bipush hG dX11_pass_2 rfl ?_
  refine z_callS hG dX11_pass_4 LS_X11_76 (ct_X11_in l g) (by decide) rfl rfl (Nat.le_of_ble_eq_true rfl) ?_
  intro v9 m9 h9
  rw [h9.1, h9.2]
  clear h9 m9 v9
  refine z_if_ne hG dX11_pass_7 (tgt := 13) rfl (fun c7 => ?_) (fun c7 => ?_)
  · try simp only [zite_eq0, ne_eq, Classical.not_not] at c7
    refine z_aload_n (i := 0) hG dX11_pass_13 rfl rfl ?_
    refine z_get_11_0 hG dX11_pass_14 FL_X11_7 ?_
    refine z_iconst hG dX11_pass_17 rfl ?_
    refine z_iald hG dX11_pass_18 rfl rfl (by omega) (by omega) ?_
    rw [e0]
    refine z_iload_n (i := 1) hG dX11_pass_19 rfl rfl ?_
    refine z_iadd hG dX11_pass_20 (by omega) (by omega) ?_
    refine z_sipush hG dX11_pass_21 rfl ?_
    refine z_icmp_le hG dX11_pass_24 (tgt := 30) rfl (fun c24 => ?_) (fun c24 => ?_)
    · refine z_aload_n (i := 0) hG dX11_pass_30 rfl rfl ?_
      refine z_callV hG dX11_pass_31 LV_X11_80 (ct_X11_keep l g (by rw [eN]; exact hI.1.2)) (by decide) rfl rfl rfl (Nat.le_of_ble_eq_true rfl) ?_
      intro v9 m9 h9
      rw [h9.1, h9.2]
      clear h9 m9 v9
      have hkt : zKt (zkp m) m := zKt_kp
      have h45 : ∀ q, zkp m 45 0 0 q = m 45 0 0 q := fun q => zkp_o (by decide) (Or.inl (by decide))
      generalize zkp m = n at *
      have hn0 : n 45 0 0 0 = a 2 0 0 0 := by rw [h45, e0]
      refine z_iconst hG dX11_pass_34 rfl ?_
      refine z_istore_n (i := 2) hG dX11_pass_35 rfl (by decide) (ls2 := [_, _, _, _, _, _]) rfl ?_
      refine z_iconst hG dX11_pass_36 rfl ?_
      refine z_istore_n (i := 3) hG dX11_pass_37 rfl (by decide) (ls2 := [_, _, _, _, _, _]) rfl ?_
      have inner : ∀ (N : Nat) (i acc k t : Int) (A M : zM) (F : Int × zM), 0 ≤ i → i + N = 8 → 0 ≤ t ∧ t ≤ 3000 → zRp A (M 45 0 0) i t → zBk (zrecd a) n A M → zin acc → zthrow 0 (t + 1) N i acc A = F → (∀ M' : zM, zRel F.2 0 (M' 45 0 0) → zBk (zrecd a) n F.2 M' → zin F.1 → F.2 2 0 0 0 = t + 1 → zZ X 124 [some (zr 11 0 0), some (zi d), some (zi F.1), some (zi k), none, none] [] M') → zZ X 56 [some (zr 11 0 0), some (zi d), some (zi acc), some (zi k), some (zi i), none] [] M := by
        intro N
        have fin : ∀ (N : Nat) (i acc k t : Int) (A M : zM) (F : Int × zM), 0 ≤ i → i + N = 8 → A 2 0 0 4 ≤ i → zRp A (M 45 0 0) i t → zBk (zrecd a) n A M → zin acc → zthrow 0 (t + 1) N i acc A = F → (∀ M' : zM, zRel F.2 0 (M' 45 0 0) → zBk (zrecd a) n F.2 M' → zin F.1 → F.2 2 0 0 0 = t + 1 → zZ X 124 [some (zr 11 0 0), some (zi d), some (zi F.1), some (zi k), none, none] [] M') → zZ X 124 [some (zr 11 0 0), some (zi d), some (zi acc), some (zi k), some (zi i), none] [] M := by
          intro N i acc k t A M F hi0 hiN h4 hRp hBk ha hF K
          subst hF
          have hv := zthrow_v (d := t + 1) N i acc A ha (fun j j0 j1 => hBk.2.2 j _ (by omega) (by omega) (by omega) (by omega))
          rw [hv] at K
          refine z_forget [true, true, true, true, false, false] rfl (K M (zRp_end hRp h4 (fun t' j k hh => zthrow_o N i acc A (by omega))) ⟨fun t' s j k hh => by rw [zthrow_o N i acc A (by omega)]; exact hBk.1 t' s j k hh, hBk.2.1, fun j k j0 j1 k0 k1 => zthrow_z N i acc A (hBk.2.2 j k (by rw [zthrow_o N i acc A (by omega)] at j0; exact j0) j1 k0 k1)⟩ ha ?_)
          rw [zthrow_o N i acc A (by omega)]
          exact hRp.1.2
        induction N with
        | zero =>
          intro i acc k t A M F hi0 hiN ht hRp hBk ha hF K
          have h84 : A 2 0 0 4 ≤ 8 := by rw [hBk.1 2 0 0 4 (by omega), hb 2 _ _ (by decide)]; exact hing.2
          refine z_iload hG dX11_pass_56 rfl ?_
          refine z_aload_n (i := 0) hG dX11_pass_58 rfl rfl ?_
          refine z_get_11_0 hG dX11_pass_59 FL_X11_7 ?_
          refine z_iconst hG dX11_pass_62 rfl ?_
          refine z_iald hG dX11_pass_63 rfl rfl (by omega) (by omega) ?_
          rw [hRp.2.1]
          refine z_icmp_ge hG dX11_pass_64 (tgt := 124) rfl (fun c64 => ?_) (fun c64 => ?_)
          · exact fin 0 i acc k t A M F hi0 hiN c64 hRp hBk ha hF K
          · exact absurd c64 (by omega)
        | succ N ih =>
          intro i acc k t A M F hi0 hiN ht hRp hBk ha hF K
          refine z_iload hG dX11_pass_56 rfl ?_
          refine z_aload_n (i := 0) hG dX11_pass_58 rfl rfl ?_
          refine z_get_11_0 hG dX11_pass_59 FL_X11_7 ?_
          refine z_iconst hG dX11_pass_62 rfl ?_
          refine z_iald hG dX11_pass_63 rfl rfl (by omega) (by omega) ?_
          rw [hRp.2.1]
          refine z_icmp_ge hG dX11_pass_64 (tgt := 124) rfl (fun c64 => ?_) (fun c64 => ?_)
          · exact fin (N + 1) i acc k t A M F hi0 hiN c64 hRp hBk ha hF K
          · refine z_aload_n (i := 0) hG dX11_pass_67 rfl rfl ?_
            refine z_iload hG dX11_pass_68 rfl ?_
            refine z_aload_n (i := 0) hG dX11_pass_70 rfl rfl ?_
            refine z_get_11_0 hG dX11_pass_71 FL_X11_7 ?_
            refine z_iconst hG dX11_pass_74 rfl ?_
            refine z_iald hG dX11_pass_75 rfl rfl (by omega) (by omega) ?_
            rw [hRp.1.1, hRp.1.2]
            refine z_callV hG dX11_pass_76 LV_X11_97 (ct_X11_lotOn l g ⟨by omega, by omega⟩ (by omega)) (by decide) rfl rfl rfl (Nat.le_of_ble_eq_true rfl) ?_
            intro v9 m9 h9
            rw [h9.1, h9.2]
            clear h9 m9 v9
            have hi8 : i < A 2 0 0 4 := c64
            have hlot : M 45 0 0 (6 + 46 * i + (15 + (t + 1) % 31)) = A 14 0 i ((t + 1) % 30) := by
              have := ((hRp.2.2.2.2.2.2.1 i hi0 (by omega) c64).2 (Int.le_refl _)).2.2.2.2.2.2.2.2.2.2.2.1 1 (by decide) (by decide)
              simpa [zset] using this
            have hthr : M 45 0 0 (6 + 46 * i + 7) = A 3 0 i 10 := by
              have := ((hRp.2.2.2.2.2.2.1 i hi0 (by omega) c64).2 (Int.le_refl _)).2.2.2.2.2.2.2.2.1
              simpa [zset] using this
            rw [hlot]
            refine z_istore hG dX11_pass_79 (by decide) (ls2 := [_, _, _, _, _, _]) rfl ?_
            refine z_aload_n (i := 0) hG dX11_pass_81 rfl rfl ?_
            refine z_iload hG dX11_pass_82 rfl ?_
            refine z_aload_n (i := 0) hG dX11_pass_84 rfl rfl ?_
            refine z_get_11_0 hG dX11_pass_85 FL_X11_7 ?_
            refine z_iconst hG dX11_pass_88 rfl ?_
            refine z_iald hG dX11_pass_89 rfl rfl (by omega) (by omega) ?_
            rw [hRp.1.1, hRp.1.2]
            refine z_iconst hG dX11_pass_90 rfl ?_
            refine z_callV hG dX11_pass_91 LV_X11_100 (ct_X11_layLot l g ⟨by omega, by omega⟩ (by omega)) (by decide) rfl rfl rfl (Nat.le_of_ble_eq_true rfl) ?_
            intro v9 m9 h9
            rw [h9.1, h9.2]
            clear h9 m9 v9
            refine z_aload_n (i := 0) hG dX11_pass_94 rfl rfl ?_
            refine z_iload hG dX11_pass_95 rfl ?_
            refine z_bipush hG dX11_pass_97 rfl ?_
            refine z_aload_n (i := 0) hG dX11_pass_99 rfl rfl ?_
            refine z_iload hG dX11_pass_100 rfl ?_
            refine z_bipush hG dX11_pass_102 rfl ?_
            refine z_callV hG dX11_pass_104 LV_X11_87 (ct_X11_of l g ⟨by omega, by omega⟩ ⟨by omega, by omega⟩) (by decide) rfl rfl rfl (Nat.le_of_ble_eq_true rfl) ?_
            intro v9 m9 h9
            rw [h9.1, h9.2]
            clear h9 m9 v9
            have hthr2 : zset M 45 0 0 (6 + 46 * i + (15 + (t + 1) % 31)) 0 45 0 0 (6 + 46 * i + 7) = A 3 0 i 10 := by
              simp only [zset]
              rw [if_neg (by omega), hthr]
            rw [hthr2]
            refine z_iload hG dX11_pass_107 rfl ?_
            refine z_iaddw hG dX11_pass_109 ?_
            refine z_callV hG dX11_pass_110 LV_X11_83 (ct_X11_lay l g ⟨by omega, by omega⟩ ⟨by omega, by omega⟩) (by decide) rfl rfl rfl (Nat.le_of_ble_eq_true rfl) ?_
            intro v9 m9 h9
            rw [h9.1, h9.2]
            clear h9 m9 v9
            refine z_iload_n (i := 2) hG dX11_pass_113 rfl rfl ?_
            refine z_iload hG dX11_pass_114 rfl ?_
            refine z_iaddw hG dX11_pass_116 ?_
            refine z_istore_n (i := 2) hG dX11_pass_117 rfl (by decide) (ls2 := [_, _, _, _, _, _]) rfl ?_
            refine z_iinc hG dX11_pass_118 (by decide) rfl (by omega) (by omega) (ls2 := [_, _, _, _, _, _]) rfl ?_
            refine z_goto hG dX11_pass_121 (tgt := 56) rfl ?_
            rw [zthrow] at hF
            refine z_forget [true, true, true, true, true, false] rfl (ih (i + 1) _ k t _ _ F (by omega) (by omega) ht (zRp_s hRp ht.1 ⟨hi0, by omega⟩ c64 (fun q => ?_)) ⟨fun t' s j k hh => ?_, fun t' s j k hh => ?_, fun j k j0 j1 k0 k1 => ?_⟩ zwr_in hF K)
            · simp only [zset]
              by_cases c : q = 6 + 46 * i + 7
              · rw [if_pos (by first | omega | (simp; done) | (simp; omega)), if_pos c]
              · rw [if_neg (by omega), if_neg c]
                by_cases c2 : q = 6 + 46 * i + (15 + (t + 1) % 31)
                · rw [if_pos (by first | omega | (simp; done) | (simp; omega)), if_pos c2]
                · rw [if_neg (by omega), if_neg c2]
            · simp only [zset]
              rw [if_neg (by omega), if_neg (by omega)]
              exact hBk.1 t' s j k hh
            · simp only [zset]
              rw [if_neg (by omega), if_neg (by omega)]
              exact hBk.2.1 t' s j k hh
            · simp only [zset] at j0 ⊢
              rw [if_neg (by omega), if_neg (by omega)] at j0
              rw [if_neg (by omega), if_neg (by omega)]
              exact hBk.2.2 j k j0 j1 k0 k1
      have outer : ∀ (N : Nat) (k acc : Int) (A M : zM), 0 ≤ k → k + N = d → zRel A 0 (M 45 0 0) → zBk (zrecd a) n A M → zin acc → 0 ≤ A 2 0 0 0 → A 2 0 0 0 + N ≤ 3000 → zpass 0 N acc A = zpass 0 d.toNat 0 (zrecd a) → ∀ ls : zL, ls = [some (zr 11 0 0), some (zi d), some (zi acc), some (zi k), none, none] → zZ X 38 ls [] M := by
        intro N
        induction N with
        | zero =>
          intro k acc A M hk0 hk hRl hBk ha hA0 hA1 hz ls hls
          subst hls
          refine z_iload_n (i := 3) hG dX11_pass_38 rfl rfl ?_
          refine z_iload_n (i := 1) hG dX11_pass_39 rfl rfl ?_
          refine z_icmp_ge hG dX11_pass_40 (tgt := 130) rfl (fun c40 => ?_) (fun c40 => ?_)
          · refine z_iload_n (i := 2) hG dX11_pass_130 rfl rfl ?_
            refine z_iret hG hE dX11_pass_131 trivial ?_
            have e : zk_pass d a = (acc, A) := by
              unfold zk_pass
              rw [if_neg (by omega), if_neg (by omega), ← hz]
              rfl
            rw [e]
            refine ⟨rfl, zRM_now hK (fun t s j k hh => hBk.1 t s j k (by omega)) (fun t k hh => hBk.2.1 t 0 0 k (by omega)) hRl, fun t s j k h1 h2 => ?_⟩
            rw [hBk.2.1 t s j k (by omega)]
            exact hkt t s j k h1 h2
          · exact absurd c40 (by omega)
        | succ N ih =>
          intro k acc A M hk0 hk hRl hBk ha hA0 hA1 hz ls hls
          subst hls
          rw [zpass] at hz
          refine z_iload_n (i := 3) hG dX11_pass_38 rfl rfl ?_
          refine z_iload_n (i := 1) hG dX11_pass_39 rfl rfl ?_
          refine z_icmp_ge hG dX11_pass_40 (tgt := 130) rfl (fun c40 => ?_) (fun c40 => ?_)
          · exact absurd c40 (by omega)
          · refine z_aload_n (i := 0) hG dX11_pass_43 rfl rfl ?_
            refine z_get_11_0 hG dX11_pass_44 FL_X11_7 ?_
            refine z_iconst hG dX11_pass_47 rfl ?_
            refine z_dup2 hG dX11_pass_48 ?_
            refine z_iald hG dX11_pass_49 rfl rfl (by omega) (by omega) ?_
            rw [show M 45 0 0 0 = A 2 0 0 0 from hRl.1]
            refine z_iconst hG dX11_pass_50 rfl ?_
            refine z_iadd hG dX11_pass_51 (by omega) (by omega) ?_
            refine z_iast hG dX11_pass_52 rfl rfl (by omega) (by omega) ?_
            refine z_iconst hG dX11_pass_53 rfl ?_
            refine z_istore hG dX11_pass_54 (by decide) (ls2 := [_, _, _, _, _, _]) rfl ?_
            have hM0 : M 45 0 0 0 = A 2 0 0 0 := hRl.1
            refine inner 8 0 acc k (A 2 0 0 0) (zset A 2 0 0 0 (A 2 0 0 0 + 1)) _ _ (by decide) rfl ⟨hA0, by omega⟩ (zRp_0 hRl rfl (fun q => ?_)) ⟨fun t' s j k hh => ?_, fun t' s j k hh => ?_, fun j k j0 j1 k0 k1 => ?_⟩ ha rfl (fun M' hR' hB' ha' hd' => ?_)
            · simp only [zset]
              by_cases c : q = 0
              · rw [if_pos (by first | omega | (simp; done) | (simp; omega)), if_pos c]
              · rw [if_neg (by omega), if_neg c]
            · simp only [zset]
              rw [if_neg (by omega)]
              exact hBk.1 t' s j k hh
            · simp only [zset]
              rw [if_neg (by omega)]
              exact hBk.2.1 t' s j k hh
            · simp only [zset] at j0 ⊢
              rw [if_neg (by omega)] at j0
              rw [if_neg (by omega)]
              exact hBk.2.2 j k j0 j1 k0 k1
            refine z_iinc hG dX11_pass_124 (by decide) rfl (by omega) (by omega) (ls2 := [_, _, _, _, _, _]) rfl ?_
            refine z_goto hG dX11_pass_127 (tgt := 38) rfl ?_
            exact ih (k + 1) _ _ M' (by omega) (by omega) hR' hB' ha' (by rw [hd']; omega) (by rw [hd']; omega) hz _ rfl
      refine outer d.toNat 0 0 (zrecd a) n (by decide) (by omega) hK.1 ⟨fun _ _ _ _ _ => rfl, fun _ _ _ _ _ => rfl, fun j k j0 j1 k0 k1 => ?_⟩ ⟨by decide, by decide⟩ (by rw [hb 2 _ _ (by decide)]; exact hday.1) (by rw [hb 2 _ _ (by decide)]; omega) rfl _ rfl
      rw [hb 2 _ _ (by decide)] at j0
      rw [hb 14 _ _ (by decide)]
      exact (hrow j (by omega) j1).2.2.2.2.1 j0 |>.2 k k0 k1
    · refine z_bipush hG dX11_pass_27 rfl ?_
      refine z_iret hG hE dX11_pass_29 trivial ?_
      unfold zk_pass
      repeat (first | rw [if_pos (by omega)] | rw [if_neg (by omega)])
      exact ⟨rfl, hR, zKt_rf⟩
  · try simp only [zite_eq0, ne_eq, Classical.not_not] at c7
    refine z_bipush hG dX11_pass_10 rfl ?_
    refine z_iret hG hE dX11_pass_12 trivial ?_
    unfold zk_pass
    repeat (first | rw [if_pos (by omega)] | rw [if_neg (by omega)])
    exact ⟨rfl, hR, zKt_rf⟩
