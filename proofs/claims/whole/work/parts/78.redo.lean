/-- what the model's reader found is what the kitchen's found -/
def zSyA (M c : zM) : Prop := M 11 0 0 27 = c 4 9 0 0 ∧ M 11 0 0 30 = c 4 9 0 2 ∧ c 4 9 0 1 = 0 ∧ (∀ k : Int, 0 ≤ k → k < 8 → M 62 0 0 k = c 17 9 0 k) ∧ (∀ k w : Int, 0 ≤ k → k < c 4 9 0 2 → 0 ≤ w → w < 4 → M 63 0 0 (4 * k + w) = c 5 9 k w) ∧ (0 ≤ c 4 9 0 2 ∧ c 4 9 0 2 ≤ 8)
/-- what reading leaves -/
def zFo (M m : zM) : Prop := ∀ (t : Nat) (s j q : Int), (t ≠ 11 ∨ (q ≠ 25 ∧ q ≠ 26 ∧ q ≠ 27 ∧ q ≠ 30)) → t ≠ 62 → t ≠ 63 → M t s j q = m t s j q
def zcA (c : zM) : Int := zsum 8 (fun k => if c 17 9 0 k ≠ 0 then 1 else 0)
theorem zcA_8 {f : Int → Int} : ∀ n : Nat, (∀ k : Int, 0 ≤ k → k < n → f k = 0 ∨ f k = 1) → (n : Int) ≤ zsum n f → ∀ k : Int, 0 ≤ k → k < n → f k = 1
  | 0, _, _, k, k0, k1 => by omega
  | n + 1, h, hs, k, k0, k1 => by
    have hb := zsum_le (f := f) (B := 1) n (fun j j0 j1 => by have := h j j0 (by omega); omega)
    have hn := h n (by omega) (by omega)
    rw [zsum] at hs
    by_cases e : k = n
    · rw [e]
      omega
    · exact zcA_8 n (fun j j0 j1 => h j j0 (by omega)) (by omega) k k0 (by omega)
theorem zcA_s {c : zM} {d v : Int} (hd : 0 ≤ d ∧ d < 8) (h0 : c 17 9 0 d = 0) (hv : v ≠ 0) : zcA (zset c 17 9 0 d v) = zcA c + 1 := by
  unfold zcA
  have h := zsum_one (f := fun _ => 1) (p := d) hd.1 (S := fun k => c 17 9 0 k ≠ 0) (S' := fun k => zset c 17 9 0 d v 17 9 0 k ≠ 0) (fun z => z h0) (by simp [zset, hv]) 8 (fun j j0 j1 hj => by simp [zset, hj])
  rw [h, if_pos (show d < ((8 : Nat) : Int) by omega)]
theorem zRM_Fo {a m M : zM} (hR : zRM a m) (h : zFo M m) : zRM (zRdm a) M := zRM_pad hR (fun t s i k h1 h2 => zRdm_o (by simp only [zrt] at h2; omega) (Or.inr (by omega))) (fun t k hh => h t 0 0 k (by omega) (by omega) (by omega)) (by rw [h 11 0 0 6 (by omega) (by omega) (by omega), zRdm_o (by decide) (Or.inr (by decide))]; exact hR.2.2.2.2.1) (fun j j0 j1 => by
  rw [zRdm_o (by decide) (Or.inr (by decide))] at j1
  rw [h 49 0 0 j (by omega) (by omega) (by omega), zRdm_o (by decide) (Or.inr (by decide))]
  exact hR.2.2.2.2.2 j j0 j1)
theorem zMS_Fo {M m : zM} {p w : Int} (h : zFo M m) : zFo (zMS M p w) m := fun t s j q h1 h2 h3 => by rw [zMS_o (by omega)]; exact h t s j q h1 h2 h3
set_option maxRecDepth 20000 in
theorem ct_X11_fault (l : Launch) (g : zG) {a m : zM} {B : Int} (hI : zInv B a) (hR : zRM a m) : zMet l g Y_X11_fault [zr 11 0 0] m (fun v m' => v = some (zi (zFlt a)) ∧ zRM (zRdm a) m' ∧ zKt m' m ∧ (zFlt a = -6 → zSyA m' (zRdm a))) := by
  refine zMet_introF (by decide +kernel) (Nat.le_of_ble_eq_true rfl) (ls0 := [some (zr 11 0 0), none]) rfl fun X hG hE => ?_
  have hG : zGood X l g RX11 cX11_fault 3 2 := hG
  have hE : zEnd X (some .int) _ := hE
  have hTx : zTx a := ⟨hI.2.2.2.1, hI.2.2.2.2.1⟩
  obtain ⟨L, hL⟩ : ∃ L, L = a 6 0 0 0 := ⟨_, rfl⟩
  obtain ⟨N, hNe⟩ : ∃ N, N = zN a := ⟨_, rfl⟩
  have h80 : 0 ≤ L ∧ L ≤ 80 := by rw [hL]; exact hI.2.2.2.1
  have hN : ∀ p : Int, 0 ≤ N p ∧ N p < 127 := fun p => by rw [hNe]; exact zN_bd hTx p
  have hNl : ∀ p : Int, N p ≠ 0 → 0 ≤ p ∧ p < L := fun p hp => by rw [hNe] at hp; have := zN_lt hp; omega
  have hdv := @zdg_v N
  have hT : zTm m N L := by
    refine ⟨h80, by rw [hR.2.2.2.2.1, hL], fun p hp => ?_, hN, hNl⟩
    rw [hNe]
    unfold zN
    by_cases e : p < L
    · rw [if_pos e, if_pos (by omega)]
      exact hR.2.2.2.2.2 p hp (by omega)
    · rw [if_neg e, if_neg (by omega)]
  have hTo : ∀ M : zM, zFo M m → zTm M N L := fun M h => zTm_congr hT (h 11 0 0 6 (by omega) (by omega) (by omega)) (fun p => h 49 0 0 p (by omega) (by omega) (by omega))
  have hFl : ∀ (p g : Int) (c : zM), zRead a = (p, g, c) → zFlt a = if g = 1 ∧ p = L then -6 else p := fun p g c h => by
    unfold zFlt
    rw [h, hL]
  have s116 : ∀ (p w : Int) (M : zM) (l1 : Option zV), (0 ≤ p ∧ p ≤ L) → (w = 0 ∨ w = 1) → (zFlt a = if w = 0 ∧ L ≤ p then -6 else p) → zFo M m → (zFlt a = -6 → zSyA M (zRdm a)) → zZ X 116 [some (zr 11 0 0), l1] [] (zMS M p w) := by
    intro p w M l1 hp hw hf hF hs
    have hTM := hTo M hF
    refine z_aload_n (i := 0) hG dX11_fault_116 rfl rfl ?_
    refine z_getI hG dX11_fault_117 FL_X11_218 rfl rfl (kk := 26) rfl ?_
    rw [zMS_w]
    refine z_if_ne hG dX11_fault_120 (tgt := 134) rfl (fun zcq120 => ?_) (fun zcq120 => ?_)
    · try simp only [zite_eq0, ne_eq, Classical.not_not] at zcq120
      refine z_aload_n (i := 0) hG dX11_fault_134 rfl rfl ?_
      refine z_getI hG dX11_fault_135 FL_X11_212 rfl rfl (kk := 25) rfl ?_
      rw [zMS_p]
      refine z_goto hG dX11_fault_138 (tgt := 143) rfl ?_
      refine z_iret hG hE dX11_fault_143 trivial ?_
      refine ⟨?_, zRM_Fo hR (zMS_Fo hF), fun t s i k h1 h2 => by rw [zMS_o (by omega)]; exact hF t s i k (by omega) (by omega) (by omega), fun z => ?_⟩
      · rw [hf]
        first
        | (rw [if_pos (by omega)]; done)
        | (rw [if_neg (by omega)]; done)
      · have h9 := hs z
        refine ⟨?_, ?_, h9.2.2.1, fun k k0 k1 => ?_, fun k u k0 k1 w0 w1 => ?_, h9.2.2.2.2.2⟩
        · rw [zMS_o (by omega)]; exact h9.1
        · rw [zMS_o (by omega)]; exact h9.2.1
        · rw [zMS_o (by omega)]; exact h9.2.2.2.1 k k0 k1
        · rw [zMS_o (by omega)]; exact h9.2.2.2.2.1 k u k0 k1 w0 w1
    · try simp only [zite_eq0, ne_eq, Classical.not_not] at zcq120
      refine z_aload_n (i := 0) hG dX11_fault_123 rfl rfl ?_
      refine z_getI hG dX11_fault_124 FL_X11_212 rfl rfl (kk := 25) rfl ?_
      rw [zMS_p]
      refine z_aload_n (i := 0) hG dX11_fault_127 rfl rfl ?_
      refine z_getI hG dX11_fault_128 FL_X11_215 rfl rfl (kk := 6) rfl ?_
      rw [zMS_o (by omega), hTM.2.1]
      refine z_icmp_ge hG dX11_fault_131 (tgt := 141) rfl (fun zcq131 => ?_) (fun zcq131 => ?_)
      · refine z_bipush hG dX11_fault_141 rfl ?_
        refine z_iret hG hE dX11_fault_143 trivial ?_
        refine ⟨?_, zRM_Fo hR (zMS_Fo hF), fun t s i k h1 h2 => by rw [zMS_o (by omega)]; exact hF t s i k (by omega) (by omega) (by omega), fun z => ?_⟩
        · rw [hf]
          first
          | (rw [if_pos (by omega)]; done)
          | (rw [if_neg (by omega)]; done)
        · have h9 := hs z
          refine ⟨?_, ?_, h9.2.2.1, fun k k0 k1 => ?_, fun k u k0 k1 w0 w1 => ?_, h9.2.2.2.2.2⟩
          · rw [zMS_o (by omega)]; exact h9.1
          · rw [zMS_o (by omega)]; exact h9.2.1
          · rw [zMS_o (by omega)]; exact h9.2.2.2.1 k k0 k1
          · rw [zMS_o (by omega)]; exact h9.2.2.2.2.1 k u k0 k1 w0 w1
      · refine z_aload_n (i := 0) hG dX11_fault_134 rfl rfl ?_
        refine z_getI hG dX11_fault_135 FL_X11_212 rfl rfl (kk := 25) rfl ?_
        rw [zMS_p]
        refine z_goto hG dX11_fault_138 (tgt := 143) rfl ?_
        refine z_iret hG hE dX11_fault_143 trivial ?_
        refine ⟨?_, zRM_Fo hR (zMS_Fo hF), fun t s i k h1 h2 => by rw [zMS_o (by omega)]; exact hF t s i k (by omega) (by omega) (by omega), fun z => ?_⟩
        · rw [hf]
          first
          | (rw [if_pos (by omega)]; done)
          | (rw [if_neg (by omega)]; done)
        · have h9 := hs z
          refine ⟨?_, ?_, h9.2.2.1, fun k k0 k1 => ?_, fun k u k0 k1 w0 w1 => ?_, h9.2.2.2.2.2⟩
          · rw [zMS_o (by omega)]; exact h9.1
          · rw [zMS_o (by omega)]; exact h9.2.1
          · rw [zMS_o (by omega)]; exact h9.2.2.2.1 k k0 k1
          · rw [zMS_o (by omega)]; exact h9.2.2.2.2.1 k u k0 k1 w0 w1
  have hRdK : ∀ (p g : Int) (c M : zM), zRead a = (p, g, c) → zSyA M c → zSyA M (zRdm a) := fun p g c M h hs => by
    have e : ∀ (t : Nat) (s i k : Int), t ≠ 7 → zRdm a t s i k = c t s i k := fun t s i k ht => by
      unfold zRdm
      rw [h]
      exact zRd_o ht
    refine ⟨by rw [e 4 9 0 0 (by decide)]; exact hs.1, by rw [e 4 9 0 2 (by decide)]; exact hs.2.1, by rw [e 4 9 0 1 (by decide)]; exact hs.2.2.1, fun k k0 k1 => by rw [e 17 9 0 k (by decide)]; exact hs.2.2.2.1 k k0 k1, fun k w k0 k1 w0 w1 => ?_, by rw [e 4 9 0 2 (by decide)]; exact hs.2.2.2.2.2⟩
    rw [e 4 9 0 2 (by decide)] at k1
    rw [e 5 9 k w (by decide)]
    exact hs.2.2.2.2.1 k w k0 k1 w0 w1
  have bad74 : ∀ (p w : Int) (M : zM) (l1 : Option zV), (0 ≤ p ∧ p ≤ L) → (w = 0 ∨ w = 1) → (w = 0 → 0 ≤ zdg N p) → zFlt a = p → zFo M m → zZ X 74 [some (zr 11 0 0), l1] [] (zMS M p w) := by
    intro p w M l1 hp hw hd hf hF
    have hTM := hTo M hF
    have hdp := hdv (p := p)
    have hNp := hNl p
    refine z_aload_n (i := 0) hG dX11_fault_74 rfl rfl ?_
    refine z_getI hG dX11_fault_75 FL_X11_218 rfl rfl (kk := 26) rfl ?_
    rw [zMS_w]
    refine z_if_ne hG dX11_fault_78 (tgt := 116) rfl (fun zcq78 => ?_) (fun zcq78 => ?_)
    · try simp only [zite_eq0, ne_eq, Classical.not_not] at zcq78
      refine s116 p w M l1 hp hw ?_ hF (fun z => by omega)
      rw [if_neg (by omega)]
      exact hf
    · try simp only [zite_eq0, ne_eq, Classical.not_not] at zcq78
      refine z_aload_n (i := 0) hG dX11_fault_81 rfl rfl ?_
      refine z_callV hG dX11_fault_82 LV_X11_222 (ct_X11_next l g hTM (by omega)) (by decide) rfl rfl rfl (Nat.le_of_ble_eq_true rfl) ?_
      intro v9 m9 h9
      rw [h9.1, h9.2]
      clear h9 m9 v9
      refine z_bipush hG dX11_fault_85 rfl ?_
      refine z_icmp_ne hG dX11_fault_87 (tgt := 116) rfl (fun zcq87 => ?_) (fun zcq87 => ?_)
      · refine s116 p w M l1 hp hw ?_ hF (fun z => by omega)
        rw [if_neg (by omega)]
        exact hf
      · refine z_aload_n (i := 0) hG dX11_fault_90 rfl rfl ?_
        refine z_getI hG dX11_fault_91 FL_X11_228 rfl rfl (kk := 30) rfl ?_
        rw [zMS_o (by omega)]
        refine z_bipush hG dX11_fault_94 rfl ?_
        refine z_icmp_ge hG dX11_fault_96 (tgt := 116) rfl (fun zcq96 => ?_) (fun zcq96 => ?_)
        · refine s116 p w M l1 hp hw ?_ hF (fun z => by omega)
          rw [if_neg (by omega)]
          exact hf
        · exfalso; omega
  have bad46 : ∀ (p w : Int) (M : zM) (l1 : Option zV), (0 ≤ p ∧ p ≤ L) → (w = 0 ∨ w = 1) → (w = 0 → 0 ≤ zdg N p) → zFlt a = p → zFo M m → zZ X 46 [some (zr 11 0 0), l1] [] (zMS M p w) := by
    intro p w M l1 hp hw hd hf hF
    have hTM := hTo M hF
    have hdp := hdv (p := p)
    refine z_aload_n (i := 0) hG dX11_fault_46 rfl rfl ?_
    refine z_getI hG dX11_fault_47 FL_X11_218 rfl rfl (kk := 26) rfl ?_
    rw [zMS_w]
    refine z_if_ne hG dX11_fault_50 (tgt := 74) rfl (fun zcq50 => ?_) (fun zcq50 => ?_)
    · try simp only [zite_eq0, ne_eq, Classical.not_not] at zcq50
      exact bad74 p w M l1 hp hw hd hf hF
    · try simp only [zite_eq0, ne_eq, Classical.not_not] at zcq50
      refine z_aload_n (i := 0) hG dX11_fault_53 rfl rfl ?_
      refine z_callV hG dX11_fault_54 LV_X11_222 (ct_X11_next l g hTM (by omega)) (by decide) rfl rfl rfl (Nat.le_of_ble_eq_true rfl) ?_
      intro v9 m9 h9
      rw [h9.1, h9.2]
      clear h9 m9 v9
      refine z_bipush hG dX11_fault_57 rfl ?_
      refine z_bipush hG dX11_fault_59 rfl ?_
      refine z_callS hG dX11_fault_61 LS_X11_76 (ct_X11_in l g) (by decide) rfl rfl (Nat.le_of_ble_eq_true rfl) ?_
      intro v9 m9 h9
      rw [h9.1, h9.2]
      clear h9 m9 v9
      refine z_if_eq hG dX11_fault_64 (tgt := 74) rfl (fun zcq64 => ?_) (fun zcq64 => ?_)
      · try simp only [zite_eq0, ne_eq, Classical.not_not] at zcq64
        exact bad74 p w M l1 hp hw hd hf hF
      · try simp only [zite_eq0, ne_eq, Classical.not_not] at zcq64
        exfalso; omega
  have steps : ∀ (n : Nat) (k p : Int) (M c : zM) (l1 : Option zV), k + n = 8 → 0 ≤ k → (0 ≤ p ∧ p ≤ L) → zStL n k p c = zRead a → zN c = N → zFo M m → zSyA M c → c 4 9 0 2 = k → zZ X 74 [some (zr 11 0 0), l1] [] (zMS M p 0) := by
    intro n
    induction n with
    | zero =>
      intro k p M c l1 hk hk0 hp hz hNc hF hs hck
      have hTM := hTo M hF
      have hz : (p, (1 : Int), c) = zRead a := hz
      have hfl := hFl p 1 c hz.symm
      have h30 : M 11 0 0 30 = k := by rw [hs.2.1, hck]
      refine z_aload_n (i := 0) hG dX11_fault_74 rfl rfl ?_
      refine z_getI hG dX11_fault_75 FL_X11_218 rfl rfl (kk := 26) rfl ?_
      rw [zMS_w]
      refine z_if_ne hG dX11_fault_78 (tgt := 116) rfl (fun zcq78 => ?_) (fun zcq78 => ?_)
      · try simp only [zite_eq0, ne_eq, Classical.not_not] at zcq78
        first
        | (exfalso; omega; done)
        | exact absurd trivial zcq78
        | (refine s116 p 0 M l1 hp (Or.inl rfl) ?_ hF (fun z => hRdK p 1 c M hz.symm hs)
           rw [hfl]
           by_cases e : p = L
           · rw [if_pos (by omega), if_pos (by omega)]
           · rw [if_neg (by omega), if_neg (by omega)])
      · try simp only [zite_eq0, ne_eq, Classical.not_not] at zcq78
        refine z_aload_n (i := 0) hG dX11_fault_81 rfl rfl ?_
        refine z_callV hG dX11_fault_82 LV_X11_222 (ct_X11_next l g hTM (by omega)) (by decide) rfl rfl rfl (Nat.le_of_ble_eq_true rfl) ?_
        intro v9 m9 h9
        rw [h9.1, h9.2]
        clear h9 m9 v9
        refine z_bipush hG dX11_fault_85 rfl ?_
        refine z_icmp_ne hG dX11_fault_87 (tgt := 116) rfl (fun zcq87 => ?_) (fun zcq87 => ?_)
        · first
          | (exfalso; omega; done)
          | exact absurd trivial zcq78
          | (refine s116 p 0 M l1 hp (Or.inl rfl) ?_ hF (fun z => hRdK p 1 c M hz.symm hs)
             rw [hfl]
             by_cases e : p = L
             · rw [if_pos (by omega), if_pos (by omega)]
             · rw [if_neg (by omega), if_neg (by omega)])
        · refine z_aload_n (i := 0) hG dX11_fault_90 rfl rfl ?_
          refine z_getI hG dX11_fault_91 FL_X11_228 rfl rfl (kk := 30) rfl ?_
          rw [zMS_o (by omega), h30]
          refine z_bipush hG dX11_fault_94 rfl ?_
          refine z_icmp_ge hG dX11_fault_96 (tgt := 116) rfl (fun zcq96 => ?_) (fun zcq96 => ?_)
          · first
            | (exfalso; omega; done)
            | exact absurd trivial zcq78
            | (refine s116 p 0 M l1 hp (Or.inl rfl) ?_ hF (fun z => hRdK p 1 c M hz.symm hs)
               rw [hfl]
               by_cases e : p = L
               · rw [if_pos (by omega), if_pos (by omega)]
               · rw [if_neg (by omega), if_neg (by omega)])
          · exfalso; omega
    | succ n ih =>
      intro k p M c l1 hk hk0 hp hz hNc hF hs hck
      have hTM := hTo M hF
      have h30 : M 11 0 0 30 = k := by rw [hs.2.1, hck]
      have hNp := hNl p
      rw [zStL, hNc] at hz
      refine z_aload_n (i := 0) hG dX11_fault_74 rfl rfl ?_
      refine z_getI hG dX11_fault_75 FL_X11_218 rfl rfl (kk := 26) rfl ?_
      rw [zMS_w]
      refine z_if_ne hG dX11_fault_78 (tgt := 116) rfl (fun zcq78 => ?_) (fun zcq78 => ?_)
      · try simp only [zite_eq0, ne_eq, Classical.not_not] at zcq78
        first
        | (exfalso; omega; done)
        | exact absurd trivial zcq78
        | (rw [if_neg (by omega)] at hz
           have hfl := hFl p 1 c hz.symm
           refine s116 p 0 M l1 hp (Or.inl rfl) ?_ hF (fun z => hRdK p 1 c M hz.symm hs)
           rw [hfl]
           by_cases e : p = L
           · rw [if_pos (by omega), if_pos (by omega)]
           · rw [if_neg (by omega), if_neg (by omega)])
      · try simp only [zite_eq0, ne_eq, Classical.not_not] at zcq78
        refine z_aload_n (i := 0) hG dX11_fault_81 rfl rfl ?_
        refine z_callV hG dX11_fault_82 LV_X11_222 (ct_X11_next l g hTM (by omega)) (by decide) rfl rfl rfl (Nat.le_of_ble_eq_true rfl) ?_
        intro v9 m9 h9
        rw [h9.1, h9.2]
        clear h9 m9 v9
        refine z_bipush hG dX11_fault_85 rfl ?_
        refine z_icmp_ne hG dX11_fault_87 (tgt := 116) rfl (fun zcq87 => ?_) (fun zcq87 => ?_)
        · first
          | (exfalso; omega; done)
          | exact absurd trivial zcq78
          | (rw [if_neg (by omega)] at hz
             have hfl := hFl p 1 c hz.symm
             refine s116 p 0 M l1 hp (Or.inl rfl) ?_ hF (fun z => hRdK p 1 c M hz.symm hs)
             rw [hfl]
             by_cases e : p = L
             · rw [if_pos (by omega), if_pos (by omega)]
             · rw [if_neg (by omega), if_neg (by omega)])
        · refine z_aload_n (i := 0) hG dX11_fault_90 rfl rfl ?_
          refine z_getI hG dX11_fault_91 FL_X11_228 rfl rfl (kk := 30) rfl ?_
          rw [zMS_o (by omega), h30]
          refine z_bipush hG dX11_fault_94 rfl ?_
          refine z_icmp_ge hG dX11_fault_96 (tgt := 116) rfl (fun zcq96 => ?_) (fun zcq96 => ?_)
          · first
            | (exfalso; omega; done)
            | exact absurd trivial zcq78
            | (rw [if_neg (by omega)] at hz
               have hfl := hFl p 1 c hz.symm
               refine s116 p 0 M l1 hp (Or.inl rfl) ?_ hF (fun z => hRdK p 1 c M hz.symm hs)
               rw [hfl]
               by_cases e : p = L
               · rw [if_pos (by omega), if_pos (by omega)]
               · rw [if_neg (by omega), if_neg (by omega)])
          · refine z_aload_n (i := 0) hG dX11_fault_99 rfl rfl ?_
            first | refine z_dup_r hG dX11_fault_100 ?_ | refine z_dup_i hG dX11_fault_100 ?_
            refine z_getI hG dX11_fault_101 FL_X11_212 rfl rfl (kk := 25) rfl ?_
            rw [zMS_p]
            refine z_iconst hG dX11_fault_104 rfl ?_
            refine z_iadd hG dX11_fault_105 (by omega) (by omega) ?_
            refine z_put hG dX11_fault_106 FP_X11_212 rfl rfl (kk := 25) rfl ?_
            refine z_mem zMS_sp ?_
            refine z_aload_n (i := 0) hG dX11_fault_109 rfl rfl ?_
            refine z_callV hG dX11_fault_110 LV_X11_240 (ct_X11_takeStep l g hTM ⟨by omega, by omega⟩ h30 ⟨by omega, by omega⟩) (by decide) rfl rfl rfl (Nat.le_of_ble_eq_true rfl) ?_
            intro v9 m9 h9
            obtain ⟨h9a, p', w', m1, h9b, h9c, h9d⟩ := h9
            rw [h9a, h9b]
            clear h9a h9b m9 v9
            refine z_goto hG dX11_fault_113 (tgt := 74) rfl ?_
            rw [if_pos (by omega)] at hz
            obtain ⟨q1, q2, q3, q4, q5, q6⟩ := h9d
            have hF1 : zFo m1 m := fun t s j q h1 h2 h3 => by rw [q5 t s j q (by omega) (by omega)]; exact hF t s j q h1 h2 h3
            rcases q2 with rfl | rfl
            · rw [if_pos (q3.mp rfl), ← q1] at hz
              obtain ⟨f0, f1, f2, f3⟩ := q6 rfl
              refine ih (k + 1) p' m1 _ l1 (by omega) (by omega) h9c hz (by rw [zSm_N, hNc]) hF1 ?_ (by unfold zSm; simp [zset])
              have hm1 : ∀ (t : Nat) (q : Int), (t = 11 ∧ q = 27) ∨ t = 62 → m1 t 0 0 q = M t 0 0 q := fun t q h => q5 t 0 0 q (by omega) (by omega)
              have hm63 : ∀ q : Int, q < 4 * k → m1 63 0 0 q = M 63 0 0 q := fun q h => q5 63 0 0 q (by omega) (by omega)
              obtain ⟨y0, y1, y2, y3, y4, y5⟩ := hs
              refine ⟨?_, ?_, ?_, fun j j0 j1 => ?_, fun j u j0 j1 u0 u1 => ?_, by simp [zSm, zset]; omega⟩
              · rw [hm1 11 27 (by omega), y0]
                simp [zSm, zset]
              · rw [q4]
                simp [zSm, zset]
              · simp only [zSm, zset]
                rw [if_neg (by omega), if_neg (by omega), if_neg (by omega), if_neg (by omega), if_neg (by omega)]
                exact y2
              · rw [hm1 62 j (by omega), y3 j j0 j1]
                simp [zSm, zset]
              · have hj : j < k + 1 := by simpa [zSm, zset] using j1
                by_cases e : j = k
                · subst e
                  rcases (show u = 0 ∨ u = 1 ∨ u = 2 ∨ u = 3 by omega) with rfl | rfl | rfl | rfl
                  · rw [Int.add_zero, f0, ← hNc]
                    simp [zSm, zset]
                  · rw [f1, ← hNc]
                    simp [zSm, zset]
                  · rw [f2, ← hNc]
                    simp [zSm, zset]
                  · rw [f3, ← hNc]
                    simp [zSm, zset]
                · rw [hm63 _ (by omega), y4 j u j0 (by omega) u0 u1]
                  simp [zSm, zset, e]
            · rw [if_neg (fun z => absurd (q3.mpr z) (by decide)), ← q1] at hz
              have hfl := hFl p' 0 _ hz.symm
              rw [if_neg (by omega)] at hfl
              exact bad74 p' 1 m1 l1 h9c (Or.inr rfl) (fun z => absurd z (by decide)) hfl hF1
  have amts : ∀ (n : Nat) (p : Int) (M c : zM) (l1 : Option zV), zcA c + n = 8 → (0 ≤ p ∧ p ≤ L) → zThen (zAmL n p c) = zRead a → zN c = N → zFo M m → zSyA M c → c 4 9 0 2 = 0 → (∀ k : Int, 0 ≤ k → k < 8 → 0 ≤ c 17 9 0 k) → zZ X 46 [some (zr 11 0 0), l1] [] (zMS M p 0) := by
    intro n
    have out : ∀ (n : Nat) (p : Int) (M c : zM) (l1 : Option zV), (0 ≤ p ∧ p ≤ L) → zThen (zAmL n p c) = zRead a → zN c = N → zFo M m → zSyA M c → c 4 9 0 2 = 0 → ¬ (97 ≤ N p ∧ N p ≤ 104) → zZ X 74 [some (zr 11 0 0), l1] [] (zMS M p 0) := by
      intro n p M c l1 hp hz hNc hF hs hc2 hn
      refine steps 8 0 p M c l1 rfl (by decide) hp ?_ hNc hF hs hc2
      rw [← hz]
      have e : zAmL n p c = (p, 1, c) := by
        cases n with
        | zero => rfl
        | succ n =>
          rw [zAmL, hNc, if_pos]
          unfold zname
          rw [if_neg (by omega)]
          decide
      rw [e]
      rfl
    have dup : ∀ (n : Nat) (p : Int) (M c : zM) (l1 : Option zV), (0 ≤ p ∧ p ≤ L) → zThen (zAmL n p c) = zRead a → zN c = N → zFo M m → (97 ≤ N p ∧ N p ≤ 104) → c 17 9 0 (N p - 97) ≠ 0 → zZ X 46 [some (zr 11 0 0), l1] [] (zMS M p 1) := by
      intro n p M c l1 hp hz hNc hF hn hc
      have e : zAmL n p c = (p, 1, c) := by
        cases n with
        | zero => rfl
        | succ n =>
          rw [zAmL, hNc, if_pos]
          unfold zname
          rw [if_neg (fun z => hc z.2.2)]
          decide
      have e2 : zThen (p, (1 : Int), c) = (p, 1, c) := by
        unfold zThen
        rw [if_pos rfl]
        show zStL 8 0 p c = _
        rw [zStL, hNc, if_neg (by omega)]
      rw [e, e2] at hz
      have hfl := hFl p 1 c hz.symm
      have := hNl p (by omega)
      rw [if_neg (by omega)] at hfl
      exact bad46 p 1 M l1 hp (Or.inr rfl) (fun z => absurd z (by decide)) hfl hF
    induction n with
    | zero =>
      intro p M c l1 hcn hp hz hNc hF hs hc2 hc0
      have hTM := hTo M hF
      refine z_aload_n (i := 0) hG dX11_fault_46 rfl rfl ?_
      refine z_getI hG dX11_fault_47 FL_X11_218 rfl rfl (kk := 26) rfl ?_
      rw [zMS_w]
      refine z_if_ne hG dX11_fault_50 (tgt := 74) rfl (fun zcq50 => ?_) (fun zcq50 => ?_)
      · try simp only [zite_eq0, ne_eq, Classical.not_not] at zcq50
        first
        | (exfalso; omega; done)
        | exact absurd trivial zcq50
        | exact out 0 p M c l1 hp hz hNc hF hs hc2 (by omega)
      · try simp only [zite_eq0, ne_eq, Classical.not_not] at zcq50
        refine z_aload_n (i := 0) hG dX11_fault_53 rfl rfl ?_
        refine z_callV hG dX11_fault_54 LV_X11_222 (ct_X11_next l g hTM (by omega)) (by decide) rfl rfl rfl (Nat.le_of_ble_eq_true rfl) ?_
        intro v9 m9 h9
        rw [h9.1, h9.2]
        clear h9 m9 v9
        refine z_bipush hG dX11_fault_57 rfl ?_
        refine z_bipush hG dX11_fault_59 rfl ?_
        refine z_callS hG dX11_fault_61 LS_X11_76 (ct_X11_in l g) (by decide) rfl rfl (Nat.le_of_ble_eq_true rfl) ?_
        intro v9 m9 h9
        rw [h9.1, h9.2]
        clear h9 m9 v9
        refine z_if_eq hG dX11_fault_64 (tgt := 74) rfl (fun zcq64 => ?_) (fun zcq64 => ?_)
        · try simp only [zite_eq0, ne_eq, Classical.not_not] at zcq64
          first
          | (exfalso; omega; done)
          | exact absurd trivial zcq50
          | exact out 0 p M c l1 hp hz hNc hF hs hc2 (by omega)
        · try simp only [zite_eq0, ne_eq, Classical.not_not] at zcq64
          refine z_aload_n (i := 0) hG dX11_fault_67 rfl rfl ?_
          refine z_callV hG dX11_fault_68 LV_X11_237 (ct_X11_takeAmount l g hTM hp (by omega)) (by decide) rfl rfl rfl (Nat.le_of_ble_eq_true rfl) ?_
          intro v9 m9 h9
          obtain ⟨h9a, h9⟩ := h9
          rw [h9a]
          clear h9a v9
          refine z_goto hG dX11_fault_71 (tgt := 46) rfl ?_
          have hc8 : zcA c = 8 := by omega
          unfold zcA at hc8
          have h8 := zcA_8 (f := fun k => if c 17 9 0 k ≠ 0 then 1 else 0) 8 (fun k _ _ => by split <;> simp) (by omega) (N p - 97) (by omega) (by omega)
          have hne : c 17 9 0 (N p - 97) ≠ 0 := fun z => by
            rw [if_neg (fun y => y z)] at h8
            exact absurd h8 (by decide)
          have hMe := hs.2.2.2.1 (N p - 97) (by omega) (by omega)
          have hc9 := hc0 (N p - 97) (by omega) (by omega)
          rcases h9 with ⟨-, rfl⟩ | ⟨hle, -⟩
          · exact dup 0 p M c l1 hp hz hNc hF (by omega) hne
          · exfalso
            omega
    | succ n ih =>
      intro p M c l1 hcn hp hz hNc hF hs hc2 hc0
      have hTM := hTo M hF
      refine z_aload_n (i := 0) hG dX11_fault_46 rfl rfl ?_
      refine z_getI hG dX11_fault_47 FL_X11_218 rfl rfl (kk := 26) rfl ?_
      rw [zMS_w]
      refine z_if_ne hG dX11_fault_50 (tgt := 74) rfl (fun zcq50 => ?_) (fun zcq50 => ?_)
      · try simp only [zite_eq0, ne_eq, Classical.not_not] at zcq50
        first
        | (exfalso; omega; done)
        | exact absurd trivial zcq50
        | exact out (n + 1) p M c l1 hp hz hNc hF hs hc2 (by omega)
      · try simp only [zite_eq0, ne_eq, Classical.not_not] at zcq50
        refine z_aload_n (i := 0) hG dX11_fault_53 rfl rfl ?_
        refine z_callV hG dX11_fault_54 LV_X11_222 (ct_X11_next l g hTM (by omega)) (by decide) rfl rfl rfl (Nat.le_of_ble_eq_true rfl) ?_
        intro v9 m9 h9
        rw [h9.1, h9.2]
        clear h9 m9 v9
        refine z_bipush hG dX11_fault_57 rfl ?_
        refine z_bipush hG dX11_fault_59 rfl ?_
        refine z_callS hG dX11_fault_61 LS_X11_76 (ct_X11_in l g) (by decide) rfl rfl (Nat.le_of_ble_eq_true rfl) ?_
        intro v9 m9 h9
        rw [h9.1, h9.2]
        clear h9 m9 v9
        refine z_if_eq hG dX11_fault_64 (tgt := 74) rfl (fun zcq64 => ?_) (fun zcq64 => ?_)
        · try simp only [zite_eq0, ne_eq, Classical.not_not] at zcq64
          first
          | (exfalso; omega; done)
          | exact absurd trivial zcq50
          | exact out (n + 1) p M c l1 hp hz hNc hF hs hc2 (by omega)
        · try simp only [zite_eq0, ne_eq, Classical.not_not] at zcq64
          refine z_aload_n (i := 0) hG dX11_fault_67 rfl rfl ?_
          refine z_callV hG dX11_fault_68 LV_X11_237 (ct_X11_takeAmount l g hTM hp (by omega)) (by decide) rfl rfl rfl (Nat.le_of_ble_eq_true rfl) ?_
          intro v9 m9 h9
          obtain ⟨h9a, h9⟩ := h9
          rw [h9a]
          clear h9a v9
          refine z_goto hG dX11_fault_71 (tgt := 46) rfl ?_
          have hMe := hs.2.2.2.1 (N p - 97) (by omega) (by omega)
          have hc9 := hc0 (N p - 97) (by omega) (by omega)
          have hlp := hNl p (by omega)
          rcases h9 with ⟨hgt, rfl⟩ | ⟨hle, p', w', x, rfl, g1, g2, g3, g4, g5⟩
          · exact dup (n + 1) p M c l1 hp hz hNc hF (by omega) (by omega)
          · have hz0 : c 17 9 0 (N p - 97) = 0 := by omega
            have hnm : zname N (c 17 9 0) p = N p - 97 := by
              unfold zname
              rw [if_pos ⟨by omega, by omega, hz0⟩]
            rw [zAmL, hNc, hnm, if_neg (by omega)] at hz
            have hF1 : ∀ v : Int, zFo (zset M 62 0 0 (N p - 97) v) m := fun v t s j q h1 h2 h3 => by
              simp only [zset]
              rw [if_neg (by omega)]
              exact hF t s j q h1 h2 h3
            by_cases hg : (zNum N 500 (p + 1)).2.2 = 1
            · obtain ⟨rfl, hx⟩ := g4 hg
              rw [if_pos hg, ← g3, ← hx] at hz
              have hb := zNum_bd (m := a) (most := 500) (p := p + 1) (by decide) ⟨by omega, by omega⟩
              rw [← hNe, ← hx] at hb
              refine ih p' _ _ l1 (by rw [zcA_s ⟨by omega, by omega⟩ hz0 (by omega)]; omega) g2 hz (by rw [zN_set (by decide) (by decide), hNc]) (hF1 x) ?_ (by simp [zset, hc2]) (fun k k0 k1 => ?_)
              · obtain ⟨y0, y1, y2, y3, y4, y5⟩ := hs
                refine ⟨by simpa [zset] using y0, by simpa [zset] using y1, by simpa [zset] using y2, fun k k0 k1 => ?_, fun k u k0 k1 u0 u1 => ?_, by simpa [zset] using y5⟩
                · have := y3 k k0 k1
                  simp only [zset]
                  by_cases e : k = N p - 97
                  · rw [if_pos (by simp [e]), if_pos (by simp [e])]
                  · rw [if_neg (by simp [e]), if_neg (by simp [e])]
                    exact this
                · have k2 : k < c 4 9 0 2 := by simpa [zset] using k1
                  have := y4 k u k0 k2 u0 u1
                  simpa [zset] using this
              · have := hc0 k k0 k1
                simp only [zset]
                split
                · omega
                · exact this
            · rw [if_neg hg, ← g3] at hz
              have hfl := hFl p' 0 _ hz.symm
              rw [if_neg (by omega)] at hfl
              have := g5 hg
              exact bad46 p' w' _ l1 g2 g1 (fun z => by omega) hfl (hF1 x)
  have fill : ∀ (n k : Nat), (k : Int) + n = 8 → (∀ m1 : zM, m1 = zMS (zfill (zset m 11 0 0 30 0) 62 0 0 8 0) 0 0 → zZ X 36 [some (zr 11 0 0), none] [] m1) → zZ X 17 [some (zr 11 0 0), some (zi k)] [] (zMS (zfill (zset m 11 0 0 30 0) 62 0 0 k 0) 0 0) := by
    intro n
    induction n with
    | zero =>
      intro k hk K
      refine z_iload_n (i := 1) hG dX11_fault_17 rfl rfl ?_
      refine z_bipush hG dX11_fault_18 rfl ?_
      refine z_icmp_ge hG dX11_fault_20 (tgt := 36) rfl (fun zcq20 => ?_) (fun zcq20 => ?_)
      · refine z_forget [true, false] rfl (K _ ?_)
        rw [show (k : Int) = 8 by omega]
      · exact absurd zcq20 (by omega)
    | succ n ih =>
      intro k hk K
      refine z_iload_n (i := 1) hG dX11_fault_17 rfl rfl ?_
      refine z_bipush hG dX11_fault_18 rfl ?_
      refine z_icmp_ge hG dX11_fault_20 (tgt := 36) rfl (fun zcq20 => ?_) (fun zcq20 => ?_)
      · exact absurd zcq20 (by omega)
      · refine z_aload_n (i := 0) hG dX11_fault_23 rfl rfl ?_
        refine z_get_11_28 hG dX11_fault_24 FL_X11_62 ?_
        refine z_iload_n (i := 1) hG dX11_fault_27 rfl rfl ?_
        refine z_iconst hG dX11_fault_28 rfl ?_
        refine z_iast hG dX11_fault_29 rfl rfl (by omega) (by omega) ?_
        refine z_iinc hG dX11_fault_30 (by decide) rfl (by omega) (by omega) (ls2 := [_, _]) rfl ?_
        refine z_goto hG dX11_fault_33 (tgt := 17) rfl ?_
        refine z_mem (zMS_so (by omega)) ?_
        refine z_mem (congrArg (fun q => zMS q 0 0) (zfill_s (by omega) rfl)) ?_
        exact ih (k + 1) (by omega) K
  refine z_aload_n (i := 0) hG dX11_fault_0 rfl rfl ?_
  refine z_iconst hG dX11_fault_1 rfl ?_
  refine z_put hG dX11_fault_2 FP_X11_212 rfl rfl (kk := 25) rfl ?_
  refine z_aload_n (i := 0) hG dX11_fault_5 rfl rfl ?_
  refine z_iconst hG dX11_fault_6 rfl ?_
  refine z_putB hG dX11_fault_7 FP_X11_218 rfl rfl (kk := 26) rfl (by omega) ?_
  refine z_aload_n (i := 0) hG dX11_fault_10 rfl rfl ?_
  refine z_iconst hG dX11_fault_11 rfl ?_
  refine z_put hG dX11_fault_12 FP_X11_228 rfl rfl (kk := 30) rfl ?_
  refine z_iconst hG dX11_fault_15 rfl ?_
  refine z_istore_n (i := 1) hG dX11_fault_16 rfl (by decide) (ls2 := [_, _]) rfl ?_
  refine z_mem (show zset (zset (zset m 11 0 0 25 0) 11 0 0 26 0) 11 0 0 30 0 = zMS (zset m 11 0 0 30 0) 0 0 from zMS_so (m := m) (p := 0) (w := 0) (by omega)) ?_
  have hme : zMS (zset m 11 0 0 30 0) 0 0 = zMS (zfill (zset m 11 0 0 30 0) 62 0 0 ((0 : Nat) : Int) 0) 0 0 := by rw [show ((0 : Nat) : Int) = 0 from rfl, zfill_0]
  refine z_mem hme ?_
  refine fill 8 0 rfl (fun m1 hm1 => ?_)
  subst hm1
  have hF0 : zFo (zfill (zset m 11 0 0 30 0) 62 0 0 8 0) m := fun t s j q h1 h2 h3 => by
    simp only [zfill, zset]
    rw [if_neg (by omega), if_neg (by omega)]
  have hT0 := hTo _ hF0
  refine z_aload_n (i := 0) hG dX11_fault_36 rfl rfl ?_
  refine z_aload_n (i := 0) hG dX11_fault_37 rfl rfl ?_
  refine z_bipush hG dX11_fault_38 rfl ?_
  refine z_callV hG dX11_fault_40 LV_X11_225 (ct_X11_takeNumber l g (high := 20) hT0 ⟨by omega, by omega⟩ (Or.inl rfl) (by decide)) (by decide) rfl rfl rfl (Nat.le_of_ble_eq_true rfl) ?_
  intro v9 m9 h9
  obtain ⟨p', w', x, h9a, h9b, h9c, h9d, h9e, h9f, h9g⟩ := h9
  rw [h9a, h9b]
  clear h9a h9b m9 v9
  obtain ⟨g1, g2, g3⟩ := h9g rfl
  refine z_put hG dX11_fault_43 FP_X11_234 rfl rfl (kk := 27) rfl ?_
  refine z_mem (zMS_so (by omega)) ?_
  have hF1 : zFo (zset (zfill (zset m 11 0 0 30 0) 62 0 0 8 0) 11 0 0 27 x) m := fun t s j q h1 h2 h3 => by
    simp only [zset]
    rw [if_neg (by omega)]
    exact hF0 t s j q h1 h2 h3
  by_cases hg : (zNum N 20 0).2.2 = 1
  · obtain ⟨rfl, hx⟩ := g2 hg
    have hz : zThen (zAmL 8 p' (zset (zClr a) 4 9 0 0 x)) = zRead a := by
      unfold zRead
      rw [← hNe, if_pos hg, ← g1, ← hx]
    have hcl : ∀ k : Int, 0 ≤ k → k < 8 → zset (zClr a) 4 9 0 0 x 17 9 0 k = 0 := fun k k0 k1 => by
      simp only [zset, zClr, zfill]
      rw [if_neg (by omega), if_pos (by simp; omega)]
    refine amts 8 p' _ _ none ?_ h9e hz ?_ hF1 ?_ (by simp [zset, zClr, zfill]) (fun k k0 k1 => by rw [hcl k k0 k1]; decide)
    · have : zcA (zset (zClr a) 4 9 0 0 x) = 0 := by
        unfold zcA
        rw [zsum_congr 8 (f' := fun _ => 0) (fun j j0 j1 => by rw [hcl j j0 j1]; simp)]
        rfl
      rw [this]
      rfl
    · rw [zN_set (by decide) (by decide), zClr_N, hNe]
    · refine ⟨by simp [zset], by simp [zset, zfill, zClr], by simp [zset, zfill, zClr], fun k k0 k1 => ?_, fun k u k0 k1 u0 u1 => ?_, by simp [zset, zfill, zClr]⟩
      · rw [hcl k k0 k1]
        simp only [zset, zfill]
        rw [if_neg (by omega), if_pos (by simp; omega)]
      · simp [zset, zfill, zClr] at k1
        omega
  · have hz : zRead a = (p', 0, zset (zClr a) 4 9 0 0 (zNum N 20 0).2.1) := by
      unfold zRead
      rw [← hNe, if_neg hg, ← g1]
    have hfl := hFl p' 0 _ hz
    rw [if_neg (by omega)] at hfl
    have := g3 hg
    exact bad46 p' w' _ none h9e h9c (fun z => by omega) hfl hF1
