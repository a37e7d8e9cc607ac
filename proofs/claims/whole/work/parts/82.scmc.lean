/-- how many steps haven't begun -/
def zub (E : zE) (b : Int → Int) : Int := zsum 32 (fun p => if E 0 p = 1 ∧ b p = -6 then 1 else 0)
theorem zub_0 {E : zE} {b : Int → Int} : 0 ≤ zub E b ∧ zub E b ≤ 32 := by
  have := zsum_le (f := fun p => if E 0 p = 1 ∧ b p = -6 then 1 else 0) (B := 1) 32 (fun j h0 h1 => by split <;> omega)
  unfold zub
  omega
theorem zub_s {E : zE} {b : Int → Int} {q t : Int} (hq : 0 ≤ q ∧ q < 32) (hon : E 0 q = 1) (hb : b q = -6) (ht : t ≠ -6) : zub E (zupd b q t) + 1 = zub E b := by
  unfold zub
  have h := zsum_one (f := fun _ => 1) (p := q) hq.1 (S := fun p => E 0 p = 1 ∧ zupd b q t p = -6) (S' := fun p => E 0 p = 1 ∧ b p = -6) (by simp [zupd, ht]) ⟨hon, hb⟩ 32 (fun j j0 j1 hj => by simp [zupd, hj])
  rw [h, if_pos (show q < ((32 : Nat) : Int) by omega)]
theorem zFt_rf {m : zM} : zFt m m := fun _ _ _ _ _ _ => rfl
theorem zFt_tr {a b c : zM} (h : zFt a b) (h2 : zFt b c) : zFt a c := fun t s j q h1 h3 => by rw [h t s j q h1 h3, h2 t s j q h1 h3]
theorem zFt_45 {m1 m : zM} (h : zFt m1 m) : m1 45 0 0 = m 45 0 0 := funext fun q => h 45 0 0 q (by omega) (by omega)
theorem zFt_RM {a m m1 : zM} (h : zFt m1 m) (hR : zRM a m) : zRM a m1 := zRM_now hR (fun _ _ _ _ _ => rfl) (fun t k hh => h t 0 0 k (by omega) (by omega)) (by rw [zFt_45 h]; exact hR.1)
theorem zFt_Kt {m m1 : zM} (h : zFt m1 m) : zKt m1 m := fun t s i k h1 h2 => h t s i k (by omega) (by omega)
def zNp (E : zE) (t f : Int) (b : Int → Int) (r : Int) : Prop := (r = -6 ∧ ∀ q : Int, ¬ zcnd E t f b q) ∨ (zcnd E t f b r ∧ ∀ q : Int, zcnd E t f b q → q ≠ r → zahd E r q)
theorem zSb_upd {a : zM} {E : zE} {M : zM} {b : Int → Int} {r t : Int} (h : zSb a E M b) (hr : 0 ≤ r ∧ r < 32) (ht : 0 ≤ t ∧ t ≤ 300000) : zSb a E (zset M 61 0 0 r t) (zupd b r t) := by
  obtain ⟨h1, h2, h3, h4⟩ := h
  refine ⟨by rw [show zset M 61 0 0 r t 45 0 0 = M 45 0 0 from by funext q; simp [zset]]; exact h1, fun p p0 p1 p2 => by simpa [zset] using h2 p p0 p1 p2, fun p p0 p1 => ?_, fun p p0 p1 => ?_⟩
  · simp only [zset, zupd]
    by_cases e : p = r
    · rw [if_pos (by simp [e]), if_pos e]
    · rw [if_neg (by simp [e]), if_neg e]
      exact h3 p p0 p1
  · simp only [zupd]
    split
    · exact Or.inr ht
    · exact h4 p p0 p1
set_option maxRecDepth 20000 in
theorem ct_X11_findTimes (l : Launch) (g : zG) {a m : zM} {B h : Int} (hI : zIS B a 0) (hR : zRel a 0 (m 45 0 0)) (hh : 0 ≤ h ∧ h ≤ 6) : zMet l g Y_X11_findTimes [zr 11 0 0, zi h] m (fun v m' => v = some (zi (zre (zEc a) h)) ∧ (zre (zEc a) h = -6 ∨ 0 ≤ zre (zEc a) h) ∧ zSb a (zEc a) m' (zrb (zEc a) h) ∧ zFt m' m) := by
  refine zMet_introF (by decide +kernel) (Nat.le_of_ble_eq_true rfl) (ls0 := [some (zr 11 0 0), some (zi h), none, none, none, none]) rfl fun X hG hE => ?_
  have hG : zGood X l g RX11 cX11_findTimes 5 6 := hG
  have hE : zEnd X (some .int) _ := hE
  have hEE := zEc_ok hI
  obtain ⟨E, hEz⟩ : ∃ E, E = zEc a := ⟨_, rfl⟩
  have hE01 : ∀ p : Int, E 0 p = 0 ∨ E 0 p = 1 := fun p => by rw [hEz]; exact zEc_01
  rw [← hEz] at hEE
  have fin : ∀ (k : Nat) (b : Int → Int) (last : Int) (M : zM) (tt : Int) (l5 : Option zV), zRn E h k 0 (fun _ => -6) b last → zSb a E M b → zFt M m → 0 ≤ last → (∀ p : Int, 0 ≤ p → p < 32 → E 0 p = 1 → b p ≠ -6 → b p + E 1 p ≤ last) → (last = 0 ∨ ∃ p : Int, 0 ≤ p ∧ p < 32 ∧ E 0 p = 1 ∧ b p ≠ -6 ∧ b p + E 1 p = last) → ∀ (N : Nat) (s : Int), 0 ≤ s → s + N = 32 → (∀ p : Int, 0 ≤ p → p < s → E 0 p = 1 → b p ≠ -6) → zZ X 81 [some (zr 11 0 0), some (zi h), some (zi tt), some (zi last), some (zi s), l5] [] M := by
    intro k b last M tt l5 hRn hS hF hl0 hle hlast N
    have hR1 := hS.1
    have hrb := zrb_eq hRn
    induction N with
    | zero =>
      intro s hs0 hs hall
      obtain rfl : s = 32 := by omega
      refine z_iload hG dX11_findTimes_81 rfl ?_
      refine z_bipush hG dX11_findTimes_83 rfl ?_
      refine z_icmp_ge hG dX11_findTimes_85 (tgt := 116) rfl (fun zcq85 => ?_) (fun zcq85 => ?_)
      · refine z_iload_n (i := 3) hG dX11_findTimes_116 rfl rfl ?_
        refine z_iret hG hE dX11_findTimes_117 trivial ?_
        have hz : zre E h = last := zre_eq ⟨k, b, last, hRn, Or.inr ⟨fun p p0 p1 p2 => hall p p0 p1 p2, hl0, fun p p0 p1 p2 => hle p p0 p1 p2 (hall p p0 p1 p2), by
          rcases hlast with z | ⟨p, p0, p1, p2, p3, p4⟩
          · exact Or.inl z
          · exact Or.inr ⟨p, p0, p1, p2, p4⟩⟩⟩
        rw [← hEz, hz, hrb]
        exact ⟨rfl, Or.inr hl0, hS, hF⟩
      · exact absurd zcq85 (by omega)
    | succ N ih =>
      intro s hs0 hs hall
      have hs32 : s < 32 := by omega
      have hEs := hE01 s
      have hb := hS.2.2.2 s hs0 hs32
      have h61 := hS.2.2.1 s hs0 hs32
      refine z_iload hG dX11_findTimes_81 rfl ?_
      refine z_bipush hG dX11_findTimes_83 rfl ?_
      refine z_icmp_ge hG dX11_findTimes_85 (tgt := 116) rfl (fun zcq85 => ?_) (fun zcq85 => ?_)
      · exact absurd zcq85 (by omega)
      · refine z_aload_n (i := 0) hG dX11_findTimes_88 rfl rfl ?_
        refine z_iload hG dX11_findTimes_89 rfl ?_
        refine z_callV hG dX11_findTimes_91 LV_X11_181 (ct_X11_isOn l g hI hR1 ⟨hs0, hs32⟩) (by decide) rfl rfl rfl (Nat.le_of_ble_eq_true rfl) ?_
        intro v9 m9 h9
        rw [h9.1, h9.2, ← hEz]
        clear h9 m9 v9
        refine z_if_eq hG dX11_findTimes_94 (tgt := 110) rfl (fun zcq94 => ?_) (fun zcq94 => ?_)
        · try simp only [zite_eq0, ne_eq, Classical.not_not] at zcq94
          refine z_iinc hG dX11_findTimes_110 (by decide) rfl (by omega) (by omega) (ls2 := [_, _, _, _, _, _]) rfl ?_
          refine z_goto hG dX11_findTimes_113 (tgt := 81) rfl ?_
          refine ih (s + 1) (by omega) (by omega) (fun p p0 p1 p2 => ?_)
          by_cases e : p = s
          · subst e
            clear hlast hle ih
            omega
          · exact hall p p0 (by omega) p2
        · try simp only [zite_eq0, ne_eq, Classical.not_not] at zcq94
          refine z_aload_n (i := 0) hG dX11_findTimes_97 rfl rfl ?_
          refine z_get_11_21 hG dX11_findTimes_98 FL_X11_59 ?_
          refine z_iload hG dX11_findTimes_101 rfl ?_
          refine z_iald hG dX11_findTimes_103 rfl rfl (by omega) (by omega) ?_
          rw [h61]
          refine z_if_ge hG dX11_findTimes_104 (tgt := 110) rfl (fun zcq104 => ?_) (fun zcq104 => ?_)
          · refine z_iinc hG dX11_findTimes_110 (by decide) rfl (by omega) (by omega) (ls2 := [_, _, _, _, _, _]) rfl ?_
            refine z_goto hG dX11_findTimes_113 (tgt := 81) rfl ?_
            refine ih (s + 1) (by omega) (by omega) (fun p p0 p1 p2 => ?_)
            by_cases e : p = s
            · subst e
              clear hlast hle ih
              omega
            · exact hall p p0 (by omega) p2
          · refine z_bipush hG dX11_findTimes_107 rfl ?_
            refine z_iret hG hE dX11_findTimes_109 trivial ?_
            have hbs : b s = -6 := by clear hlast hle ih hall; omega
            have hon : E 0 s = 1 := by clear hlast hle ih hall; omega
            have hz : zre E h = -6 := zre_eq ⟨k, b, last, hRn, Or.inl ⟨rfl, s, hs0, hs32, hon, hbs⟩⟩
            rw [← hEz, hz, hrb]
            exact ⟨rfl, Or.inl rfl, hS, hF⟩
  have inner : ∀ (t : Int) (b : Int → Int), 0 ≤ t ∧ t ≤ 300000 → ∀ (N : Nat) (f r : Int) (b1 : Int → Int) (M1 : zM), zub E b1 ≤ N → zNp E t f b1 r → (-100 ≤ f ∧ f ≤ 6) → zSb a E M1 b1 → zFt M1 m → (∀ j : Int, 0 ≤ j → j < 32 → b1 j = b j ∨ (b j = -6 ∧ b1 j = t)) → (∀ (b2 : Int → Int) (k : Nat) (M2 : zM) (f2 r2 : Int), zGr E t k f b1 b2 → zSb a E M2 b2 → zFt M2 m → (∀ j : Int, 0 ≤ j → j < 32 → b2 j = b j ∨ (b j = -6 ∧ b2 j = t)) → zZ X 69 [some (zr 11 0 0), some (zi h), some (zi t), some (zi t), some (zi f2), some (zi r2)] [] M2) → zZ X 33 [some (zr 11 0 0), some (zi h), some (zi t), some (zi t), some (zi f), some (zi r)] [] M1 := by
    intro t b ht N
    induction N with
    | zero =>
      intro f r b1 M1 hN hr hf hS hF hbb K
      refine z_iload hG dX11_findTimes_33 rfl ?_
      refine z_if_lt hG dX11_findTimes_35 (tgt := 69) rfl (fun zcq35 => ?_) (fun zcq35 => ?_)
      · rcases hr with ⟨h1, h2⟩ | ⟨h1, -⟩
        · exact K b1 0 M1 f r ⟨h2, rfl⟩ hS hF hbb
        · exfalso
          have := h1.1
          omega
      · rcases hr with ⟨h1, h2⟩ | ⟨h1, -⟩
        · exfalso
          omega
        · exfalso
          have h5 := zub_s (t := t) h1.1 h1.2.1 h1.2.2.1 (by omega)
          have h6 := zub_0 (E := E) (b := zupd b1 r t)
          omega
    | succ N ih =>
      intro f r b1 M1 hN hr hf hS hF hbb K
      refine z_iload hG dX11_findTimes_33 rfl ?_
      refine z_if_lt hG dX11_findTimes_35 (tgt := 69) rfl (fun zcq35 => ?_) (fun zcq35 => ?_)
      · rcases hr with ⟨h1, h2⟩ | ⟨h1, -⟩
        · exact K b1 0 M1 f r ⟨h2, rfl⟩ hS hF hbb
        · exfalso
          have := h1.1
          omega
      · have hrc := hr.resolve_left (fun z => by have := z.1; omega)
        have h1 := hrc.1
        have hok := hEE r h1.1.1 h1.1.2 h1.2.1
        have hE2 := h1.2.2.2.1
        have hS1 := zSb_upd hS h1.1 ht
        have hF1 : zFt (zset M1 61 0 0 r t) m := fun t' s j q q1 q2 => by
          simp only [zset]
          rw [if_neg (by omega)]
          exact hF t' s j q q1 q2
        have h5 := zub_s (t := t) h1.1 h1.2.1 h1.2.2.1 (by omega)
        refine z_aload_n (i := 0) hG dX11_findTimes_38 rfl rfl ?_
        refine z_get_11_21 hG dX11_findTimes_39 FL_X11_59 ?_
        refine z_iload hG dX11_findTimes_42 rfl ?_
        refine z_iload_n (i := 2) hG dX11_findTimes_44 rfl rfl ?_
        refine z_iast hG dX11_findTimes_45 rfl rfl (by (have := h1.1; omega)) (by (have := h1.1; omega)) ?_
        refine z_iload hG dX11_findTimes_46 rfl ?_
        refine z_aload_n (i := 0) hG dX11_findTimes_48 rfl rfl ?_
        refine z_iload hG dX11_findTimes_49 rfl ?_
        refine z_callV hG dX11_findTimes_51 LV_X11_190 (ct_X11_handsOf l g hI hS1.1 h1.1 (by rw [← hEz]; exact h1.2.1)) (by decide) rfl rfl rfl (Nat.le_of_ble_eq_true rfl) ?_
        intro v9 m9 h9
        rw [h9.1, h9.2, ← hEz]
        clear h9 m9 v9
        refine z_isub hG dX11_findTimes_54 (by omega) (by omega) ?_
        refine z_istore hG dX11_findTimes_55 (by decide) (ls2 := [_, _, _, _, _, _]) rfl ?_
        refine z_aload_n (i := 0) hG dX11_findTimes_57 rfl rfl ?_
        refine z_iload_n (i := 2) hG dX11_findTimes_58 rfl rfl ?_
        refine z_iload hG dX11_findTimes_59 rfl ?_
        refine z_callV hG dX11_findTimes_61 LV_X11_206 (ct_X11_nextAt l g hI hEz hEE hS1) (by decide) rfl rfl rfl (Nat.le_of_ble_eq_true rfl) ?_
        intro v9 m9 h9
        obtain ⟨r2, h9a, h9b, h9c⟩ := h9
        rw [h9a, h9b]
        clear h9a h9b m9 v9
        refine z_istore hG dX11_findTimes_64 (by decide) (ls2 := [_, _, _, _, _, _]) rfl ?_
        refine z_goto hG dX11_findTimes_66 (tgt := 33) rfl ?_
        refine ih (f - E 2 r) r2 (zupd b1 r t) _ (by omega) h9c (by omega) hS1 hF1 (fun j j0 j1 => ?_) (fun b2 k M2 f2 r3 hg hS2 hF2 hb2 => K b2 (k + 1) M2 f2 r3 ⟨r, h1, hrc.2, hg⟩ hS2 hF2 hb2)
        have hj := hbb j j0 j1
        simp only [zupd]
        by_cases e : j = r
        · subst e
          rw [if_pos rfl]
          have := h1.2.2.1
          omega
        · rw [if_neg e]
          exact hj
  have outer : ∀ (n tu : Nat) (t last : Int) (b : Int → Int) (M : zM) (l3 l4 l5 : Option zV), tu + n = 33 → (0 ≤ t ∧ t ≤ 5000 * tu) → (tu : Int) ≤ zcn E b t → (∀ j : Int, 0 ≤ j → j < 32 → b j = -6 ∨ (0 ≤ b j ∧ b j ≤ t)) → zSb a E M b → zFt M m → (t = 0 ∨ ∃ p : Int, 0 ≤ p ∧ p < 32 ∧ E 0 p = 1 ∧ b p ≠ -6 ∧ b p + E 1 p = t) → (∀ (k : Nat) (b' : Int → Int) (last : Int), zRn E h k t b b' last → ∃ k2, zRn E h k2 0 (fun _ => -6) b' last) → zZ X 8 [some (zr 11 0 0), some (zi h), some (zi t), l3, l4, l5] [] M := by
    intro n
    induction n with
    | zero =>
      intro tu t last b M l3 l4 l5 htu ht hc hb hS hF hlast hC
      have := zcn_le (E := E) (b := b) (t := t)
      omega
    | succ n ih =>
      intro tu t last b M l3 l4 l5 htu ht hc hb hS hF hlast hC
      have hzb := zsum_le (f := fun p => if E 0 p = 1 then (if b p ≠ -6 ∧ t < b p + E 1 p then E 2 p else 0) else 0) (B := 3) 32 (fun j j0 j1 => by
        show 0 ≤ (if E 0 j = 1 then (if b j ≠ -6 ∧ t < b j + E 1 j then E 2 j else 0) else 0) ∧ (if E 0 j = 1 then (if b j ≠ -6 ∧ t < b j + E 1 j then E 2 j else 0) else 0) ≤ 3
        split
        · next q =>
          have := (hEE j j0 (by omega) q).2.1
          split <;> omega
        · omega)
      have hzb : 0 ≤ zbz E b t ∧ zbz E b t ≤ 96 := hzb
      have ht3 : 0 ≤ t ∧ t ≤ 300000 := by clear hlast; omega
      refine z_iload_n (i := 2) hG dX11_findTimes_8 rfl rfl ?_
      refine z_ldc hG dX11_findTimes_9 KC_X11_127 rfl ?_
      refine z_icmp_ge hG dX11_findTimes_11 (tgt := 78) rfl (fun zcq11 => ?_) (fun zcq11 => ?_)
      · exact absurd zcq11 (by clear hlast; omega)
      · refine z_iload_n (i := 2) hG dX11_findTimes_14 rfl rfl ?_
        refine z_istore_n (i := 3) hG dX11_findTimes_15 rfl (by decide) (ls2 := [_, _, _, _, _, _]) rfl ?_
        refine z_aload_n (i := 0) hG dX11_findTimes_16 rfl rfl ?_
        refine z_iload_n (i := 2) hG dX11_findTimes_17 rfl rfl ?_
        refine z_iload_n (i := 1) hG dX11_findTimes_18 rfl rfl ?_
        refine z_callV hG dX11_findTimes_19 LV_X11_203 (ct_X11_freeAt l g hI hEz hEE hS hh) (by decide) rfl rfl rfl (Nat.le_of_ble_eq_true rfl) ?_
        intro v9 m9 h9
        rw [h9.1, h9.2]
        clear h9 m9 v9
        refine z_istore hG dX11_findTimes_22 (by decide) (ls2 := [_, _, _, _, _, _]) rfl ?_
        refine z_aload_n (i := 0) hG dX11_findTimes_24 rfl rfl ?_
        refine z_iload_n (i := 2) hG dX11_findTimes_25 rfl rfl ?_
        refine z_iload hG dX11_findTimes_26 rfl ?_
        refine z_callV hG dX11_findTimes_28 LV_X11_206 (ct_X11_nextAt l g hI hEz hEE hS) (by decide) rfl rfl rfl (Nat.le_of_ble_eq_true rfl) ?_
        intro v9 m9 h9
        obtain ⟨r2, h9a, h9b, h9c⟩ := h9
        rw [h9a, h9b]
        clear h9a h9b m9 v9
        refine z_istore hG dX11_findTimes_31 (by decide) (ls2 := [_, _, _, _, _, _]) rfl ?_
        have hub := zub_0 (E := E) (b := b)
        refine inner t b ht3 32 (h - zbz E b t) r2 b M (by omega) h9c (by omega) hS hF (fun j j0 j1 => Or.inl rfl) (fun b2 k M2 f2 r3 hg hS2 hF2 hb2 => ?_)
        refine z_aload_n (i := 0) hG dX11_findTimes_69 rfl rfl ?_
        refine z_iload_n (i := 2) hG dX11_findTimes_70 rfl rfl ?_
        refine z_callV hG dX11_findTimes_71 LV_X11_209 (ct_X11_nextEnd l g hI hEz hEE hS2 ht3) (by decide) rfl rfl rfl (Nat.le_of_ble_eq_true rfl) ?_
        intro v9 m9 h9
        obtain ⟨re, h9a, h9b, hne⟩ := h9
        rw [h9a, h9b]
        clear h9a h9b m9 v9
        refine z_istore_n (i := 2) hG dX11_findTimes_74 rfl (by decide) (ls2 := [_, _, _, _, _, _]) rfl ?_
        refine z_goto hG dX11_findTimes_75 (tgt := 8) rfl ?_
        have hlast2 : t = 0 ∨ ∃ p : Int, 0 ≤ p ∧ p < 32 ∧ E 0 p = 1 ∧ b2 p ≠ -6 ∧ b2 p + E 1 p = t := by
          rcases hlast with z | ⟨p, p0, p1, p2, p3, p4⟩
          · exact Or.inl z
          · have := hb2 p p0 p1
            exact Or.inr ⟨p, p0, p1, p2, by omega, by omega⟩
        clear hlast
        by_cases e : re = -6
        · rw [if_pos e]
          have hrn : zRn E h 1 t b b2 t := ⟨b2, k, re, hg, hne, Or.inl ⟨e, rfl, rfl⟩⟩
          obtain ⟨k2, hk2⟩ := hC 1 b2 t hrn
          have hle : ∀ p : Int, 0 ≤ p → p < 32 → E 0 p = 1 → b2 p ≠ -6 → b2 p + E 1 p ≤ t := by
            rcases hne with ⟨-, h2⟩ | ⟨h1, -⟩
            · exact h2
            · exfalso
              omega
          refine z_iload_n (i := 2) hG dX11_findTimes_8 rfl rfl ?_
          refine z_ldc hG dX11_findTimes_9 KC_X11_127 rfl ?_
          refine z_icmp_ge hG dX11_findTimes_11 (tgt := 78) rfl (fun zcq11 => ?_) (fun zcq11 => ?_)
          · refine z_iconst hG dX11_findTimes_78 rfl ?_
            refine z_istore hG dX11_findTimes_79 (by decide) (ls2 := [_, _, _, _, _, _]) rfl ?_
            exact fin k2 b2 t M2 1000000000 _ hk2 hS2 hF2 ht3.1 hle hlast2 32 0 (by decide) rfl (fun p p0 p1 => by omega)
          · exact absurd zcq11 (by decide)
        · rw [if_neg e]
          have hup := zcn_up hb2 hne e
          have hend : ∃ p : Int, 0 ≤ p ∧ p < 32 ∧ E 0 p = 1 ∧ b2 p ≠ -6 ∧ b2 p + E 1 p = re := by
            rcases hne with ⟨h1, -⟩ | ⟨-, h2, -⟩
            · exact absurd h1 e
            · exact h2
          have htr : t < re := by
            rcases hne with ⟨h1, -⟩ | ⟨h1, -, -⟩
            · exact absurd h1 e
            · exact h1
          have hre2 : re ≤ t + 5000 := by
            obtain ⟨p, p0, p1, p2, p3, p4⟩ := hend
            have q1 := (hEE p p0 p1 p2).1
            have q2 := hb2 p p0 p1
            have q3 := hb p p0 p1
            omega
          refine ih (tu + 1) re t b2 M2 _ _ _ (by omega) (by omega) (by omega) (fun j j0 j1 => ?_) hS2 hF2 (Or.inr hend) (fun k' b' last' hr' => hC (k' + 1) b' last' ⟨b2, k, re, hg, hne, Or.inr ⟨e, hr'⟩⟩)
          have q2 := hb2 j j0 j1
          have q3 := hb j j0 j1
          omega
  refine z_aload_n (i := 0) hG dX11_findTimes_0 rfl rfl ?_
  refine z_callV hG dX11_findTimes_1 LV_X11_200 (ct_X11_findTails l g hI hR) (by decide) rfl rfl rfl (Nat.le_of_ble_eq_true rfl) ?_
  intro v9 m1 h9
  obtain ⟨h9a, hTd, hF⟩ := h9
  rw [h9a]
  clear h9a v9
  rw [← hEz] at hTd
  have hS : zSb a E m1 (fun _ => -6) := ⟨by rw [zFt_45 hF]; exact hR, fun p p0 p1 p2 => (hTd.1 p (by omega) p1).2 p2, fun p p0 p1 => (hTd.1 p (by omega) p1).1, fun _ _ _ => Or.inl rfl⟩
  refine z_iconst hG dX11_findTimes_4 rfl ?_
  refine z_istore_n (i := 2) hG dX11_findTimes_5 rfl (by decide) (ls2 := [_, _, _, _, _, _]) rfl ?_
  refine z_iconst hG dX11_findTimes_6 rfl ?_
  refine z_istore_n (i := 3) hG dX11_findTimes_7 rfl (by decide) (ls2 := [_, _, _, _, _, _]) rfl ?_
  have hz0 : zcn E (fun _ => -6) 0 = 0 := by
    unfold zcn
    rw [zsum_congr 32 (f' := fun _ => 0) (fun j j0 j1 => if_neg (fun z => z.2.1 rfl))]
    rfl
  refine outer 33 0 0 0 (fun _ => -6) m1 _ _ _ rfl (by decide) (by rw [hz0]; decide) (fun _ _ _ => Or.inl rfl) hS hF (Or.inl rfl) (fun k b' last' hr => ⟨k, hr⟩)
set_option maxRecDepth 20000 in
theorem ct_X11_bound (l : Launch) (g : zG) {a m : zM} {B : Int} (hI : zInv B a) (hB : B ≤ 11900000) (hR : zRM a m) : zMet l g Y_X11_bound [zr 11 0 0] m (fun v m' => v = some (zi (if zgre (zEc a) < (zsum 32 (zwf (zEc a)) + a 2 0 0 1 - 1) / a 2 0 0 1 then (zsum 32 (zwf (zEc a)) + a 2 0 0 1 - 1) / a 2 0 0 1 else zgre (zEc a))) ∧ zRM a m' ∧ zKt m' m) := by
  refine zMet_introF (by decide +kernel) (Nat.le_of_ble_eq_true rfl) (ls0 := [some (zr 11 0 0), none]) rfl fun X hG hE => ?_
  have hG : zGood X l g RX11 cX11_bound 4 2 := hG
  have hE : zEnd X (some .int) _ := hE
  have hI0 := zInv0 hI
  obtain ⟨hday, hhan, hing, hrcp, hrec, hboo, hrow, hrow2, hstp⟩ := id hI0
  have hEE := zEc_ok hI0
  refine z_aload_n (i := 0) hG dX11_bound_0 rfl rfl ?_
  refine z_callV hG dX11_bound_1 LV_X11_200 (ct_X11_findTails l g hI0 hR.1) (by decide) rfl rfl rfl (Nat.le_of_ble_eq_true rfl) ?_
  intro v9 m1 h9
  obtain ⟨h9a, hTd, hF⟩ := h9
  rw [h9a]
  clear h9a v9
  have hGm := zmax_eq hEE (G := m1 11 0 0 23) ⟨hTd.2.1.1, fun p p0 p1 p2 p3 => hTd.2.1.2.1 p p0 p1 p2 (by omega), by
    rcases hTd.2.1.2.2 with z | ⟨p, p0, p1, p2, p3, p4⟩
    · exact Or.inl z
    · exact Or.inr ⟨p, p0, p1, p2, p1, p4⟩⟩
  have hwb := zwk_bd hEE (s := -1)
  have hW := hTd.2.2
  rw [zwk_m] at hW hwb
  have h3 : m1 45 0 0 3 = a 2 0 0 1 := by rw [hF 45 0 0 3 (by omega) (by omega), hR.1.2.2.2.1]
  refine z_aload_n (i := 0) hG dX11_bound_4 rfl rfl ?_
  refine z_getI hG dX11_bound_5 FL_X11_178 rfl rfl (kk := 24) rfl ?_
  rw [hW]
  refine z_aload_n (i := 0) hG dX11_bound_8 rfl rfl ?_
  refine z_get_11_0 hG dX11_bound_9 FL_X11_7 ?_
  refine z_iconst hG dX11_bound_12 rfl ?_
  refine z_iald hG dX11_bound_13 rfl rfl (by omega) (by omega) ?_
  rw [h3]
  refine z_callS hG dX11_bound_14 LS_X11_112 (ct_X11_up l g (by omega) (by omega) (by omega)) (by decide) rfl rfl (Nat.le_of_ble_eq_true rfl) ?_
  intro v9 m9 h9
  rw [h9.1, h9.2]
  clear h9 m9 v9
  refine z_istore_n (i := 1) hG dX11_bound_17 rfl (by decide) (ls2 := [_, _]) rfl ?_
  refine z_aload_n (i := 0) hG dX11_bound_18 rfl rfl ?_
  refine z_getI hG dX11_bound_19 FL_X11_175 rfl rfl (kk := 23) rfl ?_
  rw [hGm]
  refine z_iload_n (i := 1) hG dX11_bound_22 rfl rfl ?_
  refine z_icmp_le hG dX11_bound_23 (tgt := 33) rfl (fun zcq23 => ?_) (fun zcq23 => ?_)
  · refine z_iload_n (i := 1) hG dX11_bound_33 rfl rfl ?_
    refine z_iret hG hE dX11_bound_34 trivial ?_
    refine ⟨?_, zFt_RM hF hR, zFt_Kt hF⟩
    first
    | (rw [if_pos (by omega)]; done)
    | (rw [if_neg (by omega)]; done)
    | (by_cases e : zgre (zEc a) < (zsum 32 (zwf (zEc a)) + a 2 0 0 1 - 1) / a 2 0 0 1
       · first
         | (exfalso; omega; done)
         | (rw [if_pos e]; done)
       · first
         | (exfalso; omega; done)
         | (rw [if_neg e]; congr 2; omega))
  · refine z_aload_n (i := 0) hG dX11_bound_26 rfl rfl ?_
    refine z_getI hG dX11_bound_27 FL_X11_175 rfl rfl (kk := 23) rfl ?_
    rw [hGm]
    refine z_goto hG dX11_bound_30 (tgt := 34) rfl ?_
    refine z_iret hG hE dX11_bound_34 trivial ?_
    refine ⟨?_, zFt_RM hF hR, zFt_Kt hF⟩
    first
    | (rw [if_pos (by omega)]; done)
    | (rw [if_neg (by omega)]; done)
    | (by_cases e : zgre (zEc a) < (zsum 32 (zwf (zEc a)) + a 2 0 0 1 - 1) / a 2 0 0 1
       · first
         | (exfalso; omega; done)
         | (rw [if_pos e]; done)
       · first
         | (exfalso; omega; done)
         | (rw [if_neg e]; congr 2; omega))
set_option maxRecDepth 20000 in
theorem ct_X11_fewestHands (l : Launch) (g : zG) {a m : zM} {B : Int} {t : Int} (hI : zInv B a) (hB : B ≤ 11900000) (hR : zRM a m) : zMet l g Y_X11_fewestHands [zr 11 0 0, zi t] m (fun v m' => v = some (zi (zk_fewestHands t a)) ∧ zRM a m' ∧ zKt m' m) := by
  refine zMet_introF (by decide +kernel) (Nat.le_of_ble_eq_true rfl) (ls0 := [some (zr 11 0 0), some (zi t), none, none]) rfl fun X hG hE => ?_
  have hG : zGood X l g RX11 cX11_fewestHands 6 4 := hG
  have hE : zEnd X (some .int) _ := hE
  have hI0 := zInv0 hI
  have loop : (0 ≤ t ∧ t ≤ 5000) → ∀ (N : Nat) (h : Int) (M : zM) (e : Option zV), 1 ≤ h → h + N = 7 → zRM a M → zKt M m → zfh (zEc a) t N h = zfh (zEc a) t 6 1 → zZ X 16 [some (zr 11 0 0), some (zi t), some (zi h), e] [] M := by
    intro ht N
    induction N with
    | zero =>
      intro h M e hh hN hRM hK hz
      refine z_iload_n (i := 2) hG dX11_fewestHands_16 rfl rfl ?_
      refine z_bipush hG dX11_fewestHands_17 rfl ?_
      refine z_icmp_gt hG dX11_fewestHands_19 (tgt := 45) rfl (fun zcq19 => ?_) (fun zcq19 => ?_)
      · refine z_bipush hG dX11_fewestHands_45 rfl ?_
        refine z_iret hG hE dX11_fewestHands_47 trivial ?_
        refine ⟨?_, hRM, hK⟩
        rw [zk_fewestHands, if_neg (by omega), ← hz]
        rfl
      · exact absurd zcq19 (by omega)
    | succ N ih =>
      intro h M e hh hN hRM hK hz
      rw [zfh] at hz
      refine z_iload_n (i := 2) hG dX11_fewestHands_16 rfl rfl ?_
      refine z_bipush hG dX11_fewestHands_17 rfl ?_
      refine z_icmp_gt hG dX11_fewestHands_19 (tgt := 45) rfl (fun zcq19 => ?_) (fun zcq19 => ?_)
      · exact absurd zcq19 (by omega)
      · refine z_aload_n (i := 0) hG dX11_fewestHands_22 rfl rfl ?_
        refine z_iload_n (i := 2) hG dX11_fewestHands_23 rfl rfl ?_
        refine z_callV hG dX11_fewestHands_24 LV_X11_255 (ct_X11_findTimes l g hI0 hRM.1 ⟨by omega, by omega⟩) (by decide) rfl rfl rfl (Nat.le_of_ble_eq_true rfl) ?_
        intro v9 m1 h9
        obtain ⟨h9a, hr6, -, hF⟩ := h9
        rw [h9a]
        clear h9a v9
        refine z_istore_n (i := 3) hG dX11_fewestHands_27 rfl (by decide) (ls2 := [_, _, _, _]) rfl ?_
        refine z_iload_n (i := 3) hG dX11_fewestHands_28 rfl rfl ?_
        refine z_if_lt hG dX11_fewestHands_29 (tgt := 39) rfl (fun zcq29 => ?_) (fun zcq29 => ?_)
        · refine z_iinc hG dX11_fewestHands_39 (by decide) rfl (by omega) (by omega) (ls2 := [_, _, _, _]) rfl ?_
          refine z_goto hG dX11_fewestHands_42 (tgt := 16) rfl ?_
          refine ih (h + 1) m1 _ (by omega) (by omega) (zFt_RM hF hRM) (zKt_tr (zFt_Kt hF) hK) ?_
          rw [← hz, if_neg (by omega)]
        · refine z_iload_n (i := 3) hG dX11_fewestHands_32 rfl rfl ?_
          refine z_iload_n (i := 1) hG dX11_fewestHands_33 rfl rfl ?_
          refine z_icmp_gt hG dX11_fewestHands_34 (tgt := 39) rfl (fun zcq34 => ?_) (fun zcq34 => ?_)
          · refine z_iinc hG dX11_fewestHands_39 (by decide) rfl (by omega) (by omega) (ls2 := [_, _, _, _]) rfl ?_
            refine z_goto hG dX11_fewestHands_42 (tgt := 16) rfl ?_
            refine ih (h + 1) m1 _ (by omega) (by omega) (zFt_RM hF hRM) (zKt_tr (zFt_Kt hF) hK) ?_
            rw [← hz, if_neg (by omega)]
          · refine z_iload_n (i := 2) hG dX11_fewestHands_37 rfl rfl ?_
            refine z_iret hG hE dX11_fewestHands_38 trivial ?_
            refine ⟨?_, zFt_RM hF hRM, zKt_tr (zFt_Kt hF) hK⟩
            rw [zk_fewestHands, if_neg (by omega), ← hz, if_pos (by omega)]
  refine z_iload_n (i := 1) hG dX11_fewestHands_0 rfl rfl ?_
  refine z_iconst hG dX11_fewestHands_1 rfl ?_
  refine z_sipush hG dX11_fewestHands_2 rfl ?_
  refine z_callS hG dX11_fewestHands_5 LS_X11_76 (ct_X11_in l g) (by decide) rfl rfl (Nat.le_of_ble_eq_true rfl) ?_
  intro v9 m9 h9
  rw [h9.1, h9.2]
  clear h9 m9 v9
  refine z_if_ne hG dX11_fewestHands_8 (tgt := 14) rfl (fun zcq8 => ?_) (fun zcq8 => ?_)
  · try simp only [zite_eq0, ne_eq, Classical.not_not] at zcq8
    refine z_iconst hG dX11_fewestHands_14 rfl ?_
    refine z_istore_n (i := 2) hG dX11_fewestHands_15 rfl (by decide) (ls2 := [_, _, _, _]) rfl ?_
    exact loop (by omega) 6 1 m none (by decide) rfl hR zKt_rf rfl
  · try simp only [zite_eq0, ne_eq, Classical.not_not] at zcq8
    refine z_bipush hG dX11_fewestHands_11 rfl ?_
    refine z_iret hG hE dX11_fewestHands_13 trivial ?_
    refine ⟨?_, hR, zKt_rf⟩
    rw [zk_fewestHands, if_pos (by omega)]
set_option maxRecDepth 20000 in
theorem ct_X11_step (l : Launch) (g : zG) {a m : zM} {B : Int} {r k w : Int} (hI : zInv B a) (hB : B ≤ 11900000) (hR : zRM a m) : zMet l g Y_X11_step [zr 11 0 0, zi r, zi k, zi w] m (fun v m' => v = some (zi (zk_step r k w a)) ∧ zRM a m' ∧ zKt m' m) := by
  refine zMet_introF (by decide +kernel) (Nat.le_of_ble_eq_true rfl) (ls0 := [some (zr 11 0 0), some (zi r), some (zi k), some (zi w), none]) rfl fun X hG hE => ?_
  have hG : zGood X l g RX11 cX11_step 6 5 := hG
  have hE : zEnd X (some .int) _ := hE
  have hI0 := zInv0 hI
  obtain ⟨hday, hhan, hing, hrcp, hrec, hboo, hrow, hrow2, hstp⟩ := id hI0
  obtain ⟨⟨e0, e1, e2, e3, e4, e5, eI, eZ, eR⟩, eN, eP, eS, e6, eT⟩ := id hR
  refine z_aload_n (i := 0) hG dX11_step_0 rfl rfl ?_
  refine z_iload_n (i := 1) hG dX11_step_1 rfl rfl ?_
  refine z_callV hG dX11_step_2 LV_X11_246 (ct_X11_isRecipe l g) (by decide) rfl rfl rfl (Nat.le_of_ble_eq_true rfl) ?_
  intro v9 m9 h9
  rw [h9.1, h9.2, e2]
  clear h9 m9 v9
  refine z_if_eq hG dX11_step_5 (tgt := 22) rfl (fun zcq5 => ?_) (fun zcq5 => ?_)
  · try simp only [zite_eq0, ne_eq, Classical.not_not] at zcq5
    refine z_iconst hG dX11_step_22 rfl ?_
    refine z_iret hG hE dX11_step_23 trivial ?_
    refine ⟨?_, hR, zKt_rf⟩
    rw [zk_step, if_pos (by omega)]
  · try simp only [zite_eq0, ne_eq, Classical.not_not] at zcq5
    refine z_iload_n (i := 2) hG dX11_step_8 rfl rfl ?_
    refine z_if_lt hG dX11_step_9 (tgt := 22) rfl (fun zcq9 => ?_) (fun zcq9 => ?_)
    · refine z_iconst hG dX11_step_22 rfl ?_
      refine z_iret hG hE dX11_step_23 trivial ?_
      refine ⟨?_, hR, zKt_rf⟩
      rw [zk_step, if_pos (by omega)]
    · refine z_iload_n (i := 2) hG dX11_step_12 rfl rfl ?_
      refine z_aload_n (i := 0) hG dX11_step_13 rfl rfl ?_
      refine z_iload_n (i := 1) hG dX11_step_14 rfl rfl ?_
      refine z_iconst hG dX11_step_15 rfl ?_
      refine z_callV hG dX11_step_16 LV_X11_68 (ct_X11_ofARecipe l g ⟨by omega, by omega⟩ ⟨by decide, by decide⟩) (by decide) rfl rfl rfl (Nat.le_of_ble_eq_true rfl) ?_
      intro v9 m9 h9
      rw [h9.1, h9.2, (eR r (by omega) (by omega) (by omega)).2.1]
      clear h9 m9 v9
      have hst := (hrec r (by omega) (by omega)).2.2.1
      have hpr := (hrec r (by omega) (by omega)).1
      refine z_icmp_lt hG dX11_step_19 (tgt := 24) rfl (fun zcq19 => ?_) (fun zcq19 => ?_)
      · refine z_iload_n (i := 3) hG dX11_step_24 rfl rfl ?_
        refine z_iconst hG dX11_step_25 rfl ?_
        refine z_iconst hG dX11_step_26 rfl ?_
        refine z_callS hG dX11_step_27 LS_X11_76 (ct_X11_in l g) (by decide) rfl rfl (Nat.le_of_ble_eq_true rfl) ?_
        intro v9 m9 h9
        rw [h9.1, h9.2]
        clear h9 m9 v9
        refine z_if_ne hG dX11_step_30 (tgt := 36) rfl (fun zcq30 => ?_) (fun zcq30 => ?_)
        · try simp only [zite_eq0, ne_eq, Classical.not_not] at zcq30
          refine z_iload_n (i := 3) hG dX11_step_36 rfl rfl ?_
          refine z_if_ne hG dX11_step_37 (tgt := 53) rfl (fun zcq37 => ?_) (fun zcq37 => ?_)
          · try simp only [zite_eq0, ne_eq, Classical.not_not] at zcq37
            refine z_iload_n (i := 3) hG dX11_step_53 rfl rfl ?_
            refine z_iconst hG dX11_step_54 rfl ?_
            refine z_icmp_ge hG dX11_step_55 (tgt := 66) rfl (fun zcq55 => ?_) (fun zcq55 => ?_)
            · refine z_aload_n (i := 0) hG dX11_step_66 rfl rfl ?_
              refine z_iload_n (i := 1) hG dX11_step_67 rfl rfl ?_
              refine z_iconst hG dX11_step_68 rfl ?_
              refine z_callV hG dX11_step_69 LV_X11_68 (ct_X11_ofARecipe l g ⟨by omega, by omega⟩ ⟨by decide, by decide⟩) (by decide) rfl rfl rfl (Nat.le_of_ble_eq_true rfl) ?_
              intro v9 m9 h9
              rw [h9.1, h9.2, (eR r (by omega) (by omega) (by omega)).2.2.1]
              clear h9 m9 v9
              refine z_if_ne hG dX11_step_72 (tgt := 78) rfl (fun zcq72 => ?_) (fun zcq72 => ?_)
              · try simp only [zite_eq0, ne_eq, Classical.not_not] at zcq72
                refine z_aload_n (i := 0) hG dX11_step_78 rfl rfl ?_
                refine z_aload_n (i := 0) hG dX11_step_79 rfl rfl ?_
                refine z_get_11_0 hG dX11_step_80 FL_X11_7 ?_
                refine z_iconst hG dX11_step_83 rfl ?_
                refine z_iald hG dX11_step_84 rfl rfl (by omega) (by omega) ?_
                rw [e3]
                refine z_callV hG dX11_step_85 LV_X11_255 (ct_X11_findTimes l g hI0 hR.1 (by omega)) (by decide) rfl rfl rfl (Nat.le_of_ble_eq_true rfl) ?_
                intro v9 m1 h9
                obtain ⟨h9a, hr6, hS, hF⟩ := h9
                rw [h9a]
                clear h9a v9
                have hon : zEc a 0 (8 * r + k) = 1 := by
                  simp only [zEc]
                  rw [show (8 * r + k) / 8 = r by omega, show (8 * r + k) % 8 = k by omega, if_pos (by omega)]
                have h60 := (hS.2.1 (8 * r + k) (by omega) (by omega) hon).2
                have h61 := hS.2.2.1 (8 * r + k) (by omega) (by omega)
                refine z_istore hG dX11_step_88 (by decide) (ls2 := [_, _, _, _, _]) rfl ?_
                refine z_iload_n (i := 3) hG dX11_step_90 rfl rfl ?_
                refine z_iconst hG dX11_step_91 rfl ?_
                refine z_icmp_ne hG dX11_step_92 (tgt := 109) rfl (fun zcq92 => ?_) (fun zcq92 => ?_)
                · refine z_aload_n (i := 0) hG dX11_step_109 rfl rfl ?_
                  refine z_get_11_21 hG dX11_step_110 FL_X11_59 ?_
                  refine z_bipush hG dX11_step_113 rfl ?_
                  refine z_iload_n (i := 1) hG dX11_step_115 rfl rfl ?_
                  refine z_imul hG dX11_step_116 (by omega) (by omega) ?_
                  refine z_iload_n (i := 2) hG dX11_step_117 rfl rfl ?_
                  refine z_iadd hG dX11_step_118 (by omega) (by omega) ?_
                  refine z_iald hG dX11_step_119 rfl rfl (by omega) (by omega) ?_
                  first | rw [h61] | skip
                  refine z_iret hG hE dX11_step_120 trivial ?_
                  refine ⟨?_, zFt_RM hF hR, zFt_Kt hF⟩
                  rw [zk_step, if_neg (by omega), if_neg (by omega), if_neg (by omega), if_neg (by omega), if_neg (by omega), show r * 8 + k = 8 * r + k by omega]
                  first
                  | (rw [if_pos (by omega), if_neg (by omega)]; done)
                  | (rw [if_neg (by omega), if_pos (by omega), if_neg (by omega)]; done)
                · refine z_aload_n (i := 0) hG dX11_step_95 rfl rfl ?_
                  refine z_get_11_20 hG dX11_step_96 FL_X11_56 ?_
                  refine z_bipush hG dX11_step_99 rfl ?_
                  refine z_iload_n (i := 1) hG dX11_step_101 rfl rfl ?_
                  refine z_imul hG dX11_step_102 (by omega) (by omega) ?_
                  refine z_iload_n (i := 2) hG dX11_step_103 rfl rfl ?_
                  refine z_iadd hG dX11_step_104 (by omega) (by omega) ?_
                  refine z_iald hG dX11_step_105 rfl rfl (by omega) (by omega) ?_
                  rw [h60]
                  refine z_goto hG dX11_step_106 (tgt := 120) rfl ?_
                  first | rw [h61] | skip
                  refine z_iret hG hE dX11_step_120 trivial ?_
                  refine ⟨?_, zFt_RM hF hR, zFt_Kt hF⟩
                  rw [zk_step, if_neg (by omega), if_neg (by omega), if_neg (by omega), if_neg (by omega), if_neg (by omega), show r * 8 + k = 8 * r + k by omega]
                  first
                  | (rw [if_pos (by omega), if_neg (by omega)]; done)
                  | (rw [if_neg (by omega), if_pos (by omega), if_neg (by omega)]; done)
              · try simp only [zite_eq0, ne_eq, Classical.not_not] at zcq72
                refine z_bipush hG dX11_step_75 rfl ?_
                refine z_iret hG hE dX11_step_77 trivial ?_
                refine ⟨?_, hR, zKt_rf⟩
                rw [zk_step, if_neg (by omega), if_neg (by omega), if_neg (by omega), if_neg (by omega), if_neg (by omega)]
                rcases (show w = 4 ∨ w = 5 by omega) with rfl | rfl
                · rw [if_pos rfl, if_pos (by omega)]
                · rw [if_neg (by decide), if_pos rfl, if_pos (by omega)]
            · refine z_aload_n (i := 0) hG dX11_step_58 rfl rfl ?_
              refine z_iload_n (i := 1) hG dX11_step_59 rfl rfl ?_
              refine z_iload_n (i := 2) hG dX11_step_60 rfl rfl ?_
              refine z_iload_n (i := 3) hG dX11_step_61 rfl rfl ?_
              refine z_callV hG dX11_step_62 LV_X11_171 (ct_X11_ofStep l g ⟨by omega, by omega⟩ ⟨by omega, by omega⟩ ⟨by omega, by omega⟩) (by decide) rfl rfl rfl (Nat.le_of_ble_eq_true rfl) ?_
              intro v9 m9 h9
              rw [h9.1, h9.2]
              clear h9 m9 v9
              refine z_iret hG hE dX11_step_65 trivial ?_
              refine ⟨?_, hR, zKt_rf⟩
              have h4 := (eR r (by omega) (by omega) (by omega)).2.2.2.2 k w (by omega) (by omega) (by omega) (by omega) (by omega)
              rw [h4, zk_step, if_neg (by omega), if_neg (by omega)]
              rcases (show w = 1 ∨ w = 2 ∨ w = 3 by omega) with rfl | rfl | rfl
              · rw [if_pos rfl]
              · rw [if_neg (by decide), if_pos rfl]
              · rw [if_neg (by decide), if_neg (by decide), if_pos rfl]
          · try simp only [zite_eq0, ne_eq, Classical.not_not] at zcq37
            refine z_aload_n (i := 0) hG dX11_step_40 rfl rfl ?_
            refine z_iload_n (i := 1) hG dX11_step_41 rfl rfl ?_
            refine z_iload_n (i := 2) hG dX11_step_42 rfl rfl ?_
            refine z_aload_n (i := 0) hG dX11_step_43 rfl rfl ?_
            refine z_iload_n (i := 1) hG dX11_step_44 rfl rfl ?_
            refine z_iconst hG dX11_step_45 rfl ?_
            refine z_callV hG dX11_step_46 LV_X11_68 (ct_X11_ofARecipe l g ⟨by omega, by omega⟩ ⟨by decide, by decide⟩) (by decide) rfl rfl rfl (Nat.le_of_ble_eq_true rfl) ?_
            intro v9 m9 h9
            rw [h9.1, h9.2, (eR r (by omega) (by omega) (by omega)).2.2.1]
            clear h9 m9 v9
            refine z_callV hG dX11_step_49 LV_X11_184 (ct_X11_lastsOf l g hI0 hR.1 ⟨by omega, by omega⟩ ⟨by omega, by omega⟩) (by decide) rfl rfl rfl (Nat.le_of_ble_eq_true rfl) ?_
            intro v9 m9 h9
            rw [h9.1, h9.2]
            clear h9 m9 v9
            refine z_iret hG hE dX11_step_52 trivial ?_
            refine ⟨?_, hR, zKt_rf⟩
            have hzs : zk_step r k w a = (if a 4 0 r 1 = 0 then a 5 0 (8 * r + k) 0 else zlast a 0 r k) := by rw [zk_step, if_neg (by omega), if_pos (by omega)]
            rw [hzs]
        · try simp only [zite_eq0, ne_eq, Classical.not_not] at zcq30
          refine z_bipush hG dX11_step_33 rfl ?_
          refine z_iret hG hE dX11_step_35 trivial ?_
          refine ⟨?_, hR, zKt_rf⟩
          rw [zk_step, if_neg (by omega)]
          (repeat rw [if_neg (by omega)])
      · refine z_iconst hG dX11_step_22 rfl ?_
        refine z_iret hG hE dX11_step_23 trivial ?_
        refine ⟨?_, hR, zKt_rf⟩
        rw [zk_step, if_pos (by omega)]
set_option maxRecDepth 40000 in
theorem ct_X11_count (l : Launch) (g : zG) {a m : zM} {B : Int} {w : Int} (hI : zInv B a) (hB : B ≤ 11900000) (hR : zRM a m) : zMet l g Y_X11_count [zr 11 0 0, zi w] m (fun v m' => v = some (zi (zk_count w a)) ∧ zRM a m' ∧ zKt m' m) := by
  refine zMet_introF (by decide +kernel) (Nat.le_of_ble_eq_true rfl) (ls0 := [some (zr 11 0 0), some (zi w)]) rfl fun X hG hE => ?_
  have hG : zGood X l g RX11 cX11_count 9 2 := hG
  have hE : zEnd X (some .int) _ := hE
  have hI0 := zInv0 hI
  obtain ⟨hday, hhan, hing, hrcp, hrec, hboo, hrow, hrow2, hstp⟩ := id hI0
  obtain ⟨⟨e0, e1, e2, e3, e4, e5, eI, eZ, eR⟩, eN, eP, eS, e6, eT⟩ := id hR
  refine z_iload_n (i := 1) hG dX11_count_0 rfl rfl ?_
  refine z_iconst hG dX11_count_1 rfl ?_
  refine z_bipush hG dX11_count_2 rfl ?_
  refine z_callS hG dX11_count_4 LS_X11_76 (ct_X11_in l g) (by decide) rfl rfl (Nat.le_of_ble_eq_true rfl) ?_
  intro v9 m9 h9
  rw [h9.1, h9.2]
  clear h9 m9 v9
  refine z_if_eq hG dX11_count_7 (tgt := 16) rfl (fun zcq7 => ?_) (fun zcq7 => ?_)
  · try simp only [zite_eq0, ne_eq, Classical.not_not] at zcq7
    refine z_iload_n (i := 1) hG dX11_count_16 rfl rfl ?_
    rcases (show (w < 0 ∨ 14 < w) ∨ w = 0 ∨ w = 1 ∨ w = 2 ∨ w = 3 ∨ w = 4 ∨ w = 5 ∨ w = 6 ∨ w = 7 ∨ w = 8 ∨ w = 9 ∨ w = 10 ∨ w = 11 ∨ w = 12 ∨ w = 13 ∨ w = 14 from by omega) with zcq17 | rfl | rfl | rfl | rfl | rfl | rfl | rfl | rfl | rfl | rfl | rfl | rfl | rfl | rfl | rfl
    · refine z_tabOut hG dX11_count_17 (by omega) (tgt := 148) rfl ?_
      refine z_bipush hG dX11_count_148 rfl ?_
      refine z_iret hG hE dX11_count_150 trivial ?_
      refine ⟨?_, hR, zKt_rf⟩
      rw [zk_count]
      (repeat rw [if_neg (by omega)])
    · refine z_tabIn hG dX11_count_17 (by decide) (by decide) (off := 75) rfl (tgt := 92) rfl ?_
      refine z_aload_n (i := 0) hG dX11_count_92 rfl rfl ?_
      refine z_get_11_0 hG dX11_count_93 FL_X11_7 ?_
      refine z_iload_n (i := 1) hG dX11_count_96 rfl rfl ?_
      refine z_iald hG dX11_count_97 rfl rfl (by omega) (by omega) ?_
      refine z_iret hG hE dX11_count_98 trivial ?_
      refine ⟨?_, hR, zKt_rf⟩
      first | rw [e0] | rw [e1] | rw [e2] | rw [e3]
      rw [zk_count]
      (repeat (first | rw [if_pos (by decide)] | rw [if_neg (by decide)]))
    · refine z_tabIn hG dX11_count_17 (by decide) (by decide) (off := 75) rfl (tgt := 92) rfl ?_
      refine z_aload_n (i := 0) hG dX11_count_92 rfl rfl ?_
      refine z_get_11_0 hG dX11_count_93 FL_X11_7 ?_
      refine z_iload_n (i := 1) hG dX11_count_96 rfl rfl ?_
      refine z_iald hG dX11_count_97 rfl rfl (by omega) (by omega) ?_
      refine z_iret hG hE dX11_count_98 trivial ?_
      refine ⟨?_, hR, zKt_rf⟩
      first | rw [e0] | rw [e1] | rw [e2] | rw [e3]
      rw [zk_count]
      (repeat (first | rw [if_pos (by decide)] | rw [if_neg (by decide)]))
    · refine z_tabIn hG dX11_count_17 (by decide) (by decide) (off := 75) rfl (tgt := 92) rfl ?_
      refine z_aload_n (i := 0) hG dX11_count_92 rfl rfl ?_
      refine z_get_11_0 hG dX11_count_93 FL_X11_7 ?_
      refine z_iload_n (i := 1) hG dX11_count_96 rfl rfl ?_
      refine z_iald hG dX11_count_97 rfl rfl (by omega) (by omega) ?_
      refine z_iret hG hE dX11_count_98 trivial ?_
      refine ⟨?_, hR, zKt_rf⟩
      first | rw [e0] | rw [e1] | rw [e2] | rw [e3]
      rw [zk_count]
      (repeat (first | rw [if_pos (by decide)] | rw [if_neg (by decide)]))
    · refine z_tabIn hG dX11_count_17 (by decide) (by decide) (off := 75) rfl (tgt := 92) rfl ?_
      refine z_aload_n (i := 0) hG dX11_count_92 rfl rfl ?_
      refine z_get_11_0 hG dX11_count_93 FL_X11_7 ?_
      refine z_iload_n (i := 1) hG dX11_count_96 rfl rfl ?_
      refine z_iald hG dX11_count_97 rfl rfl (by omega) (by omega) ?_
      refine z_iret hG hE dX11_count_98 trivial ?_
      refine ⟨?_, hR, zKt_rf⟩
      first | rw [e0] | rw [e1] | rw [e2] | rw [e3]
      rw [zk_count]
      (repeat (first | rw [if_pos (by decide)] | rw [if_neg (by decide)]))
    · refine z_tabIn hG dX11_count_17 (by decide) (by decide) (off := 131) rfl (tgt := 148) rfl ?_
      refine z_bipush hG dX11_count_148 rfl ?_
      refine z_iret hG hE dX11_count_150 trivial ?_
      refine ⟨?_, hR, zKt_rf⟩
      rw [zk_count]
      (repeat rw [if_neg (by omega)])
    · refine z_tabIn hG dX11_count_17 (by decide) (by decide) (off := 131) rfl (tgt := 148) rfl ?_
      refine z_bipush hG dX11_count_148 rfl ?_
      refine z_iret hG hE dX11_count_150 trivial ?_
      refine ⟨?_, hR, zKt_rf⟩
      rw [zk_count]
      (repeat rw [if_neg (by omega)])
    · refine z_tabIn hG dX11_count_17 (by decide) (by decide) (off := 131) rfl (tgt := 148) rfl ?_
      refine z_bipush hG dX11_count_148 rfl ?_
      refine z_iret hG hE dX11_count_150 trivial ?_
      refine ⟨?_, hR, zKt_rf⟩
      rw [zk_count]
      (repeat rw [if_neg (by omega)])
    · refine z_tabIn hG dX11_count_17 (by decide) (by decide) (off := 131) rfl (tgt := 148) rfl ?_
      refine z_bipush hG dX11_count_148 rfl ?_
      refine z_iret hG hE dX11_count_150 trivial ?_
      refine ⟨?_, hR, zKt_rf⟩
      rw [zk_count]
      (repeat rw [if_neg (by omega)])
    · refine z_tabIn hG dX11_count_17 (by decide) (by decide) (off := 82) rfl (tgt := 99) rfl ?_
      refine z_aload_n (i := 0) hG dX11_count_99 rfl rfl ?_
      refine z_aload_n (i := 0) hG dX11_count_100 rfl rfl ?_
      refine z_get_11_0 hG dX11_count_101 FL_X11_7 ?_
      refine z_iconst hG dX11_count_104 rfl ?_
      refine z_iald hG dX11_count_105 rfl rfl (by omega) (by omega) ?_
      rw [e3]
      refine z_callV hG dX11_count_106 LV_X11_255 (ct_X11_findTimes l g hI0 hR.1 (by omega)) (by decide) rfl rfl rfl (Nat.le_of_ble_eq_true rfl) ?_
      intro v9 m1 h9
      obtain ⟨h9a, hr6, hS, hF⟩ := h9
      rw [h9a]
      clear h9a v9
      refine z_iret hG hE dX11_count_109 trivial ?_
      refine ⟨?_, zFt_RM hF hR, zFt_Kt hF⟩
      rw [zk_count]
      (repeat (first | rw [if_pos (by decide)] | rw [if_neg (by decide)]))
    · refine z_tabIn hG dX11_count_17 (by decide) (by decide) (off := 93) rfl (tgt := 110) rfl ?_
      refine z_aload_n (i := 0) hG dX11_count_110 rfl rfl ?_
      refine z_callV hG dX11_count_111 LV_X11_261 (ct_X11_bound l g hI hB hR) (by decide) rfl rfl rfl (Nat.le_of_ble_eq_true rfl) ?_
      intro v9 m1 h9
      obtain ⟨h9a, hq1, hq2⟩ := h9
      rw [h9a]
      clear h9a v9
      refine z_iret hG hE dX11_count_114 trivial ?_
      refine ⟨?_, hq1, hq2⟩
      have hz9 : zk_count 9 a = (if zgre (zEc a) < (zsum 32 (zwf (zEc a)) + a 2 0 0 1 - 1) / a 2 0 0 1 then (zsum 32 (zwf (zEc a)) + a 2 0 0 1 - 1) / a 2 0 0 1 else zgre (zEc a)) := by
        rw [zk_count, if_neg (by decide), if_neg (by decide), if_neg (by decide), if_neg (by decide), if_neg (by decide), if_neg (by decide), if_pos rfl]
      rw [hz9]
    · refine z_tabIn hG dX11_count_17 (by decide) (by decide) (off := 98) rfl (tgt := 115) rfl ?_
      refine z_aload_n (i := 0) hG dX11_count_115 rfl rfl ?_
      refine z_callV hG dX11_count_116 LV_X11_200 (ct_X11_findTails l g hI0 hR.1) (by decide) rfl rfl rfl (Nat.le_of_ble_eq_true rfl) ?_
      intro v9 m1 h9
      obtain ⟨h9a, hTd, hF⟩ := h9
      rw [h9a]
      clear h9a v9
      have hW := hTd.2.2
      rw [zwk_m] at hW
      refine z_aload_n (i := 0) hG dX11_count_119 rfl rfl ?_
      refine z_getI hG dX11_count_120 FL_X11_178 rfl rfl (kk := 24) rfl ?_
      rw [hW]
      refine z_iret hG hE dX11_count_123 trivial ?_
      refine ⟨?_, zFt_RM hF hR, zFt_Kt hF⟩
      rw [zk_count]
      (repeat (first | rw [if_pos (by decide)] | rw [if_neg (by decide)]))
    · refine z_tabIn hG dX11_count_17 (by decide) (by decide) (off := 107) rfl (tgt := 124) rfl ?_
      refine z_aload_n (i := 0) hG dX11_count_124 rfl rfl ?_
      refine z_get_11_0 hG dX11_count_125 FL_X11_7 ?_
      refine z_iconst hG dX11_count_128 rfl ?_
      refine z_iald hG dX11_count_129 rfl rfl (by omega) (by omega) ?_
      refine z_iret hG hE dX11_count_130 trivial ?_
      refine ⟨?_, hR, zKt_rf⟩
      rw [e4]
      rw [zk_count]
      (repeat (first | rw [if_pos (by decide)] | rw [if_neg (by decide)]))
    · refine z_tabIn hG dX11_count_17 (by decide) (by decide) (off := 114) rfl (tgt := 131) rfl ?_
      refine z_aload_n (i := 0) hG dX11_count_131 rfl rfl ?_
      refine z_get_11_0 hG dX11_count_132 FL_X11_7 ?_
      refine z_iconst hG dX11_count_135 rfl ?_
      refine z_iald hG dX11_count_136 rfl rfl (by omega) (by omega) ?_
      refine z_iret hG hE dX11_count_137 trivial ?_
      refine ⟨?_, hR, zKt_rf⟩
      rw [e5]
      rw [zk_count]
      (repeat (first | rw [if_pos (by decide)] | rw [if_neg (by decide)]))
    · refine z_tabIn hG dX11_count_17 (by decide) (by decide) (off := 121) rfl (tgt := 138) rfl ?_
      refine z_aload_n (i := 0) hG dX11_count_138 rfl rfl ?_
      refine z_getI hG dX11_count_139 FL_X11_215 rfl rfl (kk := 6) rfl ?_
      refine z_iret hG hE dX11_count_142 trivial ?_
      refine ⟨?_, hR, zKt_rf⟩
      rw [e6]
      rw [zk_count]
      (repeat (first | rw [if_pos (by decide)] | rw [if_neg (by decide)]))
    · refine z_tabIn hG dX11_count_17 (by decide) (by decide) (off := 126) rfl (tgt := 143) rfl ?_
      refine z_aload_n (i := 0) hG dX11_count_143 rfl rfl ?_
      refine z_getI hG dX11_count_144 FL_X11_72 rfl rfl (kk := 2) rfl ?_
      refine z_iret hG hE dX11_count_147 trivial ?_
      refine ⟨?_, hR, zKt_rf⟩
      rw [eN]
      rw [zk_count]
      (repeat (first | rw [if_pos (by decide)] | rw [if_neg (by decide)]))
  · try simp only [zite_eq0, ne_eq, Classical.not_not] at zcq7
    refine z_aload_n (i := 0) hG dX11_count_10 rfl rfl ?_
    refine z_iload_n (i := 1) hG dX11_count_11 rfl rfl ?_
    refine z_callV hG dX11_count_12 LV_X11_258 (ct_X11_ofPlan l g hI hB hR (by omega)) (by decide) rfl rfl rfl (Nat.le_of_ble_eq_true rfl) ?_
    intro v9 m1 h9
    obtain ⟨h9a, hq1, hq2⟩ := h9
    rw [h9a]
    clear h9a v9
    refine z_iret hG hE dX11_count_15 trivial ?_
    refine ⟨?_, hq1, hq2⟩
    rw [zk_count, if_neg (by omega), if_neg (by omega), if_neg (by omega), if_neg (by omega), if_pos (by omega)]
