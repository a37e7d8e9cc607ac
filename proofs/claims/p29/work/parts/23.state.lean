theorem zmulb {x y A B : Int} (h0 : 0 ≤ x) (h1 : x ≤ A) (h2 : 0 ≤ y) (h3 : y ≤ B) : 0 ≤ x * y ∧ x * y ≤ A * B :=
  ⟨Int.mul_nonneg h0 h2, Int.mul_le_mul h1 h3 h2 (Int.le_trans h0 h1)⟩
theorem z_iremV {X : zX} {l : Launch} {g : zG} {own : String} {cc : ByteArray} {h nL pc : Nat} {ls : zL} {st : List zV} {mem : zM} (hG : zGood X l g own cc h nL) {x y r : Int} (hd : decode cc pc = .ok (.irem, 1)) (hy : ¬ Int32.ofInt y = 0) (hv : Int32.ofInt x - Int32.ofInt x / Int32.ofInt y * Int32.ofInt y = Int32.ofInt r) (hr : zb32 r = true) (k : zZ X (pc + 1) ls (zi r :: st) mem) : zZ X pc ls (zi y :: zi x :: st) mem := by
  obtain ⟨p, l, e, R, s, m, args, below, meth, c, Q, g, kc, ks⟩ := X
  obtain ⟨hx, hb, hml, hown, hts, hK, hN, hg, hR1, hR2, hlk, hl2, hg2⟩ := hG
  subst hl2 hg2
  intro hM hL hS H locs lsA hP hS0 hl
  refine lv_irem hx hb hd hy ?_
  rw [hv]
  exact k hM hL (zokS_cons.mpr ⟨zb32_in hr, (zokS_cons.mp (zokS_cons.mp hS).2).2⟩) H locs lsA hP hS0 hl
/-- an amount or a duration for the portions of the menu -/
def zscal (m : zM) (s r x : Int) : Int := if m 4 s r 0 ≤ 0 then 0 else (x * m 4 s r 1 + m 4 s r 0 - 1) / m 4 s r 0
def zlast (m : zM) (s r k : Int) : Int := if 0 ≤ k ∧ k < m 4 s r 2 ∧ k < 8 then (if m 5 s (8 * r + k) 3 = 0 then m 5 s (8 * r + k) 0 else zscal m s r (m 5 s (8 * r + k) 0)) else 0
/-- one recipe is copied, its first n steps -/
def zcR (mem : zM) (s i s2 i2 n : Int) : zM := fun t s' i' k => if s' = s ∧ i' = i ∧ ((t = 4 ∧ 0 ≤ k ∧ k < 3) ∨ (t = 17 ∧ 0 ≤ k ∧ k < 8)) then mem t s2 i2 k else if s' = s ∧ t = 5 ∧ 8 * i ≤ i' ∧ i' < 8 * i + n ∧ 0 ≤ k ∧ k < 4 then mem 5 s2 (i' - 8 * i + 8 * i2) k else mem t s' i' k
theorem zcR_s {mem : zM} {s i s2 i2 j : Int} (hs : s2 ≠ s) (hj : 0 ≤ j) : zstp (zcR mem s i s2 i2 j) s (8 * i + j) s2 (8 * i2 + j) = zcR mem s i s2 i2 (j + 1) := by
  funext t' s' i' k'
  simp only [zstp, zcR]
  grind (splits := 30)
/-- which slots a state has: those of its first a ingredients and of its first b recipes -/
def zSt (t : Nat) (i k a b : Int) : Bool := decide ((t = 2 ∧ i = 0 ∧ 0 ≤ k ∧ k < 6) ∨ (0 ≤ i ∧ i < a ∧ ((t = 3 ∧ (k = 0 ∨ k = 1 ∨ k = 2 ∨ k = 5 ∨ k = 6 ∨ (8 ≤ k ∧ k ≤ 11))) ∨ ((t = 12 ∨ t = 13) ∧ 0 ≤ k ∧ k < 3) ∨ (t = 14 ∧ 0 ≤ k ∧ k < 30))) ∨ (0 ≤ i ∧ i < b ∧ ((t = 4 ∧ 0 ≤ k ∧ k < 3) ∨ (t = 17 ∧ 0 ≤ k ∧ k < 8))) ∨ (0 ≤ i ∧ i < 8 * b ∧ t = 5 ∧ 0 ≤ k ∧ k < 4))
/-- a state is copied -/
def zcS (mem : zM) (s s2 a b : Int) : zM := fun t s' i k => if s' = s ∧ zSt t i k a b = true then mem t s2 i k else mem t s' i k
theorem zcS_I {mem : zM} {s s2 j : Int} (hs : s2 ≠ s) (hj : 0 ≤ j) : zcI (zcS mem s s2 j 0) s j s2 = zcS mem s s2 (j + 1) 0 := by
  funext t' s' i' k'
  simp only [zcI, zcS, zIsb, zSt, decide_eq_true_eq]
  grind (splits := 40)
theorem zcS_R {mem : zM} {s s2 j : Int} (hs : s2 ≠ s) (hj : 0 ≤ j) : zcR (zcS mem s s2 8 j) s j s2 j 8 = zcS mem s s2 8 (j + 1) := by
  funext t' s' i' k'
  simp only [zcR, zcS, zSt, decide_eq_true_eq]
  grind (splits := 40)
def zbool (mem : zM) (s : Int) : Prop := (∀ i : Int, 0 ≤ i → i < 8 → mem 3 s i 1 = 0 ∨ mem 3 s i 1 = 1) ∧ (∀ i : Int, 0 ≤ i → i < 32 → mem 5 s i 3 = 0 ∨ mem 5 s i 3 = 1)
def zthrow (s d : Int) : Nat → Int → Int → zM → Int × zM
  | 0, _, acc, m => (acc, m)
  | n + 1, i, acc, m => zthrow s d n (i + 1) (zwr (acc + m 14 s i (d % 30))) (zset (zset m 14 s i (d % 30) 0) 3 s i 10 (zwr (m 3 s i 10 + m 14 s i (d % 30))))
def zpass (s : Int) : Nat → Int → zM → Int × zM
  | 0, acc, m => (acc, m)
  | n + 1, acc, m => zpass s n (zthrow s (m 2 s 0 0 + 1) 8 0 acc (zset m 2 s 0 0 (m 2 s 0 0 + 1))).1 (zthrow s (m 2 s 0 0 + 1) 8 0 acc (zset m 2 s 0 0 (m 2 s 0 0 + 1))).2
theorem zthrow_day {s d : Int} : ∀ (n : Nat) (i acc : Int) (m : zM) (s' i' k' : Int), (zthrow s d n i acc m).2 2 s' i' k' = m 2 s' i' k'
  | 0, i, acc, m, s', i', k' => rfl
  | n + 1, i, acc, m, s', i', k' => by
    rw [zthrow, zthrow_day n]
    simp [zset]
set_option maxRecDepth 20000 in
theorem ct_X4_clear (l : Launch) (g : zG) {mem : zM} {s i : Int} : zMet l g Y_X4_clear [zr 4 s i] mem (fun v m' => v = none ∧ m' = zfill (zset (zset (zset mem 4 s i 0 0) 4 s i 1 0) 4 s i 2 0) 17 s i 8 0) := by
  refine zMet_introF (by decide +kernel) (Nat.le_of_ble_eq_true rfl) (ls0 := [some (zr 4 s i), none]) rfl fun X hG hE => ?_
  have hG : zGood X l g RX4 cX4_clear 0 2 := hG
  have hE : zEnd X (none) _ := hE
  have loop : ∀ (n : Nat) (j : Int) (m0 : zM), 0 ≤ j → j + n = 8 → zfill (zset (zset (zset mem 4 s i 0 0) 4 s i 1 0) 4 s i 2 0) 17 s i 8 0 = zfill m0 17 s i 8 0 → zZ X 17 [some (zr 4 s i), some (zi j)] [] (zfill m0 17 s i j 0) := by
    intro n
    induction n with
    | zero =>
      intro j m0 hj0 hj he
      refine z_iload_n (i := 1) hG dX4_clear_17 rfl rfl ?_
      refine z_bipush hG dX4_clear_18 rfl ?_
      refine z_icmp_ge hG dX4_clear_20 (tgt := 36) rfl (fun c20 => ?_) (fun c20 => ?_)
      · refine z_vret hG hE dX4_clear_36 ?_
        exact ⟨rfl, by rw [he, show j = 8 by omega]⟩
      · exact absurd c20 (by omega)
    | succ n ih =>
      intro j m0 hj0 hj he
      refine z_iload_n (i := 1) hG dX4_clear_17 rfl rfl ?_
      refine z_bipush hG dX4_clear_18 rfl ?_
      refine z_icmp_ge hG dX4_clear_20 (tgt := 36) rfl (fun c20 => ?_) (fun c20 => ?_)
      · exact absurd c20 (by omega)
      · refine z_aload_n (i := 0) hG dX4_clear_23 rfl rfl ?_
        refine z_get_4_3 hG dX4_clear_24 FL_X4_9 ?_
        refine z_iload_n (i := 1) hG dX4_clear_27 rfl rfl ?_
        refine z_iconst hG dX4_clear_28 rfl ?_
        refine z_iast hG dX4_clear_29 rfl rfl (by omega) (by omega) ?_
        refine z_iinc hG dX4_clear_30 (by decide) rfl (by omega) (by omega) (ls2 := [_, _]) rfl ?_
        refine z_goto hG dX4_clear_33 (tgt := 17) rfl ?_
        exact z_mem (zfill_s hj0 rfl) (ih (j + 1) m0 (by omega) (by omega) he)
  refine z_aload_n (i := 0) hG dX4_clear_0 rfl rfl ?_
  refine z_iconst hG dX4_clear_1 rfl ?_
  refine z_put hG dX4_clear_2 FP_X4_22 rfl rfl (kk := 0) rfl ?_
  refine z_aload_n (i := 0) hG dX4_clear_5 rfl rfl ?_
  refine z_iconst hG dX4_clear_6 rfl ?_
  refine z_put hG dX4_clear_7 FP_X4_26 rfl rfl (kk := 1) rfl ?_
  refine z_aload_n (i := 0) hG dX4_clear_10 rfl rfl ?_
  refine z_iconst hG dX4_clear_11 rfl ?_
  refine z_put hG dX4_clear_12 FP_X4_29 rfl rfl (kk := 2) rfl ?_
  refine z_iconst hG dX4_clear_15 rfl ?_
  refine z_istore_n (i := 1) hG dX4_clear_16 rfl (by decide) (ls2 := [_, _]) rfl ?_
  exact z_mem zfill_0.symm (loop 8 0 _ (by decide) rfl rfl)
set_option maxRecDepth 20000 in
theorem ct_X4_copyFrom (l : Launch) (g : zG) {mem : zM} {s i s2 i2 : Int} (hs : s2 ≠ s) (hb : ∀ j : Int, 0 ≤ j → j < 8 → mem 5 s2 (8 * i2 + j) 3 = 0 ∨ mem 5 s2 (8 * i2 + j) 3 = 1) : zMet l g Y_X4_copyFrom [zr 4 s i, zr 4 s2 i2] mem (fun v m' => v = none ∧ m' = zcR mem s i s2 i2 8) := by
  refine zMet_introF (by decide +kernel) (Nat.le_of_ble_eq_true rfl) (ls0 := [some (zr 4 s i), some (zr 4 s2 i2), none]) rfl fun X hG hE => ?_
  have hG : zGood X l g RX4 cX4_copyFrom 1 3 := hG
  have hE : zEnd X (none) _ := hE
  have loop : ∀ (n : Nat) (j : Int), 0 ≤ j → j + n = 8 → zZ X 41 [some (zr 4 s i), some (zr 4 s2 i2), some (zi j)] [] (zcR mem s i s2 i2 j) := by
    intro n
    induction n with
    | zero =>
      intro j hj0 hj
      refine z_iload_n (i := 2) hG dX4_copyFrom_41 rfl rfl ?_
      refine z_bipush hG dX4_copyFrom_42 rfl ?_
      refine z_icmp_ge hG dX4_copyFrom_44 (tgt := 68) rfl (fun c44 => ?_) (fun c44 => ?_)
      · refine z_vret hG hE dX4_copyFrom_68 ?_
        exact ⟨rfl, by rw [show j = 8 by omega]⟩
      · exact absurd c44 (by omega)
    | succ n ih =>
      intro j hj0 hj
      have hbj : zcR mem s i s2 i2 j 5 s2 (8 * i2 + j) 3 = 0 ∨ zcR mem s i s2 i2 j 5 s2 (8 * i2 + j) 3 = 1 := by
        have := hb j hj0 (by omega)
        simp only [zcR, hs, false_and, if_false]
        exact this
      refine z_iload_n (i := 2) hG dX4_copyFrom_41 rfl rfl ?_
      refine z_bipush hG dX4_copyFrom_42 rfl ?_
      refine z_icmp_ge hG dX4_copyFrom_44 (tgt := 68) rfl (fun c44 => ?_) (fun c44 => ?_)
      · exact absurd c44 (by omega)
      · refine z_aload_n (i := 0) hG dX4_copyFrom_47 rfl rfl ?_
        refine z_get_4_4 hG dX4_copyFrom_48 FL_X4_17 ?_
        refine z_iload_n (i := 2) hG dX4_copyFrom_51 rfl rfl ?_
        refine z_aa_18 hG dX4_copyFrom_52 (by omega) (by omega) ?_
        refine z_aload_n (i := 1) hG dX4_copyFrom_53 rfl rfl ?_
        refine z_get_4_4 hG dX4_copyFrom_54 FL_X4_17 ?_
        refine z_iload_n (i := 2) hG dX4_copyFrom_57 rfl rfl ?_
        refine z_aa_18 hG dX4_copyFrom_58 (by omega) (by omega) ?_
        refine z_callV hG dX4_copyFrom_59 LV_X4_38 (ct_X8_copyFrom l g hbj) (by decide) rfl rfl rfl (Nat.le_of_ble_eq_true rfl) ?_
        intro v9 m9 h9
        rw [h9.1, h9.2]
        clear h9 m9 v9
        refine z_iinc hG dX4_copyFrom_62 (by decide) rfl (by omega) (by omega) (ls2 := [_, _, _]) rfl ?_
        refine z_goto hG dX4_copyFrom_65 (tgt := 41) rfl ?_
        exact z_mem (zcR_s hs hj0) (ih (j + 1) (by omega) (by omega))
  refine z_aload_n (i := 0) hG dX4_copyFrom_0 rfl rfl ?_
  refine z_aload_n (i := 1) hG dX4_copyFrom_1 rfl rfl ?_
  refine z_getI hG dX4_copyFrom_2 FL_X4_22 rfl rfl (kk := 0) rfl ?_
  refine z_put hG dX4_copyFrom_5 FP_X4_22 rfl rfl (kk := 0) rfl ?_
  refine z_aload_n (i := 0) hG dX4_copyFrom_8 rfl rfl ?_
  refine z_aload_n (i := 1) hG dX4_copyFrom_9 rfl rfl ?_
  refine z_getI hG dX4_copyFrom_10 FL_X4_26 rfl rfl (kk := 1) rfl ?_
  refine z_put hG dX4_copyFrom_13 FP_X4_26 rfl rfl (kk := 1) rfl ?_
  refine z_aload_n (i := 0) hG dX4_copyFrom_16 rfl rfl ?_
  refine z_aload_n (i := 1) hG dX4_copyFrom_17 rfl rfl ?_
  refine z_getI hG dX4_copyFrom_18 FL_X4_29 rfl rfl (kk := 2) rfl ?_
  refine z_put hG dX4_copyFrom_21 FP_X4_29 rfl rfl (kk := 2) rfl ?_
  refine z_aload_n (i := 1) hG dX4_copyFrom_24 rfl rfl ?_
  refine z_get_4_3 hG dX4_copyFrom_25 FL_X4_9 ?_
  refine z_iconst hG dX4_copyFrom_28 rfl ?_
  refine z_aload_n (i := 0) hG dX4_copyFrom_29 rfl rfl ?_
  refine z_get_4_3 hG dX4_copyFrom_30 FL_X4_9 ?_
  refine z_iconst hG dX4_copyFrom_33 rfl ?_
  refine z_bipush hG dX4_copyFrom_34 rfl ?_
  refine z_copy hG dX4_copyFrom_36 LC_X4_32 (by decide) (Nat.le_of_ble_eq_true rfl) rfl rfl rfl rfl (by omega) (by omega) (by omega) (by omega) (by omega) ?_
  refine z_iconst hG dX4_copyFrom_39 rfl ?_
  refine z_istore_n (i := 2) hG dX4_copyFrom_40 rfl (by decide) (ls2 := [_, _, _]) rfl ?_
  refine z_mem ?_ (loop 8 0 (by decide) rfl)
  funext t' s' i' k'
  simp only [zset, zcpy, zcR]
  grind (splits := 40)
set_option maxRecDepth 20000 in
theorem ct_X4_namesFrom (l : Launch) (g : zG) {mem : zM} {s i f : Int} (hf : 0 ≤ f) : zMet l g Y_X4_namesFrom [zr 4 s i, zi f] mem (fun v m' => ∃ r : Int, v = some (zi r) ∧ m' = mem ∧ (r = 0 ∨ r = 1) ∧ (r = 1 ↔ ∃ k : Int, f ≤ k ∧ k < 8 ∧ 0 < mem 17 s i k)) := by
  refine zMet_introF (by decide +kernel) (Nat.le_of_ble_eq_true rfl) (ls0 := [some (zr 4 s i), some (zi f), none]) rfl fun X hG hE => ?_
  have hG : zGood X l g RX4 cX4_namesFrom 1 3 := hG
  have hE : zEnd X (some .boolean) _ := hE
  have loop : ∀ (n : Nat) (j : Int), f ≤ j → (n : Int) = 8 - j ∨ (n = 0 ∧ 8 ≤ j) → (∀ k : Int, f ≤ k → k < j → ¬ 0 < mem 17 s i k) → zZ X 6 [some (zr 4 s i), some (zi f), some (zi j)] [] mem := by
    intro n
    induction n with
    | zero =>
      intro j hj0 hj hno
      refine z_iload_n (i := 2) hG dX4_namesFrom_6 rfl rfl ?_
      refine z_bipush hG dX4_namesFrom_7 rfl ?_
      refine z_icmp_ge hG dX4_namesFrom_9 (tgt := 29) rfl (fun c9 => ?_) (fun c9 => ?_)
      · refine z_iconst hG dX4_namesFrom_29 rfl ?_
        refine z_iret hG hE dX4_namesFrom_30 (by first | exact Or.inl rfl | exact Or.inr rfl | (show _ ∨ _; omega)) ?_
        refine ⟨0, rfl, rfl, Or.inl rfl, ⟨fun z => by omega, ?_⟩⟩
        rintro ⟨k, h0, h1, h2⟩
        exact absurd h2 (hno k h0 (by omega))
      · exact absurd c9 (by omega)
    | succ n ih =>
      intro j hj0 hj hno
      refine z_iload_n (i := 2) hG dX4_namesFrom_6 rfl rfl ?_
      refine z_bipush hG dX4_namesFrom_7 rfl ?_
      refine z_icmp_ge hG dX4_namesFrom_9 (tgt := 29) rfl (fun c9 => ?_) (fun c9 => ?_)
      · exact absurd c9 (by omega)
      · refine z_aload_n (i := 0) hG dX4_namesFrom_12 rfl rfl ?_
        refine z_get_4_3 hG dX4_namesFrom_13 FL_X4_9 ?_
        refine z_iload_n (i := 2) hG dX4_namesFrom_16 rfl rfl ?_
        refine z_iald hG dX4_namesFrom_17 rfl rfl (by omega) (by omega) ?_
        refine z_if_le hG dX4_namesFrom_18 (tgt := 23) rfl (fun c18 => ?_) (fun c18 => ?_)
        · refine z_iinc hG dX4_namesFrom_23 (by decide) rfl (by omega) (by omega) (ls2 := [_, _, _]) rfl ?_
          refine z_goto hG dX4_namesFrom_26 (tgt := 6) rfl ?_
          refine ih (j + 1) (by omega) (by omega) (fun k h0 h1 => ?_)
          rcases (show k = j ∨ k < j by omega) with rfl | h
          · omega
          · exact hno k h0 h
        · refine z_iconst hG dX4_namesFrom_21 rfl ?_
          refine z_iret hG hE dX4_namesFrom_22 (by first | exact Or.inl rfl | exact Or.inr rfl | (show _ ∨ _; omega)) ?_
          exact ⟨1, rfl, rfl, Or.inr rfl, ⟨fun _ => ⟨j, hj0, by omega, c18⟩, fun _ => rfl⟩⟩
  refine z_iconst hG dX4_namesFrom_0 rfl ?_
  refine z_iload_n (i := 1) hG dX4_namesFrom_1 rfl rfl ?_
  refine z_max hG dX4_namesFrom_2 LM_X4_42 (by decide) (Nat.le_of_ble_eq_true rfl) ?_
  refine z_istore_n (i := 2) hG dX4_namesFrom_5 rfl (by decide) (ls2 := [_, _, _]) rfl ?_
  refine z_forget [true, true, true] (ls2 := [some (zr 4 s i), some (zi f), some (zi f)]) ?_ (loop (8 - f).toNat f (by omega) (by omega) (fun k h0 h1 => by omega))
  rw [show (if (0 : Int) < f then f else 0) = f by split <;> omega]
  rfl
set_option maxRecDepth 20000 in
theorem ct_X4_scaled (l : Launch) (g : zG) {mem : zM} {s i x : Int} (hx : 0 ≤ x ∧ x ≤ 500) (hp : 0 ≤ mem 4 s i 1 ∧ mem 4 s i 1 ≤ 20) (hb : mem 4 s i 0 ≤ 20) : zMet l g Y_X4_scaled [zr 4 s i, zi x] mem (fun v m' => v = some (zi (zscal mem s i x)) ∧ m' = mem) := by
  refine zMet_introF (by decide +kernel) (Nat.le_of_ble_eq_true rfl) (ls0 := [some (zr 4 s i), some (zi x)]) rfl fun X hG hE => ?_
  have hG : zGood X l g RX4 cX4_scaled 1 2 := hG
  have hE : zEnd X (some .int) _ := hE
  have hm := zmulb hx.1 hx.2 hp.1 hp.2
  by_cases hq : mem 4 s i 0 ≤ 0
  · refine z_iload_n (i := 1) hG dX4_scaled_0 rfl rfl ?_
    refine z_aload_n (i := 0) hG dX4_scaled_1 rfl rfl ?_
    refine z_getI hG dX4_scaled_2 FL_X4_26 rfl rfl (kk := 1) rfl ?_
    refine z_imul hG dX4_scaled_5 (by omega) (by omega) ?_
    refine z_aload_n (i := 0) hG dX4_scaled_6 rfl rfl ?_
    refine z_getI hG dX4_scaled_7 FL_X4_22 rfl rfl (kk := 0) rfl ?_
    refine z_callN hG dX4_scaled_10 LN_X4_48 (ct_X10_roundedUp_0 l g hq) (by decide) rfl rfl (Nat.le_of_ble_eq_true rfl) ?_
    intro v9 m9 h9
    rw [h9.1, h9.2]
    clear h9 m9 v9
    refine z_iret hG hE dX4_scaled_13 trivial ?_
    exact ⟨by rw [zscal, if_pos hq], rfl⟩
  · refine z_iload_n (i := 1) hG dX4_scaled_0 rfl rfl ?_
    refine z_aload_n (i := 0) hG dX4_scaled_1 rfl rfl ?_
    refine z_getI hG dX4_scaled_2 FL_X4_26 rfl rfl (kk := 1) rfl ?_
    refine z_imul hG dX4_scaled_5 (by omega) (by omega) ?_
    refine z_aload_n (i := 0) hG dX4_scaled_6 rfl rfl ?_
    refine z_getI hG dX4_scaled_7 FL_X4_22 rfl rfl (kk := 0) rfl ?_
    refine z_callN hG dX4_scaled_10 LN_X4_48 (ct_X10_roundedUp l g (by omega) (by omega) (by omega)) (by decide) rfl rfl (Nat.le_of_ble_eq_true rfl) ?_
    intro v9 m9 h9
    rw [h9.1, h9.2]
    clear h9 m9 v9
    refine z_iret hG hE dX4_scaled_13 trivial ?_
    exact ⟨by rw [zscal, if_neg hq], rfl⟩
set_option maxRecDepth 20000 in
theorem ct_X4_lasts (l : Launch) (g : zG) {mem : zM} {s i k : Int} (hx : ∀ j : Int, 0 ≤ j → j < 8 → j < mem 4 s i 2 → 0 ≤ mem 5 s (8 * i + j) 0 ∧ mem 5 s (8 * i + j) 0 ≤ 500) (hp : 0 ≤ mem 4 s i 1 ∧ mem 4 s i 1 ≤ 20) (hb : mem 4 s i 0 ≤ 20) : zMet l g Y_X4_lasts [zr 4 s i, zi k] mem (fun v m' => v = some (zi (zlast mem s i k)) ∧ m' = mem) := by
  refine zMet_introF (by decide +kernel) (Nat.le_of_ble_eq_true rfl) (ls0 := [some (zr 4 s i), some (zi k)]) rfl fun X hG hE => ?_
  have hG : zGood X l g RX4 cX4_lasts 2 2 := hG
  have hE : zEnd X (some .int) _ := hE
  refine z_aload_n (i := 0) hG dX4_lasts_0 rfl rfl ?_
  refine z_iload_n (i := 1) hG dX4_lasts_1 rfl rfl ?_
  refine z_callV hG dX4_lasts_2 LV_X4_51 (ct_X4_hasStep l g) (by decide) rfl rfl rfl (Nat.le_of_ble_eq_true rfl) ?_
  intro v9 m9 h9
  rw [h9.1, h9.2]
  clear h9 m9 v9
  refine z_if_ne hG dX4_lasts_5 (tgt := 10) rfl (fun c5 => ?_) (fun c5 => ?_)
  · try simp only [zite_eq0, ne_eq, Classical.not_not] at c5
    refine z_aload_n (i := 0) hG dX4_lasts_10 rfl rfl ?_
    refine z_get_4_4 hG dX4_lasts_11 FL_X4_17 ?_
    refine z_iload_n (i := 1) hG dX4_lasts_14 rfl rfl ?_
    refine z_aa_18 hG dX4_lasts_15 (by omega) (by omega) ?_
    refine z_getI hG dX4_lasts_16 FL_X4_55 rfl rfl (kk := 3) rfl ?_
    refine z_if_eq hG dX4_lasts_19 (tgt := 38) rfl (fun c19 => ?_) (fun c19 => ?_)
    · try simp only [zite_eq0, ne_eq, Classical.not_not] at c19
      refine z_aload_n (i := 0) hG dX4_lasts_38 rfl rfl ?_
      refine z_get_4_4 hG dX4_lasts_39 FL_X4_17 ?_
      refine z_iload_n (i := 1) hG dX4_lasts_42 rfl rfl ?_
      refine z_aa_18 hG dX4_lasts_43 (by omega) (by omega) ?_
      refine z_getI hG dX4_lasts_44 FL_X4_59 rfl rfl (kk := 0) rfl ?_
      refine z_iret hG hE dX4_lasts_47 trivial ?_
      first | exact ⟨by rw [zlast, if_pos (by omega), if_neg (by omega)], rfl⟩ | exact ⟨by rw [zlast, if_pos (by omega), if_pos (by omega)], rfl⟩
    · try simp only [zite_eq0, ne_eq, Classical.not_not] at c19
      refine z_aload_n (i := 0) hG dX4_lasts_22 rfl rfl ?_
      refine z_aload_n (i := 0) hG dX4_lasts_23 rfl rfl ?_
      refine z_get_4_4 hG dX4_lasts_24 FL_X4_17 ?_
      refine z_iload_n (i := 1) hG dX4_lasts_27 rfl rfl ?_
      refine z_aa_18 hG dX4_lasts_28 (by omega) (by omega) ?_
      refine z_getI hG dX4_lasts_29 FL_X4_59 rfl rfl (kk := 0) rfl ?_
      refine z_callV hG dX4_lasts_32 LV_X4_62 (ct_X4_scaled l g (hx k (by omega) (by omega) (by omega)) hp hb) (by decide) rfl rfl rfl (Nat.le_of_ble_eq_true rfl) ?_
      intro v9 m9 h9
      rw [h9.1, h9.2]
      clear h9 m9 v9
      refine z_goto hG dX4_lasts_35 (tgt := 47) rfl ?_
      refine z_iret hG hE dX4_lasts_47 trivial ?_
      first | exact ⟨by rw [zlast, if_pos (by omega), if_neg (by omega)], rfl⟩ | exact ⟨by rw [zlast, if_pos (by omega), if_pos (by omega)], rfl⟩
  · try simp only [zite_eq0, ne_eq, Classical.not_not] at c5
    refine z_iconst hG dX4_lasts_8 rfl ?_
    refine z_iret hG hE dX4_lasts_9 trivial ?_
    exact ⟨by rw [zlast, if_neg c5], rfl⟩
set_option maxRecDepth 20000 in
theorem ct_X7_copyFrom (l : Launch) (g : zG) {mem : zM} {s s2 : Int} (hs : s2 ≠ s) (hb : zbool mem s2) : zMet l g Y_X7_copyFrom [zr 2 s 0, zr 2 s2 0] mem (fun v m' => v = none ∧ m' = zcS mem s s2 8 4) := by
  refine zMet_introF (by decide +kernel) (Nat.le_of_ble_eq_true rfl) (ls0 := [some (zr 2 s 0), some (zr 2 s2 0), none]) rfl fun X hG hE => ?_
  have hG : zGood X l g RX7 cX7_copyFrom 2 3 := hG
  have hE : zEnd X (none) _ := hE
  have loop2 : ∀ (n : Nat) (j : Int), 0 ≤ j → j + n = 4 → zZ X 79 [some (zr 2 s 0), some (zr 2 s2 0), some (zi j)] [] (zcS mem s s2 8 j) := by
    intro n
    induction n with
    | zero =>
      intro j hj0 hj
      refine z_iload_n (i := 2) hG dX7_copyFrom_79 rfl rfl ?_
      refine z_iconst hG dX7_copyFrom_80 rfl ?_
      refine z_icmp_ge hG dX7_copyFrom_81 (tgt := 105) rfl (fun c81 => ?_) (fun c81 => ?_)
      · refine z_vret hG hE dX7_copyFrom_105 ?_
        exact ⟨rfl, by rw [show j = 4 by omega]⟩
      · exact absurd c81 (by omega)
    | succ n ih =>
      intro j hj0 hj
      have hbj : ∀ q : Int, 0 ≤ q → q < 8 → zcS mem s s2 8 j 5 s2 (8 * j + q) 3 = 0 ∨ zcS mem s s2 8 j 5 s2 (8 * j + q) 3 = 1 := by
        intro q h0 h1
        have := hb.2 (8 * j + q) (by omega) (by omega)
        simp only [zcS, hs, false_and, if_false]
        exact this
      refine z_iload_n (i := 2) hG dX7_copyFrom_79 rfl rfl ?_
      refine z_iconst hG dX7_copyFrom_80 rfl ?_
      refine z_icmp_ge hG dX7_copyFrom_81 (tgt := 105) rfl (fun c81 => ?_) (fun c81 => ?_)
      · exact absurd c81 (by omega)
      · refine z_aload_n (i := 0) hG dX7_copyFrom_84 rfl rfl ?_
        refine z_get_7_7 hG dX7_copyFrom_85 FL_X7_23 ?_
        refine z_iload_n (i := 2) hG dX7_copyFrom_88 rfl rfl ?_
        refine z_aa_16 hG dX7_copyFrom_89 (by omega) (by omega) ?_
        refine z_aload_n (i := 1) hG dX7_copyFrom_90 rfl rfl ?_
        refine z_get_7_7 hG dX7_copyFrom_91 FL_X7_23 ?_
        refine z_iload_n (i := 2) hG dX7_copyFrom_94 rfl rfl ?_
        refine z_aa_16 hG dX7_copyFrom_95 (by omega) (by omega) ?_
        refine z_callV hG dX7_copyFrom_96 LV_X7_48 (ct_X4_copyFrom l g hs hbj) (by decide) rfl rfl rfl (Nat.le_of_ble_eq_true rfl) ?_
        intro v9 m9 h9
        rw [h9.1, h9.2]
        clear h9 m9 v9
        refine z_iinc hG dX7_copyFrom_99 (by decide) rfl (by omega) (by omega) (ls2 := [_, _, _]) rfl ?_
        refine z_goto hG dX7_copyFrom_102 (tgt := 79) rfl ?_
        exact z_mem (zcS_R hs hj0) (ih (j + 1) (by omega) (by omega))
  have loop : ∀ (n : Nat) (j : Int), 0 ≤ j → j + n = 8 → zZ X 50 [some (zr 2 s 0), some (zr 2 s2 0), some (zi j)] [] (zcS mem s s2 j 0) := by
    intro n
    induction n with
    | zero =>
      intro j hj0 hj
      refine z_iload_n (i := 2) hG dX7_copyFrom_50 rfl rfl ?_
      refine z_bipush hG dX7_copyFrom_51 rfl ?_
      refine z_icmp_ge hG dX7_copyFrom_53 (tgt := 77) rfl (fun c53 => ?_) (fun c53 => ?_)
      · refine z_iconst hG dX7_copyFrom_77 rfl ?_
        refine z_istore_n (i := 2) hG dX7_copyFrom_78 rfl (by decide) (ls2 := [_, _, _]) rfl ?_
        rw [show j = 8 by omega]
        exact loop2 4 0 (by decide) rfl
      · exact absurd c53 (by omega)
    | succ n ih =>
      intro j hj0 hj
      have hbj : zcS mem s s2 j 0 3 s2 j 1 = 0 ∨ zcS mem s s2 j 0 3 s2 j 1 = 1 := by
        have := hb.1 j (by omega) (by omega)
        simp only [zcS, hs, false_and, if_false]
        exact this
      refine z_iload_n (i := 2) hG dX7_copyFrom_50 rfl rfl ?_
      refine z_bipush hG dX7_copyFrom_51 rfl ?_
      refine z_icmp_ge hG dX7_copyFrom_53 (tgt := 77) rfl (fun c53 => ?_) (fun c53 => ?_)
      · exact absurd c53 (by omega)
      · refine z_aload_n (i := 0) hG dX7_copyFrom_56 rfl rfl ?_
        refine z_get_7_6 hG dX7_copyFrom_57 FL_X7_17 ?_
        refine z_iload_n (i := 2) hG dX7_copyFrom_60 rfl rfl ?_
        refine z_aa_15 hG dX7_copyFrom_61 (by omega) (by omega) ?_
        refine z_aload_n (i := 1) hG dX7_copyFrom_62 rfl rfl ?_
        refine z_get_7_6 hG dX7_copyFrom_63 FL_X7_17 ?_
        refine z_iload_n (i := 2) hG dX7_copyFrom_66 rfl rfl ?_
        refine z_aa_15 hG dX7_copyFrom_67 (by omega) (by omega) ?_
        refine z_callV hG dX7_copyFrom_68 LV_X7_44 (ct_X1_copyFrom l g hs hbj) (by decide) rfl rfl rfl (Nat.le_of_ble_eq_true rfl) ?_
        intro v9 m9 h9
        rw [h9.1, h9.2]
        clear h9 m9 v9
        refine z_iinc hG dX7_copyFrom_71 (by decide) rfl (by omega) (by omega) (ls2 := [_, _, _]) rfl ?_
        refine z_goto hG dX7_copyFrom_74 (tgt := 50) rfl ?_
        exact z_mem (zcS_I hs hj0) (ih (j + 1) (by omega) (by omega))
  refine z_aload_n (i := 0) hG dX7_copyFrom_0 rfl rfl ?_
  refine z_aload_n (i := 1) hG dX7_copyFrom_1 rfl rfl ?_
  refine z_getI hG dX7_copyFrom_2 FL_X7_29 rfl rfl (kk := 0) rfl ?_
  refine z_put hG dX7_copyFrom_5 FP_X7_29 rfl rfl (kk := 0) rfl ?_
  refine z_aload_n (i := 0) hG dX7_copyFrom_8 rfl rfl ?_
  refine z_aload_n (i := 1) hG dX7_copyFrom_9 rfl rfl ?_
  refine z_getI hG dX7_copyFrom_10 FL_X7_9 rfl rfl (kk := 1) rfl ?_
  refine z_put hG dX7_copyFrom_13 FP_X7_9 rfl rfl (kk := 1) rfl ?_
  refine z_aload_n (i := 0) hG dX7_copyFrom_16 rfl rfl ?_
  refine z_aload_n (i := 1) hG dX7_copyFrom_17 rfl rfl ?_
  refine z_getI hG dX7_copyFrom_18 FL_X7_32 rfl rfl (kk := 2) rfl ?_
  refine z_put hG dX7_copyFrom_21 FP_X7_32 rfl rfl (kk := 2) rfl ?_
  refine z_aload_n (i := 0) hG dX7_copyFrom_24 rfl rfl ?_
  refine z_aload_n (i := 1) hG dX7_copyFrom_25 rfl rfl ?_
  refine z_getI hG dX7_copyFrom_26 FL_X7_35 rfl rfl (kk := 3) rfl ?_
  refine z_put hG dX7_copyFrom_29 FP_X7_35 rfl rfl (kk := 3) rfl ?_
  refine z_aload_n (i := 0) hG dX7_copyFrom_32 rfl rfl ?_
  refine z_aload_n (i := 1) hG dX7_copyFrom_33 rfl rfl ?_
  refine z_getI hG dX7_copyFrom_34 FL_X7_38 rfl rfl (kk := 4) rfl ?_
  refine z_put hG dX7_copyFrom_37 FP_X7_38 rfl rfl (kk := 4) rfl ?_
  refine z_aload_n (i := 0) hG dX7_copyFrom_40 rfl rfl ?_
  refine z_aload_n (i := 1) hG dX7_copyFrom_41 rfl rfl ?_
  refine z_getI hG dX7_copyFrom_42 FL_X7_41 rfl rfl (kk := 5) rfl ?_
  refine z_put hG dX7_copyFrom_45 FP_X7_41 rfl rfl (kk := 5) rfl ?_
  refine z_iconst hG dX7_copyFrom_48 rfl ?_
  refine z_istore_n (i := 2) hG dX7_copyFrom_49 rfl (by decide) (ls2 := [_, _, _]) rfl ?_
  refine z_mem ?_ (loop 8 0 (by decide) rfl)
  funext t' s' i' k'
  simp only [zset, zcS, zSt, decide_eq_true_eq]
  grind (splits := 60)
