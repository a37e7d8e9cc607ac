theorem zite_eq0 {P : Prop} [Decidable P] : ((if P then (1 : Int) else 0) = 0) ↔ ¬ P := by
  by_cases h : P <;> simp [h]
theorem zite_ne0 {P : Prop} [Decidable P] : ((if P then (1 : Int) else 0) ≠ 0) ↔ P := by
  by_cases h : P <;> simp [h]
/-- the slots of an ingredient that hold ints -/
def zIsb (t : Nat) (k : Int) : Bool := decide ((t = 3 ∧ (k = 0 ∨ k = 1 ∨ k = 2 ∨ k = 5 ∨ k = 6 ∨ (8 ≤ k ∧ k ≤ 11))) ∨ ((t = 12 ∨ t = 13) ∧ 0 ≤ k ∧ k < 3) ∨ (t = 14 ∧ 0 ≤ k ∧ k < 30))
def zcI (mem : zM) (s i s2 : Int) : zM := fun t s' i' k => if s' = s ∧ i' = i ∧ zIsb t k = true then mem t s2 i k else mem t s' i' k
def zfst (f : Int → Int) (m t : Int) : Nat → Int → Int
  | 0, _ => -6
  | n + 1, a => if 0 < f ((t + a) % m) then t + a else zfst f m t n (a + 1)
def ztake (s i t : Int) : Nat → Int → Int → zM → zM
  | 0, _, _, m => m
  | n + 1, a, left, m => ztake s i t n (a + 1) (left - (if m 14 s i ((t + a) % 30) < left then m 14 s i ((t + a) % 30) else left)) (zset m 14 s i ((t + a) % 30) (m 14 s i ((t + a) % 30) - (if m 14 s i ((t + a) % 30) < left then m 14 s i ((t + a) % 30) else left)))
set_option maxRecDepth 20000 in
theorem ct_X1_copyFrom (l : Launch) (g : zG) {mem : zM} {s i s2 : Int} (hs : s2 ≠ s) (hb : mem 3 s2 i 1 = 0 ∨ mem 3 s2 i 1 = 1) : zMet l g Y_X1_copyFrom [zr 3 s i, zr 3 s2 i] mem (fun v m' => v = none ∧ m' = zcI mem s i s2) := by
  refine zMet_introF (by decide +kernel) (Nat.le_of_ble_eq_true rfl) (ls0 := [some (zr 3 s i), some (zr 3 s2 i)]) rfl fun X hG hE => ?_
  have hG : zGood X l g RX1 cX1_copyFrom 1 2 := hG
  have hE : zEnd X (none) _ := hE
  refine z_aload_n (i := 0) hG dX1_copyFrom_0 rfl rfl ?_
  refine z_aload_n (i := 1) hG dX1_copyFrom_1 rfl rfl ?_
  refine z_getI hG dX1_copyFrom_2 FL_X1_21 rfl rfl (kk := 0) rfl ?_
  refine z_put hG dX1_copyFrom_5 FP_X1_21 rfl rfl (kk := 0) rfl ?_
  refine z_aload_n (i := 0) hG dX1_copyFrom_8 rfl rfl ?_
  refine z_aload_n (i := 1) hG dX1_copyFrom_9 rfl rfl ?_
  refine z_getI hG dX1_copyFrom_10 FL_X1_25 rfl rfl (kk := 1) rfl ?_
  refine z_putB hG dX1_copyFrom_13 FP_X1_25 rfl rfl (kk := 1) rfl (by (first | omega | decide | (simp [zset, zcpy, hs]; omega) | grind [zset, zcpy])) ?_
  refine z_aload_n (i := 0) hG dX1_copyFrom_16 rfl rfl ?_
  refine z_aload_n (i := 1) hG dX1_copyFrom_17 rfl rfl ?_
  refine z_getI hG dX1_copyFrom_18 FL_X1_29 rfl rfl (kk := 2) rfl ?_
  refine z_put hG dX1_copyFrom_21 FP_X1_29 rfl rfl (kk := 2) rfl ?_
  refine z_aload_n (i := 1) hG dX1_copyFrom_24 rfl rfl ?_
  refine z_get_1_3 hG dX1_copyFrom_25 FL_X1_9 ?_
  refine z_iconst hG dX1_copyFrom_28 rfl ?_
  refine z_aload_n (i := 0) hG dX1_copyFrom_29 rfl rfl ?_
  refine z_get_1_3 hG dX1_copyFrom_30 FL_X1_9 ?_
  refine z_iconst hG dX1_copyFrom_33 rfl ?_
  refine z_iconst hG dX1_copyFrom_34 rfl ?_
  refine z_copy hG dX1_copyFrom_35 LC_X1_50 (by decide) (Nat.le_of_ble_eq_true rfl) rfl rfl rfl rfl (by (first | omega | decide | (simp [zset, zcpy, hs]; omega) | grind [zset, zcpy])) (by (first | omega | decide | (simp [zset, zcpy, hs]; omega) | grind [zset, zcpy])) (by (first | omega | decide | (simp [zset, zcpy, hs]; omega) | grind [zset, zcpy])) (by (first | omega | decide | (simp [zset, zcpy, hs]; omega) | grind [zset, zcpy])) (by (first | omega | decide | (simp [zset, zcpy, hs]; omega) | grind [zset, zcpy])) ?_
  refine z_aload_n (i := 1) hG dX1_copyFrom_38 rfl rfl ?_
  refine z_get_1_4 hG dX1_copyFrom_39 FL_X1_15 ?_
  refine z_iconst hG dX1_copyFrom_42 rfl ?_
  refine z_aload_n (i := 0) hG dX1_copyFrom_43 rfl rfl ?_
  refine z_get_1_4 hG dX1_copyFrom_44 FL_X1_15 ?_
  refine z_iconst hG dX1_copyFrom_47 rfl ?_
  refine z_iconst hG dX1_copyFrom_48 rfl ?_
  refine z_copy hG dX1_copyFrom_49 LC_X1_50 (by decide) (Nat.le_of_ble_eq_true rfl) rfl rfl rfl rfl (by (first | omega | decide | (simp [zset, zcpy, hs]; omega) | grind [zset, zcpy])) (by (first | omega | decide | (simp [zset, zcpy, hs]; omega) | grind [zset, zcpy])) (by (first | omega | decide | (simp [zset, zcpy, hs]; omega) | grind [zset, zcpy])) (by (first | omega | decide | (simp [zset, zcpy, hs]; omega) | grind [zset, zcpy])) (by (first | omega | decide | (simp [zset, zcpy, hs]; omega) | grind [zset, zcpy])) ?_
  refine z_aload_n (i := 0) hG dX1_copyFrom_52 rfl rfl ?_
  refine z_aload_n (i := 1) hG dX1_copyFrom_53 rfl rfl ?_
  refine z_getI hG dX1_copyFrom_54 FL_X1_32 rfl rfl (kk := 5) rfl ?_
  refine z_put hG dX1_copyFrom_57 FP_X1_32 rfl rfl (kk := 5) rfl ?_
  refine z_aload_n (i := 0) hG dX1_copyFrom_60 rfl rfl ?_
  refine z_aload_n (i := 1) hG dX1_copyFrom_61 rfl rfl ?_
  refine z_getI hG dX1_copyFrom_62 FL_X1_35 rfl rfl (kk := 6) rfl ?_
  refine z_put hG dX1_copyFrom_65 FP_X1_35 rfl rfl (kk := 6) rfl ?_
  refine z_aload_n (i := 1) hG dX1_copyFrom_68 rfl rfl ?_
  refine z_get_1_7 hG dX1_copyFrom_69 FL_X1_18 ?_
  refine z_iconst hG dX1_copyFrom_72 rfl ?_
  refine z_aload_n (i := 0) hG dX1_copyFrom_73 rfl rfl ?_
  refine z_get_1_7 hG dX1_copyFrom_74 FL_X1_18 ?_
  refine z_iconst hG dX1_copyFrom_77 rfl ?_
  refine z_bipush hG dX1_copyFrom_78 rfl ?_
  refine z_copy hG dX1_copyFrom_80 LC_X1_50 (by decide) (Nat.le_of_ble_eq_true rfl) rfl rfl rfl rfl (by (first | omega | decide | (simp [zset, zcpy, hs]; omega) | grind [zset, zcpy])) (by (first | omega | decide | (simp [zset, zcpy, hs]; omega) | grind [zset, zcpy])) (by (first | omega | decide | (simp [zset, zcpy, hs]; omega) | grind [zset, zcpy])) (by (first | omega | decide | (simp [zset, zcpy, hs]; omega) | grind [zset, zcpy])) (by (first | omega | decide | (simp [zset, zcpy, hs]; omega) | grind [zset, zcpy])) ?_
  refine z_aload_n (i := 0) hG dX1_copyFrom_83 rfl rfl ?_
  refine z_aload_n (i := 1) hG dX1_copyFrom_84 rfl rfl ?_
  refine z_getI hG dX1_copyFrom_85 FL_X1_38 rfl rfl (kk := 8) rfl ?_
  refine z_put hG dX1_copyFrom_88 FP_X1_38 rfl rfl (kk := 8) rfl ?_
  refine z_aload_n (i := 0) hG dX1_copyFrom_91 rfl rfl ?_
  refine z_aload_n (i := 1) hG dX1_copyFrom_92 rfl rfl ?_
  refine z_getI hG dX1_copyFrom_93 FL_X1_41 rfl rfl (kk := 9) rfl ?_
  refine z_put hG dX1_copyFrom_96 FP_X1_41 rfl rfl (kk := 9) rfl ?_
  refine z_aload_n (i := 0) hG dX1_copyFrom_99 rfl rfl ?_
  refine z_aload_n (i := 1) hG dX1_copyFrom_100 rfl rfl ?_
  refine z_getI hG dX1_copyFrom_101 FL_X1_44 rfl rfl (kk := 10) rfl ?_
  refine z_put hG dX1_copyFrom_104 FP_X1_44 rfl rfl (kk := 10) rfl ?_
  refine z_aload_n (i := 0) hG dX1_copyFrom_107 rfl rfl ?_
  refine z_aload_n (i := 1) hG dX1_copyFrom_108 rfl rfl ?_
  refine z_getI hG dX1_copyFrom_109 FL_X1_47 rfl rfl (kk := 11) rfl ?_
  refine z_put hG dX1_copyFrom_112 FP_X1_47 rfl rfl (kk := 11) rfl ?_
  refine z_vret hG hE dX1_copyFrom_115 ?_
  refine ⟨rfl, ?_⟩
  funext t' s' i' k'
  simp only [zcI, zIsb, decide_eq_true_eq]
  simp only [zset, zcpy]
  grind (splits := 100)
set_option maxRecDepth 20000 in
theorem ct_X1_hasSize (l : Launch) (g : zG) {mem : zM} {s i x : Int} (hk : 0 ≤ mem 3 s i 2 ∧ mem 3 s i 2 ≤ 3) : zMet l g Y_X1_hasSize [zr 3 s i, zi x] mem (fun v m' => ∃ r : Int, v = some (zi r) ∧ m' = mem ∧ (r = 0 ∨ r = 1) ∧ (r = 1 ↔ ∃ k : Int, 0 ≤ k ∧ k < mem 3 s i 2 ∧ mem 12 s i k = x)) := by
  refine zMet_introF (by decide +kernel) (Nat.le_of_ble_eq_true rfl) (ls0 := [some (zr 3 s i), some (zi x), none]) rfl fun X hG hE => ?_
  have hG : zGood X l g RX1 cX1_hasSize 0 3 := hG
  have hE : zEnd X (some .boolean) _ := hE
  have loop : ∀ (n : Nat) (j : Int), 0 ≤ j → j + n = mem 3 s i 2 → (∀ k : Int, 0 ≤ k → k < j → mem 12 s i k ≠ x) → zZ X 2 [some (zr 3 s i), some (zi x), some (zi j)] [] mem := by
    intro n
    induction n with
    | zero =>
      intro j hj0 hj hno
      refine z_iload_n (i := 2) hG dX1_hasSize_2 rfl rfl ?_
      refine z_aload_n (i := 0) hG dX1_hasSize_3 rfl rfl ?_
      refine z_getI hG dX1_hasSize_4 FL_X1_29 rfl rfl (kk := 2) rfl ?_
      refine z_icmp_ge hG dX1_hasSize_7 (tgt := 33) rfl (fun c7 => ?_) (fun c7 => ?_)
      · refine z_iconst hG dX1_hasSize_33 rfl ?_
        refine z_iret hG hE dX1_hasSize_34 (by first | exact Or.inl rfl | exact Or.inr rfl | (show _ ∨ _; omega)) ?_
        refine ⟨0, rfl, rfl, Or.inl rfl, ⟨fun z => by omega, ?_⟩⟩
        rintro ⟨k, h0, h1, h2⟩
        exact absurd h2 (hno k h0 (by omega))
      · exact absurd c7 (by omega)
    | succ n ih =>
      intro j hj0 hj hno
      refine z_iload_n (i := 2) hG dX1_hasSize_2 rfl rfl ?_
      refine z_aload_n (i := 0) hG dX1_hasSize_3 rfl rfl ?_
      refine z_getI hG dX1_hasSize_4 FL_X1_29 rfl rfl (kk := 2) rfl ?_
      refine z_icmp_ge hG dX1_hasSize_7 (tgt := 33) rfl (fun c7 => ?_) (fun c7 => ?_)
      · exact absurd c7 (by omega)
      · refine z_iload_n (i := 2) hG dX1_hasSize_10 rfl rfl ?_
        refine z_iconst hG dX1_hasSize_11 rfl ?_
        refine z_icmp_ge hG dX1_hasSize_12 (tgt := 33) rfl (fun c12 => ?_) (fun c12 => ?_)
        · exact absurd c12 (by omega)
        · refine z_aload_n (i := 0) hG dX1_hasSize_15 rfl rfl ?_
          refine z_get_1_3 hG dX1_hasSize_16 FL_X1_9 ?_
          refine z_iload_n (i := 2) hG dX1_hasSize_19 rfl rfl ?_
          refine z_iald hG dX1_hasSize_20 rfl rfl (by omega) (by omega) ?_
          refine z_iload_n (i := 1) hG dX1_hasSize_21 rfl rfl ?_
          refine z_icmp_ne hG dX1_hasSize_22 (tgt := 27) rfl (fun c22 => ?_) (fun c22 => ?_)
          · refine z_iinc hG dX1_hasSize_27 (by decide) rfl (by omega) (by omega) (ls2 := [_, _, _]) rfl ?_
            refine z_goto hG dX1_hasSize_30 (tgt := 2) rfl ?_
            refine ih (j + 1) (by omega) (by omega) (fun k h0 h1 => ?_)
            rcases (show k = j ∨ k < j by omega) with rfl | h
            · exact c22
            · exact hno k h0 h
          · refine z_iconst hG dX1_hasSize_25 rfl ?_
            refine z_iret hG hE dX1_hasSize_26 (by first | exact Or.inl rfl | exact Or.inr rfl | (show _ ∨ _; omega)) ?_
            exact ⟨1, rfl, rfl, Or.inr rfl, ⟨fun _ => ⟨j, hj0, by omega, c22⟩, fun _ => rfl⟩⟩
  refine z_iconst hG dX1_hasSize_0 rfl ?_
  refine z_istore_n (i := 2) hG dX1_hasSize_1 rfl (by decide) (ls2 := [_, _, _]) rfl ?_
  refine loop (mem 3 s i 2).toNat 0 (by decide) (by omega) (fun k h0 h1 => by omega)
set_option maxRecDepth 20000 in
theorem ct_X1_addKind (l : Launch) (g : zG) {mem : zM} {s i x p : Int} (h0 : 0 ≤ mem 3 s i 2) (h1 : mem 3 s i 2 < 3) : zMet l g Y_X1_addKind [zr 3 s i, zi x, zi p] mem (fun v m' => v = none ∧ m' = zset (zset (zset mem 12 s i (mem 3 s i 2) x) 13 s i (mem 3 s i 2) p) 3 s i 2 (mem 3 s i 2 + 1)) := by
  refine zMet_introF (by decide +kernel) (Nat.le_of_ble_eq_true rfl) (ls0 := [some (zr 3 s i), some (zi x), some (zi p)]) rfl fun X hG hE => ?_
  have hG : zGood X l g RX1 cX1_addKind 0 3 := hG
  have hE : zEnd X (none) _ := hE
  refine z_aload_n (i := 0) hG dX1_addKind_0 rfl rfl ?_
  refine z_getI hG dX1_addKind_1 FL_X1_29 rfl rfl (kk := 2) rfl ?_
  refine z_if_lt hG dX1_addKind_4 (tgt := 15) rfl (fun c4 => ?_) (fun c4 => ?_)
  · exact absurd c4 (by omega)
  · refine z_aload_n (i := 0) hG dX1_addKind_7 rfl rfl ?_
    refine z_getI hG dX1_addKind_8 FL_X1_29 rfl rfl (kk := 2) rfl ?_
    refine z_iconst hG dX1_addKind_11 rfl ?_
    refine z_icmp_lt hG dX1_addKind_12 (tgt := 16) rfl (fun c12 => ?_) (fun c12 => ?_)
    · refine z_aload_n (i := 0) hG dX1_addKind_16 rfl rfl ?_
      refine z_get_1_3 hG dX1_addKind_17 FL_X1_9 ?_
      refine z_aload_n (i := 0) hG dX1_addKind_20 rfl rfl ?_
      refine z_getI hG dX1_addKind_21 FL_X1_29 rfl rfl (kk := 2) rfl ?_
      refine z_iload_n (i := 1) hG dX1_addKind_24 rfl rfl ?_
      refine z_iast hG dX1_addKind_25 rfl rfl (by (first | omega | (simp [zset]; omega))) (by (first | omega | (simp [zset]; omega))) ?_
      refine z_aload_n (i := 0) hG dX1_addKind_26 rfl rfl ?_
      refine z_get_1_4 hG dX1_addKind_27 FL_X1_15 ?_
      refine z_aload_n (i := 0) hG dX1_addKind_30 rfl rfl ?_
      refine z_getI hG dX1_addKind_31 FL_X1_29 rfl rfl (kk := 2) rfl ?_
      refine z_iload_n (i := 2) hG dX1_addKind_34 rfl rfl ?_
      refine z_iast hG dX1_addKind_35 rfl rfl (by (first | omega | (simp [zset]; omega))) (by (first | omega | (simp [zset]; omega))) ?_
      refine z_aload_n (i := 0) hG dX1_addKind_36 rfl rfl ?_
      first | refine z_dup_r hG dX1_addKind_37 ?_ | refine z_dup_i hG dX1_addKind_37 ?_
      refine z_getI hG dX1_addKind_38 FL_X1_29 rfl rfl (kk := 2) rfl ?_
      refine z_iconst hG dX1_addKind_41 rfl ?_
      refine z_iadd hG dX1_addKind_42 (by (first | omega | (simp [zset]; omega))) (by (first | omega | (simp [zset]; omega))) ?_
      refine z_put hG dX1_addKind_43 FP_X1_29 rfl rfl (kk := 2) rfl ?_
      refine z_vret hG hE dX1_addKind_46 ?_
      exact ⟨rfl, by simp [zset]⟩
    · exact absurd c12 (by omega)
set_option maxRecDepth 20000 in
theorem ct_X1_lotsThere (l : Launch) (g : zG) {mem : zM} {s i : Int} : zMet l g Y_X1_lotsThere [zr 3 s i] mem (fun v m' => v = some (zi (zsum 30 (fun j => if 0 < mem 14 s i j then 1 else 0))) ∧ m' = mem) := by
  refine zMet_introF (by decide +kernel) (Nat.le_of_ble_eq_true rfl) (ls0 := [some (zr 3 s i), none, none, none, none, none]) rfl fun X hG hE => ?_
  have hG : zGood X l g RX1 cX1_lotsThere 0 6 := hG
  have hE : zEnd X (some .int) _ := hE
  have loop : ∀ n j : Nat, j + n = 30 → zZ X 13 [some (zr 3 s i), some (zi (zsum j (fun j => if 0 < mem 14 s i j then 1 else 0))), some (zr 14 s i), some (zi 30), some (zi j), none] [] mem := by
    intro n
    induction n with
    | zero =>
      intro j hj
      refine z_iload hG dX1_lotsThere_13 rfl ?_
      refine z_iload_n (i := 3) hG dX1_lotsThere_15 rfl rfl ?_
      refine z_icmp_ge hG dX1_lotsThere_16 (tgt := 39) rfl (fun c16 => ?_) (fun c16 => ?_)
      · refine z_iload_n (i := 1) hG dX1_lotsThere_39 rfl rfl ?_
        refine z_iret hG hE dX1_lotsThere_40 trivial ?_
        have : j = 30 := by omega
        subst this
        exact ⟨rfl, rfl⟩
      · exact absurd c16 (by omega)
    | succ n ih =>
      intro j hj
      have hs := zsum_le (f := fun j => if 0 < mem 14 s i j then 1 else 0) (B := 1) j (fun k h0 h1 => by by_cases q : 0 < mem 14 s i k <;> simp [q])
      refine z_iload hG dX1_lotsThere_13 rfl ?_
      refine z_iload_n (i := 3) hG dX1_lotsThere_15 rfl rfl ?_
      refine z_icmp_ge hG dX1_lotsThere_16 (tgt := 39) rfl (fun c16 => ?_) (fun c16 => ?_)
      · exact absurd c16 (by omega)
      · refine z_aload_n (i := 2) hG dX1_lotsThere_19 rfl rfl ?_
        refine z_iload hG dX1_lotsThere_20 rfl ?_
        refine z_iald hG dX1_lotsThere_22 rfl rfl (by omega) (by omega) ?_
        refine z_istore hG dX1_lotsThere_23 (by decide) (ls2 := [_, _, _, _, _, _]) rfl ?_
        refine z_iload hG dX1_lotsThere_25 rfl ?_
        refine z_if_le hG dX1_lotsThere_27 (tgt := 33) rfl (fun c27 => ?_) (fun c27 => ?_)
        · refine z_iinc hG dX1_lotsThere_33 (by decide) rfl (by omega) (by omega) (ls2 := [_, _, _, _, _, _]) rfl ?_
          refine z_goto hG dX1_lotsThere_36 (tgt := 13) rfl ?_
          refine z_forget [true, true, true, true, true, false] (ls2 := [some (zr 3 s i), some (zi (zsum (j + 1) (fun j => if 0 < mem 14 s i j then 1 else 0))), some (zr 14 s i), some (zi 30), some (zi ((j + 1 : Nat) : Int)), none]) ?_ (ih (j + 1) (by omega))
          first | (simp [zfor, zsum, c27]; done) | (simp [zfor, zsum, show ¬ 0 < mem 14 s i j by omega]; done)
        · refine z_iinc hG dX1_lotsThere_30 (by decide) rfl (by omega) (by omega) (ls2 := [_, _, _, _, _, _]) rfl ?_
          refine z_iinc hG dX1_lotsThere_33 (by decide) rfl (by omega) (by omega) (ls2 := [_, _, _, _, _, _]) rfl ?_
          refine z_goto hG dX1_lotsThere_36 (tgt := 13) rfl ?_
          refine z_forget [true, true, true, true, true, false] (ls2 := [some (zr 3 s i), some (zi (zsum (j + 1) (fun j => if 0 < mem 14 s i j then 1 else 0))), some (zr 14 s i), some (zi 30), some (zi ((j + 1 : Nat) : Int)), none]) ?_ (ih (j + 1) (by omega))
          first | (simp [zfor, zsum, c27]; done) | (simp [zfor, zsum, show ¬ 0 < mem 14 s i j by omega]; done)
  refine z_iconst hG dX1_lotsThere_0 rfl ?_
  refine z_istore_n (i := 1) hG dX1_lotsThere_1 rfl (by decide) (ls2 := [_, _, _, _, _, _]) rfl ?_
  refine z_aload_n (i := 0) hG dX1_lotsThere_2 rfl rfl ?_
  refine z_get_1_7 hG dX1_lotsThere_3 FL_X1_18 ?_
  refine z_astore_n (i := 2) hG dX1_lotsThere_6 rfl (by decide) (ls2 := [_, _, _, _, _, _]) rfl ?_
  refine z_aload_n (i := 2) hG dX1_lotsThere_7 rfl rfl ?_
  refine z_alen (n := 30) hG dX1_lotsThere_8 rfl rfl (by decide) rfl rfl ?_
  refine z_istore_n (i := 3) hG dX1_lotsThere_9 rfl (by decide) (ls2 := [_, _, _, _, _, _]) rfl ?_
  refine z_iconst hG dX1_lotsThere_10 rfl ?_
  refine z_istore hG dX1_lotsThere_11 (by decide) (ls2 := [_, _, _, _, _, _]) rfl ?_
  exact loop 30 0 rfl
set_option maxRecDepth 20000 in
theorem ct_X1_firstSpoilDay (l : Launch) (g : zG) {mem : zM} {s i t : Int} (h0 : 0 ≤ t) (h1 : t ≤ 100000) : zMet l g Y_X1_firstSpoilDay [zr 3 s i, zi t] mem (fun v m' => v = some (zi (zfst (mem 14 s i) 30 t 30 1)) ∧ m' = mem) := by
  refine zMet_introF (by decide +kernel) (Nat.le_of_ble_eq_true rfl) (ls0 := [some (zr 3 s i), some (zi t), none]) rfl fun X hG hE => ?_
  have hG : zGood X l g RX1 cX1_firstSpoilDay 2 3 := hG
  have hE : zEnd X (some .int) _ := hE
  have loop : ∀ (n : Nat) (a : Int), 1 ≤ a → a + n = 31 → zfst (mem 14 s i) 30 t 30 1 = zfst (mem 14 s i) 30 t n a → zZ X 2 [some (zr 3 s i), some (zi t), some (zi a)] [] mem := by
    intro n
    induction n with
    | zero =>
      intro a ha hn he
      refine z_iload_n (i := 2) hG dX1_firstSpoilDay_2 rfl rfl ?_
      refine z_bipush hG dX1_firstSpoilDay_3 rfl ?_
      refine z_icmp_gt hG dX1_firstSpoilDay_5 (tgt := 32) rfl (fun c5 => ?_) (fun c5 => ?_)
      · refine z_bipush hG dX1_firstSpoilDay_32 rfl ?_
        refine z_iret hG hE dX1_firstSpoilDay_34 trivial ?_
        exact ⟨by rw [he]; rfl, rfl⟩
      · exact absurd c5 (by omega)
    | succ n ih =>
      intro a ha hn he
      refine z_iload_n (i := 2) hG dX1_firstSpoilDay_2 rfl rfl ?_
      refine z_bipush hG dX1_firstSpoilDay_3 rfl ?_
      refine z_icmp_gt hG dX1_firstSpoilDay_5 (tgt := 32) rfl (fun c5 => ?_) (fun c5 => ?_)
      · exact absurd c5 (by omega)
      · refine z_aload_n (i := 0) hG dX1_firstSpoilDay_8 rfl rfl ?_
        refine z_get_1_7 hG dX1_firstSpoilDay_9 FL_X1_18 ?_
        refine z_iload_n (i := 1) hG dX1_firstSpoilDay_12 rfl rfl ?_
        refine z_iload_n (i := 2) hG dX1_firstSpoilDay_13 rfl rfl ?_
        refine z_iadd hG dX1_firstSpoilDay_14 (by omega) (by omega) ?_
        refine z_callS hG dX1_firstSpoilDay_15 LS_X1_56 (ct_X1_placeOf l g (by omega)) (by decide) rfl rfl (Nat.le_of_ble_eq_true rfl) ?_
        intro v9 m9 h9
        rw [h9.1, h9.2]
        clear h9 m9 v9
        refine z_iald hG dX1_firstSpoilDay_18 rfl rfl (by omega) (by omega) ?_
        refine z_if_le hG dX1_firstSpoilDay_19 (tgt := 26) rfl (fun c19 => ?_) (fun c19 => ?_)
        · refine z_iinc hG dX1_firstSpoilDay_26 (by decide) rfl (by omega) (by omega) (ls2 := [_, _, _]) rfl ?_
          refine z_goto hG dX1_firstSpoilDay_29 (tgt := 2) rfl ?_
          refine ih (a + 1) (by omega) (by omega) ?_
          rw [he]
          simp only [zfst]
          rw [if_neg (by omega)]
        · refine z_iload_n (i := 1) hG dX1_firstSpoilDay_22 rfl rfl ?_
          refine z_iload_n (i := 2) hG dX1_firstSpoilDay_23 rfl rfl ?_
          refine z_iadd hG dX1_firstSpoilDay_24 (by omega) (by omega) ?_
          refine z_iret hG hE dX1_firstSpoilDay_25 trivial ?_
          refine ⟨?_, rfl⟩
          rw [he]
          simp only [zfst]
          rw [if_pos (by omega)]
  refine z_iconst hG dX1_firstSpoilDay_0 rfl ?_
  refine z_istore_n (i := 2) hG dX1_firstSpoilDay_1 rfl (by decide) (ls2 := [_, _, _]) rfl ?_
  exact loop 30 1 (by decide) rfl rfl
set_option maxRecDepth 20000 in
theorem ct_X1_addLot (l : Launch) (g : zG) {mem : zM} {s i t x : Int} (h0 : 0 ≤ t) (h1 : t ≤ 100000) (h2 : 0 ≤ mem 3 s i 0) (h3 : mem 3 s i 0 ≤ 100) (h4 : 0 ≤ mem 14 s i ((t + mem 3 s i 0) % 30) ∧ mem 14 s i ((t + mem 3 s i 0) % 30) ≤ 1000000000) (h5 : 0 ≤ x ∧ x ≤ 1000000000) : zMet l g Y_X1_addLot [zr 3 s i, zi t, zi x] mem (fun v m' => v = none ∧ m' = zset mem 14 s i ((t + mem 3 s i 0) % 30) (mem 14 s i ((t + mem 3 s i 0) % 30) + x)) := by
  refine zMet_introF (by decide +kernel) (Nat.le_of_ble_eq_true rfl) (ls0 := [some (zr 3 s i), some (zi t), some (zi x)]) rfl fun X hG hE => ?_
  have hG : zGood X l g RX1 cX1_addLot 2 3 := hG
  have hE : zEnd X (none) _ := hE
  refine z_aload_n (i := 0) hG dX1_addLot_0 rfl rfl ?_
  refine z_get_1_7 hG dX1_addLot_1 FL_X1_18 ?_
  refine z_iload_n (i := 1) hG dX1_addLot_4 rfl rfl ?_
  refine z_aload_n (i := 0) hG dX1_addLot_5 rfl rfl ?_
  refine z_getI hG dX1_addLot_6 FL_X1_21 rfl rfl (kk := 0) rfl ?_
  refine z_iadd hG dX1_addLot_9 (by omega) (by omega) ?_
  refine z_callS hG dX1_addLot_10 LS_X1_56 (ct_X1_placeOf l g (by omega)) (by decide) rfl rfl (Nat.le_of_ble_eq_true rfl) ?_
  intro v9 m9 h9
  rw [h9.1, h9.2]
  clear h9 m9 v9
  refine z_dup2 hG dX1_addLot_13 ?_
  refine z_iald hG dX1_addLot_14 rfl rfl (by omega) (by omega) ?_
  refine z_iload_n (i := 2) hG dX1_addLot_15 rfl rfl ?_
  refine z_iadd hG dX1_addLot_16 (by omega) (by omega) ?_
  refine z_iast hG dX1_addLot_17 rfl rfl (by omega) (by omega) ?_
  refine z_vret hG hE dX1_addLot_18 ?_
  exact ⟨rfl, rfl⟩
set_option maxRecDepth 20000 in
theorem ct_X1_throwAway (l : Launch) (g : zG) {mem : zM} {s i t : Int} (h0 : 0 ≤ t) : zMet l g Y_X1_throwAway [zr 3 s i, zi t] mem (fun v m' => v = some (zi (mem 14 s i (t % 30))) ∧ m' = zset (zset mem 14 s i (t % 30) 0) 3 s i 10 (zwr (mem 3 s i 10 + mem 14 s i (t % 30)))) := by
  refine zMet_introF (by decide +kernel) (Nat.le_of_ble_eq_true rfl) (ls0 := [some (zr 3 s i), some (zi t), none, none]) rfl fun X hG hE => ?_
  have hG : zGood X l g RX1 cX1_throwAway 2 4 := hG
  have hE : zEnd X (some .int) _ := hE
  refine z_iload_n (i := 1) hG dX1_throwAway_0 rfl rfl ?_
  refine z_callS hG dX1_throwAway_1 LS_X1_56 (ct_X1_placeOf l g (by omega)) (by decide) rfl rfl (Nat.le_of_ble_eq_true rfl) ?_
  intro v9 m9 h9
  rw [h9.1, h9.2]
  clear h9 m9 v9
  refine z_istore_n (i := 2) hG dX1_throwAway_4 rfl (by decide) (ls2 := [_, _, _, _]) rfl ?_
  refine z_aload_n (i := 0) hG dX1_throwAway_5 rfl rfl ?_
  refine z_get_1_7 hG dX1_throwAway_6 FL_X1_18 ?_
  refine z_iload_n (i := 2) hG dX1_throwAway_9 rfl rfl ?_
  refine z_iald hG dX1_throwAway_10 rfl rfl (by omega) (by omega) ?_
  refine z_istore_n (i := 3) hG dX1_throwAway_11 rfl (by decide) (ls2 := [_, _, _, _]) rfl ?_
  refine z_aload_n (i := 0) hG dX1_throwAway_12 rfl rfl ?_
  refine z_get_1_7 hG dX1_throwAway_13 FL_X1_18 ?_
  refine z_iload_n (i := 2) hG dX1_throwAway_16 rfl rfl ?_
  refine z_iconst hG dX1_throwAway_17 rfl ?_
  refine z_iast hG dX1_throwAway_18 rfl rfl (by omega) (by omega) ?_
  refine z_aload_n (i := 0) hG dX1_throwAway_19 rfl rfl ?_
  first | refine z_dup_r hG dX1_throwAway_20 ?_ | refine z_dup_i hG dX1_throwAway_20 ?_
  refine z_getI hG dX1_throwAway_21 FL_X1_44 rfl rfl (kk := 10) rfl ?_
  refine z_iload_n (i := 3) hG dX1_throwAway_24 rfl rfl ?_
  refine z_iaddw hG dX1_throwAway_25 ?_
  refine z_put hG dX1_throwAway_26 FP_X1_44 rfl rfl (kk := 10) rfl ?_
  refine z_iload_n (i := 3) hG dX1_throwAway_29 rfl rfl ?_
  refine z_iret hG hE dX1_throwAway_30 trivial ?_
  exact ⟨rfl, by simp [zset]⟩
set_option maxRecDepth 20000 in
theorem ct_X1_takeFromLots (l : Launch) (g : zG) {mem : zM} {s i t x : Int} (h0 : 0 ≤ t) (h1 : t ≤ 100000) (hB : ∀ j : Int, 0 ≤ j → j < 30 → 0 ≤ mem 14 s i j ∧ mem 14 s i j ≤ 1000000000) (hx : 0 ≤ x ∧ x ≤ 1000000000) : zMet l g Y_X1_takeFromLots [zr 3 s i, zi t, zi x] mem (fun v m' => v = none ∧ m' = ztake s i t 30 1 x mem) := by
  refine zMet_introF (by decide +kernel) (Nat.le_of_ble_eq_true rfl) (ls0 := [some (zr 3 s i), some (zi t), some (zi x), none, none, none, none]) rfl fun X hG hE => ?_
  have hG : zGood X l g RX1 cX1_takeFromLots 2 7 := hG
  have hE : zEnd X (none) _ := hE
  have loop : ∀ (n : Nat) (a left : Int) (m0 : zM), 1 ≤ a → a + n = 31 → 0 ≤ left → left ≤ 1000000000 → (∀ j : Int, 0 ≤ j → j < 30 → 0 ≤ m0 14 s i j ∧ m0 14 s i j ≤ 1000000000) → ztake s i t 30 1 x mem = ztake s i t n a left m0 → zZ X 5 [some (zr 3 s i), some (zi t), some (zi x), some (zi left), some (zi a), none, none] [] m0 := by
    intro n
    induction n with
    | zero =>
      intro a left m0 ha hn hl0 hl1 hm he
      refine z_iload hG dX1_takeFromLots_5 rfl ?_
      refine z_bipush hG dX1_takeFromLots_7 rfl ?_
      refine z_icmp_gt hG dX1_takeFromLots_9 (tgt := 57) rfl (fun c9 => ?_) (fun c9 => ?_)
      · refine z_vret hG hE dX1_takeFromLots_57 ?_
        exact ⟨rfl, by rw [he]; rfl⟩
      · exact absurd c9 (by omega)
    | succ n ih =>
      intro a left m0 ha hn hl0 hl1 hm he
      have hp := hm ((t + a) % 30) (by omega) (by omega)
      refine z_iload hG dX1_takeFromLots_5 rfl ?_
      refine z_bipush hG dX1_takeFromLots_7 rfl ?_
      refine z_icmp_gt hG dX1_takeFromLots_9 (tgt := 57) rfl (fun c9 => ?_) (fun c9 => ?_)
      · exact absurd c9 (by omega)
      · refine z_iload_n (i := 1) hG dX1_takeFromLots_12 rfl rfl ?_
        refine z_iload hG dX1_takeFromLots_13 rfl ?_
        refine z_iadd hG dX1_takeFromLots_15 (by (first | omega | (split <;> omega))) (by (first | omega | (split <;> omega))) ?_
        refine z_callS hG dX1_takeFromLots_16 LS_X1_56 (ct_X1_placeOf l g (by omega)) (by decide) rfl rfl (Nat.le_of_ble_eq_true rfl) ?_
        intro v9 m9 h9
        rw [h9.1, h9.2]
        clear h9 m9 v9
        refine z_istore hG dX1_takeFromLots_19 (by decide) (ls2 := [_, _, _, _, _, _, _]) rfl ?_
        refine z_iload_n (i := 3) hG dX1_takeFromLots_21 rfl rfl ?_
        refine z_aload_n (i := 0) hG dX1_takeFromLots_22 rfl rfl ?_
        refine z_get_1_7 hG dX1_takeFromLots_23 FL_X1_18 ?_
        refine z_iload hG dX1_takeFromLots_26 rfl ?_
        refine z_iald hG dX1_takeFromLots_28 rfl rfl (by (first | omega | (split <;> omega))) (by (first | omega | (split <;> omega))) ?_
        refine z_min hG dX1_takeFromLots_29 LM_X1_60 (by decide) (Nat.le_of_ble_eq_true rfl) ?_
        refine z_istore hG dX1_takeFromLots_32 (by decide) (ls2 := [_, _, _, _, _, _, _]) rfl ?_
        refine z_aload_n (i := 0) hG dX1_takeFromLots_34 rfl rfl ?_
        refine z_get_1_7 hG dX1_takeFromLots_35 FL_X1_18 ?_
        refine z_iload hG dX1_takeFromLots_38 rfl ?_
        refine z_dup2 hG dX1_takeFromLots_40 ?_
        refine z_iald hG dX1_takeFromLots_41 rfl rfl (by (first | omega | (split <;> omega))) (by (first | omega | (split <;> omega))) ?_
        refine z_iload hG dX1_takeFromLots_42 rfl ?_
        refine z_isub hG dX1_takeFromLots_44 (by (first | omega | (split <;> omega))) (by (first | omega | (split <;> omega))) ?_
        refine z_iast hG dX1_takeFromLots_45 rfl rfl (by (first | omega | (split <;> omega))) (by (first | omega | (split <;> omega))) ?_
        refine z_iload_n (i := 3) hG dX1_takeFromLots_46 rfl rfl ?_
        refine z_iload hG dX1_takeFromLots_47 rfl ?_
        refine z_isub hG dX1_takeFromLots_49 (by (first | omega | (split <;> omega))) (by (first | omega | (split <;> omega))) ?_
        refine z_istore_n (i := 3) hG dX1_takeFromLots_50 rfl (by decide) (ls2 := [_, _, _, _, _, _, _]) rfl ?_
        refine z_iinc hG dX1_takeFromLots_51 (by decide) rfl (by (first | omega | (split <;> omega))) (by (first | omega | (split <;> omega))) (ls2 := [_, _, _, _, _, _, _]) rfl ?_
        refine z_goto hG dX1_takeFromLots_54 (tgt := 5) rfl ?_
        refine z_forget [true, true, true, true, true, false, false] rfl (ih (a + 1) _ _ (by omega) (by omega) (by split <;> omega) (by split <;> omega) (fun j h0 h1 => ?_) he)
        have := hm j h0 h1
        simp only [zset]
        split
        · split <;> omega
        · exact this
  refine z_iload_n (i := 2) hG dX1_takeFromLots_0 rfl rfl ?_
  refine z_istore_n (i := 3) hG dX1_takeFromLots_1 rfl (by decide) (ls2 := [_, _, _, _, _, _, _]) rfl ?_
  refine z_iconst hG dX1_takeFromLots_2 rfl ?_
  refine z_istore hG dX1_takeFromLots_3 (by decide) (ls2 := [_, _, _, _, _, _, _]) rfl ?_
  exact loop 30 1 x mem (by decide) rfl hx.1 hx.2 hB rfl
set_option maxRecDepth 20000 in
theorem ct_X2_at (l : Launch) (g : zG) {mem : zM} {p : Int} (hT : ∀ j : Int, 0 ≤ j → j < 80 → 0 ≤ mem 22 0 0 j ∧ mem 22 0 0 j < 65536) : zMet l g Y_X2_at [zr 6 0 0, zi p] mem (fun v m' => v = some (zi (if 0 ≤ p ∧ p < mem 6 0 0 0 ∧ p < 80 then mem 22 0 0 p else 0)) ∧ m' = mem) := by
  refine zMet_introF (by decide +kernel) (Nat.le_of_ble_eq_true rfl) (ls0 := [some (zr 6 0 0), some (zi p)]) rfl fun X hG hE => ?_
  have hG : zGood X l g RX2 cX2_at 0 2 := hG
  have hE : zEnd X (some .char) _ := hE
  refine z_iload_n (i := 1) hG dX2_at_0 rfl rfl ?_
  refine z_if_lt hG dX2_at_1 (tgt := 27) rfl (fun c1 => ?_) (fun c1 => ?_)
  · refine z_iconst hG dX2_at_27 rfl ?_
    refine z_iret hG hE dX2_at_28 (by first | exact ⟨by decide, by decide⟩ | exact hT p (by omega) (by omega)) ?_
    first | exact ⟨by rw [if_pos (by omega)], rfl⟩ | exact ⟨by rw [if_neg (by omega)], rfl⟩
  · refine z_iload_n (i := 1) hG dX2_at_4 rfl rfl ?_
    refine z_aload_n (i := 0) hG dX2_at_5 rfl rfl ?_
    refine z_getI hG dX2_at_6 FL_X2_15 rfl rfl (kk := 0) rfl ?_
    refine z_icmp_ge hG dX2_at_9 (tgt := 27) rfl (fun c9 => ?_) (fun c9 => ?_)
    · refine z_iconst hG dX2_at_27 rfl ?_
      refine z_iret hG hE dX2_at_28 (by first | exact ⟨by decide, by decide⟩ | exact hT p (by omega) (by omega)) ?_
      first | exact ⟨by rw [if_pos (by omega)], rfl⟩ | exact ⟨by rw [if_neg (by omega)], rfl⟩
    · refine z_iload_n (i := 1) hG dX2_at_12 rfl rfl ?_
      refine z_bipush hG dX2_at_13 rfl ?_
      refine z_icmp_ge hG dX2_at_15 (tgt := 27) rfl (fun c15 => ?_) (fun c15 => ?_)
      · refine z_iconst hG dX2_at_27 rfl ?_
        refine z_iret hG hE dX2_at_28 (by first | exact ⟨by decide, by decide⟩ | exact hT p (by omega) (by omega)) ?_
        first | exact ⟨by rw [if_pos (by omega)], rfl⟩ | exact ⟨by rw [if_neg (by omega)], rfl⟩
      · refine z_aload_n (i := 0) hG dX2_at_18 rfl rfl ?_
        refine z_get_2_1 hG dX2_at_19 FL_X2_9 ?_
        refine z_iload_n (i := 1) hG dX2_at_22 rfl rfl ?_
        refine z_cald hG dX2_at_23 rfl rfl (by omega) (by omega) ?_
        refine z_goto hG dX2_at_24 (tgt := 28) rfl ?_
        refine z_iret hG hE dX2_at_28 (by first | exact ⟨by decide, by decide⟩ | exact hT p (by omega) (by omega)) ?_
        first | exact ⟨by rw [if_pos (by omega)], rfl⟩ | exact ⟨by rw [if_neg (by omega)], rfl⟩
set_option maxRecDepth 20000 in
theorem ct_X4_hasStep (l : Launch) (g : zG) {mem : zM} {s i k : Int} : zMet l g Y_X4_hasStep [zr 4 s i, zi k] mem (fun v m' => v = some (zi (if 0 ≤ k ∧ k < mem 4 s i 2 ∧ k < 8 then 1 else 0)) ∧ m' = mem) := by
  refine zMet_introF (by decide +kernel) (Nat.le_of_ble_eq_true rfl) (ls0 := [some (zr 4 s i), some (zi k)]) rfl fun X hG hE => ?_
  have hG : zGood X l g RX4 cX4_hasStep 0 2 := hG
  have hE : zEnd X (some .boolean) _ := hE
  refine z_iload_n (i := 1) hG dX4_hasStep_0 rfl rfl ?_
  refine z_if_lt hG dX4_hasStep_1 (tgt := 22) rfl (fun c1 => ?_) (fun c1 => ?_)
  · refine z_iconst hG dX4_hasStep_22 rfl ?_
    refine z_iret hG hE dX4_hasStep_23 (by first | exact Or.inl rfl | exact Or.inr rfl | (show _ ∨ _; omega)) ?_
    first | exact ⟨by rw [if_pos (by omega)], rfl⟩ | exact ⟨by rw [if_neg (by omega)], rfl⟩
  · refine z_iload_n (i := 1) hG dX4_hasStep_4 rfl rfl ?_
    refine z_aload_n (i := 0) hG dX4_hasStep_5 rfl rfl ?_
    refine z_getI hG dX4_hasStep_6 FL_X4_29 rfl rfl (kk := 2) rfl ?_
    refine z_icmp_ge hG dX4_hasStep_9 (tgt := 22) rfl (fun c9 => ?_) (fun c9 => ?_)
    · refine z_iconst hG dX4_hasStep_22 rfl ?_
      refine z_iret hG hE dX4_hasStep_23 (by first | exact Or.inl rfl | exact Or.inr rfl | (show _ ∨ _; omega)) ?_
      first | exact ⟨by rw [if_pos (by omega)], rfl⟩ | exact ⟨by rw [if_neg (by omega)], rfl⟩
    · refine z_iload_n (i := 1) hG dX4_hasStep_12 rfl rfl ?_
      refine z_bipush hG dX4_hasStep_13 rfl ?_
      refine z_icmp_ge hG dX4_hasStep_15 (tgt := 22) rfl (fun c15 => ?_) (fun c15 => ?_)
      · refine z_iconst hG dX4_hasStep_22 rfl ?_
        refine z_iret hG hE dX4_hasStep_23 (by first | exact Or.inl rfl | exact Or.inr rfl | (show _ ∨ _; omega)) ?_
        first | exact ⟨by rw [if_pos (by omega)], rfl⟩ | exact ⟨by rw [if_neg (by omega)], rfl⟩
      · refine z_iconst hG dX4_hasStep_18 rfl ?_
        refine z_goto hG dX4_hasStep_19 (tgt := 23) rfl ?_
        refine z_iret hG hE dX4_hasStep_23 (by first | exact Or.inl rfl | exact Or.inr rfl | (show _ ∨ _; omega)) ?_
        first | exact ⟨by rw [if_pos (by omega)], rfl⟩ | exact ⟨by rw [if_neg (by omega)], rfl⟩
set_option maxRecDepth 20000 in
theorem ct_X7_hasIngredient (l : Launch) (g : zG) {mem : zM} {s i k : Int} : zMet l g Y_X7_hasIngredient [zr 2 s i, zi k] mem (fun v m' => v = some (zi (if 0 ≤ k ∧ k < mem 2 s i 4 ∧ k < 8 then 1 else 0)) ∧ m' = mem) := by
  refine zMet_introF (by decide +kernel) (Nat.le_of_ble_eq_true rfl) (ls0 := [some (zr 2 s i), some (zi k)]) rfl fun X hG hE => ?_
  have hG : zGood X l g RX7 cX7_hasIngredient 0 2 := hG
  have hE : zEnd X (some .boolean) _ := hE
  refine z_iload_n (i := 1) hG dX7_hasIngredient_0 rfl rfl ?_
  refine z_if_lt hG dX7_hasIngredient_1 (tgt := 22) rfl (fun c1 => ?_) (fun c1 => ?_)
  · refine z_iconst hG dX7_hasIngredient_22 rfl ?_
    refine z_iret hG hE dX7_hasIngredient_23 (by first | exact Or.inl rfl | exact Or.inr rfl | (show _ ∨ _; omega)) ?_
    first | exact ⟨by rw [if_pos (by omega)], rfl⟩ | exact ⟨by rw [if_neg (by omega)], rfl⟩
  · refine z_iload_n (i := 1) hG dX7_hasIngredient_4 rfl rfl ?_
    refine z_aload_n (i := 0) hG dX7_hasIngredient_5 rfl rfl ?_
    refine z_getI hG dX7_hasIngredient_6 FL_X7_38 rfl rfl (kk := 4) rfl ?_
    refine z_icmp_ge hG dX7_hasIngredient_9 (tgt := 22) rfl (fun c9 => ?_) (fun c9 => ?_)
    · refine z_iconst hG dX7_hasIngredient_22 rfl ?_
      refine z_iret hG hE dX7_hasIngredient_23 (by first | exact Or.inl rfl | exact Or.inr rfl | (show _ ∨ _; omega)) ?_
      first | exact ⟨by rw [if_pos (by omega)], rfl⟩ | exact ⟨by rw [if_neg (by omega)], rfl⟩
    · refine z_iload_n (i := 1) hG dX7_hasIngredient_12 rfl rfl ?_
      refine z_bipush hG dX7_hasIngredient_13 rfl ?_
      refine z_icmp_ge hG dX7_hasIngredient_15 (tgt := 22) rfl (fun c15 => ?_) (fun c15 => ?_)
      · refine z_iconst hG dX7_hasIngredient_22 rfl ?_
        refine z_iret hG hE dX7_hasIngredient_23 (by first | exact Or.inl rfl | exact Or.inr rfl | (show _ ∨ _; omega)) ?_
        first | exact ⟨by rw [if_pos (by omega)], rfl⟩ | exact ⟨by rw [if_neg (by omega)], rfl⟩
      · refine z_iconst hG dX7_hasIngredient_18 rfl ?_
        refine z_goto hG dX7_hasIngredient_19 (tgt := 23) rfl ?_
        refine z_iret hG hE dX7_hasIngredient_23 (by first | exact Or.inl rfl | exact Or.inr rfl | (show _ ∨ _; omega)) ?_
        first | exact ⟨by rw [if_pos (by omega)], rfl⟩ | exact ⟨by rw [if_neg (by omega)], rfl⟩
set_option maxRecDepth 20000 in
theorem ct_X7_hasRecipe (l : Launch) (g : zG) {mem : zM} {s i k : Int} : zMet l g Y_X7_hasRecipe [zr 2 s i, zi k] mem (fun v m' => v = some (zi (if 0 ≤ k ∧ k < mem 2 s i 5 ∧ k < 4 then 1 else 0)) ∧ m' = mem) := by
  refine zMet_introF (by decide +kernel) (Nat.le_of_ble_eq_true rfl) (ls0 := [some (zr 2 s i), some (zi k)]) rfl fun X hG hE => ?_
  have hG : zGood X l g RX7 cX7_hasRecipe 0 2 := hG
  have hE : zEnd X (some .boolean) _ := hE
  refine z_iload_n (i := 1) hG dX7_hasRecipe_0 rfl rfl ?_
  refine z_if_lt hG dX7_hasRecipe_1 (tgt := 21) rfl (fun c1 => ?_) (fun c1 => ?_)
  · refine z_iconst hG dX7_hasRecipe_21 rfl ?_
    refine z_iret hG hE dX7_hasRecipe_22 (by first | exact Or.inl rfl | exact Or.inr rfl | (show _ ∨ _; omega)) ?_
    first | exact ⟨by rw [if_pos (by omega)], rfl⟩ | exact ⟨by rw [if_neg (by omega)], rfl⟩
  · refine z_iload_n (i := 1) hG dX7_hasRecipe_4 rfl rfl ?_
    refine z_aload_n (i := 0) hG dX7_hasRecipe_5 rfl rfl ?_
    refine z_getI hG dX7_hasRecipe_6 FL_X7_41 rfl rfl (kk := 5) rfl ?_
    refine z_icmp_ge hG dX7_hasRecipe_9 (tgt := 21) rfl (fun c9 => ?_) (fun c9 => ?_)
    · refine z_iconst hG dX7_hasRecipe_21 rfl ?_
      refine z_iret hG hE dX7_hasRecipe_22 (by first | exact Or.inl rfl | exact Or.inr rfl | (show _ ∨ _; omega)) ?_
      first | exact ⟨by rw [if_pos (by omega)], rfl⟩ | exact ⟨by rw [if_neg (by omega)], rfl⟩
    · refine z_iload_n (i := 1) hG dX7_hasRecipe_12 rfl rfl ?_
      refine z_iconst hG dX7_hasRecipe_13 rfl ?_
      refine z_icmp_ge hG dX7_hasRecipe_14 (tgt := 21) rfl (fun c14 => ?_) (fun c14 => ?_)
      · refine z_iconst hG dX7_hasRecipe_21 rfl ?_
        refine z_iret hG hE dX7_hasRecipe_22 (by first | exact Or.inl rfl | exact Or.inr rfl | (show _ ∨ _; omega)) ?_
        first | exact ⟨by rw [if_pos (by omega)], rfl⟩ | exact ⟨by rw [if_neg (by omega)], rfl⟩
      · refine z_iconst hG dX7_hasRecipe_17 rfl ?_
        refine z_goto hG dX7_hasRecipe_18 (tgt := 22) rfl ?_
        refine z_iret hG hE dX7_hasRecipe_22 (by first | exact Or.inl rfl | exact Or.inr rfl | (show _ ∨ _; omega)) ?_
        first | exact ⟨by rw [if_pos (by omega)], rfl⟩ | exact ⟨by rw [if_neg (by omega)], rfl⟩
