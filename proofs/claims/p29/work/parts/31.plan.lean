/-- A PLAN, in words of no program: rows of numbers by ingredient: 0 needed, 1 replacing, 2 from the pantry, 3 bought, 4 left over, 5 replaced, 6 missing, 7 price, 8 to 10 tins of each kind -/
abbrev zPl : Type := Nat → Int → Int
/-- what a plan is made from: 0 needed by recipes, 1 the pantry, 2 can be bought, 3 kinds, 4 sizes, 5 prices, 6 the substitute, 7 its rate -/
abbrev zD : Type := Nat → Int → Int → Int
def zps0 (W : zPl) (a : Nat) (i v : Int) : zPl := fun a' i' => if a' = a ∧ i' = i then v else W a' i'
def zwt (D : zD) (i : Int) (x : Int × Int × Int) : Int := x.1 * D 4 i 0 + x.2.1 * D 4 i 1 + x.2.2 * D 4 i 2
def zct (D : zD) (i : Int) (x : Int × Int × Int) : Int := x.1 * D 5 i 0 + x.2.1 * D 5 i 1 + x.2.2 * D 5 i 2
noncomputable def zps (D : zD) (i : Int) (W : zPl) : zPl :=
  let fr := if D 1 i 0 < W 0 i then D 1 i 0 else W 0 i
  let left := W 0 i - fr
  let W1 := zps0 W 2 i fr
  if left ≤ 0 then W1
  else if D 2 i 0 ≠ 0 ∧ 0 < D 3 i 0 then
    let x := zbt (D 3 i 0) (D 4 i) (D 5 i) left
    zps0 (zps0 (zps0 (zps0 (zps0 (zps0 W1 3 i (zwt D i x)) 4 i (zwt D i x - left)) 7 i (zct D i x)) 8 i x.1) 9 i x.2.1) 10 i x.2.2
  else if 0 ≤ D 6 i 0 ∧ W 0 (D 6 i 0) + (left * D 7 i 0 + 100 - 1) / 100 ≤ 100000 then
    zps0 (zps0 (zps0 W1 5 i left) 1 (D 6 i 0) (W 1 (D 6 i 0) + (left * D 7 i 0 + 100 - 1) / 100)) 0 (D 6 i 0) (W 0 (D 6 i 0) + (left * D 7 i 0 + 100 - 1) / 100)
  else zps0 W1 6 i left
noncomputable def zpN (D : zD) : Nat → zPl
  | 0 => fun a i => if a = 0 then D 0 i 0 else 0
  | n + 1 => zps D n (zpN D n)
/-- the kitchen's arrays hold a plan -/
def zShop (m : zM) (W : zPl) : Prop := ∀ i : Int, 0 ≤ i → i < 8 → (m 23 0 0 i = W 0 i ∧ m 24 0 0 i = W 1 i ∧ m 25 0 0 i = W 2 i ∧ m 26 0 0 i = W 3 i ∧ m 27 0 0 i = W 4 i ∧ m 28 0 0 i = W 5 i ∧ m 29 0 0 i = W 6 i ∧ m 30 0 0 i = W 7 i) ∧ (m 32 0 i 0 = W 8 i ∧ m 32 0 i 1 = W 9 i ∧ m 32 0 i 2 = W 10 i)
/-- the tags that planning writes -/
def zscr (t : Nat) : Prop := t = 9 ∨ (23 ≤ t ∧ t ≤ 30) ∨ t = 32 ∨ (33 ≤ t ∧ t ≤ 38)
def zDc (m : zM) : zD := fun a i k => match a with
  | 0 => if 0 ≤ i ∧ i < m 2 0 0 4 ∧ i < 8 then zsum 4 (fun r => zscal m 0 r (m 17 0 r i)) else 0
  | 1 => zsum 30 (m 14 0 i)
  | 2 => m 3 0 i 1
  | 3 => m 3 0 i 2
  | 4 => m 12 0 i k
  | 5 => m 13 0 i k
  | 6 => m 3 0 i 5
  | 7 => m 3 0 i 6
  | _ => 0
/-- what planning stands on -/
def zpc (m : zM) : Prop := zrec m 0 ∧ (0 ≤ m 2 0 0 4 ∧ m 2 0 0 4 ≤ 8) ∧ ∀ i : Int, 0 ≤ i → i < 8 → zkin m 0 i ∧ (∀ j : Int, 0 ≤ j → j < 30 → 0 ≤ m 14 0 i j ∧ m 14 0 i j ≤ 12000000) ∧ (i < m 2 0 0 4 → m 3 0 i 5 = -6 ∨ (i < m 3 0 i 5 ∧ m 3 0 i 5 < m 2 0 0 4 ∧ 10 ≤ m 3 0 i 6 ∧ m 3 0 i 6 ≤ 200))
theorem zDc_congr {m m2 : zM} (h : ∀ (t : Nat) (s i k : Int), ¬ zscr t → m2 t s i k = m t s i k) : zDc m2 = zDc m := by
  have e : ∀ t : Nat, ¬ zscr t → m2 t = m t := fun t ht => by funext s i k; exact h t s i k ht
  have h2 := e 2 (by simp [zscr])
  have h3 := e 3 (by simp [zscr])
  have h4 := e 4 (by simp [zscr])
  have h12 := e 12 (by simp [zscr])
  have h13 := e 13 (by simp [zscr])
  have h14 := e 14 (by simp [zscr])
  have h17 := e 17 (by simp [zscr])
  funext a i k
  simp only [zDc, zscal, h2, h3, h4, h12, h13, h14, h17]
theorem zpc_congr {m m2 : zM} (h : ∀ (t : Nat) (s i k : Int), ¬ zscr t → m2 t s i k = m t s i k) (hp : zpc m) : zpc m2 := by
  have e : ∀ t : Nat, ¬ zscr t → m2 t = m t := fun t ht => by funext s i k; exact h t s i k ht
  have h2 := e 2 (by simp [zscr])
  have h3 := e 3 (by simp [zscr])
  have h4 := e 4 (by simp [zscr])
  have h12 := e 12 (by simp [zscr])
  have h13 := e 13 (by simp [zscr])
  have h14 := e 14 (by simp [zscr])
  have h17 := e 17 (by simp [zscr])
  unfold zpc zrec zkin at *
  simp only [h2, h3, h4, h12, h13, h14, h17]
  exact hp
set_option maxRecDepth 20000 in
theorem ct_X6_sum (l : Launch) (g : zG) {mem : zM} {t : Nat} (ht : zTO t = none) (ha : zTA t = some (0, 8)) (hB : ∀ j : Int, 0 ≤ j → j < 8 → -200000000 ≤ mem t 0 0 j ∧ mem t 0 0 j ≤ 200000000) : zMet l g Y_X6_sum [zr t 0 0] mem (fun v m' => v = some (zi (zsum 8 (mem t 0 0))) ∧ m' = mem) := by
  refine zMet_introF (by decide +kernel) (Nat.le_of_ble_eq_true rfl) (ls0 := [some (zr t 0 0), none, none, none, none, none]) rfl fun X hG hE => ?_
  have hG : zGood X l g RX6 cX6_sum 0 6 := hG
  have hE : zEnd X (some .int) _ := hE
  have hsm : ∀ n : Nat, n ≤ 8 → -200000000 * (n : Int) ≤ zsum n (mem t 0 0) ∧ zsum n (mem t 0 0) ≤ 200000000 * (n : Int) := by
    intro n
    induction n with
    | zero => intro _; simp [zsum]
    | succ n ih =>
      intro hn
      have h1 := ih (by omega)
      have h2 := hB n (by omega) (by omega)
      simp only [zsum]
      omega
  have loop : ∀ n j : Nat, j + n = 8 → zZ X 10 [some (zr t 0 0), some (zi (zsum j (mem t 0 0))), some (zr t 0 0), some (zi 8), some (zi j), none] [] mem := by
    intro n
    induction n with
    | zero =>
      intro j hj
      refine z_iload hG dX6_sum_10 rfl ?_
      refine z_iload_n (i := 3) hG dX6_sum_12 rfl rfl ?_
      refine z_icmp_ge hG dX6_sum_13 (tgt := 33) rfl (fun c13 => ?_) (fun c13 => ?_)
      · refine z_iload_n (i := 1) hG dX6_sum_33 rfl rfl ?_
        refine z_iret hG hE dX6_sum_34 trivial ?_
        have : j = 8 := by omega
        subst this
        exact ⟨rfl, rfl⟩
      · exact absurd c13 (by omega)
    | succ n ih =>
      intro j hj
      have hs := hsm j (by omega)
      have hk := hB j (by omega) (by omega)
      refine z_iload hG dX6_sum_10 rfl ?_
      refine z_iload_n (i := 3) hG dX6_sum_12 rfl rfl ?_
      refine z_icmp_ge hG dX6_sum_13 (tgt := 33) rfl (fun c13 => ?_) (fun c13 => ?_)
      · exact absurd c13 (by omega)
      · refine z_aload_n (i := 2) hG dX6_sum_16 rfl rfl ?_
        refine z_iload hG dX6_sum_17 rfl ?_
        refine z_iald hG dX6_sum_19 ht ha (by omega) (by omega) ?_
        refine z_istore hG dX6_sum_20 (by decide) (ls2 := [_, _, _, _, _, _]) rfl ?_
        refine z_iload_n (i := 1) hG dX6_sum_22 rfl rfl ?_
        refine z_iload hG dX6_sum_23 rfl ?_
        refine z_iadd hG dX6_sum_25 (by omega) (by omega) ?_
        refine z_istore_n (i := 1) hG dX6_sum_26 rfl (by decide) (ls2 := [_, _, _, _, _, _]) rfl ?_
        refine z_iinc hG dX6_sum_27 (by decide) rfl (by omega) (by omega) (ls2 := [_, _, _, _, _, _]) rfl ?_
        refine z_goto hG dX6_sum_30 (tgt := 10) rfl ?_
        exact z_forget [true, true, true, true, true, false] rfl (ih (j + 1) (by omega))
  refine z_iconst hG dX6_sum_0 rfl ?_
  refine z_istore_n (i := 1) hG dX6_sum_1 rfl (by decide) (ls2 := [_, _, _, _, _, _]) rfl ?_
  refine z_aload_n (i := 0) hG dX6_sum_2 rfl rfl ?_
  refine z_astore_n (i := 2) hG dX6_sum_3 rfl (by decide) (ls2 := [_, _, _, _, _, _]) rfl ?_
  refine z_aload_n (i := 2) hG dX6_sum_4 rfl rfl ?_
  refine z_alen (n := 8) hG dX6_sum_5 ht ha (by decide) rfl rfl ?_
  refine z_istore_n (i := 3) hG dX6_sum_6 rfl (by decide) (ls2 := [_, _, _, _, _, _]) rfl ?_
  refine z_iconst hG dX6_sum_7 rfl ?_
  refine z_istore hG dX6_sum_8 (by decide) (ls2 := [_, _, _, _, _, _]) rfl ?_
  exact loop 8 0 rfl
set_option maxRecDepth 20000 in
theorem ct_X6_clear (l : Launch) (g : zG) {mem : zM} {i : Int} (hi : 0 ≤ i ∧ i < 8) : zMet l g Y_X6_clear [zr 8 0 0, zi i] mem (fun v m' => v = none ∧ (∀ (t : Nat) (s i' k : Int), ¬ zscr t → m' t s i' k = mem t s i' k) ∧ (∀ (t : Nat) (k : Int), 33 ≤ t → m' t 0 0 k = mem t 0 0 k) ∧ (∀ k : Int, m' 9 0 0 k = mem 9 0 0 k) ∧ (∀ k : Int, m' 23 0 0 k = mem 23 0 0 k) ∧ (∀ (t : Nat) (j : Int), 24 ≤ t → t ≤ 30 → m' t 0 0 j = if j = i then 0 else mem t 0 0 j) ∧ (∀ j k : Int, m' 32 0 j k = if j = i ∧ 0 ≤ k ∧ k < 3 then 0 else mem 32 0 j k)) := by
  refine zMet_introF (by decide +kernel) (Nat.le_of_ble_eq_true rfl) (ls0 := [some (zr 8 0 0), some (zi i), none]) rfl fun X hG hE => ?_
  have hG : zGood X l g RX6 cX6_clear 0 3 := hG
  have hE : zEnd X (none) _ := hE
  have loop : ∀ (n : Nat) (j : Int) (m0 : zM), 0 ≤ j → j + n = 3 → (∀ m1, m1 = zfill m0 32 0 i 3 0 → zZ X 71 [some (zr 8 0 0), some (zi i), none] [] m1) → zZ X 51 [some (zr 8 0 0), some (zi i), some (zi j)] [] (zfill m0 32 0 i j 0) := by
    intro n
    induction n with
    | zero =>
      intro j m0 hj0 hj K
      refine z_iload_n (i := 2) hG dX6_clear_51 rfl rfl ?_
      refine z_iconst hG dX6_clear_52 rfl ?_
      refine z_icmp_ge hG dX6_clear_53 (tgt := 71) rfl (fun c53 => ?_) (fun c53 => ?_)
      · refine z_forget [true, true, false] rfl (K _ ?_)
        rw [show j = 3 by omega]
      · exact absurd c53 (by omega)
    | succ n ih =>
      intro j m0 hj0 hj K
      refine z_iload_n (i := 2) hG dX6_clear_51 rfl rfl ?_
      refine z_iconst hG dX6_clear_52 rfl ?_
      refine z_icmp_ge hG dX6_clear_53 (tgt := 71) rfl (fun c53 => ?_) (fun c53 => ?_)
      · exact absurd c53 (by omega)
      · refine z_aload_n (i := 0) hG dX6_clear_56 rfl rfl ?_
        refine z_get_6_8 hG dX6_clear_57 FL_X6_38 ?_
        refine z_iload_n (i := 1) hG dX6_clear_60 rfl rfl ?_
        refine z_aa_31 hG dX6_clear_61 (by omega) (by omega) ?_
        refine z_iload_n (i := 2) hG dX6_clear_62 rfl rfl ?_
        refine z_iconst hG dX6_clear_63 rfl ?_
        refine z_iast hG dX6_clear_64 rfl rfl (by omega) (by omega) ?_
        refine z_iinc hG dX6_clear_65 (by decide) rfl (by omega) (by omega) (ls2 := [_, _, _]) rfl ?_
        refine z_goto hG dX6_clear_68 (tgt := 51) rfl ?_
        exact z_mem (zfill_s hj0 rfl) (ih (j + 1) m0 (by omega) (by omega) K)
  refine z_aload_n (i := 0) hG dX6_clear_0 rfl rfl ?_
  refine z_get_6_1 hG dX6_clear_1 FL_X6_15 ?_
  refine z_iload_n (i := 1) hG dX6_clear_4 rfl rfl ?_
  refine z_iconst hG dX6_clear_5 rfl ?_
  refine z_iast hG dX6_clear_6 rfl rfl (by omega) (by omega) ?_
  refine z_aload_n (i := 0) hG dX6_clear_7 rfl rfl ?_
  refine z_get_6_2 hG dX6_clear_8 FL_X6_18 ?_
  refine z_iload_n (i := 1) hG dX6_clear_11 rfl rfl ?_
  refine z_iconst hG dX6_clear_12 rfl ?_
  refine z_iast hG dX6_clear_13 rfl rfl (by omega) (by omega) ?_
  refine z_aload_n (i := 0) hG dX6_clear_14 rfl rfl ?_
  refine z_get_6_3 hG dX6_clear_15 FL_X6_21 ?_
  refine z_iload_n (i := 1) hG dX6_clear_18 rfl rfl ?_
  refine z_iconst hG dX6_clear_19 rfl ?_
  refine z_iast hG dX6_clear_20 rfl rfl (by omega) (by omega) ?_
  refine z_aload_n (i := 0) hG dX6_clear_21 rfl rfl ?_
  refine z_get_6_4 hG dX6_clear_22 FL_X6_24 ?_
  refine z_iload_n (i := 1) hG dX6_clear_25 rfl rfl ?_
  refine z_iconst hG dX6_clear_26 rfl ?_
  refine z_iast hG dX6_clear_27 rfl rfl (by omega) (by omega) ?_
  refine z_aload_n (i := 0) hG dX6_clear_28 rfl rfl ?_
  refine z_get_6_5 hG dX6_clear_29 FL_X6_27 ?_
  refine z_iload_n (i := 1) hG dX6_clear_32 rfl rfl ?_
  refine z_iconst hG dX6_clear_33 rfl ?_
  refine z_iast hG dX6_clear_34 rfl rfl (by omega) (by omega) ?_
  refine z_aload_n (i := 0) hG dX6_clear_35 rfl rfl ?_
  refine z_get_6_6 hG dX6_clear_36 FL_X6_30 ?_
  refine z_iload_n (i := 1) hG dX6_clear_39 rfl rfl ?_
  refine z_iconst hG dX6_clear_40 rfl ?_
  refine z_iast hG dX6_clear_41 rfl rfl (by omega) (by omega) ?_
  refine z_aload_n (i := 0) hG dX6_clear_42 rfl rfl ?_
  refine z_get_6_7 hG dX6_clear_43 FL_X6_33 ?_
  refine z_iload_n (i := 1) hG dX6_clear_46 rfl rfl ?_
  refine z_iconst hG dX6_clear_47 rfl ?_
  refine z_iast hG dX6_clear_48 rfl rfl (by omega) (by omega) ?_
  refine z_iconst hG dX6_clear_49 rfl ?_
  refine z_istore_n (i := 2) hG dX6_clear_50 rfl (by decide) (ls2 := [_, _, _]) rfl ?_
  refine z_mem zfill_0.symm (loop 3 0 _ (by decide) rfl fun m1 hm1 => ?_)
  subst hm1
  refine z_vret hG hE dX6_clear_71 ?_
  refine ⟨rfl, fun t s i' k h => ?_, fun t k h => ?_, fun k => ?_, fun k => ?_, fun t j h0 h1 => ?_, fun j k => ?_⟩
  · unfold zscr at h
    simp only [zfill, zset]
    grind
  · simp only [zfill, zset]
    grind
  · simp only [zfill, zset]
    grind
  · simp only [zfill, zset]
    grind
  · simp only [zfill, zset]
    grind (splits := 30)
  · simp only [zfill, zset]
    grind
