theorem zMet_mono {l : Launch} {g : zG} {y : zY} {av : List zV} {mem : zM} {Rt Rt' : Option zV → zM → Prop} (h : zMet l g y av mem Rt) (hi : ∀ v m', Rt v m' → Rt' v m') : zMet l g y av mem Rt' := by
  intro hg hM hS
  have h2 := h hg hM hS
  intro p e ha hc hk s m args below hf happ hP ht
  obtain ⟨k, o, q1, q2, q3, ⟨⟨v, m', e1, e2, e3⟩, e4⟩, q6⟩ := h2 p e ha hc hk s m args below hf happ hP ht
  exact ⟨k, o, q1, q2, q3, ⟨⟨v, m', e1, hi v m' e2, e3⟩, e4⟩, q6⟩
theorem zRM_cg {a a' m m' : zM} (h : zRM a m) (ha : ∀ (t : Nat) (s i k : Int), (t = 1 ∨ t = 6 ∨ t = 21 ∨ t = 22 ∨ zrt t) → a' t s i k = a t s i k) (hm : ∀ (t : Nat) (s i k : Int), (t = 11 ∨ 45 ≤ t) → m' t s i k = m t s i k) : zRM a' m' :=
  zRM_pad h (fun t s i k _ hh => ha t s i k (by rcases hh with e | e | e; exact Or.inl e; exact Or.inr (Or.inr (Or.inl e)); exact Or.inr (Or.inr (Or.inr (Or.inr e))))) (fun t k hh => hm t 0 0 k (by omega)) (by rw [hm 11 0 0 6 (by omega), ha 6 0 0 0 (by omega)]; exact h.2.2.2.2.1) (fun j j0 j1 => by
    rw [ha 6 0 0 0 (by omega)] at j1
    rw [hm 49 0 0 j (by omega), ha 22 0 0 j (by omega)]
    exact h.2.2.2.2.2 j j0 j1)
theorem zInv_cg {B : Int} {a m : zM} (h : zInv B a) (hs : zsea m) (hm : ∀ (t : Nat) (s i k : Int), ((1 ≤ t ∧ t ≤ 6) ∨ (12 ≤ t ∧ t ≤ 14) ∨ t = 17 ∨ t = 21 ∨ t = 22) → m t s i k = a t s i k) : zInv B m := by
  obtain ⟨q1, hsea, hS, hp, ht, hi, h9⟩ := h
  refine ⟨by rw [hm 1 _ _ _ (by omega), hm 1 _ _ _ (by omega)]; exact q1, hs, fun s s0 s1 => zIS_cp (fun t i k hh => hm t s i k (by simp [zSt] at hh; omega)) (hS s s0 s1), by rw [hm 6 _ _ _ (by omega)]; exact hp, fun j j0 j1 => by rw [hm 22 _ _ _ (by omega)]; exact ht j j0 j1, fun s s0 s1 => by rw [hm 21 _ _ _ (by omega)]; exact hi s s0 s1, fun j j0 j1 => by rw [hm 5 _ _ _ (by omega)]; exact h9 j j0 j1⟩
theorem zsch_cg {a m : zM} (h : zsch a) (hm : ∀ (t : Nat) (s i k : Int), 39 ≤ t ∧ t < 45 → m t s i k = a t s i k) : zsch m := fun j j0 j1 => by
  rw [hm 39 _ _ _ (by omega), hm 41 _ _ _ (by omega), hm 42 _ _ _ (by omega)]
  exact h j j0 j1
/-- what holds at the head of the law's loop -/
def zHd (B : Int) (m : zM) : Prop := zInv B m ∧ zsch m ∧ zRM m m
/-- what holds behind a call of the kitchen's -/
def zCl (a' m1 : zM) : Prop := zEqa m1 a' ∧ zsea m1 ∧ zsch m1
theorem zCl_ex {B : Int} {mem a' m1 : zM} (h : zHd B mem) {B' : Int} (hI : zInv B' a') (hO : zOt a' mem) (he : m1 = a') : zCl a' m1 := by
  subst he
  exact ⟨fun _ _ _ _ _ => rfl, hI.2.1, zsch_cg h.2.1 (fun t s i k hh => hO t s i k (by omega))⟩
theorem zCl_eq {B : Int} {mem a' m1 : zM} (h : zHd B mem) (hO : zOt a' mem) (he : zEq m1 a' ∧ zsea m1) : zCl a' m1 :=
  ⟨fun t s i k hh => he.1 t s i k (fun z => hh (Or.inl z)), he.2, zsch_eq he.1 (zsch_cg h.2.1 (fun t s i k hh => hO t s i k (by omega)))⟩
theorem zCl_s {B : Int} {mem m1 : zM} (h : zHd B mem) (he : zEqs m1 mem ∧ zsch m1) : zCl mem m1 :=
  ⟨fun t s i k hh => he.1 t s i k (fun z => hh (Or.inr z)), zsea_eqs he.1 h.1.2.1, he.2⟩
theorem zCl_m {B : Int} {mem a' m1 : zM} (h : zHd B mem) (hO : zOt a' mem) (hc : zCl a' m1) : zRM mem m1 :=
  zRM_cg h.2.2 (fun _ _ _ _ _ => rfl) (fun t s i k hh => by rw [hc.1 t s i k (by simp only [zscr, zsct]; omega), hO t s i k (by omega)])
theorem zHd_next {B' : Int} {a' m1 m2 : zM} (hI : zInv B' a') (hc : zCl a' m1) (hR : zRM a' m2) (hk : zKt m2 m1) : zHd B' m2 := by
  have e : ∀ (t : Nat) (s i k : Int), ((1 ≤ t ∧ t ≤ 6) ∨ (12 ≤ t ∧ t ≤ 14) ∨ t = 17 ∨ t = 21 ∨ t = 22) → m2 t s i k = a' t s i k := fun t s i k hh => by
    rw [hk t s i k (by omega) (by omega), hc.1 t s i k (by simp only [zscr, zsct]; omega)]
  refine ⟨zInv_cg hI (fun j j0 j1 => ?_) e, zsch_cg hc.2.2 (fun t s i k hh => hk t s i k (by omega) (by omega)), zRM_cg hR (fun t s i k hh => e t s i k (by simp only [zrt] at hh; omega)) (fun _ _ _ _ _ => rfl)⟩
  rw [hk 36 _ _ _ (by decide) (by decide), hk 37 _ _ _ (by decide) (by decide)]
  exact hc.2.1 j j0 j1
/-- a call of the kitchen's and then the same of the model's: both answer alike -/
def zPair (l : Launch) (g : zG) (yx ym : zY) (args : List zV) (B : Int) (mem : zM) : Prop := ∃ ans : Int, zMet l g yx (zr 0 0 0 :: args) mem (fun v m1 => v = some (zi ans) ∧ zMet l g ym (zr 11 0 0 :: args) m1 (fun v' m2 => v' = some (zi ans) ∧ zHd (B + 22000) m2))
theorem zkO_cook {m : zM} (h0 : 0 ≤ m 1 0 0 1) : zOt (zk_cook m).2 m := by
  unfold zk_cook
  split
  · exact zOt_rf
  · intro t s i k hh
    simp only [zempty, zset]
    rw [if_neg (by omega), if_neg (by omega), if_neg (by omega), zcarry_out 8 _ (by omega)]
    exact zOt_recd (zOt_rf (m := m)) t s i k hh
theorem zk_about_2 {i w : Int} {m : zM} : (zk_about i w m).2 = m := rfl
theorem zk_ofRecipe_2 {i w : Int} {m : zM} : (zk_ofRecipe i w m).2 = m := rfl
theorem zpr_ingredient (l : Launch) (g : zG) {B : Int} {mem : zM} {d : Int} (hH : zHd B mem) (hB : B ≤ 11900000) : zPair l g Y_X10_ingredient Y_X11_ingredient [zi d] B mem := by
  have hk : zInv (B + 22000) (zk_ingredient d mem).2 ∧ zOt (zk_ingredient d mem).2 mem := zki_ingredient hH.1
  exact ⟨(zk_ingredient d mem).1, zMet_mono (ct_X10_ingredient l g hH.1 hB) (fun v m1 h => ⟨h.1, zMet_mono (ct_X11_ingredient l g hH.1 hB (zCl_m hH hk.2 (zCl_ex hH hk.1 hk.2 h.2))) (fun v' m2 h' => ⟨h'.1, zHd_next hk.1 (zCl_ex hH hk.1 hk.2 h.2) h'.2.1 h'.2.2⟩)⟩)⟩
theorem zpr_tin (l : Launch) (g : zG) {B : Int} {mem : zM} {i z p : Int} (hH : zHd B mem) (hB : B ≤ 11900000) : zPair l g Y_X10_tin Y_X11_tin [zi i, zi z, zi p] B mem := by
  have hk : zInv (B + 22000) (zk_tin i z p mem).2 ∧ zOt (zk_tin i z p mem).2 mem := zki_tin hH.1
  exact ⟨(zk_tin i z p mem).1, zMet_mono (ct_X10_tin l g hH.1 hB) (fun v m1 h => ⟨h.1, zMet_mono (ct_X11_tin l g hH.1 hB (zCl_m hH hk.2 (zCl_ex hH hk.1 hk.2 h.2))) (fun v' m2 h' => ⟨h'.1, zHd_next hk.1 (zCl_ex hH hk.1 hk.2 h.2) h'.2.1 h'.2.2⟩)⟩)⟩
theorem zpr_buyable (l : Launch) (g : zG) {B : Int} {mem : zM} {i x : Int} (hH : zHd B mem) (hB : B ≤ 11900000) : zPair l g Y_X10_buyable Y_X11_buyable [zi i, zi x] B mem := by
  have hk : zInv (B + 22000) (zk_buyable i x mem).2 ∧ zOt (zk_buyable i x mem).2 mem := zki_buyable hH.1
  exact ⟨(zk_buyable i x mem).1, zMet_mono (ct_X10_buyable l g hH.1 hB) (fun v m1 h => ⟨h.1, zMet_mono (ct_X11_buyable l g hH.1 hB (zCl_m hH hk.2 (zCl_ex hH hk.1 hk.2 h.2))) (fun v' m2 h' => ⟨h'.1, zHd_next hk.1 (zCl_ex hH hk.1 hk.2 h.2) h'.2.1 h'.2.2⟩)⟩)⟩
theorem zpr_substitute (l : Launch) (g : zG) {B : Int} {mem : zM} {i o q : Int} (hH : zHd B mem) (hB : B ≤ 11900000) : zPair l g Y_X10_substitute Y_X11_substitute [zi i, zi o, zi q] B mem := by
  have hk : zInv (B + 22000) (zk_substitute i o q mem).2 ∧ zOt (zk_substitute i o q mem).2 mem := zki_substitute hH.1
  exact ⟨(zk_substitute i o q mem).1, zMet_mono (ct_X10_substitute l g hH.1 hB) (fun v m1 h => ⟨h.1, zMet_mono (ct_X11_substitute l g hH.1 hB (zCl_m hH hk.2 (zCl_ex hH hk.1 hk.2 h.2))) (fun v' m2 h' => ⟨h'.1, zHd_next hk.1 (zCl_ex hH hk.1 hk.2 h.2) h'.2.1 h'.2.2⟩)⟩)⟩
theorem zpr_stock (l : Launch) (g : zG) {B : Int} {mem : zM} {i x : Int} (hH : zHd B mem) (hB : B ≤ 11900000) : zPair l g Y_X10_stock Y_X11_stock [zi i, zi x] B mem := by
  have hk : zInv (B + 22000) (zk_stock i x mem).2 ∧ zOt (zk_stock i x mem).2 mem := zki_stock hH.1
  exact ⟨(zk_stock i x mem).1, zMet_mono (ct_X10_stock l g hH.1 hB) (fun v m1 h => ⟨h.1, zMet_mono (ct_X11_stock l g hH.1 hB (zCl_m hH hk.2 (zCl_ex hH hk.1 hk.2 h.2))) (fun v' m2 h' => ⟨h'.1, zHd_next hk.1 (zCl_ex hH hk.1 hk.2 h.2) h'.2.1 h'.2.2⟩)⟩)⟩
theorem zpr_recipe (l : Launch) (g : zG) {B : Int} {mem : zM} (hH : zHd B mem) (hB : B ≤ 11900000) : zPair l g Y_X10_recipe Y_X11_recipe [] B mem := by
  have hk : zInv (B + 22000) (zk_recipe  mem).2 ∧ zOt (zk_recipe  mem).2 mem := zki_recipe hH.1
  exact ⟨(zk_recipe  mem).1, zMet_mono (ct_X10_recipe l g hH.1 hB) (fun v m1 h => ⟨h.1, zMet_mono (ct_X11_recipe l g hH.1 hB (zCl_m hH hk.2 (zCl_ex hH hk.1 hk.2 h.2))) (fun v' m2 h' => ⟨h'.1, zHd_next hk.1 (zCl_ex hH hk.1 hk.2 h.2) h'.2.1 h'.2.2⟩)⟩)⟩
theorem zpr_amount (l : Launch) (g : zG) {B : Int} {mem : zM} {r i x : Int} (hH : zHd B mem) (hB : B ≤ 11900000) : zPair l g Y_X10_amount Y_X11_amount [zi r, zi i, zi x] B mem := by
  have hk : zInv (B + 22000) (zk_amount r i x mem).2 ∧ zOt (zk_amount r i x mem).2 mem := zki_amount hH.1
  exact ⟨(zk_amount r i x mem).1, zMet_mono (ct_X10_amount l g hH.1 hB) (fun v m1 h => ⟨h.1, zMet_mono (ct_X11_amount l g hH.1 hB (zCl_m hH hk.2 (zCl_ex hH hk.1 hk.2 h.2))) (fun v' m2 h' => ⟨h'.1, zHd_next hk.1 (zCl_ex hH hk.1 hk.2 h.2) h'.2.1 h'.2.2⟩)⟩)⟩
theorem zpr_menu (l : Launch) (g : zG) {B : Int} {mem : zM} {r p : Int} (hH : zHd B mem) (hB : B ≤ 11900000) : zPair l g Y_X10_menu Y_X11_menu [zi r, zi p] B mem := by
  have hk : zInv (B + 22000) (zk_menu r p mem).2 ∧ zOt (zk_menu r p mem).2 mem := zki_menu hH.1
  exact ⟨(zk_menu r p mem).1, zMet_mono (ct_X10_menu l g hH.1 hB) (fun v m1 h => ⟨h.1, zMet_mono (ct_X11_menu l g hH.1 hB (zCl_m hH hk.2 (zCl_ex hH hk.1 hk.2 h.2))) (fun v' m2 h' => ⟨h'.1, zHd_next hk.1 (zCl_ex hH hk.1 hk.2 h.2) h'.2.1 h'.2.2⟩)⟩)⟩
theorem zpr_hands (l : Launch) (g : zG) {B : Int} {mem : zM} {x : Int} (hH : zHd B mem) (hB : B ≤ 11900000) : zPair l g Y_X10_hands Y_X11_hands [zi x] B mem := by
  have hk : zInv (B + 22000) (zk_hands x mem).2 ∧ zOt (zk_hands x mem).2 mem := zki_hands hH.1
  exact ⟨(zk_hands x mem).1, zMet_mono (ct_X10_hands l g hH.1 hB) (fun v m1 h => ⟨h.1, zMet_mono (ct_X11_hands l g hH.1 hB (zCl_m hH hk.2 (zCl_ex hH hk.1 hk.2 h.2))) (fun v' m2 h' => ⟨h'.1, zHd_next hk.1 (zCl_ex hH hk.1 hk.2 h.2) h'.2.1 h'.2.2⟩)⟩)⟩
theorem zpr_pass (l : Launch) (g : zG) {B : Int} {mem : zM} {d : Int} (hH : zHd B mem) (hB : B ≤ 11900000) : zPair l g Y_X10_pass Y_X11_pass [zi d] B mem := by
  have hk : zInv (B + 22000) (zk_pass d mem).2 ∧ zOt (zk_pass d mem).2 mem := zki_pass hH.1
  exact ⟨(zk_pass d mem).1, zMet_mono (ct_X10_pass l g hH.1 hB) (fun v m1 h => ⟨h.1, zMet_mono (ct_X11_pass l g hH.1 hB (zCl_m hH hk.2 (zCl_ex hH hk.1 hk.2 h.2))) (fun v' m2 h' => ⟨h'.1, zHd_next hk.1 (zCl_ex hH hk.1 hk.2 h.2) h'.2.1 h'.2.2⟩)⟩)⟩
theorem zpr_put (l : Launch) (g : zG) {B : Int} {mem : zM} {x : Int64} (hH : zHd B mem) (hB : B ≤ 11900000) : zPair l g Y_X10_put Y_X11_put [zl x] B mem := by
  have hk : zInv (B + 22000) (zk_put x mem).2 ∧ zOt (zk_put x mem).2 mem := zki_put hH.1
  exact ⟨(zk_put x mem).1, zMet_mono (ct_X10_put l g hH.1) (fun v m1 h => ⟨h.1, zMet_mono (ct_X11_put l g hH.1 (zCl_m hH hk.2 (zCl_ex hH hk.1 hk.2 h.2))) (fun v' m2 h' => ⟨h'.1, zHd_next hk.1 (zCl_ex hH hk.1 hk.2 h.2) h'.2.1 h'.2.2⟩)⟩)⟩
theorem zpr_wipe (l : Launch) (g : zG) {B : Int} {mem : zM} (hH : zHd B mem) (hB : B ≤ 11900000) : zPair l g Y_X10_wipe Y_X11_wipe [] B mem := by
  have hk : zInv (B + 22000) (zk_wipe  mem).2 ∧ zOt (zk_wipe  mem).2 mem := zki_wipe hH.1
  exact ⟨(zk_wipe  mem).1, zMet_mono (ct_X10_wipe l g hH.1 hB) (fun v m1 h => ⟨h.1, zMet_mono (ct_X11_wipe l g hH.1 hB (zCl_m hH hk.2 (zCl_ex hH hk.1 hk.2 h.2))) (fun v' m2 h' => ⟨h'.1, zHd_next hk.1 (zCl_ex hH hk.1 hk.2 h.2) h'.2.1 h'.2.2⟩)⟩)⟩
theorem zpr_fault (l : Launch) (g : zG) {B : Int} {mem : zM} (hH : zHd B mem) (hB : B ≤ 11900000) : zPair l g Y_X10_fault Y_X11_fault [] B mem := by
  have hk : zInv (B + 22000) (zk_fault  mem).2 ∧ zOt (zk_fault  mem).2 mem := zki_fault hH.1
  exact ⟨(zk_fault  mem).1, zMet_mono (ct_X10_fault l g hH.1 hB) (fun v m1 h => ⟨h.1, zMet_mono (ct_X11_fault l g hH.1 (zCl_m hH hk.2 (zCl_ex hH hk.1 hk.2 h.2))) (fun v' m2 h' => ⟨h'.1, zHd_next hk.1 (zCl_ex hH hk.1 hk.2 h.2) h'.2.1 h'.2.2.1⟩)⟩)⟩
theorem zpr_undo (l : Launch) (g : zG) {B : Int} {mem : zM} (hH : zHd B mem) (hB : B ≤ 11900000) : zPair l g Y_X10_undo Y_X11_undo [] B mem := by
  have hk : zInv (B + 22000) (zk_undo  mem).2 ∧ zOt (zk_undo  mem).2 mem := zki_undo hH.1
  exact ⟨(zk_undo  mem).1, zMet_mono (ct_X10_undo l g hH.1 hB) (fun v m1 h => ⟨h.1, zMet_mono (ct_X11_undo l g hH.1 hB (zCl_m hH hk.2 (zCl_ex hH hk.1 hk.2 h.2))) (fun v' m2 h' => ⟨h'.1, zHd_next hk.1 (zCl_ex hH hk.1 hk.2 h.2) h'.2.1 h'.2.2⟩)⟩)⟩
theorem zpr_save (l : Launch) (g : zG) {B : Int} {mem : zM} {p : Int} (hH : zHd B mem) (hB : B ≤ 11900000) : zPair l g Y_X10_save Y_X11_save [zi p] B mem := by
  have hk : zInv (B + 22000) (zk_save p mem).2 ∧ zOt (zk_save p mem).2 mem := zki_save hH.1
  exact ⟨(zk_save p mem).1, zMet_mono (ct_X10_save l g hH.1 hB) (fun v m1 h => ⟨h.1, zMet_mono (ct_X11_save l g hH.1 hB (zCl_m hH hk.2 (zCl_ex hH hk.1 hk.2 h.2))) (fun v' m2 h' => ⟨h'.1, zHd_next hk.1 (zCl_ex hH hk.1 hk.2 h.2) h'.2.1 h'.2.2⟩)⟩)⟩
theorem zpr_restore (l : Launch) (g : zG) {B : Int} {mem : zM} {p : Int} (hH : zHd B mem) (hB : B ≤ 11900000) : zPair l g Y_X10_restore Y_X11_restore [zi p] B mem := by
  have hk : zInv (B + 22000) (zk_restore p mem).2 ∧ zOt (zk_restore p mem).2 mem := zki_restore hH.1
  exact ⟨(zk_restore p mem).1, zMet_mono (ct_X10_restore l g hH.1 hB) (fun v m1 h => ⟨h.1, zMet_mono (ct_X11_restore l g hH.1 hB (zCl_m hH hk.2 (zCl_ex hH hk.1 hk.2 h.2))) (fun v' m2 h' => ⟨h'.1, zHd_next hk.1 (zCl_ex hH hk.1 hk.2 h.2) h'.2.1 h'.2.2⟩)⟩)⟩
theorem zpr_cook (l : Launch) (g : zG) {B : Int} {mem : zM} (hH : zHd B mem) (hB : B ≤ 11900000) : zPair l g Y_X10_cook Y_X11_cook [] B mem := by
  have hO : zOt (zk_cook mem).2 mem := zkO_cook hH.1.1.1.1
  exact ⟨(zk_cook mem).1, zMet_mono (ct_X10_cook l g hH.1 hB) (fun v m1 h => ⟨h.1, zMet_mono (ct_X11_cook l g hH.1 hB (zCl_m hH hO (zCl_eq hH hO h.2))) (fun v' m2 h' => ⟨h'.1, zHd_next (zki_cook hH.1 h'.2.2.2 hB).1 (zCl_eq hH hO h.2) h'.2.1 h'.2.2.1⟩)⟩)⟩
theorem zpr_about (l : Launch) (g : zG) {B : Int} {mem : zM} {i w : Int} (hH : zHd B mem) (hB : B ≤ 11900000) : zPair l g Y_X10_about Y_X11_about [zi i, zi w] B mem := by
  have hk : zInv (B + 22000) mem ∧ zOt mem mem := ⟨zInv_B (by omega) hH.1, zOt_rf⟩
  exact ⟨(zk_about i w mem).1, zMet_mono (ct_X10_about l g hH.1 hB) (fun v m1 h => ⟨h.1, zMet_mono (ct_X11_about l g hH.1 hB (zCl_m hH hk.2 (zCl_ex hH hk.1 hk.2 h.2))) (fun v' m2 h' => ⟨h'.1, zHd_next hk.1 (zCl_ex hH hk.1 hk.2 h.2) h'.2.1 h'.2.2⟩)⟩)⟩
theorem zpr_ofRecipe (l : Launch) (g : zG) {B : Int} {mem : zM} {r w : Int} (hH : zHd B mem) (hB : B ≤ 11900000) : zPair l g Y_X10_ofRecipe Y_X11_ofRecipe [zi r, zi w] B mem := by
  have hk : zInv (B + 22000) mem ∧ zOt mem mem := ⟨zInv_B (by omega) hH.1, zOt_rf⟩
  exact ⟨(zk_ofRecipe r w mem).1, zMet_mono (ct_X10_ofRecipe l g hH.1 hB) (fun v m1 h => ⟨h.1, zMet_mono (ct_X11_ofRecipe l g hH.1 hB (zCl_m hH hk.2 (zCl_ex hH hk.1 hk.2 h.2))) (fun v' m2 h' => ⟨h'.1, zHd_next hk.1 (zCl_ex hH hk.1 hk.2 h.2) h'.2.1 h'.2.2⟩)⟩)⟩
theorem zpr_needs (l : Launch) (g : zG) {B : Int} {mem : zM} {i w : Int} (hH : zHd B mem) (hB : B ≤ 11900000) : zPair l g Y_X10_needs Y_X11_needs [zi i, zi w] B mem := by
  have hk : zInv (B + 22000) mem ∧ zOt mem mem := ⟨zInv_B (by omega) hH.1, zOt_rf⟩
  exact ⟨(zk_needs i w mem), zMet_mono (ct_X10_needs l g hH.1 hB) (fun v m1 h => ⟨h.1, zMet_mono (ct_X11_needs l g hH.1 hB (zCl_m hH hk.2 (zCl_eq hH hk.2 h.2))) (fun v' m2 h' => ⟨h'.1, zHd_next hk.1 (zCl_eq hH hk.2 h.2) h'.2.1 h'.2.2⟩)⟩)⟩
theorem zpr_ofTin (l : Launch) (g : zG) {B : Int} {mem : zM} {i k w : Int} (hH : zHd B mem) (hB : B ≤ 11900000) : zPair l g Y_X10_ofTin Y_X11_ofTin [zi i, zi k, zi w] B mem := by
  have hk : zInv (B + 22000) mem ∧ zOt mem mem := ⟨zInv_B (by omega) hH.1, zOt_rf⟩
  exact ⟨(zk_ofTin i k w mem), zMet_mono (ct_X10_ofTin l g hH.1 hB) (fun v m1 h => ⟨h.1, zMet_mono (ct_X11_ofTin l g hH.1 hB (zCl_m hH hk.2 (zCl_eq hH hk.2 h.2))) (fun v' m2 h' => ⟨h'.1, zHd_next hk.1 (zCl_eq hH hk.2 h.2) h'.2.1 h'.2.2⟩)⟩)⟩
theorem zpr_ifBuyable (l : Launch) (g : zG) {B : Int} {mem : zM} {i b : Int} (hH : zHd B mem) (hB : B ≤ 11900000) : zPair l g Y_X10_ifBuyable Y_X11_ifBuyable [zi i, zi b] B mem := by
  have hk : zInv (B + 22000) mem ∧ zOt mem mem := ⟨zInv_B (by omega) hH.1, zOt_rf⟩
  exact ⟨(zk_ifBuyable i b mem), zMet_mono (ct_X10_ifBuyable l g hH.1 hB) (fun v m1 h => ⟨h.1, zMet_mono (ct_X11_ifBuyable l g hH.1 hB (zCl_m hH hk.2 (zCl_eq hH hk.2 h.2))) (fun v' m2 h' => ⟨h'.1, zHd_next hk.1 (zCl_eq hH hk.2 h.2) h'.2.1 h'.2.2⟩)⟩)⟩
theorem zpr_bestPortions (l : Launch) (g : zG) {B : Int} {mem : zM} {r a z : Int} (hH : zHd B mem) (hB : B ≤ 11900000) : zPair l g Y_X10_bestPortions Y_X11_bestPortions [zi r, zi a, zi z] B mem := by
  have hk : zInv (B + 22000) mem ∧ zOt mem mem := ⟨zInv_B (by omega) hH.1, zOt_rf⟩
  exact ⟨(zk_bestPortions r a z mem), zMet_mono (ct_X10_bestPortions l g hH.1 hB) (fun v m1 h => ⟨h.1, zMet_mono (ct_X11_bestPortions l g hH.1 hB (zCl_m hH hk.2 (zCl_eq hH hk.2 h.2))) (fun v' m2 h' => ⟨h'.1, zHd_next hk.1 (zCl_eq hH hk.2 h.2) h'.2.1 h'.2.2⟩)⟩)⟩
theorem zpr_step (l : Launch) (g : zG) {B : Int} {mem : zM} {r k w : Int} (hH : zHd B mem) (hB : B ≤ 11900000) : zPair l g Y_X10_step Y_X11_step [zi r, zi k, zi w] B mem := by
  have hk : zInv (B + 22000) mem ∧ zOt mem mem := ⟨zInv_B (by omega) hH.1, zOt_rf⟩
  exact ⟨(zk_step r k w mem), zMet_mono (ct_X10_step l g hH.1 hB hH.2.1) (fun v m1 h => ⟨h.1, zMet_mono (ct_X11_step l g hH.1 hB (zCl_m hH hk.2 (h.2))) (fun v' m2 h' => ⟨h'.1, zHd_next hk.1 (h.2) h'.2.1 h'.2.2⟩)⟩)⟩
theorem zpr_count (l : Launch) (g : zG) {B : Int} {mem : zM} {w : Int} (hH : zHd B mem) (hB : B ≤ 11900000) : zPair l g Y_X10_count Y_X11_count [zi w] B mem := by
  have hk : zInv (B + 22000) mem ∧ zOt mem mem := ⟨zInv_B (by omega) hH.1, zOt_rf⟩
  exact ⟨(zk_count w mem), zMet_mono (ct_X10_count l g hH.1 hB hH.2.1) (fun v m1 h => ⟨h.1, zMet_mono (ct_X11_count l g hH.1 hB (zCl_m hH hk.2 (h.2))) (fun v' m2 h' => ⟨h'.1, zHd_next hk.1 (h.2) h'.2.1 h'.2.2⟩)⟩)⟩
theorem zpr_fewestHands (l : Launch) (g : zG) {B : Int} {mem : zM} {t : Int} (hH : zHd B mem) (hB : B ≤ 11900000) : zPair l g Y_X10_fewestHands Y_X11_fewestHands [zi t] B mem := by
  have hk : zInv (B + 22000) mem ∧ zOt mem mem := ⟨zInv_B (by omega) hH.1, zOt_rf⟩
  exact ⟨(zk_fewestHands t mem), zMet_mono (ct_X10_fewestHands l g hH.1 hB hH.2.1) (fun v m1 h => ⟨h.1, zMet_mono (ct_X11_fewestHands l g hH.1 hB (zCl_m hH hk.2 (zCl_s hH h.2))) (fun v' m2 h' => ⟨h'.1, zHd_next hk.1 (zCl_s hH h.2) h'.2.1 h'.2.2⟩)⟩)⟩
