/-! WHAT IS NEW: constructors, over a world that grows -/
def zAO2 (U : State) : Prop := (Cond.arrayOver (.array .int)).before #[] U = true
theorem zAO2.moved {u U : State} (hvm : u.vm.Alike U.vm) (h : zAO2 u) : zAO2 U := by
  unfold zAO2 Cond.before Cond.holds at h ⊢
  simp only [Cond.value, beq_iff_eq] at h ⊢
  have f : ∀ n, U.vm.findClass n = u.vm.findClass n := fun n => hvm.findClass n _
  rw [Option.bind_eq_some_iff] at h ⊢
  obtain ⟨comp, h1, h2⟩ := h
  refine ⟨comp, by rw [f]; exact h1, ?_⟩
  rw [Option.bind_eq_some_iff] at h2 ⊢
  obtain ⟨c, h3, h4⟩ := h2
  have fi := va_idx_bare U.vm comp
  rw [hvm.bare_eq] at fi
  refine ⟨c, (fi.symm.trans (va_idx_bare u.vm comp)).trans h3, ?_⟩
  rw [Option.map_eq_some_iff] at h4 ⊢
  obtain ⟨k, h5, h6⟩ := h4
  obtain ⟨k', hk', he⟩ := hvm.2.2 _ _ h5
  refine ⟨k', hk', ?_⟩
  have e : k'.kind = k.kind := by rw [he]
  simp only [e, f]
  exact h6
def zAOn : List String := ["TinKitchen$State", "TinKitchen$Ingredient", "TinKitchen$Recipe", "TinKitchen$Step"]
/-- links to a nest mate's private constructor -/
def zNL2 : List (String × Nat × MethodName × String) := [(RX4, 21, yX8_init, RX10), (RX7, 27, yX1_init, RX10), (RX10, 33, yX3_init, RX10), (RX3, 20, yX2_init, RX10), (RX10, 45, yX6_init, RX10), (RX6, 43, yX9_init, RX10), (RX10, 52, yX5_init, RX10)]
def zNW2 : List Cond := zNL2.map fun q => .methodLinkNest q.1 q.2.1 q.2.2.1 q.2.2.2
def zAOs (U : State) : Prop := (∀ C ∈ zAOn, va_AO C U) ∧ zAO2 U ∧ ∀ w ∈ zNW2, va_Nw w U
theorem zAOs.warm {s U : State} (hW : s.WarmedH U.vm) (h : zAOs s) : zAOs U := ⟨fun C hC => (h.1 C hC).moved hW.alike, h.2.1.moved hW.alike, fun w hw => by
  have h1 := h.2.2 w hw
  obtain ⟨r, -, rfl⟩ := List.mem_map.mp hw
  exact va_Nw.warmM hW h1⟩
theorem zAOs.same {u U : State} (hv : u.vm = U.vm) (h : zAOs u) : zAOs U := ⟨fun C hC => (h.1 C hC).moved (by rw [← hv]; exact Vm.Alike.refl u.vm), h.2.1.moved (by rw [← hv]; exact Vm.Alike.refl u.vm), fun w hw => by
  have h1 := h.2.2 w hw
  obtain ⟨r, -, rfl⟩ := List.mem_map.mp hw
  exact va_Nw.same rfl hv h1⟩
/-- what is built: its cells are as they shall be, at addresses of their own -/
def zBl (g : zG) (S : zO → Prop) (ad : zO → Nat) (ow : va_W) (A : Nat → Prop) (H : Heap) : Prop := (∀ o, S o → va_at g.1 vwCl (ad o, zent (g.1, ad, g.2.2) zM0 o) H ∧ A (ad o) ∧ ∀ x ∈ ow, x.1 ≠ ad o) ∧ ∀ o o', S o → S o' → ad o = ad o' → o = o'
/-- the machine in a constructor: ow are the cells in work, S those that are built -/
def zNw (X : zX) (A : Nat → Prop) (pc : Nat) (lv : List (Nat × Value)) (st : List Value) (ow : va_W) (wo : List Nat) (S : zO → Prop) (ad : zO → Nat) (cl sl : Nat) : Prop := match X with
  | (p, l, e, R, s, m, args, below, meth, c, Q, g, kc, ks) => ∀ (H : Heap) (locs : List Loc) (lsA : Array Slot), va_P g.1 vwCl ow H → va_D A ow → zBl g S ad ow A H → va_S A s.heap H locs → (∀ q ∈ locs, q.base ∈ wo) → lv_has lsA c.maxLocals lv → W p l e R s m args below meth c H locs cl sl Q (F0 m pc lsA st)
/-- what holds of a constructor that runs -/
def zNc (X : zX) (A : Nat → Prop) (l : Launch) (g : zG) (own : String) (cc : ByteArray) (h nL : Nat) : Prop := match X with
  | (p, l2, e, R, s, m, args, below, meth, c, Q, g2, kc, ks) => p.tables.exec = Jvm.exec ∧ c.code = cc ∧ c.maxLocals = nL ∧ s.vm.findClass own = some m.cls ∧ (∀ w ∈ zW, w.before args s = true) ∧ va_K g.1 vwCl (zTYS g) s ∧ zAOs s ∧ h ≤ R.frames ∧ 38 * h ≤ R.locals ∧ meth.locks = false ∧ l2 = l ∧ g2 = g ∧ ∀ q, s.heap.size ≤ q → A q
def zXr (X : zX) : Room := X.2.2.2.1
def zXm (X : zX) : Method := X.2.2.2.2.2.2.2.2.1
section NROWS
variable {X : zX} {A : Nat → Prop} {l : Launch} {g : zG} {own : String} {cc : ByteArray} {h nL pc cl sl : Nat} {lv : List (Nat × Value)} {st : List Value} {ow : va_W} {wo : List Nat} {S : zO → Prop} {ad : zO → Nat}
theorem n_aload_n (hC : zNc X A l g own cc h nL) {k : Fin 4} {i x : Nat} (j : Nat) (hd : decode cc pc = .ok (.aload_n k, 1)) (hi : (k : Nat) = i) (hj : lv[j]? = some (i, .ref x)) (K : zNw X A (pc + 1) lv (.ref x :: st) ow wo S ad cl sl) : zNw X A pc lv st ow wo S ad cl sl := by
  obtain ⟨p, l, e, R, s, m, args, below, meth, c, Q, g, kc, ks⟩ := X
  obtain ⟨hx, hb, hml, hown, hts, hK, hAO, hR1, hR2, hlk, hl2, hg2, hA⟩ := hC
  subst hl2 hg2
  intro H locs lsA hP hD hB hS hw hl
  refine lv_aload_n hx hb hd hi (lv_at hl j hj) ?_
  exact K H locs lsA hP hD hB hS hw hl
theorem n_iload_n (hC : zNc X A l g own cc h nL) {k : Fin 4} {i : Nat} {x : Int32} (j : Nat) (hd : decode cc pc = .ok (.iload_n k, 1)) (hi : (k : Nat) = i) (hj : lv[j]? = some (i, .int x)) (K : zNw X A (pc + 1) lv (.int x :: st) ow wo S ad cl sl) : zNw X A pc lv st ow wo S ad cl sl := by
  obtain ⟨p, l, e, R, s, m, args, below, meth, c, Q, g, kc, ks⟩ := X
  obtain ⟨hx, hb, hml, hown, hts, hK, hAO, hR1, hR2, hlk, hl2, hg2, hA⟩ := hC
  subst hl2 hg2
  intro H locs lsA hP hD hB hS hw hl
  refine lv_iload_n hx hb hd hi (lv_at hl j hj) ?_
  exact K H locs lsA hP hD hB hS hw hl
theorem n_iconst (hC : zNc X A l g own cc h nL) {n : Int} (hd : decode cc pc = .ok (.iconst n, 1)) (K : zNw X A (pc + 1) lv (.int (Int32.ofInt n) :: st) ow wo S ad cl sl) : zNw X A pc lv st ow wo S ad cl sl := by
  obtain ⟨p, l, e, R, s, m, args, below, meth, c, Q, g, kc, ks⟩ := X
  obtain ⟨hx, hb, hml, hown, hts, hK, hAO, hR1, hR2, hlk, hl2, hg2, hA⟩ := hC
  subst hl2 hg2
  intro H locs lsA hP hD hB hS hw hl
  refine lv_iconst hx hb hd (v := Int32.ofInt n) rfl ?_
  exact K H locs lsA hP hD hB hS hw hl
theorem n_bipush (hC : zNc X A l g own cc h nL) {n : Int} (hd : decode cc pc = .ok (.bipush n, 2)) (hn : zb8 n = true) (K : zNw X A (pc + 2) lv (.int (Int32.ofInt n) :: st) ow wo S ad cl sl) : zNw X A pc lv st ow wo S ad cl sl := by
  obtain ⟨p, l, e, R, s, m, args, below, meth, c, Q, g, kc, ks⟩ := X
  obtain ⟨hx, hb, hml, hown, hts, hK, hAO, hR1, hR2, hlk, hl2, hg2, hA⟩ := hC
  subst hl2 hg2
  intro H locs lsA hP hD hB hS hw hl
  refine lv_bipush hx hb hd (v := Int32.ofInt n) (zb8_v hn) ?_
  exact K H locs lsA hP hD hB hS hw hl
theorem n_sipush (hC : zNc X A l g own cc h nL) {n : Int} (hd : decode cc pc = .ok (.sipush n, 3)) (hn : zb16 n = true) (K : zNw X A (pc + 3) lv (.int (Int32.ofInt n) :: st) ow wo S ad cl sl) : zNw X A pc lv st ow wo S ad cl sl := by
  obtain ⟨p, l, e, R, s, m, args, below, meth, c, Q, g, kc, ks⟩ := X
  obtain ⟨hx, hb, hml, hown, hts, hK, hAO, hR1, hR2, hlk, hl2, hg2, hA⟩ := hC
  subst hl2 hg2
  intro H locs lsA hP hD hB hS hw hl
  refine lv_sipush hx hb hd (v := Int32.ofInt n) (zb16_v hn) ?_
  exact K H locs lsA hP hD hB hS hw hl
theorem n_dup (hC : zNc X A l g own cc h nL) {q : Nat} (hd : decode cc pc = .ok (.dup, 1)) (K : zNw X A (pc + 1) lv (.ref q :: .ref q :: st) ow wo S ad cl sl) : zNw X A pc lv (.ref q :: st) ow wo S ad cl sl := by
  obtain ⟨p, l, e, R, s, m, args, below, meth, c, Q, g, kc, ks⟩ := X
  obtain ⟨hx, hb, hml, hown, hts, hK, hAO, hR1, hR2, hlk, hl2, hg2, hA⟩ := hC
  subst hl2 hg2
  intro H locs lsA hP hD hB hS hw hl
  refine lv_dup hx hb hd rfl ?_
  exact K H locs lsA hP hD hB hS hw hl
theorem n_goto (hC : zNc X A l g own cc h nL) {off : Int} {tgt : Nat} (hd : decode cc pc = .ok (.goto off, 3)) (ht : (pc : Int) + off = (tgt : Int)) (K : zNw X A tgt lv st ow wo S ad cl sl) : zNw X A pc lv st ow wo S ad cl sl := by
  obtain ⟨p, l, e, R, s, m, args, below, meth, c, Q, g, kc, ks⟩ := X
  obtain ⟨hx, hb, hml, hown, hts, hK, hAO, hR1, hR2, hlk, hl2, hg2, hA⟩ := hC
  subst hl2 hg2
  intro H locs lsA hP hD hB hS hw hl
  refine lv_goto hx hb hd ht ?_
  exact K H locs lsA hP hD hB hS hw hl
theorem n_widen {cl' sl' : Nat} (h1 : cl ≤ cl') (h2 : sl ≤ sl') (K : zNw X A pc lv st ow wo S ad cl' sl') : zNw X A pc lv st ow wo S ad cl sl := by
  obtain ⟨p, l, e, R, s, m, args, below, meth, c, Q, g, kc, ks⟩ := X
  intro H locs lsA hP hD hB hS hw hl
  exact W.widen h1 h2 (K H locs lsA hP hD hB hS hw hl)
theorem n_objInit (hC : zNc X A l g own cc h nL) {i q : Nat} (hh : 1 ≤ h) (hd : decode cc pc = .ok (.invokespecial i, 3)) (hw1 : Cond.methodLink own i Lib.objectInit ∈ zW) (hw2 : Cond.instanceMethod Lib.objectInit ∈ zW) (hw3 : Cond.code Lib.objectInit { data := #[177] } 1 none ∈ zW) (K : zNw X A (pc + 3) lv [] ow wo S ad cl sl) : zNw X A pc lv [.ref q] ow wo S ad cl sl := by
  obtain ⟨p, l, e, R, s, m, args, below, meth, c, Q, g, kc, ks⟩ := X
  obtain ⟨hx, hb, hml, hown, hts, hK, hAO, hR1, hR2, hlk, hl2, hg2, hA⟩ := hC
  subst hl2 hg2
  intro H locs lsA hP hD hB hS hw hl
  refine W.objInit (g := F0 m pc lsA [.ref q]) hx hb hown (hts _ hw1) (hts _ hw2) (hts _ hw3) rfl hl.1 rfl hd (by omega) (by simp only [F0, List.map_nil, List.sum_nil]; omega) ?_
  exact W.eq rfl (K H locs lsA hP hD hB hS hw hl)
/-- cells in work are written, what is built stays -/
theorem zBl_w {ow' : va_W} {H H1 : Heap} {s : State} {locs locs1 : List Loc} (hB : zBl g S ad ow A H) (hS : va_S A s.heap H locs) (hD : va_D A ow) (ho : ∀ x ∈ ow', ∃ y ∈ ow, y.1 = x.1) (hS1 : va_S (fun q => ∃ x ∈ ow, x.1 = q) H H1 locs1) : zBl g S ad ow' A H1 ∧ va_S A s.heap H1 locs1 ∧ ∀ q ∈ locs1, q.base ∈ ow.map Prod.fst := by
  have hAo : ∀ x ∈ ow, A x.1 := fun x hx => by
    obtain ⟨k, hk⟩ := List.getElem?_of_mem hx
    exact hD.2 k x hk
  refine ⟨⟨fun o ho2 => ?_, hB.2⟩, ⟨Nat.le_trans hS.1 hS1.1, fun q h1 h2 => ?_, fun q hq => ?_⟩, fun q hq => ?_⟩
  · obtain ⟨b1, b2, b3⟩ := hB.1 o ho2
    refine ⟨b1.kept (hS1.2.1 _ b1.lt (fun ⟨x, hx, e⟩ => b3 x hx e)), b2, fun x hx => ?_⟩
    obtain ⟨y, hy, e⟩ := ho x hx
    rw [← e]
    exact b3 y hy
  · rw [hS1.2.1 q (Nat.lt_of_lt_of_le h1 hS.1) (fun ⟨x, hx, e⟩ => h2 (by rw [← e]; exact hAo x hx))]
    exact hS.2.1 q h1 h2
  · obtain ⟨x, hx, e⟩ := hS1.2.2 q hq
    rw [← e]
    exact hAo x hx
  · obtain ⟨x, hx, e⟩ := hS1.2.2 q hq
    exact List.mem_map.mpr ⟨x, hx, e⟩
theorem zown_set {k a : Nat} {e : va_E} {x0 : Nat × va_E} (he : ow[k]? = some (a, x0.2)) : ∀ x ∈ ow.set k (a, e), ∃ y ∈ ow, y.1 = x.1 := fun x hx => by
  rcases List.mem_or_eq_of_mem_set hx with h | h
  · exact ⟨x, h, rfl⟩
  · exact ⟨_, List.mem_of_getElem? he, by rw [h]⟩
theorem zown_S {H : Heap} {locs : List Loc} (hw : ∀ q ∈ locs, q.base ∈ wo) (hwo : ∀ x ∈ wo, x ∈ ow.map Prod.fst) : va_S (fun q => ∃ x ∈ ow, x.1 = q) H H locs := ⟨Nat.le_refl _, fun _ _ _ => rfl, fun q hq => by
  obtain ⟨x, hx, e⟩ := List.mem_map.mp (hwo _ (hw q hq))
  exact ⟨x, hx, e⟩⟩
theorem zown_D (hD : va_D A ow) : va_D (fun q => ∃ x ∈ ow, x.1 = q) ow := ⟨hD.1, fun k q hq => ⟨q, List.mem_of_getElem? hq, rfl⟩⟩
/-- own's place i names the field k of class ci, final: of a reference -/
def zFF (own : String) (i ci k : Nat) : Prop := ∃ (C : String) (T : u_T) (N : Nat) (ty0 : Nat → FieldType), vwCl[ci]? = some (C, T, N) ∧ k < N ∧ (T k).1 = C ∧ Cond.fieldLink own i C (T k).2.1 (T k).2.2.1 ∈ zW ∧ (∀ w ∈ u_ws C T N, w ∈ zW) ∧
  (∀ k, k < N → parseFieldDescriptor (T k).2.2.1 = some (ty0 k)) ∧ (∀ a, a < N → ∀ b, b < N → a ≠ b → (T a).2.1 ≠ (T b).2.1) ∧ (T k).2.2.2 = true ∧ C = own ∧ ∀ q : Nat, narrow (ty0 k) (.ref q) = .ref q ∧ fits (ty0 k) (.ref q) = true
theorem n_put (hC : zNc X A l g own cc h nL) {i ci k a : Nat} {v : Int32} {ty : FieldType} {fs : List Value} (hd : decode cc pc = .ok (.putfield i, 3)) (hw2 : zFP own i ci k ty) (hn : narrow ty (.int v) = .int v) (hfit : fits ty (.int v) = true) (he : ow[0]? = some (a, .inr (ci, fs))) (hkl : k < fs.length) (hwo : ∀ x ∈ wo, x ∈ ow.map Prod.fst) (K : zNw X A (pc + 3) lv st (ow.set 0 (a, .inr (ci, fs.set k (.int v)))) (ow.map Prod.fst) S ad cl sl) : zNw X A pc lv (.int v :: .ref a :: st) ow wo S ad cl sl := by
  obtain ⟨p, l, e, R, s, m, args, below, meth, c, Q, g, kc, ks⟩ := X
  obtain ⟨hx, hb, hml, hown, hts, hK, hAO, hR1, hR2, hlk, hl2, hg2, hA⟩ := hC
  subst hl2 hg2
  intro H locs lsA hP hD hB hS hw hl
  obtain ⟨C, T, N, ty0, hc, hnf, hkN, hC, hlw, hin, hty, hnm, hfin, hty2⟩ := hw2
  refine va_put (D := g.1) (Ts := zW) hx hb hts hin ty0 hty hnm hown hK hP (zown_D hD) (zown_S (H := H) hw hwo) 0 he hc k hkN (hts _ hlw) (by rw [hC]; exact fun _ z => z) hfin (ty := ty) (by rw [hty k hkN, hty2]) hn hfit hkl hd fun H1 locs1 hP1 _ hS1 => ?_
  have hz := zBl_w (ow' := ow.set 0 (a, .inr (ci, fs.set k (.int v)))) hB hS hD (zown_set (x0 := (a, .inr (ci, fs))) he) hS1
  exact K H1 locs1 lsA hP1 (hD.set he) hz.1 hz.2.1 hz.2.2 hl
theorem n_putF (hC : zNc X A l g own cc h nL) (hin2 : (zXm X).name = "<init>") {i ci k a v : Nat} {fs : List Value} (hd : decode cc pc = .ok (.putfield i, 3)) (hw2 : zFF own i ci k) (he : ow[0]? = some (a, .inr (ci, fs))) (hkl : k < fs.length) (hwo : ∀ x ∈ wo, x ∈ ow.map Prod.fst) (K : zNw X A (pc + 3) lv st (ow.set 0 (a, .inr (ci, fs.set k (.ref v)))) (ow.map Prod.fst) S ad cl sl) : zNw X A pc lv (.ref v :: .ref a :: st) ow wo S ad cl sl := by
  obtain ⟨p, l, e, R, s, m, args, below, meth, c, Q, g, kc, ks⟩ := X
  obtain ⟨hx, hb, hml, hown, hts, hK, hAO, hR1, hR2, hlk, hl2, hg2, hA⟩ := hC
  subst hl2 hg2
  intro H locs lsA hP hD hB hS hw hl
  obtain ⟨C, T, N, ty0, hc, hkN, hC, hlw, hin, hty, hnm, hfin, hCo, hv⟩ := hw2
  refine va_putF (D := g.1) (Ts := zW) hx hb hts hin ty0 hty hnm hown hK hP (zown_D hD) (zown_S (H := H) hw hwo) 0 he hc k hkN (hts _ hlw) (by rw [hC]; exact fun _ z => z) hfin hin2 (hC.trans hCo) (ty := ty0 k) (hty k hkN) (hv v).1 (hv v).2 hkl hd fun H1 locs1 hP1 _ hS1 => ?_
  have hz := zBl_w (ow' := ow.set 0 (a, .inr (ci, fs.set k (.ref v)))) hB hS hD (zown_set (x0 := (a, .inr (ci, fs))) he) hS1
  exact K H1 locs1 lsA hP1 (hD.set he) hz.1 hz.2.1 hz.2.2 hl
end NROWS
