/-! LINKS: what the tables say of a place in a class's constant pool -/
/-- own's place i names the field k of class ci -/
def zFL (own : String) (i ci k : Nat) : Prop := ∃ (C : String) (T : u_T) (N : Nat), vwCl[ci]? = some (C, T, N) ∧ zNF ci = N ∧ k < N ∧ (T k).1 = C ∧ Cond.fieldLink own i C (T k).2.1 (T k).2.2.1 ∈ zW ∧ ∀ w ∈ u_ws C T N, w ∈ zW
/-- a field that isn't final, of a type -/
def zFP (own : String) (i ci k : Nat) (ty : FieldType) : Prop := ∃ (C : String) (T : u_T) (N : Nat) (ty0 : Nat → FieldType), vwCl[ci]? = some (C, T, N) ∧ zNF ci = N ∧ k < N ∧ (T k).1 = C ∧ Cond.fieldLink own i C (T k).2.1 (T k).2.2.1 ∈ zW ∧ (∀ w ∈ u_ws C T N, w ∈ zW) ∧
  (∀ k, k < N → parseFieldDescriptor (T k).2.2.1 = some (ty0 k)) ∧ (∀ a, a < N → ∀ b, b < N → a ≠ b → (T a).2.1 ≠ (T b).2.1) ∧ (T k).2.2.2 = false ∧ ty0 k = ty
/-- own's place i names the method y, of class ci, with n arguments -/
def zLV (own : String) (i : Nat) (y : zY) (ci n : Nat) : Prop := (∃ (C : String) (T : u_T) (N : Nat), vwCl[ci]? = some (C, T, N) ∧ y.1.cls = C ∧ Cond.selects C y.1 y.1 ∈ zW) ∧ Cond.methodLink own i y.1 ∈ zW ∧ Cond.instanceMethod y.1 ∈ zW ∧ Cond.initialized y.1.cls ∈ zW ∧ Cond.code y.1 y.2.1 y.2.2.1 y.2.2.2.1 ∈ zW ∧
  (y.1.cls ≠ "java/lang/invoke/MethodHandle" ∧ y.1.cls ≠ "java/lang/invoke/VarHandle" ∧ (parseMethodDescriptor y.1.desc).map (fun d => d.parameters.length) = some n) ∧ y.2.2.1 ≤ 19
def zLS (own : String) (i : Nat) (y : zY) (n : Nat) : Prop := Cond.methodLink own i y.1 ∈ zW ∧ Cond.static y.1 ∈ zW ∧ Cond.initialized y.1.cls ∈ zW ∧ Cond.code y.1 y.2.1 y.2.2.1 y.2.2.2.1 ∈ zW ∧
  (y.1.cls ≠ "java/lang/invoke/MethodHandle" ∧ y.1.cls ≠ "java/lang/invoke/VarHandle" ∧ (parseMethodDescriptor y.1.desc).map (fun d => d.parameters.length) = some n) ∧ y.2.2.1 ≤ 19
def zLN (own : String) (i : Nat) (y : zY) (n : Nat) : Prop := (∃ host, Cond.methodLinkNest own i y.1 host ∈ zNW) ∧ Cond.static y.1 ∈ zW ∧ Cond.initialized y.1.cls ∈ zW ∧ Cond.code y.1 y.2.1 y.2.2.1 y.2.2.2.1 ∈ zW ∧
  (y.1.cls ≠ "java/lang/invoke/MethodHandle" ∧ y.1.cls ≠ "java/lang/invoke/VarHandle" ∧ (parseMethodDescriptor y.1.desc).map (fun d => d.parameters.length) = some n) ∧ y.2.2.1 ≤ 19
theorem zent_obj {g : zG} {mem : zM} {t ci : Nat} {s i : Int} (ht : zTO t = some ci) : zent g mem (t, s, i) = .inr (ci, (List.range (zNF ci)).map fun k => zfv g mem t s i ci k) := by
  simp only [zent, ht]
theorem zent_arr {g : zG} {mem : zM} {t : Nat} {q : Nat × Nat} {s i : Int} (ht : zTO t = none) (ha : zTA t = some q) (hr : zTR q.1 = false) : zent g mem (t, s, i) = .inl (g.2.2 q.1, q.2, .inl (fun j => Int32.ofInt (mem t s i j))) := by
  simp [zent, ht, ha, hr]
theorem zent_rarr {g : zG} {mem : zM} {t : Nat} {q : Nat × Nat} {s i : Int} (ht : zTO t = none) (ha : zTA t = some q) (hr : zTR q.1 = true) : zent g mem (t, s, i) = .inl (g.2.2 q.1, q.2, .inr (.inr (.inr (.inr (fun j => if j < q.2 then some (g.2.1 (zAref t s i j)) else none))))) := by
  simp [zent, ht, ha, hr]
theorem zfs_get {g : zG} {mem : zM} {t ci k : Nat} {s i : Int} (hk : k < zNF ci) : ((List.range (zNF ci)).map fun k => zfv g mem t s i ci k)[k]? = some (zfv g mem t s i ci k) := by
  simp [hk]
theorem zfs_set {g : zG} {mem : zM} {t ci k : Nat} {s i v : Int} (hf : zFR ci k = false) : ((List.range (zNF ci)).map fun k => zfv g mem t s i ci k).set k (.int (Int32.ofInt v)) = (List.range (zNF ci)).map fun j => zfv g (zset mem t s i k v) t s i ci j := by
  apply List.ext_getElem?
  intro j
  by_cases hj : j = k
  · subst hj
    by_cases hl : j < zNF ci
    · rw [List.getElem?_set_self (by simpa using hl)]
      simp [hl, zfv, hf, zset]
    · rw [List.getElem?_eq_none (by simp; omega), List.getElem?_eq_none (by simp; omega)]
  · rw [List.getElem?_set_ne (Ne.symm hj)]
    by_cases hl : j < zNF ci
    · have : ¬ ((j : Int) = (k : Int)) := by omega
      simp [hl, zfv, zset, this]
    · rw [List.getElem?_eq_none (by simp; omega), List.getElem?_eq_none (by simp; omega)]
theorem zTYS_at {g : zG} {k : Nat} (h : k < 8) : (zTYS g)[k]? = some (g.2.2 k, zTY.getD k .int) := by
  simp [zTYS, h]
theorem zvp {j : Int} {n : Nat} (hz : zin j) (h0 : 0 ≤ j) (h1 : j < n) : vp_in (Int32.ofInt j) n := by
  rw [vp_in_iff, zti hz]
  exact ⟨h0, h1⟩
section ZHEAP
variable {X : zX} {l : Launch} {g : zG} {own : String} {cc : ByteArray} {h nL pc : Nat} {ls : zL} {st : List zV} {mem : zM}
theorem z_getI (hG : zGood X l g own cc h nL) {i ci k t : Nat} {s i' kk : Int} (hd : decode cc pc = .ok (.getfield i, 3)) (hw : zFL own i ci k) (ht : zTO t = some ci) (hf : zFR ci k = false) (hkk : (k : Int) = kk) (K : zZ X (pc + 3) ls (zi (mem t s i' kk) :: st) mem) : zZ X pc ls (zr t s i' :: st) mem := by
  subst hkk
  obtain ⟨p, l, e, R, s2, m, args, below, meth, c, Q, g, kc, ks⟩ := X
  obtain ⟨hx, hb, hml, hown, hts, hK, hN, hg, hR1, hR2, hlk, hl2, hg2⟩ := hG
  subst hl2 hg2
  intro hM hL hS H locs lsA hP hS0 hl
  obtain ⟨C, T, N, hc, hnf, hkN, hC, hlw, hin⟩ := hw
  have ho : (t, s, i') ∈ zOs g := zok_o (zokS_cons.mp hS).1 ht
  obtain ⟨q0, hq, he⟩ := zplace ho mem
  rw [zent_obj ht] at he
  refine va_get (D := g.1) (Ts := zW) hx hb hts hin hown hK hP q0 he hc k hkN (hts _ hlw) (by rw [hC]; exact fun _ z => z) (zfs_get (by omega)) hd ?_
  have e : zfv g mem t s i' ci k = .int (Int32.ofInt (mem t s i' k)) := by simp [zfv, hf]
  rw [e]
  exact K hM hL (zokS_cons.mpr ⟨hM _ _ _ _, (zokS_cons.mp hS).2⟩) H locs lsA hP hS0 hl
theorem z_getR (hG : zGood X l g own cc h nL) {i ci k t : Nat} {s i' : Int} {o : zO} (hd : decode cc pc = .ok (.getfield i, 3)) (hw : zFL own i ci k) (ht : zTO t = some ci) (hf : zFR ci k = true) (ho2 : zFref t s i' k = o) (hok : (t, s, i') ∈ zOs g → o ∈ zOs g) (K : zZ X (pc + 3) ls (.inr (.inr o) :: st) mem) : zZ X pc ls (zr t s i' :: st) mem := by
  subst ho2
  obtain ⟨p, l, e, R, s2, m, args, below, meth, c, Q, g, kc, ks⟩ := X
  obtain ⟨hx, hb, hml, hown, hts, hK, hN, hg, hR1, hR2, hlk, hl2, hg2⟩ := hG
  subst hl2 hg2
  intro hM hL hS H locs lsA hP hS0 hl
  obtain ⟨C, T, N, hc, hnf, hkN, hC, hlw, hin⟩ := hw
  have ho : (t, s, i') ∈ zOs g := zok_o (zokS_cons.mp hS).1 ht
  obtain ⟨q0, hq, he⟩ := zplace ho mem
  rw [zent_obj ht] at he
  refine va_get (D := g.1) (Ts := zW) hx hb hts hin hown hK hP q0 he hc k hkN (hts _ hlw) (by rw [hC]; exact fun _ z => z) (zfs_get (by omega)) hd ?_
  have e : zfv g mem t s i' ci k = .ref (g.2.1 (zFref t s i' k)) := by simp [zfv, hf]
  rw [e]
  exact K hM hL (zokS_cons.mpr ⟨Or.inl (hok ho), (zokS_cons.mp hS).2⟩) H locs lsA hP hS0 hl
theorem z_putI (hG : zGood X l g own cc h nL) {i ci k t : Nat} {ty : FieldType} {s i' kk v : Int} (hd : decode cc pc = .ok (.putfield i, 3)) (hw : zFP own i ci k ty) (ht : zTO t = some ci) (hf : zFR ci k = false) (hkk : (k : Int) = kk) (hn : narrow ty (.int (Int32.ofInt v)) = .int (Int32.ofInt v)) (hfit : fits ty (.int (Int32.ofInt v)) = true) (K : zZ X (pc + 3) ls st (zset mem t s i' kk v)) : zZ X pc ls (zi v :: zr t s i' :: st) mem := by
  subst hkk
  obtain ⟨p, l, e, R, s2, m, args, below, meth, c, Q, g, kc, ks⟩ := X
  obtain ⟨hx, hb, hml, hown, hts, hK, hN, hg, hR1, hR2, hlk, hl2, hg2⟩ := hG
  subst hl2 hg2
  intro hM hL hS H locs lsA hP hS0 hl
  obtain ⟨C, T, N, ty0, hc, hnf, hkN, hC, hlw, hin, hty, hnm, hfin, hty2⟩ := hw
  have hv : zin v := (zokS_cons.mp hS).1
  have hS2 := (zokS_cons.mp hS).2
  have ho : (t, s, i') ∈ zOs g := zok_o (zokS_cons.mp hS2).1 ht
  obtain ⟨q0, hq, he⟩ := zplace ho mem
  rw [zent_obj ht] at he
  refine va_put (D := g.1) (Ts := zW) hx hb hts hin ty0 hty hnm hown hK hP (zDw hg mem) hS0 q0 he hc k hkN (hts _ hlw) (by rw [hC]; exact fun _ z => z) hfin (ty := ty) (by rw [hty k hkN, hty2]) hn hfit (by simp; omega) hd fun H1 locs1 hP1 _ hS1 => ?_
  rw [show zup g (zi v) = Value.int (Int32.ofInt v) from rfl, zfs_set hf, zWS_set hq (mem' := zset mem t s i' k v) (zent_obj ht) (fun o' h' => zent_ne h')] at hP1
  exact K (zokM_set hM hv _ _ _ _) hL (zokS_cons.mp hS2).2 H1 locs1 lsA hP1 hS1 hl
theorem z_put (hG : zGood X l g own cc h nL) {i ci k t : Nat} {s i' kk v : Int} (hd : decode cc pc = .ok (.putfield i, 3)) (hw : zFP own i ci k .int) (ht : zTO t = some ci) (hf : zFR ci k = false) (hkk : (k : Int) = kk) (K : zZ X (pc + 3) ls st (zset mem t s i' kk v)) : zZ X pc ls (zi v :: zr t s i' :: st) mem :=
  z_putI hG hd hw ht hf hkk rfl rfl K
theorem z_putB (hG : zGood X l g own cc h nL) {i ci k t : Nat} {s i' kk v : Int} (hd : decode cc pc = .ok (.putfield i, 3)) (hw : zFP own i ci k .boolean) (ht : zTO t = some ci) (hf : zFR ci k = false) (hkk : (k : Int) = kk) (hv : v = 0 ∨ v = 1) (K : zZ X (pc + 3) ls st (zset mem t s i' kk v)) : zZ X pc ls (zi v :: zr t s i' :: st) mem := by
  rcases hv with rfl | rfl
  · exact z_putI hG hd hw ht hf hkk rfl rfl K
  · exact z_putI hG hd hw ht hf hkk rfl rfl K
theorem z_alen (hG : zGood X l g own cc h nL) {t : Nat} {q : Nat × Nat} {s i' n : Int} (hd : decode cc pc = .ok (.arraylength, 1)) (ht : zTO t = none) (ha : zTA t = some q) (hq8 : q.1 < 8) (hn : (q.2 : Int) = n) (hz : zb32 n = true) (K : zZ X (pc + 1) ls (zi n :: st) mem) : zZ X pc ls (zr t s i' :: st) mem := by
  obtain ⟨p, l, e, R, s2, m, args, below, meth, c, Q, g, kc, ks⟩ := X
  obtain ⟨hx, hb, hml, hown, hts, hK, hN, hg, hR1, hR2, hlk, hl2, hg2⟩ := hG
  subst hl2 hg2
  intro hM hL hS H locs lsA hP hS0 hl
  have ho : (t, s, i') ∈ zOs g := zok_a (zokS_cons.mp hS).1 ha
  obtain ⟨q0, hq, he⟩ := zplace ho mem
  have e1 : Int32.ofNat q.2 = Int32.ofInt n := by rw [← hn]; exact (Int32.ofInt_eq_ofNat).symm
  have key : ∃ x, zent g mem (t, s, i') = .inl (g.2.2 q.1, q.2, x) := by
    cases hr : zTR q.1 with
    | false => exact ⟨_, zent_arr ht ha hr⟩
    | true => exact ⟨_, zent_rarr ht ha hr⟩
  obtain ⟨x, hxx⟩ := key
  rw [hxx] at he
  refine va_alen (D := g.1) hx hb hK hP q0 q.1 he (zTYS_at hq8) (v := Int32.ofInt n) e1 hd ?_
  exact K hM hL (zokS_cons.mpr ⟨zb32_in hz, (zokS_cons.mp hS).2⟩) H locs lsA hP hS0 hl
theorem z_iald (hG : zGood X l g own cc h nL) {t n : Nat} {s i' j : Int} (hd : decode cc pc = .ok (.iaload, 1)) (ht : zTO t = none) (ha : zTA t = some (0, n)) (h0 : 0 ≤ j) (h1 : j < n) (K : zZ X (pc + 1) ls (zi (mem t s i' j) :: st) mem) : zZ X pc ls (zi j :: zr t s i' :: st) mem := by
  obtain ⟨p, l, e, R, s2, m, args, below, meth, c, Q, g, kc, ks⟩ := X
  obtain ⟨hx, hb, hml, hown, hts, hK, hN, hg, hR1, hR2, hlk, hl2, hg2⟩ := hG
  subst hl2 hg2
  intro hM hL hS H locs lsA hP hS0 hl
  have hz : zin j := (zokS_cons.mp hS).1
  have hS2 := (zokS_cons.mp hS).2
  have ho : (t, s, i') ∈ zOs g := zok_a (zokS_cons.mp hS2).1 ha
  obtain ⟨q0, hq, he⟩ := zplace ho mem
  rw [zent_arr ht ha rfl] at he
  refine va_iald (D := g.1) hx hb hK hP q0 0 he (zTYS_at (by decide)) (zvp hz h0 h1) hd ?_
  rw [zcl hz, Int.toNat_of_nonneg h0]
  exact K hM hL (zokS_cons.mpr ⟨hM _ _ _ _, (zokS_cons.mp hS2).2⟩) H locs lsA hP hS0 hl
theorem z_zald (hG : zGood X l g own cc h nL) {t n : Nat} {s i' j : Int} (hd : decode cc pc = .ok (.baload, 1)) (ht : zTO t = none) (ha : zTA t = some (1, n)) (h0 : 0 ≤ j) (h1 : j < n) (K : zZ X (pc + 1) ls (zi (mem t s i' j) :: st) mem) : zZ X pc ls (zi j :: zr t s i' :: st) mem := by
  obtain ⟨p, l, e, R, s2, m, args, below, meth, c, Q, g, kc, ks⟩ := X
  obtain ⟨hx, hb, hml, hown, hts, hK, hN, hg, hR1, hR2, hlk, hl2, hg2⟩ := hG
  subst hl2 hg2
  intro hM hL hS H locs lsA hP hS0 hl
  have hz : zin j := (zokS_cons.mp hS).1
  have hS2 := (zokS_cons.mp hS).2
  have ho : (t, s, i') ∈ zOs g := zok_a (zokS_cons.mp hS2).1 ha
  obtain ⟨q0, hq, he⟩ := zplace ho mem
  rw [zent_arr ht ha rfl] at he
  refine va_zald (D := g.1) hx hb hK hP q0 1 he (zTYS_at (by decide)) (zvp hz h0 h1) hd ?_
  rw [zcl hz, Int.toNat_of_nonneg h0]
  exact K hM hL (zokS_cons.mpr ⟨hM _ _ _ _, (zokS_cons.mp hS2).2⟩) H locs lsA hP hS0 hl
theorem z_cald (hG : zGood X l g own cc h nL) {t n : Nat} {s i' j : Int} (hd : decode cc pc = .ok (.caload, 1)) (ht : zTO t = none) (ha : zTA t = some (2, n)) (h0 : 0 ≤ j) (h1 : j < n) (K : zZ X (pc + 1) ls (zi (mem t s i' j) :: st) mem) : zZ X pc ls (zi j :: zr t s i' :: st) mem := by
  obtain ⟨p, l, e, R, s2, m, args, below, meth, c, Q, g, kc, ks⟩ := X
  obtain ⟨hx, hb, hml, hown, hts, hK, hN, hg, hR1, hR2, hlk, hl2, hg2⟩ := hG
  subst hl2 hg2
  intro hM hL hS H locs lsA hP hS0 hl
  have hz : zin j := (zokS_cons.mp hS).1
  have hS2 := (zokS_cons.mp hS).2
  have ho : (t, s, i') ∈ zOs g := zok_a (zokS_cons.mp hS2).1 ha
  obtain ⟨q0, hq, he⟩ := zplace ho mem
  rw [zent_arr ht ha rfl] at he
  refine va_cald (D := g.1) hx hb hK hP q0 2 he (zTYS_at (by decide)) (zvp hz h0 h1) hd ?_
  rw [zcl hz, Int.toNat_of_nonneg h0]
  exact K hM hL (zokS_cons.mpr ⟨hM _ _ _ _, (zokS_cons.mp hS2).2⟩) H locs lsA hP hS0 hl
theorem z_aald (hG : zGood X l g own cc h nL) {t : Nat} {q : Nat × Nat} {s i' j : Int} {o : zO} (hd : decode cc pc = .ok (.aaload, 1)) (ht : zTO t = none) (ha : zTA t = some q) (hr : zTR q.1 = true) (hq8 : q.1 < 8) (hrt : (zTY.getD q.1 .int).isReference = true) (h0 : 0 ≤ j) (h1 : j < q.2) (ho2 : zAref t s i' j = o) (hok : (t, s, i') ∈ zOs g → o ∈ zOs g) (K : zZ X (pc + 1) ls (.inr (.inr o) :: st) mem) : zZ X pc ls (zi j :: zr t s i' :: st) mem := by
  subst ho2
  obtain ⟨p, l, e, R, s2, m, args, below, meth, c, Q, g, kc, ks⟩ := X
  obtain ⟨hx, hb, hml, hown, hts, hK, hN, hg, hR1, hR2, hlk, hl2, hg2⟩ := hG
  subst hl2 hg2
  intro hM hL hS H locs lsA hP hS0 hl
  have hz : zin j := (zokS_cons.mp hS).1
  have hS2 := (zokS_cons.mp hS).2
  have ho : (t, s, i') ∈ zOs g := zok_a (zokS_cons.mp hS2).1 ha
  obtain ⟨q0, hq, he⟩ := zplace ho mem
  rw [zent_rarr ht ha hr] at he
  have hin := zvp hz h0 h1
  have hlt : (Int32.ofInt j).toNatClampNeg < q.2 := by rw [zcl hz]; omega
  have hcell := hP q0 _ he
  refine W.aald (v := .ref (g.2.1 (zAref t s i' j))) (ty := zTY.getD q.1 .int) hx hb hcell ((hK.2 q.1 _ (zTYS_at hq8)).1 q.2 (fun j => va_rf (if j < q.2 then some (g.2.1 (zAref t s i' j)) else none))) hrt (fun q => by cases q) (by show ¬ (_ < 0 ∨ (arrV _ _ _).slots.size ≤ _); rw [arrV_size]; exact hin) ?_ rfl rfl hd ?_
  · show (arrV _ _ _).slots[_]? = _
    rw [arrV_read _ _ hlt]
    show some (va_rf (if (Int32.ofInt j).toNatClampNeg < q.2 then some (g.2.1 (zAref t s i' ((Int32.ofInt j).toNatClampNeg : Nat))) else none)) = _
    rw [if_pos hlt, zcl hz, Int.toNat_of_nonneg h0]
    rfl
  · exact K hM hL (zokS_cons.mpr ⟨Or.inl (hok ho), (zokS_cons.mp hS2).2⟩) H locs lsA hP hS0 hl
/-- an array's contents with one place written -/
theorem zent_upd {g : zG} {mem : zM} {t : Nat} {q : Nat × Nat} {s i' j v : Int} (h0 : 0 ≤ j) (ht : zTO t = none) (ha : zTA t = some q) (hr : zTR q.1 = false) : zent g (zset mem t s i' j v) (t, s, i') = .inl (g.2.2 q.1, q.2, .inl (upd (fun j => Int32.ofInt (mem t s i' j)) j.toNat (Int32.ofInt v))) := by
  rw [zent_arr ht ha hr]
  congr 3
  congr 1
  funext k
  by_cases hk : k = j.toNat
  · subst hk
    simp [upd, zset, Int.toNat_of_nonneg h0]
  · have : ¬ ((k : Int) = j) := by omega
    simp [upd, hk, zset, this]
theorem z_iast (hG : zGood X l g own cc h nL) {t n : Nat} {s i' j v : Int} (hd : decode cc pc = .ok (.iastore, 1)) (ht : zTO t = none) (ha : zTA t = some (0, n)) (h0 : 0 ≤ j) (h1 : j < n) (K : zZ X (pc + 1) ls st (zset mem t s i' j v)) : zZ X pc ls (zi v :: zi j :: zr t s i' :: st) mem := by
  obtain ⟨p, l, e, R, s2, m, args, below, meth, c, Q, g, kc, ks⟩ := X
  obtain ⟨hx, hb, hml, hown, hts, hK, hN, hg, hR1, hR2, hlk, hl2, hg2⟩ := hG
  subst hl2 hg2
  intro hM hL hS H locs lsA hP hS0 hl
  have hv : zin v := (zokS_cons.mp hS).1
  have hz : zin j := (zokS_cons.mp (zokS_cons.mp hS).2).1
  have hS2 := (zokS_cons.mp (zokS_cons.mp hS).2).2
  have ho : (t, s, i') ∈ zOs g := zok_a (zokS_cons.mp hS2).1 ha
  obtain ⟨q0, hq, he⟩ := zplace ho mem
  rw [zent_arr ht ha rfl] at he
  refine va_iast (D := g.1) hx hb hK hP (zDw hg mem) hS0 q0 0 he (zTYS_at (by decide)) (zvp hz h0 h1) hd fun H1 locs1 hP1 _ hS1 => ?_
  rw [zcl hz, zWS_set hq (mem' := zset mem t s i' j v) (zent_upd h0 ht ha rfl) (fun o' h' => zent_ne h')] at hP1
  exact K (zokM_set hM hv _ _ _ _) hL (zokS_cons.mp hS2).2 H1 locs1 lsA hP1 hS1 hl
theorem z_zast (hG : zGood X l g own cc h nL) {t n : Nat} {s i' j v : Int} (hd : decode cc pc = .ok (.bastore, 1)) (ht : zTO t = none) (ha : zTA t = some (1, n)) (h0 : 0 ≤ j) (h1 : j < n) (hv2 : v = 0 ∨ v = 1) (K : zZ X (pc + 1) ls st (zset mem t s i' j v)) : zZ X pc ls (zi v :: zi j :: zr t s i' :: st) mem := by
  obtain ⟨p, l, e, R, s2, m, args, below, meth, c, Q, g, kc, ks⟩ := X
  obtain ⟨hx, hb, hml, hown, hts, hK, hN, hg, hR1, hR2, hlk, hl2, hg2⟩ := hG
  subst hl2 hg2
  intro hM hL hS H locs lsA hP hS0 hl
  have hv : zin v := (zokS_cons.mp hS).1
  have hz : zin j := (zokS_cons.mp (zokS_cons.mp hS).2).1
  have hS2 := (zokS_cons.mp (zokS_cons.mp hS).2).2
  have ho : (t, s, i') ∈ zOs g := zok_a (zokS_cons.mp hS2).1 ha
  obtain ⟨q0, hq, he⟩ := zplace ho mem
  rw [zent_arr ht ha rfl] at he
  refine va_zast (D := g.1) hx hb hK hP (zDw hg mem) hS0 q0 1 he (zTYS_at (by decide)) (zvp hz h0 h1) hd fun H1 locs1 hP1 _ hS1 => ?_
  have e : vp_nar .boolean (Int32.ofInt v) = Int32.ofInt v := by rcases hv2 with rfl | rfl <;> rfl
  rw [e, zcl hz, zWS_set hq (mem' := zset mem t s i' j v) (zent_upd h0 ht ha rfl) (fun o' h' => zent_ne h')] at hP1
  exact K (zokM_set hM hv _ _ _ _) hL (zokS_cons.mp hS2).2 H1 locs1 lsA hP1 hS1 hl
theorem z_cast (hG : zGood X l g own cc h nL) {t n : Nat} {s i' j v : Int} (hd : decode cc pc = .ok (.castore, 1)) (ht : zTO t = none) (ha : zTA t = some (2, n)) (h0 : 0 ≤ j) (h1 : j < n) (hv0 : 0 ≤ v) (hv1 : v < 65536) (K : zZ X (pc + 1) ls st (zset mem t s i' j v)) : zZ X pc ls (zi v :: zi j :: zr t s i' :: st) mem := by
  obtain ⟨p, l, e, R, s2, m, args, below, meth, c, Q, g, kc, ks⟩ := X
  obtain ⟨hx, hb, hml, hown, hts, hK, hN, hg, hR1, hR2, hlk, hl2, hg2⟩ := hG
  subst hl2 hg2
  intro hM hL hS H locs lsA hP hS0 hl
  have hv : zin v := (zokS_cons.mp hS).1
  have hz : zin j := (zokS_cons.mp (zokS_cons.mp hS).2).1
  have hS2 := (zokS_cons.mp (zokS_cons.mp hS).2).2
  have ho : (t, s, i') ∈ zOs g := zok_a (zokS_cons.mp hS2).1 ha
  obtain ⟨q0, hq, he⟩ := zplace ho mem
  rw [zent_arr ht ha rfl] at he
  refine va_cast (D := g.1) hx hb hK hP (zDw hg mem) hS0 q0 2 he (zTYS_at (by decide)) (zvp hz h0 h1) hd fun H1 locs1 hP1 _ hS1 => ?_
  have e : vp_nar .char (Int32.ofInt v) = Int32.ofInt v := by
    rw [vp_nar_char]
    obtain ⟨n2, rfl⟩ := Int.eq_ofNat_of_zero_le hv0
    have h2 := (pk_charN (q := n2) (by omega)).1
    have h3 : vp_nar .char (nI n2) = nI n2 := by unfold vp_nar; rw [h2]
    rw [vp_nar_char] at h3
    exact h3
  rw [e, zcl hz, zWS_set hq (mem' := zset mem t s i' j v) (zent_upd h0 ht ha rfl) (fun o' h' => zent_ne h')] at hP1
  exact K (zokM_set hM hv _ _ _ _) hL (zokS_cons.mp hS2).2 H1 locs1 lsA hP1 hS1 hl
end ZHEAP
