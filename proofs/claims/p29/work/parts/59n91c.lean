def zXs (X : zX) : Nat := X.2.2.2.2.1.heap.size
theorem zRA_name {U : State} {cA : ClassId} {ty : FieldType} (h : va_RA U cA ty) : U.vm.findClass ("[" ++ ty.toString) = some cA := by
  cases ty with
  | object C =>
    obtain ⟨kA, comp, h1, h2, h3, h4⟩ := h
    exact h4
  | _ => exact h
theorem zcA_eq {g : zG} {s : State} (hK : va_K g.1 vwCl (zTYS g) s) {k : Nat} (hk : k < 8) {ty : FieldType} (hty : zTY.getD k .int = ty) {cA : ClassId} (h : va_K g.1 vwCl (zTYS g ++ [(cA, ty)]) s) : cA = g.2.2 k := by
  have h1 := zRA_name (h.2 (zTYS g).length (cA, ty) (by simp)).2
  have h2 := zRA_name (hK.2 k _ (zTYS_at hk)).2
  rw [hty] at h2
  exact Option.some.inj (h1.symm.trans h2)
section NROWS2
variable {X : zX} {A : Nat → Prop} {l : Launch} {g : zG} {own : String} {cc : ByteArray} {h nL pc cl sl : Nat} {lv : List (Nat × Value)} {st : List Value} {ow : va_W} {wo : List Nat} {S : zO → Prop} {ad : zO → Nat}
/-- a cell more is in work -/
theorem zBl_n {q : Nat} {E : va_E} {H H1 : Heap} {s : State} {locs : List Loc} (hA : ∀ q, s.heap.size ≤ q → A q) (hB : zBl g S ad ow A H) (hS : va_S A s.heap H locs) (hD : va_D A ow) (hS1 : va_S (fun q => (∃ x ∈ ow, x.1 = q) ∨ H.size ≤ q) H H1 locs) (hD1 : va_D (fun q => (∃ x ∈ ow, x.1 = q) ∨ H.size ≤ q) (ow ++ [(q, E)])) : zBl g S ad (ow ++ [(q, E)]) A H1 ∧ va_S A s.heap H1 locs ∧ va_D A (ow ++ [(q, E)]) ∧ H.size ≤ q := by
  have hAo : ∀ x ∈ ow, A x.1 := fun x hx => by
    obtain ⟨k, hk⟩ := List.getElem?_of_mem hx
    exact hD.2 k x hk
  have hq : H.size ≤ q := by
    rcases hD1.2 ow.length (q, E) (by simp) with ⟨x, hx, e⟩ | h2
    · obtain ⟨k, hk⟩ := List.getElem?_of_mem hx
      have hlt := (List.getElem?_eq_some_iff.mp hk).1
      have := hD1.1 k ow.length x (q, E) (by rw [List.getElem?_append_left hlt]; exact hk) (by simp) e
      omega
    · exact h2
  refine ⟨⟨fun o ho2 => ?_, hB.2⟩, ⟨Nat.le_trans hS.1 hS1.1, fun q' h1 h2 => ?_, hS.2.2⟩, ⟨hD1.1, fun k x hx => ?_⟩, hq⟩
  · obtain ⟨b1, b2, b3⟩ := hB.1 o ho2
    have hlt : ad o < H.size := b1.lt
    refine ⟨b1.kept (hS1.2.1 _ hlt (fun z => ?_)), b2, fun x hx => ?_⟩
    · rcases z with ⟨x, hx, e⟩ | z
      · exact b3 x hx e
      · omega
    · rcases List.mem_append.mp hx with h3 | h3
      · exact b3 x h3
      · rw [List.mem_singleton.mp h3]
        show q ≠ ad o
        omega
  · rw [hS1.2.1 q' (Nat.lt_of_lt_of_le h1 hS.1) (fun z => ?_)]
    · exact hS.2.1 q' h1 h2
    · rcases z with ⟨x, hx, e⟩ | z
      · exact h2 (by rw [← e]; exact hAo x hx)
      · have := hS.1
        omega
  · rcases hD1.2 k x hx with ⟨y, hy, e⟩ | h3
    · rw [← e]
      exact hAo y hy
    · exact hA _ (Nat.le_trans hS.1 h3)
theorem zown_D2 {H : Heap} (hD : va_D A ow) : va_D (fun q => (∃ x ∈ ow, x.1 = q) ∨ H.size ≤ q) ow := ⟨hD.1, fun k q hq => Or.inl ⟨q, List.mem_of_getElem? hq, rfl⟩⟩
theorem zown_S2 {H : Heap} {locs : List Loc} (hw : ∀ q ∈ locs, q.base ∈ wo) (hwo : ∀ x ∈ wo, x ∈ ow.map Prod.fst) : va_S (fun q => (∃ x ∈ ow, x.1 = q) ∨ H.size ≤ q) H H locs := ⟨Nat.le_refl _, fun _ _ _ => rfl, fun q hq => by
  obtain ⟨x, hx, e⟩ := List.mem_map.mp (hwo _ (hw q hq))
  exact Or.inl ⟨x, hx, e⟩⟩
theorem n_newa (hC : zNc X A l g own cc h nL) {atype : ArrayType} (k : Nat) {ty : FieldType} {N : Nat} {n : Int} (hd : decode cc pc = .ok (.newarray atype, 2)) (hty : newarray.typeOf atype = ty) (hk : k < 8) (hkt : zTY.getD k .int = ty) (hw2 : Cond.arrayClass ty ∈ zW) (ha : defaultValue ty = .int 0) (hn : n = N) (hN : N ≤ 5000) (hbt : componentBytes ty ≤ 8) (hcl : cl + 1 ≤ (zXr X).cells) (hsl : sl + N ≤ (zXr X).slots) (hwo : ∀ x ∈ wo, x ∈ ow.map Prod.fst) (K : ∀ q : Nat, zNw X A (pc + 2) lv (.ref q :: st) (ow ++ [(q, .inl (g.2.2 k, N, .inl fun _ => 0))]) wo S ad (cl + 1) (sl + N)) : zNw X A pc lv (.int (Int32.ofInt n) :: st) ow wo S ad cl sl := by
  obtain ⟨p, l, e, R, s, m, args, below, meth, c, Q, g, kc, ks⟩ := X
  obtain ⟨hx, hb, hml, hown, hts, hK, hAO, hR1, hR2, hlk, hl2, hg2, hA⟩ := hC
  subst hl2 hg2
  intro H locs lsA hP hD hB hS hw hl
  have hz : zin n := ⟨by omega, by omega⟩
  have h0 : ¬ Int32.ofInt n < 0 := fun q => by
    have := (zlt hz z0in).mp q
    omega
  refine va_newa (D := g.1) (A := fun q => (∃ x ∈ ow, x.1 = q) ∨ H.size ≤ q) (H0 := H) (a0 := (N, .inl fun _ => 0)) (N' := N) hx hb (by rw [hty]; exact hts _ hw2) hty hK hP (zown_D2 hD) (zown_S2 hw hwo) (fun q h => Or.inr h) (fun cA => by rw [ha]; rfl) h0 (by rw [zcl hz]; omega) (Nat.le_trans (Nat.mul_le_mul hN hbt) (by decide)) hcl hsl hd fun q cA H1 hK1 hP1 hD1 hS1 => ?_
  have hcA := zcA_eq hK hk hkt hK1
  subst hcA
  have hz := zBl_n hA hB hS hD hS1 hD1
  exact K q H1 locs lsA hP1 hz.2.2.1 hz.1 hz.2.1 hw hl
theorem n_anewa (hC : zNc X A l g own cc h nL) {i : Nat} (k : Nat) {C : String} {N : Nat} {n : Int} (hd : decode cc pc = .ok (.anewarray i, 3)) (hw2 : Cond.classLink own i C ∈ zW) (hCn : C ∈ zAOn) (hk : k < 8) (hkt : zTY.getD k .int = .object C) (hn : n = N) (hN : N ≤ 5000) (hcl : cl + 1 ≤ (zXr X).cells) (hsl : sl + N ≤ (zXr X).slots) (hwo : ∀ x ∈ wo, x ∈ ow.map Prod.fst) (K : ∀ q : Nat, zNw X A (pc + 3) lv (.ref q :: st) (ow ++ [(q, .inl (g.2.2 k, N, .inr (.inr (.inr (.inr fun _ => none)))))]) wo S ad (cl + 1) (sl + N)) : zNw X A pc lv (.int (Int32.ofInt n) :: st) ow wo S ad cl sl := by
  obtain ⟨p, l, e, R, s, m, args, below, meth, c, Q, g, kc, ks⟩ := X
  obtain ⟨hx, hb, hml, hown, hts, hK, hAO, hR1, hR2, hlk, hl2, hg2, hA⟩ := hC
  subst hl2 hg2
  intro H locs lsA hP hD hB hS hw hl
  have hz : zin n := ⟨by omega, by omega⟩
  have h0 : ¬ Int32.ofInt n < 0 := fun q => by
    have := (zlt hz z0in).mp q
    omega
  refine va_newq (D := g.1) (A := fun q => (∃ x ∈ ow, x.1 = q) ∨ H.size ≤ q) (H0 := H) (N' := N) hx hb hown (hts _ hw2) (hAO.1 C hCn) hK hP (zown_D2 hD) (zown_S2 hw hwo) (fun q h => Or.inr h) h0 (by rw [zcl hz]; omega) (by omega) hcl hsl hd fun q cA H1 hK1 hP1 hD1 hS1 => ?_
  have hcA := zcA_eq hK hk hkt hK1
  subst hcA
  have hz := zBl_n hA hB hS hD hS1 hD1
  exact K q H1 locs lsA hP1 hz.2.2.1 hz.1 hz.2.1 hw hl
/-- own's place i is the class ci, new objects of it hold fs0 -/
def zNK (own : String) (i ci : Nat) (fs0 : List Value) : Prop := ∃ (C : String) (T : u_T) (N : Nat) (ty0 : Nat → FieldType), vwCl[ci]? = some (C, T, N) ∧ (∀ w ∈ u_ws C T N, w ∈ zW) ∧ (∀ k, k < N → parseFieldDescriptor (T k).2.2.1 = some (ty0 k)) ∧ Cond.classLink own i C ∈ zW ∧ Cond.instantiable C N ∈ zW ∧ Cond.initialized C ∈ zW ∧ (∀ j, j < N → defaultValue (ty0 j) = vp_V fs0 j) ∧ N ≤ 31
theorem n_new (hC : zNc X A l g own cc h nL) {i ci : Nat} {fs0 : List Value} (hd : decode cc pc = .ok (.new i, 3)) (hw2 : zNK own i ci fs0) (hcl : cl + 1 ≤ (zXr X).cells) (hsl : sl + 31 ≤ (zXr X).slots) (hwo : ∀ x ∈ wo, x ∈ ow.map Prod.fst) (K : ∀ q : Nat, zXs X ≤ q → zNw X A (pc + 3) lv (.ref q :: st) (ow ++ [(q, .inr (ci, fs0))]) wo S ad (cl + 1) (sl + 31)) : zNw X A pc lv st ow wo S ad cl sl := by
  obtain ⟨p, l, e, R, s, m, args, below, meth, c, Q, g, kc, ks⟩ := X
  obtain ⟨hx, hb, hml, hown, hts, hK, hAO, hR1, hR2, hlk, hl2, hg2, hA⟩ := hC
  subst hl2 hg2
  intro H locs lsA hP hD hB hS hw hl
  obtain ⟨C, T, N, ty0, hc, hin, hty, hcw, hinst, hini, hfs, hN⟩ := hw2
  refine va_new (D := g.1) (A := fun q => (∃ x ∈ ow, x.1 = q) ∨ H.size ≤ q) (H0 := H) (Ts := zW) hx hb hts hin ty0 hty hown (hts _ hcw) (hts _ hinst) (hts _ hini) hK hP (zown_D2 hD) (zown_S2 hw hwo) (fun q h => Or.inr h) hc hfs hcl (by simp only [zXr] at hsl; omega) hd fun q H1 hP1 hD1 hS1 => ?_
  have hz := zBl_n hA hB hS hD hS1 hD1
  exact W.widen (Nat.le_refl _) (by omega) (K q (Nat.le_trans hS.1 hz.2.2.2) H1 locs lsA hP1 hz.2.2.1 hz.1 hz.2.1 hw hl)
theorem n_getf (hC : zNc X A l g own cc h nL) {i ci k a v : Nat} {fs : List Value} (hd : decode cc pc = .ok (.getfield i, 3)) (hw2 : zFL own i ci k) (he : ow[0]? = some (a, .inr (ci, fs))) (hv : fs[k]? = some (.ref v)) (K : zNw X A (pc + 3) lv (.ref v :: st) ow wo S ad cl sl) : zNw X A pc lv (.ref a :: st) ow wo S ad cl sl := by
  obtain ⟨p, l, e, R, s, m, args, below, meth, c, Q, g, kc, ks⟩ := X
  obtain ⟨hx, hb, hml, hown, hts, hK, hAO, hR1, hR2, hlk, hl2, hg2, hA⟩ := hC
  subst hl2 hg2
  intro H locs lsA hP hD hB hS hw hl
  obtain ⟨C, T, N, hc, hnf, hkN, hC, hlw, hin⟩ := hw2
  refine va_get (D := g.1) (Ts := zW) hx hb hts hin hown hK hP 0 he hc k hkN (hts _ hlw) (by rw [hC]; exact fun _ z => z) hv hd ?_
  exact K H locs lsA hP hD hB hS hw hl
/-- a field that refers, of an object that is built -/
theorem n_getB (hC : zNc X A l g own cc h nL) {i ci k q v : Nat} (o : zO) (hd : decode cc pc = .ok (.getfield i, 3)) (hw2 : zFL own i ci k) (ho : S o) (hq : ad o = q) (hto : zTO o.1 = some ci) (hf : zFR ci k = true) (hv : ad (zFref o.1 o.2.1 o.2.2 k) = v) (K : zNw X A (pc + 3) lv (.ref v :: st) ow wo S ad cl sl) : zNw X A pc lv (.ref q :: st) ow wo S ad cl sl := by
  subst hq hv
  obtain ⟨p, l, e, R, s, m, args, below, meth, c, Q, g, kc, ks⟩ := X
  obtain ⟨hx, hb, hml, hown, hts, hK, hAO, hR1, hR2, hlk, hl2, hg2, hA⟩ := hC
  subst hl2 hg2
  intro H locs lsA hP hD hB hS hw hl
  obtain ⟨C, T, N, hc, hnf, hkN, hC, hlw, hin⟩ := hw2
  obtain ⟨t, s0, i0⟩ := o
  have hat := (hB.1 _ ho).1
  rw [zent_obj hto] at hat
  have hP1 : va_P g.1 vwCl [(ad (t, s0, i0), .inr (ci, (List.range (zNF ci)).map fun k => zfv (g.1, ad, g.2.2) zM0 t s0 i0 ci k))] H := fun j x hx => by
    have hz : j < 1 := (List.getElem?_eq_some_iff.mp hx).1
    rw [show j = 0 by omega] at hx
    cases hx
    exact hat
  refine va_get (D := g.1) (Ts := zW) hx hb hts hin hown hK hP1 0 rfl hc k hkN (hts _ hlw) (by rw [hC]; exact fun _ z => z) (zfs_get (by omega)) hd ?_
  have e : zfv (g.1, ad, g.2.2) zM0 t s0 i0 ci k = .ref (ad (zFref t s0 i0 k)) := by simp [zfv, hf]
  rw [e]
  exact K H locs lsA hP hD hB hS hw hl
theorem n_aast (hC : zNc X A l g own cc h nL) (k : Nat) {C : String} {j0 a N ci : Nat} {n : Int} {f : Nat → Option Nat} {o : zO} (hd : decode cc pc = .ok (.aastore, 1)) (hk : k < 8) (hkt : zTY.getD k .int = .object C) (he : ow[j0]? = some (a, .inl (g.2.2 k, N, .inr (.inr (.inr (.inr f)))))) (ho : S o) (hto : zTO o.1 = some ci) (hci : ∃ (T : u_T) (M : Nat), vwCl[ci]? = some (C, T, M)) (h0 : 0 ≤ n) (h1 : n < N) (hN : N ≤ 5000) (hwo : ∀ x ∈ wo, x ∈ ow.map Prod.fst) (K : zNw X A (pc + 1) lv st (ow.set j0 (a, .inl (g.2.2 k, N, .inr (.inr (.inr (.inr (va_up f n.toNat (some (ad o))))))))) (ow.map Prod.fst) S ad cl sl) : zNw X A pc lv (.ref (ad o) :: .int (Int32.ofInt n) :: .ref a :: st) ow wo S ad cl sl := by
  obtain ⟨p, l, e, R, s, m, args, below, meth, c, Q, g, kc, ks⟩ := X
  obtain ⟨hx, hb, hml, hown, hts, hK, hAO, hR1, hR2, hlk, hl2, hg2, hA⟩ := hC
  subst hl2 hg2
  intro H locs lsA hP hD hB hS hw hl
  obtain ⟨T, M, hc⟩ := hci
  have hz : zin n := ⟨by omega, by omega⟩
  have hn : (Int32.ofInt n).toNatClampNeg = n.toNat := zcl hz
  have hneg : ¬ Int32.ofInt n < 0 := fun q => by
    have := (zlt hz z0in).mp q
    omega
  have hlt : n.toNat < N := by omega
  have hat := (hB.1 o ho).1
  obtain ⟨t, s0, i0⟩ := o
  rw [zent_obj hto] at hat
  obtain ⟨r', hr', cellV, g1, g2, g3, -⟩ := hat
  have hr : r' = (C, T, M) := Option.some.inj (hr'.symm.trans hc)
  subst hr
  have hcls := (hK.1 ci _ hc).2
  have ht := hK.2 k _ (zTYS_at hk)
  rw [hkt] at ht
  obtain ⟨kA, comp, k1, k2, k3, -⟩ := ht.2
  have hcomp : comp = g.1.1 ci := Option.some.inj (k3.symm.trans hcls.1)
  subst hcomp
  obtain ⟨kC, hkC, -⟩ := id hcls.2
  have hmem : (a, (.inl (g.2.2 k, N, .inr (.inr (.inr (.inr f)))) : va_E)) ∈ ow := List.mem_of_getElem? he
  refine W.aast hx hb (hP j0 _ he) (fun q h => by cases h) (fun h => by cases h) k1 k2 rfl hkC ⟨hneg, by show _ < (arrV _ _ _).slots.size; rw [arrV_size, hn]; exact hlt⟩ g1 (fun q h => by rw [g3] at h; cases h) (by rw [g2]; exact hkC) (by rw [g2]; exact va_assign hcls) rfl rfl hd fun H1 e1 z oq => ?_
  have hS1 : va_S (fun q => ∃ x ∈ ow, x.1 = q) H H1 (locs ++ [⟨a, (Int32.ofInt n).toNatClampNeg⟩]) := (zown_S (H := H) hw hwo).put z oq ⟨_, hmem, rfl⟩
  have hz2 := zBl_w (ow' := ow.set j0 (a, .inl (g.2.2 k, N, .inr (.inr (.inr (.inr (va_up f n.toNat (some (ad (t, s0, i0)))))))))) hB hS hD (zown_set (x0 := (a, .inl (g.2.2 k, N, .inr (.inr (.inr (.inr f)))))) he) hS1
  refine K H1 _ lsA (hP.set hD he ?_ oq) (hD.set he) hz2.1 hz2.2.1 hz2.2.2 hl
  show H1[a]? = some (vp_cell _ _)
  rw [e1, hn]
  rw [vp_cell_q, vp_cell_q, arrV_store]
  congr 2
  funext q
  by_cases hq : q = n.toNat
  · subst hq
    simp [updV, va_up, va_rf]
  · simp [updV, va_up, hq]
end NROWS2
