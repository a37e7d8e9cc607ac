def zrefOf (o o' : zO) : Prop := (∃ c k : Nat, zTO o.1 = some c ∧ k < zNF c ∧ zFR c k = true ∧ o' = zFref o.1 o.2.1 o.2.2 k) ∨ (∃ (q : Nat × Nat) (j : Nat), zTO o.1 = none ∧ zTA o.1 = some q ∧ zTR q.1 = true ∧ j < q.2 ∧ o' = zAref o.1 o.2.1 o.2.2 j)
theorem zent_cg {D : va_G} {ad ad' : zO → Nat} {cA : Nat → ClassId} {m : zM} {o : zO} (h : ∀ o', zrefOf o o' → ad' o' = ad o') : zent (D, ad', cA) m o = zent (D, ad, cA) m o := by
  unfold zent
  cases hto : zTO o.1 with
  | some c =>
    simp only
    congr 2
    refine List.map_congr_left fun k hk => ?_
    unfold zfv
    split
    · next hf => exact congrArg Value.ref (h _ (Or.inl ⟨c, k, hto, List.mem_range.mp hk, hf, rfl⟩))
    · rfl
  | none =>
    simp only
    cases hta : zTA o.1 with
    | none => rfl
    | some q =>
      simp only
      cases hr : zTR q.1 with
      | false => rfl
      | true =>
        simp only [if_true]
        congr 7
        funext j
        split
        · next hj => rw [h _ (Or.inr ⟨q, j, hto, hta, hr, hj, rfl⟩)]
        · rfl
/-- what a constructor leaves: root at a, the rest of Cl at new places -/
def zNQ (g : zG) (a sz : Nat) (root : zO) (Cl : zO → Prop) (E : (zO → Nat) → Prop) (H : Heap) : Prop := ∃ ad : zO → Nat, ad root = a ∧ E ad ∧ (∀ o, Cl o → (o = root ∨ sz ≤ ad o) ∧ va_at g.1 vwCl (ad o, zent (g.1, ad, g.2.2) zM0 o) H) ∧ (∀ o o', Cl o → Cl o' → ad o = ad o' → o = o')
def zNA (a sz : Nat) (q : Nat) : Prop := q = a ∨ sz ≤ q
def zNR (hgt mc ms : Nat) : Room := { frames := hgt, cells := mc, slots := ms, locals := 38 * hgt }
def zMetN (l : Launch) (g : zG) (y : zY) (hgt mc ms : Nat) (av : List Value) (root : zO) (Cl : zO → Prop) (ci : Nat) (fs0 : List Value) (E : (zO → Nat) → Prop) : Prop := ∀ a sz : Nat, Met l y.1 (zYw y) (zNR hgt mc ms) (va_Pc (.ref a :: av) (fun U => U.heap.size = sz ∧ va_P g.1 vwCl [(a, .inr (ci, fs0))] U.heap ∧ va_K g.1 vwCl (zTYS g) U ∧ zAOs U)) (fun _ st oc t => (oc = .returned none ∧ zNQ g a sz root Cl E t.heap) ∧ va_F (zNA a sz) st t) mc ms (zNA a sz)
/-- own's place i names the constructor y with n arguments -/
def zLI (own : String) (i : Nat) (y : zY) (n : Nat) : Prop := Cond.methodLink own i y.1 ∈ zW ∧ Cond.instanceMethod y.1 ∈ zW ∧ Cond.initialized y.1.cls ∈ zW ∧ Cond.code y.1 y.2.1 y.2.2.1 none ∈ zW ∧ y.2.2.2.1 = none ∧ y.1.name = "<init>" ∧
  (y.1.cls ≠ "java/lang/invoke/MethodHandle" ∧ y.1.cls ≠ "java/lang/invoke/VarHandle" ∧ (parseMethodDescriptor y.1.desc).map (fun d => d.parameters.length) = some n) ∧ y.2.2.1 ≤ 19
def zLIN (own : String) (i : Nat) (y : zY) (n : Nat) : Prop := (∃ host, Cond.methodLinkNest own i y.1 host ∈ zNW2) ∧ Cond.instanceMethod y.1 ∈ zW ∧ Cond.initialized y.1.cls ∈ zW ∧ Cond.code y.1 y.2.1 y.2.2.1 none ∈ zW ∧ y.2.2.2.1 = none ∧ y.1.name = "<init>" ∧
  (y.1.cls ≠ "java/lang/invoke/MethodHandle" ∧ y.1.cls ≠ "java/lang/invoke/VarHandle" ∧ (parseMethodDescriptor y.1.desc).map (fun d => d.parameters.length) = some n) ∧ y.2.2.1 ≤ 19
/-- the end that a constructor owes -/
def zNE (X : zX) (A : Nat → Prop) (a : Nat) (root : zO) (Cl : zO → Prop) (E : (zO → Nat) → Prop) (mc ms : Nat) : Prop := match X with
  | (p, l, e, R, s, m, args, below, meth, c, Q, g, kc, ks) => meth.sig.returnType = none ∧ Q = MQ below (fun _ st oc t => (oc = .returned none ∧ zNQ g a s.heap.size root Cl E t.heap) ∧ va_F A st t) args s mc ms A
section NROWS3
variable {X : zX} {A : Nat → Prop} {l : Launch} {g : zG} {own : String} {cc : ByteArray} {h nL pc cl sl : Nat} {lv : List (Nat × Value)} {st : List Value} {ow : va_W} {wo : List Nat} {S : zO → Prop} {ad : zO → Nat}
theorem n_init (hC : zNc X A l g own cc h nL) {i n hgt mc ms q ci : Nat} {y : zY} {av stk : List Value} {root : zO} {Cl : zO → Prop} {fs0 : List Value} {E : (zO → Nat) → Prop} (hd : decode cc pc = .ok (.invokespecial i, 3)) (hw2 : zLI own i y n) (hM : zMetN l g y hgt mc ms av root Cl ci fs0 E) (hh : hgt + 1 ≤ h) (hq : zXs X ≤ q) (hwo : ∀ x ∈ wo, x ∈ ow.map Prod.fst) (hav : av.length = n) (hst : stk = av.reverse ++ .ref q :: st) (hcat : (st.map fun v => v.category).sum ≤ 8) (hmc : cl + mc ≤ (zXr X).cells) (hms : sl + ms ≤ (zXr X).slots) (hroot : Cl root) (hSC : ∀ o, S o → ¬ Cl o) (hSr : ∀ o, S o → ∀ o', zrefOf o o' → ¬ Cl o') (hCr : ∀ ad1, E ad1 → ∀ o, Cl o → ∀ o', zrefOf o o' → Cl o' ∨ ad1 o' = ad o')
    (K : ∀ ad' : zO → Nat, (∀ o, ¬ Cl o → ad' o = ad o) → ad' root = q → zNw X A (pc + 3) lv st ow wo (fun o => S o ∨ Cl o) ad' (cl + mc) (sl + ms)) : zNw X A pc lv stk (ow ++ [(q, .inr (ci, fs0))]) wo S ad cl sl := by
  subst hst
  obtain ⟨p, l, e, R, s, m, args, below, meth, c, Q, g, kc, ks⟩ := X
  obtain ⟨hx, hb, hml, hown, hts, hK, hAO, hR1, hR2, hlk, hl2, hg2, hA⟩ := hC
  subst hl2 hg2
  intro H locs lsA hP hD hB hS hw hl
  obtain ⟨hlink, hinst, hini, hcode, hyr, hyn, hd3, hmL⟩ := hw2
  have cb : CallB R s args own i y.1 y.2.1 y.2.2.1 none (zYw y) (zNR hgt mc ms) mc ms n := callB_of n hts (zYw_good (fun _ z => z) (by rw [hyr]; exact hcode)) (by rw [zYw, hyr]) rfl rfl (hts _ hini) (hts _ hlink) hd3 ⟨by show hgt + 1 ≤ _; omega, by show 8 + (y.2.2.1 + 11) + 38 * hgt ≤ _; omega⟩
  have hqi : (ow ++ [(q, (.inr (ci, fs0) : va_E))])[ow.length]? = some (q, .inr (ci, fs0)) := by simp
  have hPc : va_P g.1 vwCl [(q, .inr (ci, fs0))] H := fun k x hx => by
    have hz : k < 1 := (List.getElem?_eq_some_iff.mp hx).1
    rw [show k = 0 by omega] at hx
    cases hx
    exact hP _ _ hqi
  have hqH : q < H.size := (hP _ _ hqi).lt
  have hne : ∀ x ∈ ow, x.1 ≠ q := fun x hx e => by
    obtain ⟨k, hk⟩ := List.getElem?_of_mem hx
    have hlt := (List.getElem?_eq_some_iff.mp hk).1
    have := hD.1 k ow.length x _ (by rw [List.getElem?_append_left hlt]; exact hk) hqi e
    omega
  have hr := va_runI (e := e) (below := below) (meth := meth) (cells := cl) (slots := sl) (locs := locs) (As := av) ⟨hx, hb, rfl, hown, hts⟩ (hM q H.size) ⟨cb, hyn, hts _ hinst⟩ ⟨fun a U gg mk q => by
    obtain ⟨q0, q1, q2, q3, q4⟩ := q
    exact ⟨q0, q1, q2, va_K.moved (u := U) (U := U.calling gg mk a) (Vm.Alike.refl U.vm) q3, zAOs.same (u := U) (U := U.calling gg mk a) rfl q4⟩, fun U hU hW => ⟨rfl, by rw [hU], by rw [hU]; exact hPc, va_K.moved hW.alike hK, zAOs.warm hW hAO⟩⟩ (g := F0 m pc lsA (av.reverse ++ .ref q :: st)) (rest := st) rfl hav hl.1 rfl (lv_room hcat) hd ⟨hmc, hms⟩
  intro T hT X
  obtain ⟨v, st₀, t, T', L2, h0, X', hL1, e1, e2, ⟨⟨hv, ad1, hr1, hE1, hat1, hin1⟩, hz, hk⟩, stp⟩ := hr T hT X
  have hv : v = none := Outcome.returned.inj hv
  subst hv
  rw [h0] at hz hk
  rw [← e1] at hat1 hz hk
  have hqs : s.heap.size ≤ q := hq
  have hkk : ∀ x : Nat, x < H.size → x ≠ q → T'.heap[x]? = H[x]? := fun x h1 h2 => hk x h1 (fun z => by rcases z with z | z; exact h2 z; omega)
  have hAo : ∀ x ∈ ow, A x.1 := fun x hx => by
    obtain ⟨k, hk⟩ := List.getElem?_of_mem (List.mem_append_left [(q, (.inr (ci, fs0) : va_E))] hx)
    exact hD.2 k x hk
  have hPo : va_P g.1 vwCl ow H := fun k x hx => hP k x (by rw [List.getElem?_append_left (List.getElem?_eq_some_iff.mp hx).1]; exact hx)
  obtain ⟨ad', had⟩ : ∃ ad' : zO → Nat, ad' = fun o => @ite Nat (Cl o) (Classical.propDecidable (Cl o)) (ad1 o) (ad o) := ⟨_, rfl⟩
  have a1 : ∀ o, Cl o → ad' o = ad1 o := fun o ho => by rw [had]; exact if_pos ho
  have a2 : ∀ o, ¬ Cl o → ad' o = ad o := fun o ho => by rw [had]; exact if_neg ho
  have hnew : ∀ o, Cl o → o = root ∨ H.size ≤ ad1 o := fun o ho => (hat1 o ho).1
  have hP1 : va_P g.1 vwCl ow T'.heap := hPo.kept fun k x hx => hkk _ (hPo k x hx).lt (hne x (List.mem_of_getElem? hx))
  have hD1 : va_D A ow := ⟨fun i j x y hi hj => hD.1 i j x y (by rw [List.getElem?_append_left (List.getElem?_eq_some_iff.mp hi).1]; exact hi) (by rw [List.getElem?_append_left (List.getElem?_eq_some_iff.mp hj).1]; exact hj), fun k x hx => hAo x (List.mem_of_getElem? hx)⟩
  have hSl : ∀ o, S o → ad o < H.size ∧ ad o ≠ q := fun o ho => ⟨(hB.1 o ho).1.lt, fun z => (hB.1 o ho).2.2 (q, .inr (ci, fs0)) (by simp) z.symm⟩
  have hB1 : zBl g (fun o => S o ∨ Cl o) ad' ow A T'.heap := by
    refine ⟨fun o ho => ?_, fun o o' ho ho' he => ?_⟩
    · by_cases hc : Cl o
      · rw [a1 o hc, zent_cg (ad := ad1) (ad' := ad') (fun o' hr => by
          rcases hCr ad1 hE1 o hc o' hr with h1 | h1
          · exact a1 o' h1
          · by_cases h2 : Cl o'
            · exact a1 o' h2
            · rw [a2 o' h2, h1])]
        refine ⟨(hat1 o hc).2, ?_, fun x hx => ?_⟩
        · rcases hnew o hc with h1 | h1
          · rw [h1, hr1]
            exact hA q hqs
          · exact hA _ (Nat.le_trans hS.1 h1)
        · rcases hnew o hc with h1 | h1
          · rw [h1, hr1]
            exact hne x hx
          · obtain ⟨k, hk2⟩ := List.getElem?_of_mem hx
            have := (hPo k x hk2).lt
            omega
      · have hs : S o := ho.resolve_right hc
        rw [a2 o hc, zent_cg (ad := ad) (ad' := ad') (fun o' hr => a2 o' (hSr o hs o' hr))]
        obtain ⟨b1, b2, b3⟩ := hB.1 o hs
        exact ⟨b1.kept (hkk _ (hSl o hs).1 (hSl o hs).2), b2, fun x hx => b3 x (List.mem_append_left _ hx)⟩
    · by_cases hc : Cl o
      · by_cases hc' : Cl o'
        · exact hin1 o o' hc hc' (by rw [← a1 o hc, ← a1 o' hc', he])
        · have hs' := ho'.resolve_right hc'
          rw [a1 o hc, a2 o' hc'] at he
          exfalso
          rcases hnew o hc with h1 | h1
          · rw [h1, hr1] at he
            exact (hSl o' hs').2 he.symm
          · have := (hSl o' hs').1
            omega
      · have hs := ho.resolve_right hc
        by_cases hc' : Cl o'
        · rw [a2 o hc, a1 o' hc'] at he
          exfalso
          rcases hnew o' hc' with h1 | h1
          · rw [h1, hr1] at he
            exact (hSl o hs).2 he
          · have := (hSl o hs).1
            omega
        · exact hB.2 o o' hs (ho'.resolve_right hc') (by rw [← a2 o hc, ← a2 o' hc', he])
  have hS1 : va_S A s.heap T'.heap locs := ⟨Nat.le_trans hS.1 hz, fun x h1 h2 => by rw [hkk x (Nat.lt_of_lt_of_le h1 hS.1) (by omega)]; exact hS.2.1 x h1 h2, hS.2.2⟩
  have X'' := X'.dropFresh (fun x hx => by
    rcases hL1 x hx with z | z
    · rw [z]; exact hqs
    · exact Nat.le_trans hS.1 z)
  obtain ⟨t2, b1, b2⟩ := K ad' a2 (by rw [a1 root hroot, hr1]) T'.heap locs lsA hP1 hD1 hB1 hS1 hw hl T' rfl X''
  exact ⟨t2, stp t2 b1, b2⟩
theorem n_initN (hC : zNc X A l g own cc h nL) {i n hgt mc ms q ci : Nat} {y : zY} {av stk : List Value} {root : zO} {Cl : zO → Prop} {fs0 : List Value} {E : (zO → Nat) → Prop} (hd : decode cc pc = .ok (.invokespecial i, 3)) (hw2 : zLIN own i y n) (hM : zMetN l g y hgt mc ms av root Cl ci fs0 E) (hh : hgt + 1 ≤ h) (hq : zXs X ≤ q) (hwo : ∀ x ∈ wo, x ∈ ow.map Prod.fst) (hav : av.length = n) (hst : stk = av.reverse ++ .ref q :: st) (hcat : (st.map fun v => v.category).sum ≤ 8) (hmc : cl + mc ≤ (zXr X).cells) (hms : sl + ms ≤ (zXr X).slots) (hroot : Cl root) (hSC : ∀ o, S o → ¬ Cl o) (hSr : ∀ o, S o → ∀ o', zrefOf o o' → ¬ Cl o') (hCr : ∀ ad1, E ad1 → ∀ o, Cl o → ∀ o', zrefOf o o' → Cl o' ∨ ad1 o' = ad o')
    (K : ∀ ad' : zO → Nat, (∀ o, ¬ Cl o → ad' o = ad o) → ad' root = q → zNw X A (pc + 3) lv st ow wo (fun o => S o ∨ Cl o) ad' (cl + mc) (sl + ms)) : zNw X A pc lv stk (ow ++ [(q, .inr (ci, fs0))]) wo S ad cl sl := by
  subst hst
  obtain ⟨p, l, e, R, s, m, args, below, meth, c, Q, g, kc, ks⟩ := X
  obtain ⟨hx, hb, hml, hown, hts, hK, hAO, hR1, hR2, hlk, hl2, hg2, hA⟩ := hC
  subst hl2 hg2
  intro H locs lsA hP hD hB hS hw hl
  obtain ⟨⟨host, hlink⟩, hinst, hini, hcode, hyr, hyn, hd3, hmL⟩ := hw2
  have cb : va_CN R s args own i y.1 host y.2.1 y.2.2.1 none (zYw y) (zNR hgt mc ms) mc ms n := va_cnB n hts (zYw_good (fun _ z => z) (by rw [hyr]; exact hcode)) (by rw [zYw, hyr]) rfl rfl (hAO.2.2 _ hlink) (hts _ hini) hd3 ⟨by show hgt + 1 ≤ _; omega, by show 8 + (y.2.2.1 + 11) + 38 * hgt ≤ _; omega⟩
  have hqi : (ow ++ [(q, (.inr (ci, fs0) : va_E))])[ow.length]? = some (q, .inr (ci, fs0)) := by simp
  have hPc : va_P g.1 vwCl [(q, .inr (ci, fs0))] H := fun k x hx => by
    have hz : k < 1 := (List.getElem?_eq_some_iff.mp hx).1
    rw [show k = 0 by omega] at hx
    cases hx
    exact hP _ _ hqi
  have hqH : q < H.size := (hP _ _ hqi).lt
  have hne : ∀ x ∈ ow, x.1 ≠ q := fun x hx e => by
    obtain ⟨k, hk⟩ := List.getElem?_of_mem hx
    have hlt := (List.getElem?_eq_some_iff.mp hk).1
    have := hD.1 k ow.length x _ (by rw [List.getElem?_append_left hlt]; exact hk) hqi e
    omega
  have hr := va_runIN (e := e) (below := below) (meth := meth) (cells := cl) (slots := sl) (locs := locs) (As := av) ⟨hx, hb, rfl, hown, hts⟩ (hM q H.size) ⟨cb, hyn, hts _ hinst⟩ ⟨fun a U gg mk q => by
    obtain ⟨q0, q1, q2, q3, q4⟩ := q
    exact ⟨q0, q1, q2, va_K.moved (u := U) (U := U.calling gg mk a) (Vm.Alike.refl U.vm) q3, zAOs.same (u := U) (U := U.calling gg mk a) rfl q4⟩, fun U hU hW => ⟨rfl, by rw [hU], by rw [hU]; exact hPc, va_K.moved hW.alike hK, zAOs.warm hW hAO⟩⟩ (g := F0 m pc lsA (av.reverse ++ .ref q :: st)) (rest := st) rfl hav hl.1 rfl (lv_room hcat) hd ⟨hmc, hms⟩
  intro T hT X
  obtain ⟨v, st₀, t, T', L2, h0, X', hL1, e1, e2, ⟨⟨hv, ad1, hr1, hE1, hat1, hin1⟩, hz, hk⟩, stp⟩ := hr T hT X
  have hv : v = none := Outcome.returned.inj hv
  subst hv
  rw [h0] at hz hk
  rw [← e1] at hat1 hz hk
  have hqs : s.heap.size ≤ q := hq
  have hkk : ∀ x : Nat, x < H.size → x ≠ q → T'.heap[x]? = H[x]? := fun x h1 h2 => hk x h1 (fun z => by rcases z with z | z; exact h2 z; omega)
  have hAo : ∀ x ∈ ow, A x.1 := fun x hx => by
    obtain ⟨k, hk⟩ := List.getElem?_of_mem (List.mem_append_left [(q, (.inr (ci, fs0) : va_E))] hx)
    exact hD.2 k x hk
  have hPo : va_P g.1 vwCl ow H := fun k x hx => hP k x (by rw [List.getElem?_append_left (List.getElem?_eq_some_iff.mp hx).1]; exact hx)
  obtain ⟨ad', had⟩ : ∃ ad' : zO → Nat, ad' = fun o => @ite Nat (Cl o) (Classical.propDecidable (Cl o)) (ad1 o) (ad o) := ⟨_, rfl⟩
  have a1 : ∀ o, Cl o → ad' o = ad1 o := fun o ho => by rw [had]; exact if_pos ho
  have a2 : ∀ o, ¬ Cl o → ad' o = ad o := fun o ho => by rw [had]; exact if_neg ho
  have hnew : ∀ o, Cl o → o = root ∨ H.size ≤ ad1 o := fun o ho => (hat1 o ho).1
  have hP1 : va_P g.1 vwCl ow T'.heap := hPo.kept fun k x hx => hkk _ (hPo k x hx).lt (hne x (List.mem_of_getElem? hx))
  have hD1 : va_D A ow := ⟨fun i j x y hi hj => hD.1 i j x y (by rw [List.getElem?_append_left (List.getElem?_eq_some_iff.mp hi).1]; exact hi) (by rw [List.getElem?_append_left (List.getElem?_eq_some_iff.mp hj).1]; exact hj), fun k x hx => hAo x (List.mem_of_getElem? hx)⟩
  have hSl : ∀ o, S o → ad o < H.size ∧ ad o ≠ q := fun o ho => ⟨(hB.1 o ho).1.lt, fun z => (hB.1 o ho).2.2 (q, .inr (ci, fs0)) (by simp) z.symm⟩
  have hB1 : zBl g (fun o => S o ∨ Cl o) ad' ow A T'.heap := by
    refine ⟨fun o ho => ?_, fun o o' ho ho' he => ?_⟩
    · by_cases hc : Cl o
      · rw [a1 o hc, zent_cg (ad := ad1) (ad' := ad') (fun o' hr => by
          rcases hCr ad1 hE1 o hc o' hr with h1 | h1
          · exact a1 o' h1
          · by_cases h2 : Cl o'
            · exact a1 o' h2
            · rw [a2 o' h2, h1])]
        refine ⟨(hat1 o hc).2, ?_, fun x hx => ?_⟩
        · rcases hnew o hc with h1 | h1
          · rw [h1, hr1]
            exact hA q hqs
          · exact hA _ (Nat.le_trans hS.1 h1)
        · rcases hnew o hc with h1 | h1
          · rw [h1, hr1]
            exact hne x hx
          · obtain ⟨k, hk2⟩ := List.getElem?_of_mem hx
            have := (hPo k x hk2).lt
            omega
      · have hs : S o := ho.resolve_right hc
        rw [a2 o hc, zent_cg (ad := ad) (ad' := ad') (fun o' hr => a2 o' (hSr o hs o' hr))]
        obtain ⟨b1, b2, b3⟩ := hB.1 o hs
        exact ⟨b1.kept (hkk _ (hSl o hs).1 (hSl o hs).2), b2, fun x hx => b3 x (List.mem_append_left _ hx)⟩
    · by_cases hc : Cl o
      · by_cases hc' : Cl o'
        · exact hin1 o o' hc hc' (by rw [← a1 o hc, ← a1 o' hc', he])
        · have hs' := ho'.resolve_right hc'
          rw [a1 o hc, a2 o' hc'] at he
          exfalso
          rcases hnew o hc with h1 | h1
          · rw [h1, hr1] at he
            exact (hSl o' hs').2 he.symm
          · have := (hSl o' hs').1
            omega
      · have hs := ho.resolve_right hc
        by_cases hc' : Cl o'
        · rw [a2 o hc, a1 o' hc'] at he
          exfalso
          rcases hnew o' hc' with h1 | h1
          · rw [h1, hr1] at he
            exact (hSl o hs).2 he
          · have := (hSl o hs).1
            omega
        · exact hB.2 o o' hs (ho'.resolve_right hc') (by rw [← a2 o hc, ← a2 o' hc', he])
  have hS1 : va_S A s.heap T'.heap locs := ⟨Nat.le_trans hS.1 hz, fun x h1 h2 => by rw [hkk x (Nat.lt_of_lt_of_le h1 hS.1) (by omega)]; exact hS.2.1 x h1 h2, hS.2.2⟩
  have X'' := X'.dropFresh (fun x hx => by
    rcases hL1 x hx with z | z
    · rw [z]; exact hqs
    · exact Nat.le_trans hS.1 z)
  obtain ⟨t2, b1, b2⟩ := K ad' a2 (by rw [a1 root hroot, hr1]) T'.heap locs lsA hP1 hD1 hB1 hS1 hw hl T' rfl X''
  exact ⟨t2, stp t2 b1, b2⟩
/-- a cell in work is built -/
theorem n_mv {q : Nat} {E : va_E} {o : zO} (hno : ¬ S o) (hSr : ∀ x, S x → ¬ zrefOf x o) (K : ∀ ad' : zO → Nat, ad' o = q → (∀ x, x ≠ o → ad' x = ad x) → E = zent (X.2.2.2.2.2.2.2.2.2.2.2.1.1, ad', X.2.2.2.2.2.2.2.2.2.2.2.1.2.2) zM0 o ∧ zNw X A pc lv st ow wo (fun x => S x ∨ x = o) ad' cl sl) : zNw X A pc lv st (ow ++ [(q, E)]) wo S ad cl sl := by
  obtain ⟨p, l, e, R, s, m, args, below, meth, c, Q, g, kc, ks⟩ := X
  intro H locs lsA hP hD hB hS hw hl
  obtain ⟨ad', had⟩ : ∃ ad' : zO → Nat, ad' = fun x => @ite Nat (x = o) (Classical.propDecidable (x = o)) q (ad x) := ⟨_, rfl⟩
  have a1 : ad' o = q := by rw [had]; exact if_pos rfl
  have a2 : ∀ x, x ≠ o → ad' x = ad x := fun x hx => by rw [had]; exact if_neg hx
  obtain ⟨hE, K⟩ := K ad' a1 a2
  have hqi : (ow ++ [(q, E)])[ow.length]? = some (q, E) := by simp
  have hPo : va_P g.1 vwCl ow H := fun k x hx => hP k x (by rw [List.getElem?_append_left (List.getElem?_eq_some_iff.mp hx).1]; exact hx)
  have hne : ∀ x ∈ ow, x.1 ≠ q := fun x hx e => by
    obtain ⟨k, hk⟩ := List.getElem?_of_mem hx
    have hlt := (List.getElem?_eq_some_iff.mp hk).1
    have := hD.1 k ow.length x _ (by rw [List.getElem?_append_left hlt]; exact hk) hqi e
    omega
  have hD1 : va_D A ow := ⟨fun i j x y hi hj => hD.1 i j x y (by rw [List.getElem?_append_left (List.getElem?_eq_some_iff.mp hi).1]; exact hi) (by rw [List.getElem?_append_left (List.getElem?_eq_some_iff.mp hj).1]; exact hj), fun k x hx => hD.2 k x (by rw [List.getElem?_append_left (List.getElem?_eq_some_iff.mp hx).1]; exact hx)⟩
  refine K H locs lsA hPo hD1 ⟨fun x hx => ?_, fun x x' hx hx' he => ?_⟩ hS hw hl
  · by_cases hxo : x = o
    · subst hxo
      rw [a1]
      have := hP _ _ hqi
      rw [hE] at this
      exact ⟨this, hD.2 _ _ hqi, hne⟩
    · have hs := hx.resolve_right hxo
      obtain ⟨b1, b2, b3⟩ := hB.1 x hs
      rw [a2 x hxo, zent_cg (ad := ad) (ad' := ad') (fun o' hr => a2 o' (fun z => hSr x hs (z ▸ hr)))]
      exact ⟨b1, b2, fun y hy => b3 y (List.mem_append_left _ hy)⟩
  · have hnq : ∀ x, S x → ad x ≠ q := fun x hs z => (hB.1 x hs).2.2 (q, E) (by simp) z.symm
    by_cases hxo : x = o
    · by_cases hxo' : x' = o
      · rw [hxo, hxo']
      · rw [hxo, a1, a2 x' hxo'] at he
        exact absurd he.symm (hnq x' (hx'.resolve_right hxo'))
    · by_cases hxo' : x' = o
      · rw [hxo', a1, a2 x hxo] at he
        exact absurd he (hnq x (hx.resolve_right hxo))
      · exact hB.2 x x' (hx.resolve_right hxo) (hx'.resolve_right hxo') (by rw [← a2 x hxo, ← a2 x' hxo', he])
/-- the constructor's end -/
theorem n_ret (hC : zNc X A l g own cc h nL) {a : Nat} {root : zO} {Cl : zO → Prop} {E : (zO → Nat) → Prop} (hd : decode cc pc = .ok (.return_, 1)) (hQ : zNE X A a root Cl E cl sl) (hA : A = zNA a (zXs X)) (hr : ad root = a) (hE : E ad) (hCl : ∀ o, Cl o → S o) (hroot : Cl root) : zNw X A pc lv [] [] wo S ad cl sl := by
  obtain ⟨p, l, e, R, s, m, args, below, meth, c, Q, g, kc, ks⟩ := X
  obtain ⟨hx, hb, hml, hown, hts, hK, hAO, hR1, hR2, hlk, hl2, hg2, hA2⟩ := hC
  subst hl2 hg2
  obtain ⟨hr2, hQ⟩ := hQ
  subst hQ
  intro H locs lsA hP hD hB hS hw hl
  refine W.vret hx hb hr2 (fun t ht hW => ⟨⟨rfl, ad, hr, hE, fun o ho => ⟨?_, ?_⟩, fun o o' ho ho' he => hB.2 o o' (hCl o ho) (hCl o' ho') he⟩, hS.F ht⟩) hS.2.2 hd hlk
  · have := (hB.1 o (hCl o ho)).2.1
    rw [hA] at this
    rcases this with z | z
    · exact Or.inl (hB.2 o root (hCl o ho) (hCl root hroot) (by rw [z, hr]))
    · exact Or.inr z
  · rw [ht]
    exact (hB.1 o (hCl o ho)).1
end NROWS3
