section NROWS4
variable {X : zX} {A : Nat → Prop} {l : Launch} {g : zG} {own : String} {cc : ByteArray} {h nL pc cl sl : Nat} {lv : List (Nat × Value)} {st : List Value} {ow : va_W} {wo : List Nat} {S : zO → Prop} {ad : zO → Nat}
theorem n_istore_n (hC : zNc X A l g own cc h nL) {k : Fin 4} {i : Nat} {x : Int32} {lv' : List (Nat × Value)} (hd : decode cc pc = .ok (.istore_n k, 1)) (hi : (k : Nat) = i) (hn : i < nL) (hlv : (i, Value.int x) :: lv.filter (fun q => !(q.1 == i) && !(q.1 + 1 == i && q.2.category == 2)) = lv') (K : zNw X A (pc + 1) lv' st ow wo S ad cl sl) : zNw X A pc lv (.int x :: st) ow wo S ad cl sl := by
  obtain ⟨p, l, e, R, s, m, args, below, meth, c, Q, g, kc, ks⟩ := X
  obtain ⟨hx, hb, hml, hown, hts, hK, hAO, hR1, hR2, hlk, hl2, hg2, hA⟩ := hC
  subst hl2 hg2
  intro H locs lsA hP hD hB hS hw hl
  refine lv_istore_n (lv' := lv') hx hb hd hi hl (by omega) hlv (fun ls hl => ?_)
  exact K H locs ls hP hD hB hS hw hl
theorem n_iinc (hC : zNc X A l g own cc h nL) {i : Nat} {n x : Int} {lv' : List (Nat × Value)} (k : Nat) (hd : decode cc pc = .ok (.iinc i n, 3)) (hk : lv[k]? = some (i, .int (Int32.ofInt x))) (hn : i < nL) (hlv : (i, Value.int (Int32.ofInt (x + n))) :: lv.filter (fun q => !(q.1 == i) && !(q.1 + 1 == i && q.2.category == 2)) = lv') (K : zNw X A (pc + 3) lv' st ow wo S ad cl sl) : zNw X A pc lv st ow wo S ad cl sl := by
  obtain ⟨p, l, e, R, s, m, args, below, meth, c, Q, g, kc, ks⟩ := X
  obtain ⟨hx, hb, hml, hown, hts, hK, hAO, hR1, hR2, hlk, hl2, hg2, hA⟩ := hC
  subst hl2 hg2
  intro H locs lsA hP hD hB hS hw hl
  refine lv_iinc (k := k) (lv' := lv') hx hb hd hl hk (v := Int32.ofInt (x + n)) (zadd x n) (by omega) hlv (fun ls hl => ?_)
  exact K H locs ls hP hD hB hS hw hl
theorem n_icmp_ge (hC : zNc X A l g own cc h nL) {x y off : Int} {tgt : Nat} (hd : decode cc pc = .ok (.if_icmp .ge off, 3)) (ht : (pc : Int) + off = (tgt : Int)) (hx0 : 0 ≤ x ∧ x ≤ 5000) (hy0 : 0 ≤ y ∧ y ≤ 5000) (kt : y ≤ x → zNw X A tgt lv st ow wo S ad cl sl) (kf : x < y → zNw X A (pc + 3) lv st ow wo S ad cl sl) : zNw X A pc lv (.int (Int32.ofInt y) :: .int (Int32.ofInt x) :: st) ow wo S ad cl sl := by
  obtain ⟨p, l, e, R, s, m, args, below, meth, c, Q, g, kc, ks⟩ := X
  obtain ⟨hx, hb, hml, hown, hts, hK, hAO, hR1, hR2, hlk, hl2, hg2, hA⟩ := hC
  subst hl2 hg2
  intro H locs lsA hP hD hB hS hw hl
  have z1 : zin x := ⟨by omega, by omega⟩
  have z2 : zin y := ⟨by omega, by omega⟩
  refine lv_icmp_ge hx hb hd ht (fun q => ?_) (fun q => ?_)
  · exact kt ((zle z2 z1).mp q) H locs lsA hP hD hB hS hw hl
  · exact kf (by have : ¬ y ≤ x := fun z => q ((zle z2 z1).mpr z); omega) H locs lsA hP hD hB hS hw hl
theorem n_iast (hC : zNc X A l g own cc h nL) {j0 a N : Nat} {n : Int} {x : Int32} {f : Nat → Int32} (hd : decode cc pc = .ok (.iastore, 1)) (he : ow[j0]? = some (a, .inl (g.2.2 0, N, .inl f))) (h0 : 0 ≤ n) (h1 : n < N) (hN : N ≤ 5000) (hwo : ∀ x ∈ wo, x ∈ ow.map Prod.fst) (K : zNw X A (pc + 1) lv st (ow.set j0 (a, .inl (g.2.2 0, N, .inl (upd f n.toNat x)))) (ow.map Prod.fst) S ad cl sl) : zNw X A pc lv (.int x :: .int (Int32.ofInt n) :: .ref a :: st) ow wo S ad cl sl := by
  obtain ⟨p, l, e, R, s, m, args, below, meth, c, Q, g, kc, ks⟩ := X
  obtain ⟨hx, hb, hml, hown, hts, hK, hAO, hR1, hR2, hlk, hl2, hg2, hA⟩ := hC
  subst hl2 hg2
  intro H locs lsA hP hD hB hS hw hl
  have hz : zin n := ⟨by omega, by omega⟩
  have hn : (Int32.ofInt n).toNatClampNeg = n.toNat := zcl hz
  refine va_iast (D := g.1) hx hb hK hP (zown_D hD) (zown_S (H := H) hw hwo) j0 0 he (zTYS_at (by decide)) (vp_in_iff.mpr (by rw [zti hz]; omega)) hd fun H1 locs1 hP1 _ hS1 => ?_
  rw [hn] at hP1
  have hz2 := zBl_w (ow' := ow.set j0 (a, .inl (g.2.2 0, N, .inl (upd f n.toNat x)))) hB hS hD (zown_set (x0 := (a, .inl (g.2.2 0, N, .inl f))) he) hS1
  exact K H1 locs1 lsA hP1 (hD.set he) hz2.1 hz2.2.1 hz2.2.2 hl
end NROWS4
/-- a constructor's contract out of a walk of its body -/
theorem zN_intro {l : Launch} {g : zG} {y : zY} {hgt mc ms : Nat} {av : List Value} {root : zO} {Cl : zO → Prop} {ci : Nat} {fs0 : List Value} {E : (zO → Nat) → Prop} (ad0 : zO → Nat) (hy : plainFor y.1 = true) (hret : y.2.2.2.1 = none) (hnm : y.1.name = "<init>") (hlen : ∀ a : Nat, (lg_sl (Value.ref a :: av)).length ≤ y.2.2.1)
    (body : ∀ (X : zX) (a : Nat), zNc X (zNA a (zXs X)) l g y.1.cls y.2.1 hgt y.2.2.1 → (zXm X).name = "<init>" → zXr X = zNR hgt mc ms → zNE X (zNA a (zXs X)) a root Cl E mc ms → zNw X (zNA a (zXs X)) 0 (lv_args 0 (Value.ref a :: av)) [] [(a, .inr (ci, fs0))] [] (fun _ => False) ad0 0 0) : zMetN l g y hgt mc ms av root Cl ci fs0 E := by
  intro a sz
  refine zofW (cc := y.2.1) (maxL := y.2.2.1) (ret := y.2.2.2.1) hy rfl ?_
  intro p e s m args below meth c s₁ B hml hv
  obtain ⟨rfl, hsz, hP, hK, hAO⟩ := hv
  subst hsz
  have hts := atoms_spec (ws := zYw y) B.pre
  have hown : s.vm.findClass y.1.cls = some m.cls := findClass_of_methodNamed B.named
  have hin : meth.name = "<init>" := (name_of_methodNamed B.named B.method).1.trans hnm
  have hl := lv_entry (Value.ref a :: av) (n := y.2.2.1) (hlen a)
  rw [lg_entry_eq]
  have hA : ∀ q, s.heap.size ≤ q → zNA a s.heap.size q := fun q hq => Or.inr hq
  have hP0 := hP 0 (a, .inr (ci, fs0)) rfl
  refine body (p, l, e, (headSpec (zYw y) (zNR hgt mc ms)).room, s, m, (Value.ref a :: av).toArray, below, meth, c, MQ below (fun _ st oc t => (oc = .returned none ∧ zNQ g a s.heap.size root Cl E t.heap) ∧ va_F (zNA a s.heap.size) st t) (Value.ref a :: av).toArray s mc ms (zNA a s.heap.size), g, 0, 0) a ⟨B.exec, B.bytes, hml, hown, fun w hw => hts w (List.mem_cons_of_mem _ hw), hK, hAO, Nat.le_refl _, Nat.le_refl _, B.notSynchronized, rfl, rfl, hA⟩ hin rfl ⟨by rw [← hret]; exact B.returns, rfl⟩ s.heap [] _ hP ⟨fun i j p q hi hj he => ?_, fun k q hk => ?_⟩ ⟨fun o ho => ho.elim, fun o o' ho => ho.elim⟩ va_S.rf (fun q hq => by cases hq) (by rw [hml]; exact hl)
  · have h1 : i < 1 := (List.getElem?_eq_some_iff.mp hi).1
    have h2 : j < 1 := (List.getElem?_eq_some_iff.mp hj).1
    omega
  · have h1 : k < 1 := (List.getElem?_eq_some_iff.mp hk).1
    rw [show k = 0 by omega] at hk
    cases hk
    exact Or.inl rfl
theorem zno_ref {t k n : Nat} {s i : Int} {o : zO} (h1 : zTO t = none) (h2 : zTA t = some (k, n)) (h3 : zTR k = false) : ¬ zrefOf (t, s, i) o := by
  rintro (⟨c, k', q1, -⟩ | ⟨q, j, q1, q2, q3, -⟩)
  · rw [h1] at q1
    cases q1
  · rw [h2] at q2
    cases q2
    rw [h3] at q3
    cases q3
theorem zent0 {g : zG} {t k n : Nat} {s i : Int} (h1 : zTO t = none) (h2 : zTA t = some (k, n)) (h3 : zTR k = false) (h4 : t ≠ 1 ∧ t ≠ 2 ∧ t ≠ 45) : (Sum.inl (g.2.2 k, n, Sum.inl fun _ => 0) : va_E) = zent g zM0 (t, s, i) := by
  rw [zent_arr h1 h2 h3]
  congr 4
  funext j
  rw [zM0_z (by omega)]
  rfl
/-- a cell in work is built, the world's own form -/
theorem n_mv2 {X : zX} {A : Nat → Prop} {l : Launch} {g : zG} {own : String} {cc : ByteArray} {h nL pc cl sl : Nat} {lv : List (Nat × Value)} {st : List Value} {ow : va_W} {wo : List Nat} {S : zO → Prop} {ad : zO → Nat} (hC : zNc X A l g own cc h nL) {q : Nat} {E : va_E} (o : zO) (hno : ¬ S o) (hSr : ∀ x, S x → ¬ zrefOf x o) (K : ∀ ad' : zO → Nat, ad' o = q → (∀ x, x ≠ o → ad' x = ad x) → E = zent (g.1, ad', g.2.2) zM0 o ∧ zNw X A pc lv st ow wo (fun x => S x ∨ x = o) ad' cl sl) : zNw X A pc lv st (ow ++ [(q, E)]) wo S ad cl sl := by
  refine n_mv hno hSr (fun ad' e1 e2 => ?_)
  have hg : X.2.2.2.2.2.2.2.2.2.2.2.1 = g := by
    obtain ⟨p, l, e, R, s, m, args, below, meth, c, Q, g, kc, ks⟩ := X
    exact hC.2.2.2.2.2.2.2.2.2.2.2.1
  rw [hg]
  exact K ad' e1 e2
theorem zsub_1 {wo : List Nat} {ow ow' : va_W} (h : ∀ x ∈ wo, x ∈ ow.map Prod.fst) : ∀ x ∈ wo, x ∈ (ow ++ ow').map Prod.fst := fun x hx => by
  rw [List.map_append]
  exact List.mem_append_left _ (h x hx)
set_option maxRecDepth 20000 in
theorem cn_X8 (l : Launch) (g : zG) {s i : Int} : zMetN l g Y_X8_init 1 0 0 [] (5, s, i) (fun x => x = (5, s, i)) 8 zf0_X8 (fun _ => True) := by
  refine zN_intro (fun _ => 0) (by decide +kernel) rfl rfl (fun _ => Nat.le_of_ble_eq_true rfl) fun X a hC hN hR hE => ?_
  change zNw X _ 0 [(0, .ref a)] [] _ _ _ _ _ _
  refine n_aload_n hC 0 dX8_init_0 rfl rfl ?_
  refine n_objInit hC (by decide) dX8_init_1 KO_X8 KOi KOc ?_
  refine n_mv2 (ow := []) hC (5, s, i) (fun z => z) (fun _ z => z.elim) (fun ad1 e1 o1 => ⟨by rw [zent_obj (ci := 8) rfl]; rfl, ?_⟩)
  exact n_ret hC dX8_init_4 hE rfl e1 trivial (fun o ho => Or.inr ho) rfl
