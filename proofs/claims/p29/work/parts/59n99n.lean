theorem zouter {cA h0 : Nat} : Jvm.Free.Multi.outerC cA 8 h0 8 = arrV cA 8 (fun j => va_rf (if j < 8 then some (h0 + 1 + j) else none)) := by
  obtain ⟨zcq1, zcq2, zcq3⟩ := Jvm.Free.Multi.outerC_facts cA 8 h0 8
  have zcq4 := fun j hj => Jvm.Free.Multi.outerC_slot cA 8 h0 8 j hj
  have zcq5 : (Jvm.Free.Multi.outerC cA 8 h0 8).monitor = {} := rfl
  have zcq6 : (Jvm.Free.Multi.outerC cA 8 h0 8).hash = none := rfl
  generalize Jvm.Free.Multi.outerC cA 8 h0 8 = C at *
  obtain ⟨cls, slots, vm, mon, hash⟩ := C
  simp only at zcq1 zcq2 zcq3 zcq4 zcq5 zcq6
  subst zcq1 zcq2 zcq5 zcq6
  unfold arrV
  congr 1
  apply Array.ext_getElem?
  intro j
  by_cases hj : j < 8
  · rw [zcq4 j hj, if_pos hj, Array.getElem?_ofFn, dif_pos hj]
    simp [va_rf, hj]
  · rw [Array.getElem?_eq_none (by omega), Array.getElem?_ofFn, dif_neg hj]
theorem n_multi {X : zX} {A : Nat → Prop} {l : Launch} {g : zG} {own : String} {cc : ByteArray} {h nL pc cl sl : Nat} {lv : List (Nat × Value)} {st : List Value} {ow : va_W} {wo : List Nat} {S : zO → Prop} {ad : zO → Nat} (hC : zNc X A l g own cc h nL) {i : Nat} (hd : decode cc pc = .ok (.multianewarray i 2, 4)) (hw2 : Cond.classLink own i "[[I" ∈ zW) (hwA : Cond.arrayClass .int ∈ zW) (hSt : ∀ x, S x → x.1 ≠ 31 ∧ x.1 ≠ 32) (hSr : ∀ x, S x → ∀ o, zrefOf x o → o.1 ≠ 31 ∧ o.1 ≠ 32) (hcl : cl + 9 ≤ (zXr X).cells) (hsl : sl + 32 ≤ (zXr X).slots)
    (K : ∀ (q : Nat) (ad' : zO → Nat), ad' (31, 0, 0) = q → (∀ x : zO, x.1 ≠ 31 → x.1 ≠ 32 → ad' x = ad x) → zNw X A (pc + 4) lv (.ref q :: st) ow wo (fun x => S x ∨ (x = (31, 0, 0) ∨ ∃ j : Int, 0 ≤ j ∧ j < 8 ∧ x = (32, 0, j))) ad' (cl + 9) (sl + 32)) : zNw X A pc lv (.int (Int32.ofInt 3) :: .int (Int32.ofInt 8) :: st) ow wo S ad cl sl := by
  obtain ⟨p, l, e, R, s, m, args, below, meth, c, Q, g, kc, ks⟩ := X
  obtain ⟨hx, hb, hml, hown, hts, hK, hAO, hR1, hR2, hlk, hl2, hg2, hA⟩ := hC
  subst hl2 hg2
  intro H locs lsA hP hD hB hS hw hl T hT Xs
  subst hT
  have hcl : cl + 9 ≤ R.cells := hcl
  have hsl : sl + 32 ≤ R.slots := hsl
  have e8 : (Int32.ofInt 8).toNatClampNeg = 8 := by decide
  have e3 : (Int32.ofInt 3).toNatClampNeg = 3 := by decide
  obtain ⟨vm₁, cA, comp, hW, hfA, hfC, hO, hI, X1, stp⟩ := Xs.multianewarray2F hx (own := own) (index := i) (ty := .int) hown (hts _ hw2) hAO.2.1 (hts _ hwA) (g := F0 m pc lsA (.int (Int32.ofInt 3) :: .int (Int32.ofInt 8) :: st)) rfl (by rw [hb]; exact hd) (n := Int32.ofInt 8) (k := Int32.ofInt 3) (rest := st) rfl (by decide) (by decide) (by decide) (by decide) (by decide) rfl rfl (by rw [e8]; omega) (by rw [e8, e3]; omega)
  simp only [e8, e3] at X1 stp
  have hcA : cA = g.2.2 7 := Option.some.inj (hfA.symm.trans (zRA_name (hK.2 7 _ (zTYS_at (by decide))).2))
  have hcC : comp = g.2.2 0 := Option.some.inj (hfC.symm.trans (zRA_name (hK.2 0 _ (zTYS_at (by decide))).2))
  subst hcA hcC
  obtain ⟨f1, f2, -, -⟩ := Jvm.Free.Multi.fill_facts (T.setVm vm₁) (g.2.2 7) (g.2.2 0) 8 3 (defaultValue .int) 8
  have fo := fun (a : Addr) (ha : a < (T.setVm vm₁).heap.size) => Jvm.Free.Multi.fill_old (T.setVm vm₁) (g.2.2 7) (g.2.2 0) 8 3 (defaultValue .int) ha 8
  have fi := fun (j : Nat) (hj : j < 8) => Jvm.Free.Multi.fill_inner (T.setVm vm₁) (g.2.2 7) (g.2.2 0) 8 3 (defaultValue .int) 8 j hj
  change _ = T.heap.size + 1 + 8 at f1
  change _[T.heap.size]? = some (Jvm.Free.Multi.outerC (g.2.2 7) 8 T.heap.size 8) at f2
  change ∀ a, a < T.heap.size → _ = T.heap[a]? at fo
  change ∀ j, j < 8 → _[T.heap.size + 1 + j]? = _ at fi
  rw [zouter] at f2
  generalize hT1 : Jvm.Free.Multi.fill (T.setVm vm₁) (g.2.2 7) (g.2.2 0) 8 3 (defaultValue .int) 8 = T1 at *
  obtain ⟨ad', had⟩ : ∃ ad' : zO → Nat, ad' = fun x => if x.1 = 31 then T.heap.size else if x.1 = 32 then T.heap.size + 1 + x.2.2.toNat else ad x := ⟨_, rfl⟩
  have a31 : ad' (31, 0, 0) = T.heap.size := by rw [had]; rfl
  have a32 : ∀ j : Int, ad' (32, 0, j) = T.heap.size + 1 + j.toNat := fun j => by rw [had]; rfl
  have ao : ∀ x : zO, x.1 ≠ 31 → x.1 ≠ 32 → ad' x = ad x := fun x h1 h2 => by
    rw [had]
    show (if x.1 = 31 then _ else if x.1 = 32 then _ else _) = _
    rw [if_neg h1, if_neg h2]
  have hPo : va_P g.1 vwCl ow T1.heap := hP.kept fun k x hx => fo _ (hP k x hx).lt
  have hlt : ∀ x ∈ ow, x.1 < T.heap.size := fun x hx => by
    obtain ⟨k, hk⟩ := List.getElem?_of_mem hx
    exact (hP k x hk).lt
  have hSl : ∀ o, S o → ad o < T.heap.size := fun o ho => (hB.1 o ho).1.lt
  have hB1 : zBl g (fun x => S x ∨ (x = (31, 0, 0) ∨ ∃ j : Int, 0 ≤ j ∧ j < 8 ∧ x = (32, 0, j))) ad' ow A T1.heap := by
    refine ⟨fun o ho => ?_, fun o o' ho ho' he => ?_⟩
    · rcases ho with ho | rfl | ⟨j, j0, j1, rfl⟩
      · have ht := hSt o ho
        rw [ao o ht.1 ht.2, zent_cg (ad := ad) (ad' := ad') (fun o' hr => ao o' (hSr o ho o' hr).1 (hSr o ho o' hr).2)]
        obtain ⟨b1, b2, b3⟩ := hB.1 o ho
        exact ⟨b1.kept (fo _ b1.lt), b2, b3⟩
      · rw [a31]
        refine ⟨?_, hA _ hS.1, fun x hx => by have := hlt x hx; omega⟩
        rw [zent_rarr (t := 31) (q := (7, 8)) rfl rfl rfl]
        show T1.heap[T.heap.size]? = some (vp_cell _ _)
        rw [vp_cell_q, f2]
        congr 2
        funext j
        by_cases hj : j < 8
        · rw [if_pos hj, if_pos hj]
          exact congrArg (fun z => va_rf (some z)) (a32 j).symm
        · rw [if_neg hj, if_neg hj]
      · rw [a32]
        refine ⟨?_, hA _ (by have := hS.1; omega), fun x hx => by have := hlt x hx; omega⟩
        rw [← zent0 (g := (g.1, ad', g.2.2)) (t := 32) rfl rfl rfl (by decide)]
        show T1.heap[T.heap.size + 1 + j.toNat]? = some (vp_cell _ _)
        rw [fi _ (by omega)]
        unfold Jvm.Free.Multi.innerC
        rw [arrV_new]
        rfl
    · rcases ho with ho | rfl | ⟨j, j0, j1, rfl⟩ <;> rcases ho' with ho' | rfl | ⟨j', j0', j1', rfl⟩
      · have ht := hSt o ho
        have ht' := hSt o' ho'
        rw [ao o ht.1 ht.2, ao o' ht'.1 ht'.2] at he
        exact hB.2 o o' ho ho' he
      · have ht := hSt o ho
        rw [ao o ht.1 ht.2, a31] at he
        have := hSl o ho
        omega
      · have ht := hSt o ho
        rw [ao o ht.1 ht.2, a32] at he
        have := hSl o ho
        omega
      · have ht' := hSt o' ho'
        rw [ao o' ht'.1 ht'.2, a31] at he
        have := hSl o' ho'
        omega
      · rfl
      · rw [a31, a32] at he
        omega
      · have ht' := hSt o' ho'
        rw [ao o' ht'.1 ht'.2, a32] at he
        have := hSl o' ho'
        omega
      · rw [a31, a32] at he
        omega
      · rw [a32, a32] at he
        rw [show j = j' by omega]
  have hS1 : va_S A s.heap T1.heap locs := ⟨by have := hS.1; omega, fun x h1 h2 => by rw [fo x (Nat.lt_of_lt_of_le h1 hS.1)]; exact hS.2.1 x h1 h2, hS.2.2⟩
  obtain ⟨t2, b1, b2⟩ := K T.heap.size ad' a31 ao T1.heap locs lsA hPo hD hB1 hS1 hw hl T1 rfl X1
  exact ⟨t2, stp t2 b1, b2⟩
