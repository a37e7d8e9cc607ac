/-- the script stands where it stood at the start -/
def zXsc (X : zX) (g : zG) (L : Nat) (xs : Nat → Int32) : Prop := match X with
  | (p, l, e, R, s, m, args, below, meth, c, Q, g2, kc, ks) => va_X (g.2.1 (998, 0, 0)) L xs s s.heap ∧ g.2.1 (998, 0, 0) < s.heap.size ∧ ¬ zA g (g.2.1 (998, 0, 0))
theorem zXsc_add {X : zX} {g : zG} {L a b : Nat} {xs : Nat → Int32} (h : zXsc X g L xs) : zXsc (zAdd X a b) g L xs := by
  obtain ⟨p, l, e, R, s, m, args, below, meth, c, Q, g2, kc, ks⟩ := X
  exact h
theorem zBud_add {X : zX} {a b a' b' : Nat} (h : zBud X (a + a') (b + b')) : zBud (zAdd X a b) a' b' := by
  obtain ⟨p, l, e, R, s, m, args, below, meth, c, Q, g2, kc, ks⟩ := X
  obtain ⟨h1, h2⟩ := h
  exact ⟨by show kc + a + a' ≤ _; omega, by show ks + b + b' ≤ _; omega⟩
theorem zBud_le {X : zX} {a b a' b' : Nat} (h : zBud X a b) (ha : a' ≤ a) (hb : b' ≤ b) : zBud X a' b' := by
  obtain ⟨p, l, e, R, s, m, args, below, meth, c, Q, g2, kc, ks⟩ := X
  obtain ⟨h1, h2⟩ := h
  exact ⟨by omega, by omega⟩
section ZCELL
variable {X : zX} {l : Launch} {g : zG} {own : String} {cc : ByteArray} {h nL pc L : Nat} {xs : Nat → Int32} {ls : zL} {st : List zV} {mem : zM}
theorem z_imulw (hG : zGood X l g own cc h nL) {x y : Int} (hd : decode cc pc = .ok (.imul, 1)) (k : zZ X (pc + 1) ls (zi (zwr (x * y)) :: st) mem) : zZ X pc ls (zi y :: zi x :: st) mem := by
  obtain ⟨p, l, e, R, s, m, args, below, meth, c, Q, g, kc, ks⟩ := X
  obtain ⟨hx, hb, hml, hown, hts, hK, hN, hg, hR1, hR2, hlk, hl2, hg2⟩ := hG
  subst hl2 hg2
  intro hM hL hS H locs lsA hP hS0 hl
  have hxx : zin x := (zokS_cons.mp (zokS_cons.mp hS).2).1
  have hyy : zin y := (zokS_cons.mp hS).1
  refine lv_imul hx hb hd ?_
  rw [zmul, show Int32.ofInt (x * y) = Int32.ofInt (zwr (x * y)) from (Int32.ofInt_toInt _).symm]
  exact k hM hL (zokS_cons.mpr ⟨zinT _, (zokS_cons.mp (zokS_cons.mp hS).2).2⟩) H locs lsA hP hS0 hl
theorem z_xlen (hG : zGood X l g own cc h nL) (hX : zXsc X g L xs) (hL : L ≤ 2048) (hd : decode cc pc = .ok (.arraylength, 1)) (k : zZ X (pc + 1) ls (zi (L : Int) :: st) mem) : zZ X pc ls (zr 998 0 0 :: st) mem := by
  obtain ⟨p, l, e, R, s, m, args, below, meth, c, Q, g, kc, ks⟩ := X
  obtain ⟨hx, hb, hml, hown, hts, hK, hN, hg, hR1, hR2, hlk, hl2, hg2⟩ := hG
  subst hl2 hg2
  intro hM hL2 hS H locs lsA hP hS0 hl
  obtain ⟨x1, x2, x3⟩ := hX
  refine va_slen hx hb x1 x2 x3 hS0 hd ?_
  exact k hM hL2 (zokS_cons.mpr ⟨⟨by omega, by omega⟩, (zokS_cons.mp hS).2⟩) H locs lsA hP hS0 hl
theorem z_xld (hG : zGood X l g own cc h nL) (hX : zXsc X g L xs) (hL : L ≤ 2048) {j : Nat} (hj : j < L) (hd : decode cc pc = .ok (.iaload, 1)) (k : zZ X (pc + 1) ls (zi (xs j).toInt :: st) mem) : zZ X pc ls (zi (j : Int) :: zr 998 0 0 :: st) mem := by
  obtain ⟨p, l, e, R, s, m, args, below, meth, c, Q, g, kc, ks⟩ := X
  obtain ⟨hx, hb, hml, hown, hts, hK, hN, hg, hR1, hR2, hlk, hl2, hg2⟩ := hG
  subst hl2 hg2
  intro hM hL2 hS H locs lsA hP hS0 hl
  obtain ⟨x1, x2, x3⟩ := hX
  have hz : zin (j : Int) := ⟨by omega, by omega⟩
  have h1 : vp_in (Int32.ofInt (j : Int)) L := vp_in_iff.mpr (by rw [zti hz]; omega)
  have h2 : (Int32.ofInt (j : Int)).toNatClampNeg = j := by rw [zcl hz]; omega
  refine va_sld hx hb x1 x2 x3 hS0 h1 hd ?_
  rw [h2]
  have e : Value.int (xs j) = zup g (zi (xs j).toInt) := by rw [zup, Int32.ofInt_toInt]
  rw [e]
  exact k hM hL2 (zokS_cons.mpr ⟨zinT _, (zokS_cons.mp (zokS_cons.mp hS).2).2⟩) H locs lsA hP hS0 hl
end ZCELL
/-- a contract of a method that reads the script -/
def zMetS (l : Launch) (g : zG) (L : Nat) (xs : Nat → Int32) (y : zY) (av : List zV) (mem : zM) (Rt : Option zV → zM → Prop) : Prop :=
  zGok g → zokM mem → zokS g av → ¬ zA g (g.2.1 (998, 0, 0)) → Met l y.1 (zYw y) (zRoom y.2.2.2.2) (va_Pc (av.map (zup g)) (fun U => zPW g mem U ∧ va_X (g.2.1 (998, 0, 0)) L xs U U.heap ∧ g.2.1 (998, 0, 0) < U.heap.size)) (zQc g Rt) 0 0 (zA g)
theorem zMetS_intro {l : Launch} {g : zG} {L : Nat} {xs : Nat → Int32} {y : zY} {av : List zV} {mem : zM} {Rt : Option zV → zM → Prop} (hy : plainFor y.1 = true) (hlen : (zin0 av).length ≤ y.2.2.1) {ls0 : zL} (he : zentry av y.2.2.1 = ls0)
    (body : ∀ X : zX, zGood X l g y.1.cls y.2.1 y.2.2.2.2 y.2.2.1 → zEnd X y.2.2.2.1 Rt → zXsc X g L xs → zZ X 0 ls0 [] mem) : zMetS l g L xs y av mem Rt := by
  subst he
  intro hg hM hS hA
  refine zofW (cc := y.2.1) (maxL := y.2.2.1) (ret := y.2.2.2.1) hy rfl ?_
  intro p e s m args below meth c s₁ B hml hv
  obtain ⟨rfl, ⟨hP, hK, hN⟩, hX, hbl⟩ := hv
  have hts := atoms_spec (ws := zYw y) B.pre
  have hown : s.vm.findClass y.1.cls = some m.cls := findClass_of_methodNamed B.named
  have hG : zGood (p, l, e, (headSpec (zYw y) (zRoom y.2.2.2.2)).room, s, m, (av.map (zup g)).toArray, below, meth, c, MQ below (zQc g Rt) (av.map (zup g)).toArray s 0 0 (zA g), g, 0, 0) l g y.1.cls y.2.1 y.2.2.2.2 y.2.2.1 :=
    ⟨B.exec, B.bytes, hml, hown, fun w hw => hts w (List.mem_cons_of_mem _ hw), hK, hN, hg, ⟨Nat.le_refl _, Nat.zero_le _, Nat.zero_le _⟩, Nat.le_refl _, B.notSynchronized, rfl, rfl⟩
  have hl := lv_entry (av.map (zup g)) (n := y.2.2.1) (by rw [zin0_len]; exact hlen)
  rw [lg_entry_eq]
  refine body _ hG ⟨B.returns, rfl⟩ ⟨hX, hbl, hA⟩ hM ?_ zokS_nil s.heap [] _ hP va_S.rf ⟨?_, hl.2.1, ?_⟩
  · intro v hv
    rcases List.mem_append.mp hv with h | h
    · exact hS v (zin0_mem av v h)
    · have := List.eq_of_mem_replicate h
      cases this
  · rw [hml]; exact hl.1
  · intro k v hk
    unfold zentry at hk
    by_cases hlt : k < (zin0 av).length
    · rw [List.getElem?_append_left hlt] at hk
      have h1 := zin0_at (g := g) av k v hk
      simp only [List.getElem?_toArray]
      rw [List.getElem?_append_left (by rw [zin0_len]; exact hlt)]
      exact h1
    · rw [List.getElem?_append_right (by omega)] at hk
      have := List.eq_of_mem_replicate (List.mem_of_getElem? hk)
      cases this
theorem zPX_blind {g : zG} {mem : zM} {av : List Value} {b L : Nat} {xs : Nat → Int32} : FrameBlind (va_Pc av (fun U => zPW g mem U ∧ va_X b L xs U U.heap ∧ b < U.heap.size)) := by
  intro a U gg mk q
  obtain ⟨q0, ⟨q1, q2, q3⟩, q4, q5⟩ := q
  exact ⟨q0, ⟨q1, va_K.moved (u := U) (U := U.calling gg mk a) (Vm.Alike.refl U.vm) q2, fun w hw => by
    have h1 := q3 w hw
    obtain ⟨r, -, rfl⟩ := List.mem_map.mp hw
    exact va_Nw.same rfl rfl h1⟩, va_X.moved (u := U) (U := U.calling gg mk a) (Vm.Alike.refl U.vm) q4, q5⟩
theorem z_callX {X : zX} {l : Launch} {g : zG} {own : String} {cc : ByteArray} {h nL pc L : Nat} {xs : Nat → Int32} {ls : zL} {st : List zV} {mem : zM} (hG : zGood X l g own cc h nL) (hX : zXsc X g L xs) {i n : Nat} {y : zY} {av : List zV} {stk : List zV} {Rt : Option zV → zM → Prop} (hd : decode cc pc = .ok (.invokestatic i, 3)) (hw : zLS own i y n) (hM2 : zMetS l g L xs y av mem Rt) (hh : y.2.2.2.2 + 1 ≤ h) (hn : av.length = n) (hst : stk = av.reverse ++ st) (hc : zcat st ≤ 8) (K : ∀ v m', Rt v m' → zZ X (pc + 3) ls (v.toList ++ st) m') : zZ X pc ls stk mem := by
  subst hst
  obtain ⟨p, l, e, R, s, m, args, below, meth, c, Q, g, kc, ks⟩ := X
  obtain ⟨hx, hb, hml, hown, hts, hK, hN, hg, hR1, hR2, hlk, hl2, hg2⟩ := hG
  subst hl2 hg2
  obtain ⟨x1, x2, x3⟩ := hX
  intro hM hL hS H locs lsA hP hS0 hl
  obtain ⟨hlink, hstat, hini, hcode, hd3, hmL⟩ := hw
  have hSav : zokS g av := fun v hv => hS v (by simp [hv])
  have hSr : zokS g st := fun v hv => hS v (by simp [hv])
  have hMet := hM2 hg hM hSav x3
  have cb : CallB R s args own i y.1 y.2.1 y.2.2.1 y.2.2.2.1 (zYw y) (zRoom y.2.2.2.2) 0 0 n := callB_of n hts (zYw_good (fun _ z => z) hcode) rfl rfl rfl (hts _ hini) (hts _ hlink) hd3 ⟨by show y.2.2.2.2 + 1 ≤ _; omega, by show 8 + (y.2.2.1 + 11) + 38 * y.2.2.2.2 ≤ _; omega⟩
  refine z_back (mc := 0) (ms := 0) (st0 := ((av.reverse ++ st).map (zup g))) (va_runS (As := av.map (zup g)) ⟨hx, hb, rfl, hown, hts⟩ hMet ⟨cb, hts _ hstat⟩ ⟨zPX_blind, fun U hU hW => ⟨rfl, zPW_of hP hK hN hU hW, va_X.moved hW.alike (va_X.kept x1 (by rw [hU]; exact hS0.2.1 _ x2 x3)), by rw [hU]; exact Nat.lt_of_lt_of_le x2 hS0.1⟩⟩ rfl (by simp [hn]) hl.1 (by simp) (lv_room (by rw [zcat_up]; exact hc)) hd ⟨hR1.2.1, hR1.2.2⟩) hS0 hL hSr hl K
set_option maxRecDepth 20000 in
theorem ct_L_cell (l : Launch) (g : zG) {mem : zM} {L : Nat} {xs : Nat → Int32} {k : Nat} (hL : L ≤ 2048) (hk : k ≤ 100000) : zMetS l g L xs Y_L_cell [zr 998 0 0, zi (k : Int)] mem (fun v m' => (∃ y : Int, v = some (zi y)) ∧ m' = mem) := by
  refine zMetS_intro (by decide +kernel) (Nat.le_of_ble_eq_true rfl) (ls0 := [some (zr 998 0 0), some (zi (k : Int))]) rfl fun X hG hE hX => ?_
  have hG : zGood X l g RL cL_cell 0 2 := hG
  have hE : zEnd X (some .int) _ := hE
  refine z_iload_n (i := 1) hG dL_cell_0 rfl rfl ?_
  refine z_aload_n (i := 0) hG dL_cell_1 rfl rfl ?_
  refine z_xlen hG hX hL dL_cell_2 ?_
  refine z_icmp_ge hG dL_cell_3 (tgt := 12) rfl (fun q3 => ?_) (fun q3 => ?_)
  · refine z_ldc hG dL_cell_12 KC_L_7 rfl ?_
    refine z_iload_n (i := 1) hG dL_cell_14 rfl rfl ?_
    refine z_sipush hG dL_cell_15 rfl ?_
    refine z_iadd hG dL_cell_18 (by omega) (by omega) ?_
    refine z_imulw hG dL_cell_19 ?_
    refine z_iret hG hE dL_cell_20 trivial ?_
    exact ⟨⟨_, rfl⟩, rfl⟩
  · refine z_aload_n (i := 0) hG dL_cell_6 rfl rfl ?_
    refine z_iload_n (i := 1) hG dL_cell_7 rfl rfl ?_
    refine z_xld hG hX hL (by omega) dL_cell_8 ?_
    refine z_goto hG dL_cell_9 (tgt := 20) rfl ?_
    refine z_iret hG hE dL_cell_20 trivial ?_
    exact ⟨⟨_, rfl⟩, rfl⟩
