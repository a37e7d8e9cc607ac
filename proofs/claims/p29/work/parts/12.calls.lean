theorem zPW_blind {g : zG} {mem : zM} {av : List Value} : FrameBlind (va_Pc av (fun U => zPW g mem U)) := by
  intro a U gg mk q
  obtain ⟨q0, q1, q2, q3⟩ := q
  exact ⟨q0, q1, va_K.moved (u := U) (U := U.calling gg mk a) (Vm.Alike.refl U.vm) q2, fun w hw => by
    have h1 := q3 w hw
    obtain ⟨r, -, rfl⟩ := List.mem_map.mp hw
    exact va_Nw.same rfl rfl h1⟩
theorem zPW_of {g : zG} {mem : zM} {s U : State} {H : Heap} (hP : va_P g.1 vwCl (zWS g mem) H) (hK : va_K g.1 vwCl (zTYS g) s) (hN : ∀ w ∈ zNW, va_Nw w s) (hU : U.heap = H) (hW : s.WarmedH U.vm) : zPW g mem U :=
  ⟨by rw [hU]; exact hP, va_K.moved hW.alike hK, fun w hw => by
    have h1 := hN w hw
    obtain ⟨r, -, rfl⟩ := List.mem_map.mp hw
    exact va_Nw.warmM hW h1⟩
theorem zYw_good {y : zY} {Ts : List Cond} (hT : ∀ w ∈ zW, w ∈ Ts) (hc : Cond.code y.1 y.2.1 y.2.2.1 y.2.2.2.1 ∈ zW) : GoodIn Ts (zYw y) := by
  refine goodIn_sub (fun w hw => ?_) (List.all_eq_true.mpr fun w hw => ?_)
  · rcases List.mem_cons.mp hw with rfl | h
    · exact hT _ hc
    · exact hT w h
  · rcases List.mem_cons.mp hw with rfl | h
    · rfl
    · exact List.all_eq_true.mp zW_good w h
def zcat (st : List zV) : Nat := (st.map fun v => match v with | .inr (.inl _) => 2 | _ => 1).sum
theorem zcat_up {g : zG} : ∀ st : List zV, ((st.map (zup g)).map fun v => v.category).sum = zcat st
  | [] => rfl
  | v :: r => by
    have ih := zcat_up (g := g) r
    rcases v with x | x | x <;> simp [zcat, zup, Value.category] at ih ⊢ <;> omega
section ZCALL
variable {X : zX} {l : Launch} {g : zG} {own : String} {cc : ByteArray} {h nL pc : Nat} {ls : zL} {st : List zV} {mem : zM}
/-- behind a call -/
theorem z_back {p : Program} {l : Launch} {e : Env} {R : Room} {s : State} {m : MethodId} {args : Array Value} {below : List Frame} {meth : Method} {c : Code} {Q : State → Prop} {g : zG} {kc ks mc ms : Nat} {H : Heap} {locs : List Loc} {lsA : Array Slot} {st0 : List Value} {ls : zL} {st : List zV} {pc : Nat} {a : Array Value} {Rt : Option zV → zM → Prop}
    (hr : va_Run p l e R s m args below meth c H locs kc ks mc ms (F0 m pc lsA st0) (st.map (zup g)) (zQc g Rt a) (zA g)) (hS0 : va_S (zA g) s.heap H locs) (hL : zokL g ls) (hS : zokS g st) (hl : zlr g c.maxLocals ls lsA)
    (K : ∀ v m', Rt v m' → zZ (p, l, e, R, s, m, args, below, meth, c, Q, g, kc + mc, ks + ms) (pc + 3) ls (v.toList ++ st) m') : W p l e R s m args below meth c H locs kc ks Q (F0 m pc lsA st0) := by
  intro T hT X
  obtain ⟨v, st₀, t, T', L, h0, X', hL1, e1, e2, ⟨⟨v2, m', hv, hR, hPW, hM', hv2⟩, hz, hk⟩, stp⟩ := hr T hT X
  have hv : v = v2.map (zup g) := Outcome.returned.inj hv
  subst hv
  rw [h0] at hz hk
  have hSt : zokS g (v2.toList ++ st) := by
    cases v2 with
    | none => exact hS
    | some w => exact zokS_cons.mpr ⟨hv2, hS⟩
  have hP1 : va_P g.1 vwCl (zWS g m') T'.heap := by rw [e1]; exact hPW.1
  have hS1 : va_S (zA g) s.heap T'.heap (locs ++ L) := ⟨Nat.le_trans hS0.1 (by rw [e1]; exact hz), fun q h1 h2 => by rw [e1, hk q (Nat.lt_of_lt_of_le h1 hS0.1) h2]; exact hS0.2.1 q h1 h2, fun q hq => by
      rcases List.mem_append.mp hq with h | h
      · exact hS0.2.2 q h
      · exact hL1 q h⟩
  obtain ⟨t2, a1, b1⟩ := K v2 m' hR hM' hL hSt T'.heap (locs ++ L) lsA hP1 hS1 hl T' rfl X'
  refine ⟨t2, stp t2 ?_, b1⟩
  have e3 : (v2.toList ++ st).map (zup g) = (v2.map (zup g)).toList ++ st.map (zup g) := by cases v2 <;> rfl
  rw [e3] at a1
  exact a1
theorem z_callV (hG : zGood X l g own cc h nL) {i ci n t : Nat} {y : zY} {av : List zV} {s0 i0 : Int} {stk : List zV} {Rt : Option zV → zM → Prop} (hd : decode cc pc = .ok (.invokevirtual i, 3)) (hw : zLV own i y ci n) (hM2 : zMet l g y (zr t s0 i0 :: av) mem Rt) (hh : y.2.2.2.2 + 1 ≤ h) (ht : zTO t = some ci) (hn : av.length = n) (hst : stk = av.reverse ++ zr t s0 i0 :: st) (hc : zcat st ≤ 8) (K : ∀ v m', Rt v m' → zZ X (pc + 3) ls (v.toList ++ st) m') : zZ X pc ls stk mem := by
  subst hst
  obtain ⟨p, l, e, R, s, m, args, below, meth, c, Q, g, kc, ks⟩ := X
  obtain ⟨hx, hb, hml, hown, hts, hK, hN, hg, hR1, hR2, hlk, hl2, hg2⟩ := hG
  subst hl2 hg2
  intro hM hL hS H locs lsA hP hS0 hl
  obtain ⟨⟨C, T, N, hcl, hC, hsel⟩, hlink, hinst, hini, hcode, hd3, hmL⟩ := hw
  have hSav : zokS g (zr t s0 i0 :: av) := fun v hv => hS v (by
    rcases List.mem_cons.mp hv with rfl | h
    · simp
    · simp [h])
  have hSr : zokS g st := fun v hv => hS v (by simp [hv])
  have ho : (t, s0, i0) ∈ zOs g := zok_o (zokS_cons.mp hSav).1 ht
  obtain ⟨q0, hq, he⟩ := zplace ho mem
  rw [zent_obj ht] at he
  have hMet := hM2 hg hM hSav
  have cb : CallB R s args own i y.1 y.2.1 y.2.2.1 y.2.2.2.1 (zYw y) (zRoom y.2.2.2.2) 0 0 n := callB_of n hts (zYw_good (fun _ z => z) hcode) rfl rfl rfl (hts _ hini) (hts _ hlink) hd3 ⟨by show y.2.2.2.2 + 1 ≤ _; omega, by show 8 + (y.2.2.1 + 11) + 38 * y.2.2.2.2 ≤ _; omega⟩
  refine z_back (mc := 0) (ms := 0) (st0 := ((av.reverse ++ zr t s0 i0 :: st).map (zup g))) (va_runV (C := C) (As := av.map (zup g)) ⟨hx, hb, rfl, hown, hts⟩ hMet ⟨cb, hts _ hinst, hts _ hsel⟩ ⟨zPW_blind, by rw [← hC] at hcl; have := va_recv hK hP hcl he; rw [hC] at this; exact this, fun U hU hW => ⟨rfl, zPW_of hP hK hN hU hW⟩⟩ rfl (by simp [hn]) hl.1 (by simp [zup]) (lv_room (by rw [zcat_up]; exact hc)) hd ⟨hR1.2.1, hR1.2.2⟩) hS0 hL hSr hl K
theorem z_callS (hG : zGood X l g own cc h nL) {i n : Nat} {y : zY} {av : List zV} {stk : List zV} {Rt : Option zV → zM → Prop} (hd : decode cc pc = .ok (.invokestatic i, 3)) (hw : zLS own i y n) (hM2 : zMet l g y av mem Rt) (hh : y.2.2.2.2 + 1 ≤ h) (hn : av.length = n) (hst : stk = av.reverse ++ st) (hc : zcat st ≤ 8) (K : ∀ v m', Rt v m' → zZ X (pc + 3) ls (v.toList ++ st) m') : zZ X pc ls stk mem := by
  subst hst
  obtain ⟨p, l, e, R, s, m, args, below, meth, c, Q, g, kc, ks⟩ := X
  obtain ⟨hx, hb, hml, hown, hts, hK, hN, hg, hR1, hR2, hlk, hl2, hg2⟩ := hG
  subst hl2 hg2
  intro hM hL hS H locs lsA hP hS0 hl
  obtain ⟨hlink, hstat, hini, hcode, hd3, hmL⟩ := hw
  have hSav : zokS g av := fun v hv => hS v (by simp [hv])
  have hSr : zokS g st := fun v hv => hS v (by simp [hv])
  have hMet := hM2 hg hM hSav
  have cb : CallB R s args own i y.1 y.2.1 y.2.2.1 y.2.2.2.1 (zYw y) (zRoom y.2.2.2.2) 0 0 n := callB_of n hts (zYw_good (fun _ z => z) hcode) rfl rfl rfl (hts _ hini) (hts _ hlink) hd3 ⟨by show y.2.2.2.2 + 1 ≤ _; omega, by show 8 + (y.2.2.1 + 11) + 38 * y.2.2.2.2 ≤ _; omega⟩
  refine z_back (mc := 0) (ms := 0) (st0 := ((av.reverse ++ st).map (zup g))) (va_runS (As := av.map (zup g)) ⟨hx, hb, rfl, hown, hts⟩ hMet ⟨cb, hts _ hstat⟩ ⟨zPW_blind, fun U hU hW => ⟨rfl, zPW_of hP hK hN hU hW⟩⟩ rfl (by simp [hn]) hl.1 (by simp) (lv_room (by rw [zcat_up]; exact hc)) hd ⟨hR1.2.1, hR1.2.2⟩) hS0 hL hSr hl K
theorem z_callN (hG : zGood X l g own cc h nL) {i n : Nat} {y : zY} {av : List zV} {stk : List zV} {Rt : Option zV → zM → Prop} (hd : decode cc pc = .ok (.invokestatic i, 3)) (hw : zLN own i y n) (hM2 : zMet l g y av mem Rt) (hh : y.2.2.2.2 + 1 ≤ h) (hn : av.length = n) (hst : stk = av.reverse ++ st) (hc : zcat st ≤ 8) (K : ∀ v m', Rt v m' → zZ X (pc + 3) ls (v.toList ++ st) m') : zZ X pc ls stk mem := by
  subst hst
  obtain ⟨p, l, e, R, s, m, args, below, meth, c, Q, g, kc, ks⟩ := X
  obtain ⟨hx, hb, hml, hown, hts, hK, hN, hg, hR1, hR2, hlk, hl2, hg2⟩ := hG
  subst hl2 hg2
  intro hM hL hS H locs lsA hP hS0 hl
  obtain ⟨⟨host, hlink⟩, hstat, hini, hcode, hd3, hmL⟩ := hw
  have hSav : zokS g av := fun v hv => hS v (by simp [hv])
  have hSr : zokS g st := fun v hv => hS v (by simp [hv])
  have hMet := hM2 hg hM hSav
  have cn : va_CN R s args own i y.1 host y.2.1 y.2.2.1 y.2.2.2.1 (zYw y) (zRoom y.2.2.2.2) 0 0 n := va_cnB n hts (zYw_good (fun _ z => z) hcode) rfl rfl rfl (hN _ hlink) (hts _ hini) hd3 ⟨by show y.2.2.2.2 + 1 ≤ _; omega, by show 8 + (y.2.2.1 + 11) + 38 * y.2.2.2.2 ≤ _; omega⟩
  refine z_back (mc := 0) (ms := 0) (st0 := ((av.reverse ++ st).map (zup g))) (va_runSN (As := av.map (zup g)) ⟨hx, hb, rfl, hown, hts⟩ hMet ⟨cn, hts _ hstat, trivial⟩ ⟨zPW_blind, fun U hU hW => ⟨rfl, zPW_of hP hK hN hU hW⟩⟩ rfl (by simp [hn]) hl.1 (by simp) (lv_room (by rw [zcat_up]; exact hc)) hd ⟨hR1.2.1, hR1.2.2⟩) hS0 hL hSr hl K
def zLM (own : String) (i : Nat) (y : MethodName) (bytes : ByteArray) : Prop := Cond.methodLink own i y ∈ zW ∧ Cond.static y ∈ zW ∧ Cond.initialized "java/lang/Math" ∈ zW ∧ Cond.code y bytes 2 (some .int) ∈ zW
theorem z_max (hG : zGood X l g own cc h nL) {i : Nat} {x y : Int} (hd : decode cc pc = .ok (.invokestatic i, 3)) (hw : zLM own i Lib.Math.max.name Lib.Math.max.code) (hh : 1 ≤ h) (hc : zcat st ≤ 25) (K : zZ X (pc + 3) ls (zi (if x < y then y else x) :: st) mem) : zZ X pc ls (zi y :: zi x :: st) mem := by
  obtain ⟨p, l, e, R, s, m, args, below, meth, c, Q, g, kc, ks⟩ := X
  obtain ⟨hx, hb, hml, hown, hts, hK, hN, hg, hR1, hR2, hlk, hl2, hg2⟩ := hG
  subst hl2 hg2
  intro hM hL hS H locs lsA hP hS0 hl
  have hyy : zin y := (zokS_cons.mp hS).1
  have hxx : zin x := (zokS_cons.mp (zokS_cons.mp hS).2).1
  have hS2 := (zokS_cons.mp (zokS_cons.mp hS).2).2
  refine va_mmax hx hb hl.1.symm hown (hts _ hw.1) (hts _ hw.2.1) (hts _ hw.2.2.1) (hts _ hw.2.2.2) (by omega) (by rw [zcat_up]; omega) hR1.2.1 hR1.2.2 hd ?_
  have e1 : (if Int32.ofInt x < Int32.ofInt y then Int32.ofInt y else Int32.ofInt x) = Int32.ofInt (if x < y then y else x) := by
    by_cases q : x < y
    · rw [if_pos q, if_pos ((zlt hxx hyy).mpr q)]
    · rw [if_neg q, if_neg (fun z => q ((zlt hxx hyy).mp z))]
  rw [e1]
  exact K hM hL (zokS_cons.mpr ⟨by show zin _; split <;> assumption, hS2⟩) H locs lsA hP hS0 hl
theorem z_min (hG : zGood X l g own cc h nL) {i : Nat} {x y : Int} (hd : decode cc pc = .ok (.invokestatic i, 3)) (hw : zLM own i Lib.Math.min.name Lib.Math.min.code) (hh : 1 ≤ h) (hc : zcat st ≤ 25) (K : zZ X (pc + 3) ls (zi (if y < x then y else x) :: st) mem) : zZ X pc ls (zi y :: zi x :: st) mem := by
  obtain ⟨p, l, e, R, s, m, args, below, meth, c, Q, g, kc, ks⟩ := X
  obtain ⟨hx, hb, hml, hown, hts, hK, hN, hg, hR1, hR2, hlk, hl2, hg2⟩ := hG
  subst hl2 hg2
  intro hM hL hS H locs lsA hP hS0 hl
  have hyy : zin y := (zokS_cons.mp hS).1
  have hxx : zin x := (zokS_cons.mp (zokS_cons.mp hS).2).1
  have hS2 := (zokS_cons.mp (zokS_cons.mp hS).2).2
  refine va_mmin hx hb hl.1.symm hown (hts _ hw.1) (hts _ hw.2.1) (hts _ hw.2.2.1) (hts _ hw.2.2.2) (by omega) (by rw [zcat_up]; omega) hR1.2.1 hR1.2.2 hd ?_
  have e1 : (if Int32.ofInt y < Int32.ofInt x then Int32.ofInt y else Int32.ofInt x) = Int32.ofInt (if y < x then y else x) := by
    by_cases q : y < x
    · rw [if_pos q, if_pos ((zlt hyy hxx).mpr q)]
    · rw [if_neg q, if_neg (fun z => q ((zlt hyy hxx).mp z))]
  rw [e1]
  exact K hM hL (zokS_cons.mpr ⟨by show zin _; split <;> assumption, hS2⟩) H locs lsA hP hS0 hl
/-- some places of an int array are written over by another's -/
def zcpy (mem : zM) (t : Nat) (s i : Int) (t2 : Nat) (s2 i2 : Int) (sp dp n : Int) : zM := fun t' s' i' k' => if t' = t2 ∧ s' = s2 ∧ i' = i2 ∧ dp ≤ k' ∧ k' < dp + n then mem t s i (sp + (k' - dp)) else mem t' s' i' k'
theorem zcpy_ok {mem : zM} (h : zokM mem) {t : Nat} {s i : Int} {t2 : Nat} {s2 i2 : Int} {sp dp n : Int} : zokM (zcpy mem t s i t2 s2 i2 sp dp n) := by
  intro t' s' i' k'
  unfold zcpy
  split
  · exact h _ _ _ _
  · exact h _ _ _ _
def zLC (own : String) (i : Nat) : Prop := Cond.methodLink own i arraycopyName ∈ zW ∧ Cond.native arraycopyName ∈ zW ∧ Cond.static arraycopyName ∈ zW ∧ Cond.initialized "java/lang/System" ∈ zW
theorem z_copy (hG : zGood X l g own cc h nL) {i t t2 n1 n2 : Nat} {s0 i0 s2 i2 sp dp n : Int} (hd : decode cc pc = .ok (.invokestatic i, 3)) (hw : zLC own i) (hh : 1 ≤ h) (hc : zcat st ≤ 20) (ht : zTO t = none) (ha : zTA t = some (0, n1)) (ht2 : zTO t2 = none) (ha2 : zTA t2 = some (0, n2)) (hsp : 0 ≤ sp) (hdp : 0 ≤ dp) (hn : 0 ≤ n) (h1 : sp + n ≤ n1) (h2 : dp + n ≤ n2)
    (K : zZ X (pc + 3) ls st (zcpy mem t s0 i0 t2 s2 i2 sp dp n)) : zZ X pc ls (zi n :: zi dp :: zr t2 s2 i2 :: zi sp :: zr t s0 i0 :: st) mem := by
  obtain ⟨p, l, e, R, s, m, args, below, meth, c, Q, g, kc, ks⟩ := X
  obtain ⟨hx, hb, hml, hown, hts, hK, hN, hg, hR1, hR2, hlk, hl2, hg2⟩ := hG
  subst hl2 hg2
  intro hM hL hS H locs lsA hP hS0 hl
  have hzn : zin n := hS (zi n) (by simp)
  have hzd : zin dp := hS (zi dp) (by simp)
  have hzs : zin sp := hS (zi sp) (by simp)
  have ho : (t, s0, i0) ∈ zOs g := zok_a (hS (zr t s0 i0) (by simp)) ha
  have ho2 : (t2, s2, i2) ∈ zOs g := zok_a (hS (zr t2 s2 i2) (by simp)) ha2
  have hSr : zokS g st := fun v hv => hS v (by simp [hv])
  obtain ⟨q0, hq, he⟩ := zplace ho mem
  obtain ⟨q2, hq2, he2⟩ := zplace ho2 mem
  rw [zent_arr ht ha rfl] at he
  rw [zent_arr ht2 ha2 rfl] at he2
  have nz : ∀ {z : Int}, zin z → 0 ≤ z → ¬ Int32.ofInt z < 0 := fun {z} h h0 q => by
    have q2 : Int32.ofInt z < Int32.ofInt 0 := q
    have := (zlt h z0in).mp q2
    omega
  refine va_copyi (D := g.1) hx hb hl.1.symm hown (hts _ hw.1) (hts _ hw.2.1) (hts _ hw.2.2.1) (hts _ hw.2.2.2) hK hP (zDw hg mem) hS0 q0 q2 0 0 he he2 (zTYS_at (by decide)) (zTYS_at (by decide)) rfl (nz hzs hsp) (nz hzd hdp) (nz hzn hn) (by rw [zcl hzs, zcl hzn]; omega) (by rw [zcl hzd, zcl hzn]; omega) (fun _ _ => rfl) (by omega)
    (by rw [zcat_up]; have : nativeFrameWords "java/lang/System" "arraycopy" 5 = 7 := by decide +kernel
        rw [this]; omega) hd fun H1 locs1 hP1 _ hS1 => ?_
  rw [zcl hzs, zcl hzd, zcl hzn] at hP1
  have e1 : zent g (zcpy mem t s0 i0 t2 s2 i2 sp dp n) (t2, s2, i2) = .inl (g.2.2 0, n2, .inl (va_cpy (fun j => Int32.ofInt (mem t s0 i0 j)) (fun j => Int32.ofInt (mem t2 s2 i2 j)) sp.toNat dp.toNat n.toNat)) := by
    rw [zent_arr ht2 ha2 rfl]
    congr 3
    congr 1
    funext k
    unfold zcpy va_cpy
    by_cases q : dp.toNat ≤ k ∧ k < dp.toNat + n.toNat
    · rw [if_pos q, if_pos ⟨rfl, rfl, rfl, by omega, by omega⟩]
      congr 2
      omega
    · rw [if_neg q, if_neg (fun z => q ⟨by omega, by omega⟩)]
  rw [zWS_set hq2 (mem' := zcpy mem t s0 i0 t2 s2 i2 sp dp n) e1 (fun o' h' => by
    obtain ⟨t', s', i'⟩ := o'
    have hcc : ∀ k' : Int, zcpy mem t s0 i0 t2 s2 i2 sp dp n t' s' i' k' = mem t' s' i' k' := by
      intro k'
      unfold zcpy
      rw [if_neg]
      rintro ⟨h1, h2, h3, -⟩
      exact h' (by rw [h1, h2, h3])
    simp only [zent, zfv, hcc])] at hP1
  exact K (zcpy_ok hM) hL hSr H1 locs1 lsA hP1 hS1 hl
def zfit (ret : Option FieldType) (v : Int) : Prop := match ret with
  | some .int => True
  | some .boolean => v = 0 ∨ v = 1
  | some .char => 0 ≤ v ∧ v < 65536
  | _ => False
theorem z_iret (hG : zGood X l g own cc h nL) {ret : Option FieldType} {Rt : Option zV → zM → Prop} (hE : zEnd X ret Rt) {v : Int} (hd : decode cc pc = .ok (.ireturn, 1)) (hf : zfit ret v) (K : Rt (some (zi v)) mem) : zZ X pc ls [zi v] mem := by
  obtain ⟨p, l, e, R, s, m, args, below, meth, c, Q, g, kc, ks⟩ := X
  obtain ⟨hx, hb, hml, hown, hts, hK, hN, hg, hR1, hR2, hlk, hl2, hg2⟩ := hG
  subst hl2 hg2
  obtain ⟨hr, hQ⟩ := hE
  subst hQ
  intro hM hL hS H locs lsA hP hS0 hl
  have hv : zin v := (zokS_cons.mp hS).1
  have key : ∀ ty : FieldType, ret = some ty → narrow ty (.int (Int32.ofInt v)) = .int (Int32.ofInt v) → W p l e R s m args below meth c H locs kc ks (MQ below (zQc g Rt) args s kc ks (zA g)) (F0 m pc lsA [.int (Int32.ofInt v)]) := by
    intro ty hty hn
    refine W.zret hx hb (hr.trans hty) hn (fun t ht hW => ?_) hS0.2.2 hd hlk
    exact ⟨⟨some (zi v), mem, rfl, K, zPW_of hP hK hN ht hW, hM, hv⟩, hS0.F ht⟩
  unfold zfit at hf
  split at hf
  · exact key .int rfl rfl
  · exact key .boolean rfl (by rcases hf with rfl | rfl <;> rfl)
  · refine key .char rfl ?_
    obtain ⟨n2, rfl⟩ := Int.eq_ofNat_of_zero_le hf.1
    exact (pk_charN (q := n2) (by omega)).1
  · exact hf.elim
theorem z_vret (hG : zGood X l g own cc h nL) {Rt : Option zV → zM → Prop} (hE : zEnd X none Rt) (hd : decode cc pc = .ok (.return_, 1)) (K : Rt none mem) : zZ X pc ls [] mem := by
  obtain ⟨p, l, e, R, s, m, args, below, meth, c, Q, g, kc, ks⟩ := X
  obtain ⟨hx, hb, hml, hown, hts, hK, hN, hg, hR1, hR2, hlk, hl2, hg2⟩ := hG
  subst hl2 hg2
  obtain ⟨hr, hQ⟩ := hE
  subst hQ
  intro hM hL hS H locs lsA hP hS0 hl
  refine W.vret hx hb hr (fun t ht hW => ?_) hS0.2.2 hd hlk
  exact ⟨⟨none, mem, rfl, K, zPW_of hP hK hN ht hW, hM, trivial⟩, hS0.F ht⟩
end ZCALL
/-- the locals with which a method begins -/
def zin0 : List zV → zL
  | [] => []
  | (.inr (.inl x)) :: r => some (.inr (.inl x)) :: none :: zin0 r
  | v :: r => some v :: zin0 r
def zentry (av : List zV) (n : Nat) : zL := zin0 av ++ List.replicate (n - (zin0 av).length) none
theorem zin0_at {g : zG} : ∀ (av : List zV) (k : Nat) (v : zV), (zin0 av)[k]? = some (some v) → (lg_sl (av.map (zup g)))[k]? = some (.val (zup g v))
  | [], k, v, h => by simp [zin0] at h
  | (.inr (.inl x)) :: r, 0, v, h => by
    simp [zin0] at h
    subst h
    simp [lg_sl, zup, Value.category]
  | (.inr (.inl x)) :: r, 1, v, h => by simp [zin0] at h
  | (.inr (.inl x)) :: r, k + 2, v, h => by
    have h1 : (zin0 r)[k]? = some (some v) := by simpa [zin0] using h
    have := zin0_at (g := g) r k v h1
    simpa [lg_sl, zup, Value.category] using this
  | (.inl x) :: r, 0, v, h => by
    simp [zin0] at h
    subst h
    simp [lg_sl, zup, Value.category]
  | (.inl x) :: r, k + 1, v, h => by
    have h1 : (zin0 r)[k]? = some (some v) := by simpa [zin0] using h
    have := zin0_at (g := g) r k v h1
    simpa [lg_sl, zup, Value.category] using this
  | (.inr (.inr x)) :: r, 0, v, h => by
    simp [zin0] at h
    subst h
    simp [lg_sl, zup, Value.category]
  | (.inr (.inr x)) :: r, k + 1, v, h => by
    have h1 : (zin0 r)[k]? = some (some v) := by simpa [zin0] using h
    have := zin0_at (g := g) r k v h1
    simpa [lg_sl, zup, Value.category] using this
theorem zin0_len {g : zG} : ∀ av : List zV, (lg_sl (av.map (zup g))).length = (zin0 av).length
  | [] => rfl
  | (.inr (.inl x)) :: r => by
    have := zin0_len (g := g) r
    simp [lg_sl, zin0, zup, Value.category] at this ⊢
    omega
  | (.inl x) :: r => by
    have := zin0_len (g := g) r
    simp [lg_sl, zin0, zup, Value.category] at this ⊢
    omega
  | (.inr (.inr x)) :: r => by
    have := zin0_len (g := g) r
    simp [lg_sl, zin0, zup, Value.category] at this ⊢
    omega
theorem zin0_mem : ∀ (av : List zV) (v : zV), some v ∈ zin0 av → v ∈ av
  | [], v, h => by simp [zin0] at h
  | (.inr (.inl x)) :: r, v, h => by
    simp [zin0] at h
    rcases h with h | h
    · simp [h]
    · simp [zin0_mem r v h]
  | (.inl x) :: r, v, h => by
    simp [zin0] at h
    rcases h with h | h
    · simp [h]
    · simp [zin0_mem r v h]
  | (.inr (.inr x)) :: r, v, h => by
    simp [zin0] at h
    rcases h with h | h
    · simp [h]
    · simp [zin0_mem r v h]
/-- A CONTRACT out of a walk of the method's body -/
theorem zMet_intro {l : Launch} {g : zG} {y : zY} {av : List zV} {mem : zM} {Rt : Option zV → zM → Prop} (hy : plainName y.1.cls = true) (hlen : (zin0 av).length ≤ y.2.2.1) {ls0 : zL} (he : zentry av y.2.2.1 = ls0)
    (body : ∀ X : zX, zGood X l g y.1.cls y.2.1 y.2.2.2.2 y.2.2.1 → zEnd X y.2.2.2.1 Rt → zZ X 0 ls0 [] mem) : zMet l g y av mem Rt := by
  subst he
  intro hg hM hS
  refine Met.ofW (cc := y.2.1) (maxL := y.2.2.1) (ret := y.2.2.2.1) hy rfl ?_
  intro p e s m args below meth c s₁ B hml hv
  obtain ⟨rfl, hP, hK, hN⟩ := hv
  have hts := atoms_spec (ws := zYw y) B.pre
  have hown : s.vm.findClass y.1.cls = some m.cls := findClass_of_methodNamed B.named
  have hG : zGood (p, l, e, (headSpec (zYw y) (zRoom y.2.2.2.2)).room, s, m, (av.map (zup g)).toArray, below, meth, c, MQ below (zQc g Rt) (av.map (zup g)).toArray s 0 0 (zA g), g, 0, 0) l g y.1.cls y.2.1 y.2.2.2.2 y.2.2.1 :=
    ⟨B.exec, B.bytes, hml, hown, fun w hw => hts w (List.mem_cons_of_mem _ hw), hK, hN, hg, ⟨Nat.le_refl _, Nat.zero_le _, Nat.zero_le _⟩, Nat.le_refl _, B.notSynchronized, rfl, rfl⟩
  have hl := lv_entry (av.map (zup g)) (n := y.2.2.1) (by rw [zin0_len]; exact hlen)
  rw [lg_entry_eq]
  refine body _ hG ⟨B.returns, rfl⟩ hM ?_ zokS_nil s.heap [] _ hP va_S.rf ⟨?_, hl.2.1, ?_⟩
  · intro v hv
    rcases List.mem_append.mp hv with h | h
    · exact hS v (zin0_mem av v h)
    · have := List.eq_of_mem_replicate h
      cases this
  · rw [hml]; exact hl.1
  · intro k v hk
    unfold zentry at hk
    by_cases hlt : k < (zin0 av).length
    · rw [List.getElem?_append_left hlt] at hk
      have h1 := zin0_at (g := g) av k v hk
      simp only [List.getElem?_toArray]
      rw [List.getElem?_append_left (by rw [zin0_len]; exact hlt)]
      exact h1
    · rw [List.getElem?_append_right (by omega)] at hk
      have := List.eq_of_mem_replicate (List.mem_of_getElem? hk)
      cases this
/-- forgetting locals -/
def zfor : zL → List Bool → zL
  | [], _ => []
  | x :: r, [] => none :: zfor r []
  | x :: r, true :: b => x :: zfor r b
  | _ :: r, false :: b => none :: zfor r b
theorem zfor_at : ∀ (ls : zL) (b : List Bool) (k : Nat) (v : zV), (zfor ls b)[k]? = some (some v) → ls[k]? = some (some v)
  | [], b, k, v, h => by simp [zfor] at h
  | x :: r, [], 0, v, h => by simp [zfor] at h
  | x :: r, [], k + 1, v, h => by simpa using zfor_at r [] k v (by simpa [zfor] using h)
  | x :: r, true :: b, 0, v, h => by simpa [zfor] using h
  | x :: r, true :: b, k + 1, v, h => by simpa using zfor_at r b k v (by simpa [zfor] using h)
  | x :: r, false :: b, 0, v, h => by simp [zfor] at h
  | x :: r, false :: b, k + 1, v, h => by simpa using zfor_at r b k v (by simpa [zfor] using h)
theorem z_forget {X : zX} {pc : Nat} {ls ls2 : zL} {st : List zV} {mem : zM} (b : List Bool) (he : zfor ls b = ls2) (K : zZ X pc ls2 st mem) : zZ X pc ls st mem := by
  subst he
  obtain ⟨p, l, e, R, s, m, args, below, meth, c, Q, g, kc, ks⟩ := X
  intro hM hL hS H locs lsA hP hS0 hl
  refine K hM (fun v hv => ?_) hS H locs lsA hP hS0 ⟨hl.1, hl.2.1, fun k v hk => hl.2.2 k v (zfor_at ls b k v hk)⟩
  obtain ⟨k, hk⟩ := List.getElem?_of_mem hv
  exact hL v (List.mem_of_getElem? (zfor_at ls b k v hk))
/-- what is known of the memory and of the values at hand -/
theorem z_okM {X : zX} {pc : Nat} {ls : zL} {st : List zV} {mem : zM} (K : zokM mem → zZ X pc ls st mem) : zZ X pc ls st mem := by
  obtain ⟨p, l, e, R, s, m, args, below, meth, c, Q, g, kc, ks⟩ := X
  intro hM hL hS
  exact K hM hM hL hS
theorem z_okL {X : zX} {l : Launch} {g : zG} {own : String} {cc : ByteArray} {h nL : Nat} {pc : Nat} {ls : zL} {st : List zV} {mem : zM} (hG : zGood X l g own cc h nL) (K : zokL g ls → zZ X pc ls st mem) : zZ X pc ls st mem := by
  obtain ⟨p, l, e, R, s, m, args, below, meth, c, Q, g, kc, ks⟩ := X
  obtain ⟨hx, hb, hml, hown, hts, hK, hN, hg, hR1, hR2, hlk, hl2, hg2⟩ := hG
  subst hl2 hg2
  intro hM hL hS
  exact K hL hM hL hS
theorem z_okS {X : zX} {l : Launch} {g : zG} {own : String} {cc : ByteArray} {h nL : Nat} {pc : Nat} {ls : zL} {st : List zV} {mem : zM} (hG : zGood X l g own cc h nL) (K : zokS g st → zZ X pc ls st mem) : zZ X pc ls st mem := by
  obtain ⟨p, l, e, R, s, m, args, below, meth, c, Q, g, kc, ks⟩ := X
  obtain ⟨hx, hb, hml, hown, hts, hK, hN, hg, hR1, hR2, hlk, hl2, hg2⟩ := hG
  subst hl2 hg2
  intro hM hL hS
  exact K hS hM hL hS
theorem z_mem {X : zX} {pc : Nat} {ls : zL} {st : List zV} {mem mem' : zM} (h : mem = mem') (K : zZ X pc ls st mem') : zZ X pc ls st mem := h ▸ K
