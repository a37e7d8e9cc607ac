set_option maxRecDepth 20000 in
/-- YOUR PART: from the entry, for every script of at most 260 ints, the law comes to its end with true ('hflags': the launch's flags, for a law that throws: no stack traces) -/
theorem whole_start {p : Program} {e : Env} {s : State} {m : MethodId} {below : List Frame} {meth : Method} {c : Code} (l : Launch) (hflags : l.flags = flags0) {b L : Nat} {xs : Nat → Int32} (hL : L ≤ 260) (C0 : lw_At p s m meth c b L xs) : W p l e room_1 s m #[Value.ref b] below meth c s.heap [] 0 0 (lw_Z below #[Value.ref b] s) (entryFrame m ([Value.ref b] : List Value).toArray 8) := by
  obtain ⟨hx, hb, hr, hml, hown, hts, hX, hbl, hlocks, hgv⟩ := id C0
  have htz : ∀ w ∈ zW, w.before #[Value.ref b] s = true := fun w hw => hts w (zW_tbl hw)
  obtain ⟨D, cA, hK⟩ := zK_start hts
  have hl := lv_entry ([.ref b]) (n := 8) (Nat.le_of_ble_eq_true rfl)
  rw [lg_entry_eq]
  have hC : zNc (p, l, e, room_1, s, m, #[Value.ref b], below, meth, c, lw_Z below #[Value.ref b] s, (D, fun _ => 0, cA), 0, 0) (fun q => s.heap.size ≤ q) l (D, fun _ => 0, cA) RL cL_law 12 8 := ⟨hx, hb, hml, hown, htz, hK _, zAO_start hts, Nat.le_refl _, by decide, hlocks, rfl, rfl, fun _ h => h⟩
  have K0 : zNw (p, l, e, room_1, s, m, #[Value.ref b], below, meth, c, lw_Z below #[Value.ref b] s, (D, fun _ => 0, cA), 0, 0) (fun q => s.heap.size ≤ q) 0 [(0, .ref b)] [] [] [] (fun _ => False) (fun _ => 0) 0 0 := by
    refine n_new (ow := []) hC dL_law_0 NK_L_9 (Nat.le_of_ble_eq_true rfl) (Nat.le_of_ble_eq_true rfl) (by simp) (fun q0 hq0 => ?_)
    refine n_dup hC dL_law_3 ?_
    refine n_init (Cl := zCl10) hC dL_law_4 LI_L_11 (cn_X10 l _) (by decide) hq0 (by simp) rfl rfl (Nat.le_of_ble_eq_true rfl) (Nat.le_of_ble_eq_true rfl) (Nat.le_of_ble_eq_true rfl) (Or.inl rfl) (fun _ z => z.elim) (fun _ z => z.elim) (fun _ _ o ho o' z => Or.inl (zCl10_r ho z)) (fun ad1 u1 r1 => ?_)
    refine n_astore_n hC dL_law_7 rfl (by decide) rfl ?_
    intro H locs lsA hP hD hB hS hw hl
    obtain ⟨ad2, had⟩ : ∃ ad2 : zO → Nat, ad2 = fun o => if o = (999, 0, 0) then 0 else if o = (998, 0, 0) then b else ad1 o := ⟨_, rfl⟩
    have a9 : ad2 (999, 0, 0) = 0 := by rw [had]; exact if_pos rfl
    have a8 : ad2 (998, 0, 0) = b := by rw [had]; exact (if_neg (by decide)).trans (if_pos rfl)
    have ao : ∀ o : zO, o.1 < 45 → ad1 o = ad2 o := fun o ho => by
      rw [had]
      show _ = (if o = (999, 0, 0) then 0 else if o = (998, 0, 0) then b else ad1 o)
      rw [if_neg (by intro z; rw [z] at ho; exact absurd ho (by decide)), if_neg (by intro z; rw [z] at ho; exact absurd ho (by decide))]
    have hOs : zOs ((D, ad2, cA) : zG) = zBase := by
      unfold zOs
      rw [show ((D, ad2, cA) : zG).2.1 (999, 0, 0) = 0 from a9]
      simp [zExt]
    have hall : ∀ o ∈ zBase, False ∨ zCl10 o := fun o ho => Or.inr (zall ho)
    have hge : ∀ o ∈ zOs ((D, ad2, cA) : zG), s.heap.size ≤ ad2 o := fun o ho => by
      rw [hOs] at ho
      rw [← ao o (zbase_tag ho)]
      exact (hB.1 o (hall o ho)).2.1
    have r0 : ad2 (0, 0, 0) = q0 := by rw [← ao (0, 0, 0) (by decide)]; exact r1
    refine W.widen (k := 1000) (n := 20000) (Nat.le_of_ble_eq_true rfl) (Nat.le_of_ble_eq_true rfl) ?_
    have hG : zGood (p, l, e, room_1, s, m, #[Value.ref b], below, meth, c, lw_Z below #[Value.ref b] s, (D, ad2, cA), 1000, 20000) l (D, ad2, cA) RL cL_law 12 8 := ⟨hx, hb, hml, hown, htz, hK ad2, zNW_start hts, fun o ho o' ho' he => by
      rw [hOs] at ho ho'
      exact hB.2 o o' (hall o ho) (hall o' ho') (by rw [ao o (zbase_tag ho), ao o' (zbase_tag ho')]; exact he), ⟨Nat.le_refl _, by decide, by decide⟩, by decide, hlocks, rfl, rfl⟩
    have hXs : zXsc (p, l, e, room_1, s, m, #[Value.ref b], below, meth, c, lw_Z below #[Value.ref b] s, (D, ad2, cA), 1000, 20000) (D, ad2, cA) L xs := by
      refine ⟨?_, ?_, ?_⟩
      · show va_X (ad2 (998, 0, 0)) L xs s s.heap
        rw [a8]; exact hX
      · show ad2 (998, 0, 0) < s.heap.size
        rw [a8]; exact hbl
      · show ¬ zA (D, ad2, cA) (ad2 (998, 0, 0))
        rw [a8]
        rintro ⟨o, ho, e1⟩
        have := hge o ho
        have e2 : b = ad2 o := e1
        omega
    have hW : zLw (p, l, e, room_1, s, m, #[Value.ref b], below, meth, c, lw_Z below #[Value.ref b] s, (D, ad2, cA), 1000, 20000) (D, ad2, cA) b := ⟨rfl, rfl, rfl, hr, hge⟩
    have hbud : zBud (p, l, e, room_1, s, m, #[Value.ref b], below, meth, c, lw_Z below #[Value.ref b] s, (D, ad2, cA), 1000, 20000) 21 768 := ⟨by decide, by decide⟩
    have hI0 := zHd0.1
    have hQ0 : zQ zM0 zM0 := ⟨fun _ _ _ _ _ => rfl, hI0.2.1, zHd0.2⟩
    have hrun := z_law_0 (v2 := none) (v3 := none) (v4 := none) (v5 := none) (v6 := none) (v7 := none) (L := L) (by omega) a9 hG hXs hW hbud hI0 (by decide) (by decide) (by decide) (by decide) (by decide) hQ0
    refine hrun zM0_ok (fun v hv => ?_) zokS_nil H locs lsA (fun k q hq => ?_) ⟨hS.1, fun q h1 h2 => hS.2.1 q h1 (Nat.not_le.mpr h1), fun q hq => by have := hw q hq; cases this⟩ ⟨?_, hl.2.1, fun k v hk => ?_⟩
    · simp only [List.mem_cons, Option.some.injEq, List.not_mem_nil, or_false, reduceCtorEq] at hv
      rcases hv with rfl | rfl
      · exact Or.inr rfl
      · exact Or.inl (zmem (t := 0) (s := 0) (i := 0) (0, 0, 1, 1) (by decide +kernel) rfl (by decide) (by decide) (by decide) (by decide))
    · unfold zWS at hq
      rw [List.getElem?_map] at hq
      cases ho : (zOs ((D, ad2, cA) : zG))[k]? with
      | none => rw [ho] at hq; cases hq
      | some o =>
        rw [ho] at hq
        cases hq
        have hm := List.mem_of_getElem? ho
        rw [hOs] at hm
        have h1 := (hB.1 o (hall o hm)).1
        show va_at D vwCl (ad2 o, zent (D, ad2, cA) zM0 o) H
        rw [← ao o (zbase_tag hm), ← zent_ge (g0 := ((D, ad1, cA) : zG)) (g := ((D, ad2, cA) : zG)) (mem := zM0) (o := o) rfl ao]
        exact h1
    · exact hl.1
    · rcases k with _ | _ | _ | _ | _ | _ | _ | _ | k
      · have e1 : v = zr 998 0 0 := by simpa using hk.symm
        rw [e1]
        show lsA[0]? = some (.val (.ref (ad2 (998, 0, 0))))
        rw [a8]
        exact hl.2.2 (0, .ref b) (by simp; show ¬ (1 : Nat) = 2; decide)
      · have e1 : v = zr 0 0 0 := by simpa using hk.symm
        rw [e1]
        show lsA[1]? = some (.val (.ref (ad2 (0, 0, 0))))
        rw [r0]
        exact hl.2.2 (1, .ref q0) (by simp)
      all_goals simp at hk
  exact K0 s.heap [] _ (fun k q h => by simp at h) ⟨fun i j p q h => by simp at h, fun k q h => by simp at h⟩ ⟨fun o ho => ho.elim, fun o o' ho => ho.elim⟩ va_S.rf (fun q hq => by cases hq) (by rw [hml]; exact hl)
set_option maxHeartbeats 4000000 in
theorem lw_walk (l : Launch) (hflags : l.flags = flags0) (b : Addr) (xs : List Int32) : MetFree l x (headSpec (Jvm.Cond.code x code maxLocals ret :: tables_1) room_1) (lw_P b xs) (fun _ _ _ _ _ => True) lw_Q := by
  refine MetFree.of_bodyS (code := code) (maxLocals := maxLocals) (ret := ret) (by decide) ?_ ?_
  · intro args s m h hn
    obtain ⟨meth, c, h1, h2, h3, h4, h5, h6, -, -⟩ := Cond.code_spec hn (atoms_spec (ws := Jvm.Cond.code x code maxLocals ret :: tables_1) h _ List.mem_cons_self)
    exact ⟨meth, c, h1, h2, h3, h4, h5, h6⟩
  · intro p e s m args below meth c s₁ B hml0 hP _
    obtain ⟨rfl, hx, hbd, hgv⟩ := hP
    obtain ⟨scr, harrAt, hlist, hof, hsmall⟩ := hx
    obtain ⟨hcb, hkn, -, -⟩ := State.arrayAt?_spec harrAt
    have hown : s.vm.findClass R_law = some m.cls := findClass_of_methodNamed B.named
    have hts0 : ∀ c ∈ (Jvm.Cond.code x code maxLocals ret :: tables_1), c.before #[Value.ref b] s = true := atoms_spec (ws := Jvm.Cond.code x code maxLocals ret :: tables_1) B.pre
    have hts : ∀ w ∈ lw_tbl, w.before #[Value.ref b] s = true := k2_hts_sels lw_privs (fun w hw => hts0 w (List.mem_cons_of_mem _ hw)) lw_privs_ok
    have hml : c.maxLocals = 8 := B.maxLocals_eq (hts0 _ List.mem_cons_self)
    have X₀ : Stand p l e room_1 s m #[Value.ref b] below meth c s₁ [] 0 0 := Stand.of_body B
    have hh0 : s₁.heap = s.heap := by rw [B.state]; rfl
    have hsz : scr.slots.size = xs.length := by rw [← Array.length_toList, hlist, List.length_map]
    have hval : ∀ j : Nat, j < xs.length → scr.slots[j]? = some (.int (xs.getD j 0)) := fun j hj => by
      rw [← Array.getElem?_toList, hlist]
      simp [hj]
    have hbl : b < s.heap.size := (Array.getElem?_eq_some_iff.mp hcb).1
    have hX : va_X b xs.length (fun j => xs.getD j 0) s s.heap := ⟨scr, hcb, hof, hkn, hsz, hval⟩
    have K : W p l e room_1 s m #[Value.ref b] below meth c s₁.heap [] 0 0 (lw_Z below #[Value.ref b] s) (entryFrame m ([Value.ref b] : List Value).toArray 8) := by
      rw [hh0]
      exact whole_start l hflags hbd ⟨B.exec, B.bytes, B.returns, hml, hown, hts, hX, hbl, B.notSynchronized, hgv⟩
    obtain ⟨t, a1, o, b1, b2, b3⟩ := K s₁ rfl X₀
    exact ⟨t, o, a1, b1, b2, b3⟩
theorem lw_pre_spec {args : Array Value} {s : State} (h : (Jvm.Cond.and given_1 narrow_1).before args s = true) (hr : rest_1_c.before args s = true) : ∃ (b : Addr) (xs : List Int32), lw_P b xs args s := by
  have hs := flat_of_before _ h
  have hq := flat_of_before _ hr
  have hc : (Cond.count 1).before args s = true := hs _ (by decide +kernel)
  have harr : (Cond.arrayOf (.arg 0) .int).before args s = true := hs _ (by decide +kernel)
  have hle : (Cond.le (.length (.arg 0)) (.int 260)).before args s = true := hs _ (by decide +kernel)
  have hlen : (Cond.isInt (.length (.arg 0))).before args s = true := hq _ (by decide +kernel)
  have hall : (Cond.all (.arg 0) (.isInt (.elem (.arg 0) (.index 0)))).before args s = true := hq _ (by decide +kernel)
  obtain ⟨b, xs, hb, hx⟩ := State.ints_of_pre rfl harr hlen hall
  have hsm : xs.length < 2 ^ 31 := hx.choose_spec.2.2.2
  have hev : (Term.length (.arg 0)).eval args s none [] s = some (.int xs.length.toInt32) := hx.length_eval hb
  have hv := Cond.le_ints hev (show (Term.int 260).eval args s none [] s = some (.int 260) from rfl)
  have hd : xs.length.toInt32 ≤ 260 := by
    simpa [Cond.before, Cond.holds, hv] using hle
  have hN : xs.length ≤ 260 := (Int32.ofNat_le_ofNat hsm (by decide)).mp (show Int32.ofNat xs.length ≤ Int32.ofNat 260 from hd)
  exact ⟨b, xs, Cond.one_arg hc (show args[0]? = some (.ref b) from hb), hx, hN, h⟩
theorem lw_comes (l : Launch) (hflags : l.flags = flags0) : Comes l x (Jvm.Cond.code x code maxLocals ret :: tables_1) room_1 (fun tb e args s => Calls_1 tb e args s ∧ rest_1 tb e args s ∧ Pre_1 tb e args s)
    (fun _ _ args s o t => lw_Q args s o t) := by
  intro p e ha hc hk s m args below hf hfit hheap happ hpre
  obtain ⟨b, xs, hP⟩ := lw_pre_spec hpre.2.2 hpre.2.1
  obtain ⟨k, o, h1, h2, h3, hQ⟩ := lw_walk l hflags b xs p e ha hc hk s m args below hf ((Spec.applies_iff_loose hf).mp happ).1 hP trivial
  exact ⟨k, o, h1, h2, h3, hQ⟩
theorem lw_frame {s t : State} {o : Outcome} {args : Array Value} (h : Framed s o t [] 600000 7302250) :
    Framed s o t (fieldLocs frame_1_writes args s ++ arrayLocs frame_1_arrays args s ++ staticLocs frame_1_statics s) 600000 7302250 := h
theorem lw_limb (L : Cond) (hL : ∀ (args : Array Value) (s t : State), L.after args s (.returned (some (.int 1))) t = true) :
    ArmFor flags0 classFile x code maxLocals ret World_1 tables_1 room_1 Calls_1 rest_1 Pre_1
      (fun tb e a s o t => postC L tb e a s o t ∧ Framed s o t (fieldLocs frame_1_writes a s ++ arrayLocs frame_1_arrays a s ++ staticLocs frame_1_statics s) 600000 7302250) := by
  intro l hflags _ _ p e ha hc hk s m args below hf hfit hheap happ hpre
  obtain ⟨k, o, h1, h2, h3, rfl, hF⟩ := lw_comes l hflags p e ha hc hk s m args below hf hfit hheap happ hpre
  exact ⟨k, _, h1, h2, h3, hL args s _, lw_frame hF⟩
theorem i_vc : Claimed_1_1 ∧ Claimed_1_2 := ⟨lw_limb limb_1_1 (fun args s t => by simp [limb_1_1, Cond.after, Cond.holds, Cond.value]), lw_limb limb_1_2 (fun args s t => Cond.after_iff.mpr (by
  first | (rw [show limb_1_2 = Cond.eq .result (.int 1) from rfl, Cond.eq_ints (x := 1) (y := 1) rfl rfl]; simp; done) | (simp [limb_1_2, Cond.value, Term.eval]; done)))⟩
