theorem zCl10_r {x o : zO} (h : zCl10 x) (hr : zrefOf x o) : zCl10 o := by
  rcases h with rfl | rfl | h | ⟨j, j0, j1, hj⟩
  · rcases hr with ⟨c, k, q1, q2, q3, q4⟩ | ⟨q, j, q1, -⟩
    · cases q1
      have hk : k < 8 := q2
      rcases (show k = 0 ∨ k = 1 ∨ k = 2 ∨ k = 3 ∨ k = 4 ∨ k = 5 ∨ k = 6 ∨ k = 7 by omega) with rfl | rfl | rfl | rfl | rfl | rfl | rfl | rfl
      · exact Or.inr (Or.inr (Or.inl (Or.inl (Or.inl (Or.inl (Or.inl (Or.inl (Or.inl q4))))))))
      · exact Or.inr (Or.inr (Or.inl (Or.inl (Or.inl (Or.inl (Or.inl (Or.inr (Or.inl q4))))))))
      · exact Or.inr (Or.inl q4)
      · exact Or.inr (Or.inr (Or.inl (Or.inl (Or.inl (Or.inl (Or.inr (q4)))))))
      · exact Or.inr (Or.inr (Or.inl (Or.inl (Or.inl (Or.inr (Or.inl q4))))))
      · exact Or.inr (Or.inr (Or.inl (Or.inl (Or.inl (Or.inr (Or.inr (Or.inr (Or.inl q4))))))))
      · exact Or.inr (Or.inr (Or.inl (Or.inl (Or.inr (Or.inl q4)))))
      · exact Or.inr (Or.inr (Or.inl (Or.inr (Or.inl q4))))
    · cases q1
  · obtain ⟨j, hj, e⟩ := zref_arr (t := 20) rfl rfl hr
    exact Or.inr (Or.inr (Or.inr ⟨j, by omega, by omega, Or.inl e⟩))
  · exact Or.inr (Or.inr (Or.inl (zS6_r h hr)))
  · exact Or.inr (Or.inr (Or.inr ⟨j, j0, j1, zCl7_r hj hr⟩))
set_option maxRecDepth 20000 in
/-- YOUR PART: from the entry, for every script of at most 2048 ints, the law comes to its end with true ('hflags': the launch's flags, for a law that throws: no stack traces) -/
theorem whole_start {p : Program} {e : Env} {s : State} {m : MethodId} {below : List Frame} {meth : Method} {c : Code} (l : Launch) (hflags : l.flags = flags0) {b L : Nat} {xs : Nat → Int32} (hL : L ≤ 2048) (C0 : lw_At p s m meth c b L xs) : W p l e room_1 s m #[Value.ref b] below meth c s.heap [] 0 0 (lw_Z below #[Value.ref b] s) (entryFrame m ([Value.ref b] : List Value).toArray 4) := by
  obtain ⟨hx, hb, hr, hml, hown, hts, hX, hbl, hlocks, hgv⟩ := id C0
  have htz : ∀ w ∈ zW, w.before #[Value.ref b] s = true := fun w hw => hts w (zW_tbl hw)
  obtain ⟨D, cA, hK⟩ := zK_start hts
  have hl := lv_entry ([.ref b]) (n := 4) (Nat.le_of_ble_eq_true rfl)
  rw [lg_entry_eq]
  have hC : zNc (p, l, e, room_1, s, m, #[Value.ref b], below, meth, c, lw_Z below #[Value.ref b] s, (D, fun _ => 0, cA)) (fun q => s.heap.size ≤ q) l (D, fun _ => 0, cA) RL cL_law 12 4 := ⟨hx, hb, hml, hown, htz, hK _, zAO_start hts, Nat.le_refl _, by decide, hlocks, rfl, rfl, fun _ h => h⟩
  have K0 : zNw (p, l, e, room_1, s, m, #[Value.ref b], below, meth, c, lw_Z below #[Value.ref b] s, (D, fun _ => 0, cA)) (fun q => s.heap.size ≤ q) 0 [(0, .ref b)] [] [] [] (fun _ => False) (fun _ => 0) 0 0 := by
    refine n_new (ow := []) hC dL_law_0 NK_L_7 (Nat.le_of_ble_eq_true rfl) (Nat.le_of_ble_eq_true rfl) (by simp) (fun q0 hq0 => ?_)
    refine n_dup hC dL_law_3 ?_
    refine n_init (Cl := zCl10) hC dL_law_4 LI_L_9 (cn_X10 l _) (by decide) hq0 (by simp) rfl rfl (Nat.le_of_ble_eq_true rfl) (Nat.le_of_ble_eq_true rfl) (Nat.le_of_ble_eq_true rfl) (Or.inl rfl) (fun _ z => z.elim) (fun _ z => z.elim) (fun _ _ o ho o' z => Or.inl (zCl10_r ho z)) (fun ad1 u1 r1 => ?_)
    refine n_astore_n hC dL_law_7 rfl (by decide) rfl ?_
    refine n_new (ow := []) hC dL_law_8 NK_L_10 (Nat.le_of_ble_eq_true rfl) (Nat.le_of_ble_eq_true rfl) (by simp) (fun q1 hq1 => ?_)
    refine n_dup hC dL_law_11 ?_
    refine n_init (Cl := zCl11s) hC dL_law_12 LI_L_12 (cn_X11 l _) (by decide) hq1 (by simp) rfl rfl (Nat.le_of_ble_eq_true rfl) (Nat.le_of_ble_eq_true rfl) (Nat.le_of_ble_eq_true rfl) (Or.inl rfl) (fun x hx z => zCl10_g (hx.resolve_left id) (zCl11_g z)) (fun x hx o' zr z => zS7c_r (hx.resolve_left id) zr (zCl11_g z)) (fun _ _ o ho o' z => Or.inl (zCl11_r ho z)) (fun ad2 u2 r2 => ?_)
    refine n_astore_n hC dL_law_15 rfl (by decide) rfl ?_
    refine n_iconst hC dL_law_16 ?_
    refine n_istore_n hC dL_law_17 rfl (by decide) rfl ?_
    intro H locs lsA hP hD hB hS hw hl
    have r0 : ad2 (0, 0, 0) = q0 := by rw [u2 _ (fun z => zCl10_g (Or.inl rfl) (zCl11_g z)), r1]
    have hall : ∀ o ∈ zOs, (False ∨ zCl10 o) ∨ zCl11s o := fun o ho => by
      rcases zall ho with z | z
      · exact Or.inl (Or.inr z)
      · exact Or.inr z
    refine W.widen (k := 600000) (n := 7302250) (Nat.le_of_ble_eq_true rfl) (Nat.le_of_ble_eq_true rfl) ?_
    have hG : zGood (p, l, e, room_1, s, m, #[Value.ref b], below, meth, c, lw_Z below #[Value.ref b] s, (D, ad2, cA)) l (D, ad2, cA) RL cL_law 12 4 := ⟨hx, hb, hml, hown, htz, hK ad2, zNW_start hts, fun o ho o' ho' he => hB.2 o o' (hall o ho) (hall o' ho') he, Nat.le_refl _, by decide, hlocks, rfl, rfl⟩
    have hLx : zLx (p, l, e, room_1, s, m, #[Value.ref b], below, meth, c, lw_Z below #[Value.ref b] s, (D, ad2, cA)) b L xs := ⟨hX, hbl, fun o ho => (hB.1 o (hall o ho)).2.1, rfl, rfl, rfl, hr, hL⟩
    have hrun := zl_loop hG hLx hL L 0 zM0 (by omega) (by decide) (by simpa using zHd0)
    refine hrun zM0_ok (fun v h => by cases h) H locs lsA (fun k q hq => ?_) ⟨hS.1, fun q h1 h2 => hS.2.1 q h1 (Nat.not_le.mpr h1), fun q hq => by have := hw q hq; cases this⟩ ?_
    · unfold zWS at hq
      rw [List.getElem?_map] at hq
      cases ho : zOs[k]? with
      | none => rw [ho] at hq; cases hq
      | some o =>
        rw [ho] at hq
        cases hq
        exact (hB.1 o (hall o (List.mem_of_getElem? ho))).1
    · show lv_has lsA 4 [(3, .int (Int32.ofInt ((4 * 0 : Nat) : Int))), (2, .ref (ad2 (11, 0, 0))), (1, .ref (ad2 (0, 0, 0))), (0, .ref b)]
      rw [r2, r0, ← hml]
      exact hl
  exact K0 s.heap [] _ (fun k q h => by simp at h) ⟨fun i j p q h => by simp at h, fun k q h => by simp at h⟩ ⟨fun o ho => ho.elim, fun o o' ho => ho.elim⟩ va_S.rf (fun q hq => by cases hq) (by rw [hml]; exact hl)
set_option maxHeartbeats 4000000 in
theorem lw_walk (l : Launch) (hflags : l.flags = flags0) (b : Addr) (xs : List Int32) : MetFree l x (headSpec (Jvm.Cond.code x code maxLocals ret :: tables_1) room_1) (lw_P b xs) (fun _ _ _ _ _ => True) lw_Q := by
  refine MetFree.of_bodyS (code := code) (maxLocals := maxLocals) (ret := ret) (by decide) ?_ ?_
  · intro args s m h hn
    obtain ⟨meth, c, h1, h2, h3, h4, h5, h6, -, -⟩ := Cond.code_spec hn (atoms_spec (ws := Jvm.Cond.code x code maxLocals ret :: tables_1) h _ List.mem_cons_self)
    exact ⟨meth, c, h1, h2, h3, h4, h5, h6⟩
  · intro p e s m args below meth c s₁ B hml0 hP _
    obtain ⟨rfl, hx, hbd, hgv⟩ := hP
    obtain ⟨scr, harrAt, hlist, hof, hsmall⟩ := hx
    obtain ⟨hcb, hkn, -, -⟩ := State.arrayAt?_spec harrAt
    have hown : s.vm.findClass R_law = some m.cls := findClass_of_methodNamed B.named
    have hts0 : ∀ c ∈ (Jvm.Cond.code x code maxLocals ret :: tables_1), c.before #[Value.ref b] s = true := atoms_spec (ws := Jvm.Cond.code x code maxLocals ret :: tables_1) B.pre
    have hts : ∀ w ∈ lw_tbl, w.before #[Value.ref b] s = true := k2_hts_sels lw_privs (fun w hw => hts0 w (List.mem_cons_of_mem _ hw)) lw_privs_ok
    have hml : c.maxLocals = 4 := B.maxLocals_eq (hts0 _ List.mem_cons_self)
    have X₀ : Stand p l e room_1 s m #[Value.ref b] below meth c s₁ [] 0 0 := Stand.of_body B
    have hh0 : s₁.heap = s.heap := by rw [B.state]; rfl
    have hsz : scr.slots.size = xs.length := by rw [← Array.length_toList, hlist, List.length_map]
    have hval : ∀ j : Nat, j < xs.length → scr.slots[j]? = some (.int (xs.getD j 0)) := fun j hj => by
      rw [← Array.getElem?_toList, hlist]
      simp [hj]
    have hbl : b < s.heap.size := (Array.getElem?_eq_some_iff.mp hcb).1
    have hX : va_X b xs.length (fun j => xs.getD j 0) s s.heap := ⟨scr, hcb, hof, hkn, hsz, hval⟩
    have K : W p l e room_1 s m #[Value.ref b] below meth c s₁.heap [] 0 0 (lw_Z below #[Value.ref b] s) (entryFrame m ([Value.ref b] : List Value).toArray 4) := by
      rw [hh0]
      exact whole_start l hflags hbd ⟨B.exec, B.bytes, B.returns, hml, hown, hts, hX, hbl, B.notSynchronized, hgv⟩
    obtain ⟨t, a1, o, b1, b2, b3⟩ := K s₁ rfl X₀
    exact ⟨t, o, a1, b1, b2, b3⟩
theorem lw_pre_spec {args : Array Value} {s : State} (h : (Jvm.Cond.and given_1 narrow_1).before args s = true) (hr : rest_1_c.before args s = true) : ∃ (b : Addr) (xs : List Int32), lw_P b xs args s := by
  have hs := flat_of_before _ h
  have hq := flat_of_before _ hr
  have hc : (Cond.count 1).before args s = true := hs _ (by decide +kernel)
  have harr : (Cond.arrayOf (.arg 0) .int).before args s = true := hs _ (by decide +kernel)
  have hle : (Cond.le (.length (.arg 0)) (.int 2048)).before args s = true := hs _ (by decide +kernel)
  have hlen : (Cond.isInt (.length (.arg 0))).before args s = true := hq _ (by decide +kernel)
  have hall : (Cond.all (.arg 0) (.isInt (.elem (.arg 0) (.index 0)))).before args s = true := hq _ (by decide +kernel)
  obtain ⟨b, xs, hb, hx⟩ := State.ints_of_pre rfl harr hlen hall
  have hsm : xs.length < 2 ^ 31 := hx.choose_spec.2.2.2
  have hev : (Term.length (.arg 0)).eval args s none [] s = some (.int xs.length.toInt32) := hx.length_eval hb
  have hv := Cond.le_ints hev (show (Term.int 2048).eval args s none [] s = some (.int 2048) from rfl)
  have hd : xs.length.toInt32 ≤ 2048 := by
    simpa [Cond.before, Cond.holds, hv] using hle
  have hN : xs.length ≤ 2048 := (Int32.ofNat_le_ofNat hsm (by decide)).mp (show Int32.ofNat xs.length ≤ Int32.ofNat 2048 from hd)
  exact ⟨b, xs, Cond.one_arg hc (show args[0]? = some (.ref b) from hb), hx, hN, h⟩
theorem lw_comes (l : Launch) (hflags : l.flags = flags0) : Comes l x (Jvm.Cond.code x code maxLocals ret :: tables_1) room_1 (fun tb e args s => Calls_1 tb e args s ∧ rest_1 tb e args s ∧ Pre_1 tb e args s)
    (fun _ _ args s o t => lw_Q args s o t) := by
  intro p e ha hc hk s m args below hf hfit hheap happ hpre
  obtain ⟨b, xs, hP⟩ := lw_pre_spec hpre.2.2 hpre.2.1
  obtain ⟨k, o, h1, h2, h3, hQ⟩ := lw_walk l hflags b xs p e ha hc hk s m args below hf ((Spec.applies_iff_loose hf).mp happ).1 hP trivial
  exact ⟨k, o, h1, h2, h3, hQ⟩
theorem lw_frame {s t : State} {o : Outcome} {args : Array Value} (h : Framed s o t [] 600000 7302250) :
    Framed s o t (fieldLocs frame_1_writes args s ++ arrayLocs frame_1_arrays args s ++ staticLocs frame_1_statics s) 600000 7302250 := h
theorem lw_limb (L : Cond) (hL : ∀ (args : Array Value) (s t : State), L.after args s (.returned (some (.int 1))) t = true) :
    ArmFor flags0 classFile x code maxLocals ret World_1 tables_1 room_1 Calls_1 rest_1 Pre_1
      (fun tb e a s o t => postC L tb e a s o t ∧ Framed s o t (fieldLocs frame_1_writes a s ++ arrayLocs frame_1_arrays a s ++ staticLocs frame_1_statics s) 600000 7302250) := by
  intro l hflags _ _ p e ha hc hk s m args below hf hfit hheap happ hpre
  obtain ⟨k, o, h1, h2, h3, rfl, hF⟩ := lw_comes l hflags p e ha hc hk s m args below hf hfit hheap happ hpre
  exact ⟨k, _, h1, h2, h3, hL args s _, lw_frame hF⟩
theorem i_vc : Claimed_1_1 ∧ Claimed_1_2 := ⟨lw_limb limb_1_1 (fun args s t => by simp [limb_1_1, Cond.after, Cond.holds, Cond.value]), lw_limb limb_1_2 (fun args s t => Cond.after_iff.mpr (by
  first | (rw [show limb_1_2 = Cond.eq .result (.int 1) from rfl, Cond.eq_ints (x := 1) (y := 1) rfl rfl]; simp; done) | (simp [limb_1_2, Cond.value, Term.eval]; done)))⟩
