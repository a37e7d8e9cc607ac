/-- as the kit's Met.ofW, for a method of the JDK's too that no entry is run in the place of -/
theorem zofW {l : Launch} {y : MethodName} {ws ws' : List Cond} {rm : Room} {Pc : Array Value → State → Prop} {Qc : Array Value → State → Outcome → State → Prop} {mc ms : Nat} {free : Addr → Prop} {cc : ByteArray} {maxL : Nat} {ret : Option FieldType}
    (hy : plainFor y = true) (hw : ws = Cond.code y cc maxL ret :: ws')
    (body : ∀ p e s m args below meth c s₁, BodyLoose p l y (headSpec ws rm) cc maxL ret e s m args below meth c s₁ → c.maxLocals = maxL → Pc args s →
      W p l e (headSpec ws rm).room s m args below meth c s.heap [] 0 0 (MQ below Qc args s mc ms free) (entryFrame m args maxL)) : Met l y ws rm Pc Qc mc ms free := by
  refine MetFree.of_bodySF (code := cc) (maxLocals := maxL) (ret := ret) hy ?_ ?_
  · intro args s m h hn
    obtain ⟨meth, c, h1, h2, h3, h4, h5, h6, -, -⟩ := Cond.code_spec hn (atoms_spec (ws := ws) h _ (by rw [hw]; exact List.mem_cons_self))
    exact ⟨meth, c, h1, h2, h3, h4, h5, h6⟩
  · intro p e s m args below meth c s₁ B hml hP _
    have hh0 : s₁.heap = s.heap := by rw [B.state]; rfl
    obtain ⟨t, a1, o, b1, b2, b3⟩ := body p e s m args below meth c s₁ B hml hP s₁ hh0 (Stand.of_body B)
    exact ⟨t, o, a1, b1, b2, ⟨b3.1, b3.2⟩⟩
/-- A CONTRACT out of a walk of the method's body -/
theorem zMet_introF {l : Launch} {g : zG} {y : zY} {av : List zV} {mem : zM} {Rt : Option zV → zM → Prop} (hy : plainFor y.1 = true) (hlen : (zin0 av).length ≤ y.2.2.1) {ls0 : zL} (he : zentry av y.2.2.1 = ls0)
    (body : ∀ X : zX, zGood X l g y.1.cls y.2.1 y.2.2.2.2 y.2.2.1 → zEnd X y.2.2.2.1 Rt → zZ X 0 ls0 [] mem) : zMet l g y av mem Rt := by
  subst he
  intro hg hM hS
  refine zofW (cc := y.2.1) (maxL := y.2.2.1) (ret := y.2.2.2.1) hy rfl ?_
  intro p e s m args below meth c s₁ B hml hv
  obtain ⟨rfl, hP, hK, hN⟩ := hv
  have hts := atoms_spec (ws := zYw y) B.pre
  have hown : s.vm.findClass y.1.cls = some m.cls := findClass_of_methodNamed B.named
  have hG : zGood (p, l, e, (headSpec (zYw y) (zRoom y.2.2.2.2)).room, s, m, (av.map (zup g)).toArray, below, meth, c, MQ below (zQc g Rt) (av.map (zup g)).toArray s 0 0 (zA g), g, 0, 0) l g y.1.cls y.2.1 y.2.2.2.2 y.2.2.1 :=
    ⟨B.exec, B.bytes, hml, hown, fun w hw => hts w (List.mem_cons_of_mem _ hw), hK, hN, hg, ⟨Nat.le_refl _, Nat.zero_le _, Nat.zero_le _⟩, Nat.le_refl _, B.notSynchronized, rfl, rfl⟩
  have hl := lv_entry (av.map (zup g)) (n := y.2.2.1) (by rw [zin0_len]; exact hlen)
  rw [lg_entry_eq]
  refine body _ hG ⟨B.returns, rfl⟩ hM ?_ zokS_nil s.heap [] _ hP va_S.rf ⟨?_, hl.2.1, ?_⟩
  · intro v hv
    rcases List.mem_append.mp hv with h | h
    · exact hS v (zin0_mem av v h)
    · have := List.eq_of_mem_replicate h
      cases this
  · rw [hml]; exact hl.1
  · intro k v hk
    unfold zentry at hk
    by_cases hlt : k < (zin0 av).length
    · rw [List.getElem?_append_left hlt] at hk
      have h1 := zin0_at (g := g) av k v hk
      simp only [List.getElem?_toArray]
      rw [List.getElem?_append_left (by rw [zin0_len]; exact hlt)]
      exact h1
    · rw [List.getElem?_append_right (by omega)] at hk
      have := List.eq_of_mem_replicate (List.mem_of_getElem? hk)
      cases this
