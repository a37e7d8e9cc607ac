/-! THE LAW'S METHODS: contracts with a budget of cells; an array of a method's own -/
def zRoomA (h mc ms : Nat) : Room := { frames := h, cells := mc, slots := ms, locals := 38 * h }
/-- a contract with mc new cells of ms slots -/
def zMetA (l : Launch) (g : zG) (y : zY) (av : List zV) (mem : zM) (Rt : Option zV → zM → Prop) (mc ms : Nat) : Prop :=
  zGok g → zokM mem → zokS g av → Met l y.1 (zYw y) (zRoomA y.2.2.2.2 mc ms) (va_Pc (av.map (zup g)) (fun U => zPW g mem U)) (zQc g Rt) mc ms (zA g)
/-- the world g has what g0 has, and cells of addresses from n on beside -/
def zSubG (n : Nat) (g0 g : zG) : Prop := g0.1 = g.1 ∧ g0.2.2 = g.2.2 ∧ (∀ o ∈ zOs g0, o.1 < 45 ∧ o ∈ zOs g) ∧ (∀ o : zO, o.1 < 45 → g0.2.1 o = g.2.1 o) ∧ (∀ o ∈ zOs g, o ∈ zOs g0 ∨ n ≤ g.2.1 o)
/-- the end of a method with a budget: its world is g0's again -/
def zEndA (X : zX) (g0 : zG) (ret : Option FieldType) (Rt : Option zV → zM → Prop) : Prop := match X with
  | (p, l, e, R, s, m, args, below, meth, c, Q, g, kc, ks) => meth.sig.returnType = ret ∧ ∃ mc ms : Nat, kc ≤ mc ∧ ks ≤ ms ∧ R.cells = mc ∧ R.slots = ms ∧ Q = MQ below (zQc g0 Rt) args s mc ms (zA g0) ∧ (g0 = g ∨ zSubG s.heap.size g0 g)
/-- so much more is made -/
def zAdd (X : zX) (a b : Nat) : zX := match X with
  | (p, l, e, R, s, m, args, below, meth, c, Q, g, kc, ks) => (p, l, e, R, s, m, args, below, meth, c, Q, g, kc + a, ks + b)
def zBud (X : zX) (a b : Nat) : Prop := match X with
  | (p, l, e, R, s, m, args, below, meth, c, Q, g, kc, ks) => kc + a ≤ R.cells ∧ ks + b ≤ R.slots
theorem zGood_add {X : zX} {l : Launch} {g : zG} {own : String} {cc : ByteArray} {h nL a b : Nat} (hG : zGood X l g own cc h nL) (hb : zBud X a b) : zGood (zAdd X a b) l g own cc h nL := by
  obtain ⟨p, l, e, R, s, m, args, below, meth, c, Q, g, kc, ks⟩ := X
  obtain ⟨hx, hbb, hml, hown, hts, hK, hN, hg, hR1, hR2, hlk, hl2, hg2⟩ := hG
  exact ⟨hx, hbb, hml, hown, hts, hK, hN, hg, ⟨hR1.1, hb.1, hb.2⟩, hR2, hlk, hl2, hg2⟩
theorem zEndA_add {X : zX} {g0 : zG} {ret : Option FieldType} {Rt : Option zV → zM → Prop} {a b : Nat} (hE : zEndA X g0 ret Rt) (hb : zBud X a b) : zEndA (zAdd X a b) g0 ret Rt := by
  obtain ⟨p, l, e, R, s, m, args, below, meth, c, Q, g, kc, ks⟩ := X
  obtain ⟨h1, mc, ms, h2, h3, h4, h5, h6, h7⟩ := hE
  obtain ⟨b1, b2⟩ := hb
  exact ⟨h1, mc, ms, by omega, by omega, h4, h5, h6, h7⟩
theorem zW_forget {p : Program} {l : Launch} {e : Env} {R : Room} {s : State} {m : MethodId} {args : Array Value} {below : List Frame} {meth : Method} {c : Code} {H : Heap} {locs locs' : List Loc} {cells slots : Nat} {Q : State → Prop} {f : JFrame} (h : ∀ y ∈ locs, y.base < s.heap.size → y ∈ locs') (kk : W p l e R s m args below meth c H locs' cells slots Q f) : W p l e R s m args below meth c H locs cells slots Q f :=
  fun T hT X => kk T hT { X with same := X.same.weaken h (Nat.le_refl _) (Nat.le_refl _) }
theorem zent_ge {g0 g : zG} {mem : zM} {o : zO} (h1 : g0.2.2 = g.2.2) (h2 : ∀ o : zO, o.1 < 45 → g0.2.1 o = g.2.1 o) : zent g0 mem o = zent g mem o := by
  have e1 : ∀ (t : Nat) (s i : Int) (k : Nat), g0.2.1 (zFref t s i k) = g.2.1 (zFref t s i k) := fun t s i k => h2 _ (by unfold zFref; split <;> (simp only; omega))
  have e2 : ∀ (t : Nat) (s i j : Int), g0.2.1 (zAref t s i j) = g.2.1 (zAref t s i j) := fun t s i j => h2 _ (by unfold zAref; split <;> (simp only; omega))
  unfold zent zfv
  simp only [e1, e2, h1]
theorem zWS_sub {n : Nat} {g0 g : zG} {mem : zM} {H : Heap} (h : zSubG n g0 g) (hP : va_P g.1 vwCl (zWS g mem) H) : va_P g0.1 vwCl (zWS g0 mem) H := by
  obtain ⟨h1, h2, h3, h4, h5⟩ := h
  intro k q hq
  unfold zWS at hq
  rw [List.getElem?_map] at hq
  cases ho : (zOs g0)[k]? with
  | none => rw [ho] at hq; cases hq
  | some o =>
    rw [ho] at hq
    cases hq
    have hm := h3 o (List.mem_of_getElem? ho)
    obtain ⟨q0, -, hq0⟩ := zplace hm.2 mem
    have := hP q0 _ hq0
    show va_at g0.1 vwCl (g0.2.1 o, zent g0 mem o) H
    rw [h4 o hm.1, zent_ge h2 h4, h1]
    exact this
section ZLAW
variable {X : zX} {l : Launch} {g : zG} {own : String} {cc : ByteArray} {h nL pc : Nat} {ls : zL} {st : List zV} {mem : zM}
/-- a call of a method with a budget -/
theorem z_callA (hG : zGood X l g own cc h nL) {i n mc ms : Nat} {y : zY} {av : List zV} {stk : List zV} {Rt : Option zV → zM → Prop} (hd : decode cc pc = .ok (.invokestatic i, 3)) (hw : zLS own i y n) (hM2 : zMetA l g y av mem Rt mc ms) (hbud : zBud X mc ms) (hh : y.2.2.2.2 + 1 ≤ h) (hn : av.length = n) (hst : stk = av.reverse ++ st) (hc : zcat st ≤ 8) (K : ∀ v m', Rt v m' → zZ (zAdd X mc ms) (pc + 3) ls (v.toList ++ st) m') : zZ X pc ls stk mem := by
  subst hst
  obtain ⟨p, l, e, R, s, m, args, below, meth, c, Q, g, kc, ks⟩ := X
  obtain ⟨hx, hb, hml, hown, hts, hK, hN, hg, hR1, hR2, hlk, hl2, hg2⟩ := hG
  obtain ⟨hb1, hb2⟩ := hbud
  subst hl2 hg2
  intro hM hL hS H locs lsA hP hS0 hl
  obtain ⟨hlink, hstat, hini, hcode, hd3, hmL⟩ := hw
  have hSav : zokS g av := fun v hv => hS v (by simp [hv])
  have hSr : zokS g st := fun v hv => hS v (by simp [hv])
  have hMet := hM2 hg hM hSav
  have cb : CallB R s args own i y.1 y.2.1 y.2.2.1 y.2.2.2.1 (zYw y) (zRoomA y.2.2.2.2 mc ms) mc ms n := callB_of n hts (zYw_good (fun _ z => z) hcode) rfl rfl rfl (hts _ hini) (hts _ hlink) hd3 ⟨by show y.2.2.2.2 + 1 ≤ _; omega, by show 8 + (y.2.2.1 + 11) + 38 * y.2.2.2.2 ≤ _; omega⟩
  exact z_back (mc := mc) (ms := ms) (st0 := ((av.reverse ++ st).map (zup g))) (va_runS (As := av.map (zup g)) ⟨hx, hb, rfl, hown, hts⟩ hMet ⟨cb, hts _ hstat⟩ ⟨zPW_blind, fun U hU hW => ⟨rfl, zPW_of hP hK hN hU hW⟩⟩ rfl (by simp [hn]) hl.1 (by simp) (lv_room (by rw [zcat_up]; exact hc)) hd ⟨hb1, hb2⟩) hS0 hL hSr hl K
/-- an int array of the method's own -/
theorem z_newa (hG : zGood X l g own cc h nL) (k N : Nat) {n : Int} (hk : k = 1 ∨ k = 2) (ht : zTA (44 + k) = some (0, N)) (hd : decode cc pc = .ok (.newarray .int, 2)) (hw : Cond.arrayClass .int ∈ zW) (hn : n = N) (hN : N ≤ 64) (hg0 : g.2.1 (999, 0, 0) = 0) (hbud : zBud X 1 N)
    (K : ∀ (X' : zX) (g' : zG), zGood X' l g' own cc h nL → g'.2.1 (999, 0, 0) = k → (∀ (ret : Option FieldType) (Rt : Option zV → zM → Prop), zEndA X g ret Rt → zEndA X' g ret Rt) → zZ X' (pc + 2) ls (zr (44 + k) 0 0 :: st) (fun t s i j => if t = 44 + k then 0 else mem t s i j)) : zZ X pc ls (zi n :: st) mem := by
  obtain ⟨p, l, e, R, s, m, args, below, meth, c, Q, g, kc, ks⟩ := X
  obtain ⟨hx, hb, hml, hown, hts, hK, hN2, hg, hR1, hR2, hlk, hl2, hg2⟩ := hG
  obtain ⟨hb1, hb2⟩ := hbud
  subst hl2 hg2
  intro hM hL hS H locs lsA hP hS0 hl
  have hz : zin n := ⟨by omega, by omega⟩
  have h0 : ¬ Int32.ofInt n < 0 := fun q => by
    have := (zlt hz z0in).mp q
    omega
  have hbase : zOs g = zBase := by
    unfold zOs
    rw [hg0]
    simp [zExt]
  have hD0 : va_D (fun q => zA g q ∨ s.heap.size ≤ q) (zWS g mem) := ⟨(zDw hg mem).1, fun k q hq => Or.inl ((zDw hg mem).2 k q hq)⟩
  have hS1 : va_S (fun q => zA g q ∨ s.heap.size ≤ q) s.heap H locs := ⟨hS0.1, fun q h1 h2 => hS0.2.1 q h1 (fun z => h2 (Or.inl z)), fun q hq => Or.inl (hS0.2.2 q hq)⟩
  refine va_newa (atype := .int) (D := g.1) (A := fun q => zA g q ∨ s.heap.size ≤ q) (H0 := s.heap) (a0 := (N, .inl fun _ => 0)) (N' := N) hx hb (show (Cond.arrayClass (newarray.typeOf .int)).before args s = true from hts _ hw) rfl hK hP hD0 hS1 (fun q h => Or.inr h) (fun cA => rfl) h0 (by rw [zcl hz]; omega) (Nat.le_trans (Nat.mul_le_mul hN (show componentBytes .int ≤ 8 by decide)) (by decide)) hb1 hb2 hd fun q cA H1 hK1 hP1 hD1 hSS => ?_
  have hcA := zcA_eq hK (show 0 < 8 by decide) (show zTY.getD 0 .int = .int from rfl) hK1
  subst hcA
  -- the new world
  have key : ∀ o ∈ zOs g, g.2.1 o ≠ q := by
    intro o ho e1
    obtain ⟨q0, h1, h2⟩ := zplace ho mem
    have hlt := (List.getElem?_eq_some_iff.mp h2).1
    have := hD1.1 q0 (zWS g mem).length _ _ (by rw [List.getElem?_append_left hlt]; exact h2) (show (zWS g mem ++ [(q, (.inl (g.2.2 0, N, .inl fun _ => 0) : va_E))])[(zWS g mem).length]? = some (q, (.inl (g.2.2 0, N, .inl fun _ => 0) : va_E)) by simp) e1
    omega
  have hqn : s.heap.size ≤ q := by
    rcases hD1.2 (zWS g mem).length (q, .inl (g.2.2 0, N, .inl fun _ => 0)) (by simp) with ⟨o, ho, e1⟩ | h2
    · exact absurd e1.symm (key o ho)
    · exact h2
  let g' : zG := (g.1, fun o => if o = (999, 0, 0) then k else if o = (44 + k, 0, 0) then q else g.2.1 o, g.2.2)
  have eg1 : g'.2.1 (999, 0, 0) = k := by
    show (if ((999, 0, 0) : zO) = (999, 0, 0) then k else if ((999, 0, 0) : zO) = (44 + k, 0, 0) then q else g.2.1 (999, 0, 0)) = k
    exact if_pos rfl
  have eg2 : g'.2.1 (44 + k, 0, 0) = q := by
    show (if ((44 + k, 0, 0) : zO) = (999, 0, 0) then k else if ((44 + k, 0, 0) : zO) = (44 + k, 0, 0) then q else g.2.1 (44 + k, 0, 0)) = q
    rw [if_neg (by intro z; have := congrArg Prod.fst z; simp only at this; omega), if_pos rfl]
  have eg3 : ∀ o : zO, o.1 < 45 → g.2.1 o = g'.2.1 o := fun o ho => by
    show _ = (if o = (999, 0, 0) then k else if o = (44 + k, 0, 0) then q else g.2.1 o)
    rw [if_neg (by intro z; rw [z] at ho; exact absurd ho (by decide)), if_neg (by intro z; rw [z] at ho; simp only at ho; omega)]
  have eg4 : zOs g' = zBase ++ [(44 + k, 0, 0)] := by
    unfold zOs
    rw [eg1]
    rcases hk with rfl | rfl <;> rfl
  have hsub : zSubG s.heap.size g g' := ⟨rfl, rfl, fun o ho => by
    rw [hbase] at ho
    exact ⟨zbase_tag ho, by rw [eg4]; exact List.mem_append_left _ ho⟩, eg3, fun o ho => by
    rw [eg4] at ho
    rcases List.mem_append.mp ho with h1 | h1
    · left
      rw [hbase]
      exact h1
    · right
      rw [List.mem_singleton.mp h1, eg2]
      exact hqn⟩
  have hg' : zGok g' := by
    intro o ho o' ho' e1
    rw [eg4] at ho ho'
    rcases List.mem_append.mp ho with h1 | h1 <;> rcases List.mem_append.mp ho' with h2 | h2
    · rw [← eg3 o (zbase_tag h1), ← eg3 o' (zbase_tag h2)] at e1
      exact hg o (by rw [hbase]; exact h1) o' (by rw [hbase]; exact h2) e1
    · rw [List.mem_singleton.mp h2, eg2, ← eg3 o (zbase_tag h1)] at e1
      exact absurd e1 (key o (by rw [hbase]; exact h1))
    · rw [List.mem_singleton.mp h1, eg2, ← eg3 o' (zbase_tag h2)] at e1
      exact absurd e1.symm (key o' (by rw [hbase]; exact h2))
    · rw [List.mem_singleton.mp h1, List.mem_singleton.mp h2]
  have hP2 : va_P g'.1 vwCl (zWS g' (fun t s i j => if t = 44 + k then 0 else mem t s i j)) H1 := by
    intro a x hx
    unfold zWS at hx
    rw [List.getElem?_map] at hx
    cases ho : (zOs g')[a]? with
    | none => rw [ho] at hx; cases hx
    | some o =>
      rw [ho] at hx
      cases hx
      have hm := List.mem_of_getElem? ho
      rw [eg4] at hm
      rcases List.mem_append.mp hm with h1 | h1
      · obtain ⟨q0, -, hq0⟩ := zplace (g := g) (by rw [hbase]; exact h1) mem
        have hlt := (List.getElem?_eq_some_iff.mp hq0).1
        have := hP1 q0 _ (by rw [List.getElem?_append_left hlt]; exact hq0)
        have e5 : zent g' (fun t s i j => if t = 44 + k then 0 else mem t s i j) o = zent g mem o := by
          rw [← zent_ge (g0 := g) (g := g') rfl eg3]
          obtain ⟨t', s', i'⟩ := o
          have ht' : t' ≠ 44 + k := by
            have := zbase_tag h1
            simp only at this
            omega
          simp only [zent, zfv, if_neg ht']
        show va_at g'.1 vwCl (g'.2.1 o, zent g' (fun t s i j => if t = 44 + k then 0 else mem t s i j) o) H1
        rw [← eg3 o (zbase_tag h1), e5]
        exact this
      · show va_at g'.1 vwCl (g'.2.1 o, zent g' (fun t s i j => if t = 44 + k then 0 else mem t s i j) o) H1
        rw [List.mem_singleton.mp h1, eg2]
        have := hP1 (zWS g mem).length (q, .inl (g.2.2 0, N, .inl fun _ => 0)) (by simp)
        rw [zent_arr (by rcases hk with rfl | rfl <;> rfl) ht rfl]
        simp only [if_true]
        exact this
  have eg5 : ∀ v : zV, zokV g v → zup g v = zup g' v := by
    intro v h2
    rcases v with x | x | o
    · rfl
    · rfl
    · show Value.ref (g.2.1 o) = Value.ref (g'.2.1 o)
      have : g.2.1 o = g'.2.1 o := by
        rcases h2 with h2 | h2
        · exact eg3 o (hsub.2.2.1 o h2).1
        · rw [h2]
          show _ = (if ((998, 0, 0) : zO) = (999, 0, 0) then k else if ((998, 0, 0) : zO) = (44 + k, 0, 0) then q else g.2.1 (998, 0, 0))
          rw [if_neg (by decide), if_neg (by intro z; have := congrArg Prod.fst z; simp only at this; omega)]
      rw [this]
  have eg6 : Value.ref q :: st.map (zup g) = (zr (44 + k) 0 0 :: st).map (zup g') := by
    show _ = Value.ref (g'.2.1 (44 + k, 0, 0)) :: st.map (zup g')
    rw [eg2]
    congr 1
    exact List.map_congr_left (fun v hv => eg5 v (hS v (List.mem_cons_of_mem _ hv)))
  rw [eg6]
  refine K (p, l, e, R, s, m, args, below, meth, c, Q, g', kc + 1, ks + N) g' ⟨hx, hb, hml, hown, hts, hK, hN2, hg', ⟨hR1.1, hb1, hb2⟩, hR2, hlk, rfl, rfl⟩ eg1 (fun ret Rt hE => ?_) (fun t s i j => ?_) (fun v hv => ?_) ?_ H1 locs lsA hP2 ⟨hSS.1, fun x h1 h2 => hSS.2.1 x h1 (fun z => ?_), fun x hx => ?_⟩ ⟨hl.1, hl.2.1, fun a v hv => ?_⟩
  · obtain ⟨h1, mc, ms, h2, h3, h4, h5, h6, h7⟩ := hE
    refine ⟨h1, mc, ms, by omega, by omega, h4, h5, h6, Or.inr hsub⟩
  · show zin (if _ then _ else _)
    split
    · exact z0in
    · exact hM _ _ _ _
  · have := hL v hv
    rcases v with x | x | o
    · exact this
    · exact this
    · rcases this with h1 | h1
      · exact Or.inl (hsub.2.2.1 o h1).2
      · exact Or.inr h1
  · refine zokS_cons.mpr ⟨Or.inl (by rw [eg4]; simp), fun v hv => ?_⟩
    have := hS v (List.mem_cons_of_mem _ hv)
    rcases v with x | x | o
    · exact this
    · exact this
    · rcases this with h1 | h1
      · exact Or.inl (hsub.2.2.1 o h1).2
      · exact Or.inr h1
  · rcases z with ⟨o, ho, e1⟩ | z
    · have := hsub.2.2.1 o ho
      exact h2 ⟨o, this.2, by rw [e1, eg3 o this.1]⟩
    · omega
  · obtain ⟨o, ho, e1⟩ := hS0.2.2 x hx
    have := hsub.2.2.1 o ho
    exact ⟨o, this.2, by rw [e1, eg3 o this.1]⟩
  · rw [← eg5 v (hL v (List.mem_of_getElem? hv))]
    exact hl.2.2 a v hv
theorem zEndA_fr {p : Program} {l : Launch} {e : Env} {R : Room} {s : State} {m : MethodId} {args : Array Value} {below : List Frame} {meth : Method} {c : Code} {Q : State → Prop} {g0 : zG} {kc ks : Nat} {H : Heap} {locs : List Loc} {t : State} (hs : g0 = g ∨ zSubG s.heap.size g0 g) (hP : va_P g.1 vwCl (zWS g mem) H) (hK : va_K g.1 vwCl (zTYS g) s) (hN : ∀ w ∈ zNW, va_Nw w s) (hS0 : va_S (zA g) s.heap H locs) (ht : t.heap = H) (hW : s.WarmedH t.vm) : zPW g0 mem t ∧ va_F (zA g0) s t := by
  rcases hs with rfl | hs
  · exact ⟨zPW_of hP hK hN ht hW, hS0.F ht⟩
  · refine ⟨zPW_of (zWS_sub hs hP) ?_ hN ht hW, ?_⟩
    · have : zTYS g0 = zTYS g := by unfold zTYS; rw [hs.2.1]
      rw [this, hs.1]
      exact hK
    · have h1 := hS0.F ht
      refine ⟨h1.1, fun q a b => h1.2 q a (fun z => ?_)⟩
      obtain ⟨o, ho, e1⟩ := z
      rcases hs.2.2.2.2 o ho with h2 | h2
      · exact b ⟨o, h2, by rw [hs.2.2.2.1 o (hs.2.2.1 o h2).1]; exact e1⟩
      · omega
theorem zEndA_lc {s : State} {g0 : zG} {H : Heap} {locs : List Loc} (hs : g0 = g ∨ zSubG s.heap.size g0 g) (hS0 : va_S (zA g) s.heap H locs) : ∀ y ∈ locs.filter (fun y => decide (y.base < s.heap.size)), zA g0 y.base := by
  intro y hy
  obtain ⟨h1, h2⟩ := List.mem_filter.mp hy
  have h2 : y.base < s.heap.size := of_decide_eq_true h2
  have h3 := hS0.2.2 y h1
  rcases hs with rfl | hs
  · exact h3
  · obtain ⟨o, ho, e1⟩ := h3
    rcases hs.2.2.2.2 o ho with h4 | h4
    · exact ⟨o, h4, by rw [hs.2.2.2.1 o (hs.2.2.1 o h4).1]; exact e1⟩
    · rw [e1] at h2
      exact absurd h4 (Nat.not_le.mpr h2)
theorem z_iretA (hG : zGood X l g own cc h nL) {g0 : zG} {Rt : Option zV → zM → Prop} (hE : zEndA X g0 (some .boolean) Rt) {v : Int} (hd : decode cc pc = .ok (.ireturn, 1)) (hf : v = 0 ∨ v = 1) (K : Rt (some (zi v)) mem) : zZ X pc ls [zi v] mem := by
  obtain ⟨p, l, e, R, s, m, args, below, meth, c, Q, g, kc, ks⟩ := X
  obtain ⟨hx, hb, hml, hown, hts, hK, hN, hg, hR1, hR2, hlk, hl2, hg2⟩ := hG
  subst hl2 hg2
  obtain ⟨hr, mc, ms, h1, h2, h3, h4, hQ, hsub⟩ := hE
  subst hQ
  intro hM hL hS H locs lsA hP hS0 hl
  have hv : zin v := (zokS_cons.mp hS).1
  refine W.widen (k := mc) (n := ms) h1 h2 ?_
  refine zW_forget (locs' := locs.filter (fun y => decide (y.base < s.heap.size))) (fun y hy hlt => List.mem_filter.mpr ⟨hy, decide_eq_true hlt⟩) ?_
  refine W.zret hx hb (hr.trans rfl) (by rcases hf with rfl | rfl <;> rfl) (fun t ht hW => ?_) (zEndA_lc hsub hS0) hd hlk
  have := zEndA_fr (p := p) (l := l) (e := e) (R := R) (m := m) (args := args) (below := below) (meth := meth) (c := c) (Q := fun _ => True) (kc := 0) (ks := 0) (t := t) hsub hP hK hN hS0 ht hW
  exact ⟨⟨some (zi v), mem, rfl, K, this.1, hM, hv⟩, this.2⟩
end ZLAW
/-- A CONTRACT with a budget, out of a walk of the method's body -/
theorem zMetA_intro {l : Launch} {g : zG} {y : zY} {av : List zV} {mem : zM} {Rt : Option zV → zM → Prop} {mc ms : Nat} (hy : plainFor y.1 = true) (hlen : (zin0 av).length ≤ y.2.2.1) {ls0 : zL} (he : zentry av y.2.2.1 = ls0)
    (body : ∀ X : zX, zGood X l g y.1.cls y.2.1 y.2.2.2.2 y.2.2.1 → zEndA X g y.2.2.2.1 Rt → zBud X mc ms → zZ X 0 ls0 [] mem) : zMetA l g y av mem Rt mc ms := by
  subst he
  intro hg hM hS
  refine zofW (cc := y.2.1) (maxL := y.2.2.1) (ret := y.2.2.2.1) hy rfl ?_
  intro p e s m args below meth c s₁ B hml hv
  obtain ⟨rfl, hP, hK, hN⟩ := hv
  have hts := atoms_spec (ws := zYw y) B.pre
  have hown : s.vm.findClass y.1.cls = some m.cls := findClass_of_methodNamed B.named
  have hG : zGood (p, l, e, (headSpec (zYw y) (zRoomA y.2.2.2.2 mc ms)).room, s, m, (av.map (zup g)).toArray, below, meth, c, MQ below (zQc g Rt) (av.map (zup g)).toArray s mc ms (zA g), g, 0, 0) l g y.1.cls y.2.1 y.2.2.2.2 y.2.2.1 :=
    ⟨B.exec, B.bytes, hml, hown, fun w hw => hts w (List.mem_cons_of_mem _ hw), hK, hN, hg, ⟨Nat.le_refl _, Nat.zero_le _, Nat.zero_le _⟩, Nat.le_refl _, B.notSynchronized, rfl, rfl⟩
  have hl := lv_entry (av.map (zup g)) (n := y.2.2.1) (by rw [zin0_len]; exact hlen)
  rw [lg_entry_eq]
  refine body _ hG ⟨B.returns, mc, ms, Nat.zero_le _, Nat.zero_le _, rfl, rfl, rfl, Or.inl rfl⟩ ⟨by show 0 + mc ≤ mc; omega, by show 0 + ms ≤ ms; omega⟩ hM ?_ zokS_nil s.heap [] _ hP va_S.rf ⟨?_, hl.2.1, ?_⟩
  · intro v hv
    rcases List.mem_append.mp hv with h | h
    · exact hS v (zin0_mem av v h)
    · have := List.eq_of_mem_replicate h
      cases this
  · rw [hml]; exact hl.1
  · intro k v hk
    unfold zentry at hk
    by_cases hlt : k < (zin0 av).length
    · rw [List.getElem?_append_left hlt] at hk
      have h1 := zin0_at (g := g) av k v hk
      simp only [List.getElem?_toArray]
      rw [List.getElem?_append_left (by rw [zin0_len]; exact hlt)]
      exact h1
    · rw [List.getElem?_append_right (by omega)] at hk
      have := List.eq_of_mem_replicate (List.mem_of_getElem? hk)
      cases this
