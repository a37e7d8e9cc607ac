/-! THE CLAIM OUT OF ONE WALK OF THE LAW'S BODY. Your part is whole_start (and what it stands on); all else here is the same for every law, but numbers. -/
def R_law : String := "TinKitchenLaw"
def lw_P (b : Addr) (xs : List Int32) (args : Array Value) (s : State) : Prop := args = #[.ref b] ∧ s.IntsAt b xs ∧ xs.length ≤ 260 ∧ (Jvm.Cond.and given_1 narrow_1).before args s = true
def lw_Q (_ : Array Value) (s : State) (o : Outcome) (t : State) : Prop := o = .returned (some (.int 1)) ∧ Framed s o t [] 600000 7302250
def lw_Z (below : List Frame) (a : Array Value) (s : State) : State → Prop := fun t => ∃ o, t.status = .running ∧ Ended t below o ∧ lw_Q a s o t
/-- the law's own end, with 1 on the stack, nothing written that was there before, its room as the claim has it -/
theorem lw_ret {p : Program} {l : Launch} {e : Env} {s : State} {m : MethodId} {below : List Frame} {meth : Method} {c : Code} {b : Nat} (hx : p.tables.exec = Jvm.exec) (hb : c.code = code) (hr : meth.sig.returnType = ret) (hlocks : meth.locks = false) {pc : Nat} {H : Heap} {ls : Array Slot} (hdg : decode code pc = .ok (.ireturn, 1)) : W p l e room_1 s m #[Value.ref b] below meth c H [] 600000 7302250 (lw_Z below #[Value.ref b] s) (F0 m pc ls [.int 1]) := by
  intro T hT X
  obtain ⟨fs, hret, hrun, hended, hW, hframe⟩ := X.leave (v := some (.int 1)) (hlocks := hlocks) (fun h => by rw [hr] at h; cases h)
  have hmeth' : T.vm.method? m = some meth := X.method'
  refine ⟨T.setFrames fs, ?_, .returned (some (.int 1)), hrun, hended, rfl, ⟨_, rfl⟩, hW, hframe⟩
  jvm_step X.here [X.here.top, hx, hb, hdg, hmeth', hr, ret, narrow_b1]
  (try refine ⟨rfl, ?_⟩); (try refine ⟨rfl, ?_⟩)
  first | (intro acts; rw [hret _ acts rfl rfl rfl]) | rw [hret _ _ rfl rfl rfl]
  exact Steps.refl _
/-- what holds at the law's entry: the machine, the code, the tables' words (any of lw_tbl by 'hts w (by decide +kernel)'), the script of L ints xs at the cell b, what the Statement gives of the start (any of its parts by flat_of_before) -/
def lw_At (p : Program) (s : State) (m : MethodId) (meth : Method) (c : Code) (b L : Nat) (xs : Nat → Int32) : Prop :=
  p.tables.exec = Jvm.exec ∧ c.code = code ∧ meth.sig.returnType = ret ∧ c.maxLocals = 8 ∧ s.vm.findClass R_law = some m.cls ∧ (∀ w ∈ lw_tbl, w.before #[Value.ref b] s = true) ∧ va_X b L xs s s.heap ∧ b < s.heap.size ∧ meth.locks = false ∧ (Jvm.Cond.and given_1 narrow_1).before #[Value.ref b] s = true
def zLw (X : zX) (g : zG) (b : Nat) : Prop := match X with
  | (p, l, e, R, s, m, args, below, meth, c, Q, g2, kc, ks) => R = room_1 ∧ args = #[Value.ref b] ∧ Q = lw_Z below #[Value.ref b] s ∧ meth.sig.returnType = ret ∧ ∀ o ∈ zOs g, s.heap.size ≤ g.2.1 o
theorem zLw_add {X : zX} {g : zG} {b c d : Nat} (h : zLw X g b) : zLw (zAdd X c d) g b := by
  obtain ⟨p, l, e, R, s, m, args, below, meth, cc, Q, g2, kc, ks⟩ := X
  exact h
theorem z_lret {X : zX} {l : Launch} {g : zG} {b pc : Nat} {ls : zL} {mem : zM} (hG : zGood X l g RL cL_law 12 8) (hW : zLw X g b) (hd : decode cL_law pc = .ok (.ireturn, 1)) : zZ X pc ls [zi 1] mem := by
  obtain ⟨p, l, e, R, s, m, args, below, meth, c, Q, g, kc, ks⟩ := X
  obtain ⟨hx, hc, hml, hown, hts, hK, hN, hg, hR1, hR2, hlk, hl2, hg2⟩ := hG
  subst hl2 hg2
  intro hM hL hS H locs lsA hP hS0 hl
  obtain ⟨hR, ha, hQ, hrt, hA⟩ := hW
  subst hR ha hQ
  refine va_forget (fun q hq => ?_) ?_
  · obtain ⟨o, ho, e⟩ := hS0.2.2 q hq
    rw [e]
    exact hA o ho
  · exact W.widen (k := 600000) (n := 7302250) hR1.2.1 hR1.2.2 (lw_ret hx hc hrt hlk hd)
theorem ct_L_celli (l : Launch) (g : zG) {mem : zM} {L : Nat} {xs : Nat → Int32} {k : Int} (hL : L ≤ 2048) (hk : 0 ≤ k ∧ k ≤ 100000) : zMetS l g L xs Y_L_cell [zr 998 0 0, zi k] mem (fun v m' => (∃ y : Int, v = some (zi y)) ∧ m' = mem) := by
  obtain ⟨n, rfl⟩ := Int.eq_ofNat_of_zero_le hk.1
  exact ct_L_cell l g hL (by omega)
/-- the law's kitchen -/
def zSw (B n r d : Int) (m : zM) : Prop := zInv B m ∧ zAc m ∧ m 2 0 0 4 = n ∧ m 2 0 0 5 = r ∧ m 2 0 0 0 ≤ d ∧ m 6 0 0 0 = 0
theorem zSw_F {B n r d : Int} {m m' : zM} (h : zSw B n r d m) (hI : zInv B m') (hF : zF m' m) : zSw B n r d m' := by
  obtain ⟨h1, h2, h3, h4, h5, h6⟩ := h
  exact ⟨hI, zAc_F hF h2, (hF.2.2.1 4 (by decide)).trans h3, (hF.2.2.1 5 (by decide)).trans h4, by rw [hF.2.2.1 0 (by decide)]; exact h5, hF.2.2.2.trans h6⟩
theorem zSw_ing {B n r d k : Int} {m : zM} (h : zSw B n r d m) (hk : 1 ≤ k ∧ k ≤ 30) (hn : n < 8) : (zk_ingredient k m).1 = n ∧ zSw B (n + 1) r d (zk_ingredient k m).2 := by
  obtain ⟨h1, h2, h3, h4, h5, h6⟩ := h
  have hI := zkj_ingredient (d := k) h1
  have hA := zAc_ingredient (d := k) h1 h2
  have hL := h1.1.1.1
  have e : zk_ingredient k m = (m 2 0 0 4, zset (zset (zset (zset (zset (zfill (zset (zset (zset (zset (zset (zrecd m) 3 0 (m 2 0 0 4) 0 k) 3 0 (m 2 0 0 4) 1 1) 3 0 (m 2 0 0 4) 2 0) 3 0 (m 2 0 0 4) 5 (-6)) 3 0 (m 2 0 0 4) 6 (-6)) 14 0 (m 2 0 0 4) 30 0) 3 0 (m 2 0 0 4) 8 0) 3 0 (m 2 0 0 4) 9 0) 3 0 (m 2 0 0 4) 10 0) 3 0 (m 2 0 0 4) 11 0) 2 0 0 4 (m 2 0 0 4 + 1)) := by
    unfold zk_ingredient
    rw [if_neg (by omega), if_neg (by omega)]
  rw [e] at hI hA ⊢
  refine ⟨h3, hI, hA, ?_, ?_, ?_, ?_⟩
  · simp only [zset]
    rw [if_pos (by simp), h3]
  · have := zrecd_0 (m := m) hL (t := 2) (i := 0) (k := 5) (by decide)
    simp [zset, zfill]
    omega
  · have := zrecd_0 (m := m) hL (t := 2) (i := 0) (k := 0) (by decide)
    simp [zset, zfill]
    omega
  · have := zrecd_o (m := m) (t := 6) (s := 0) (i := 0) (k := 0) (by omega) (by omega)
    simp [zset, zfill]
    omega
