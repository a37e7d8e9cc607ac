/-! THE CLAIM OUT OF ONE WALK OF THE LAW'S BODY. Your part is whole_start (and what it stands on); all else here is the same for every law, but numbers. -/
def R_law : String := "TinKitchenLaw"
def lw_P (b : Addr) (xs : List Int32) (args : Array Value) (s : State) : Prop := args = #[.ref b] ∧ s.IntsAt b xs ∧ xs.length ≤ 2048 ∧ (Jvm.Cond.and given_1 narrow_1).before args s = true
def lw_Q (_ : Array Value) (s : State) (o : Outcome) (t : State) : Prop := o = .returned (some (.int 1)) ∧ Framed s o t [] 600000 7302250
def lw_Z (below : List Frame) (a : Array Value) (s : State) : State → Prop := fun t => ∃ o, t.status = .running ∧ Ended t below o ∧ lw_Q a s o t
/-- the law's own end, with 1 on the stack, nothing written that was there before, its room as the claim has it -/
theorem lw_ret {p : Program} {l : Launch} {e : Env} {s : State} {m : MethodId} {below : List Frame} {meth : Method} {c : Code} {b : Nat} (hx : p.tables.exec = Jvm.exec) (hb : c.code = code) (hr : meth.sig.returnType = ret) (hlocks : meth.locks = false) {pc : Nat} {H : Heap} {ls : Array Slot} (hdg : decode code pc = .ok (.ireturn, 1)) : W p l e room_1 s m #[Value.ref b] below meth c H [] 600000 7302250 (lw_Z below #[Value.ref b] s) (F0 m pc ls [.int 1]) := by
  intro T hT X
  obtain ⟨fs, hret, hrun, hended, hW, hframe⟩ := X.leave (v := some (.int 1)) (hlocks := hlocks) (fun h => by rw [hr] at h; cases h)
  have hmeth' : T.vm.method? m = some meth := X.method'
  refine ⟨T.setFrames fs, ?_, .returned (some (.int 1)), hrun, hended, rfl, ⟨_, rfl⟩, hW, hframe⟩
  jvm_step X.here [X.here.top, hx, hb, hdg, hmeth', hr, ret, narrow_b1]
  (try refine ⟨rfl, ?_⟩); (try refine ⟨rfl, ?_⟩)
  first | (intro acts; rw [hret _ acts rfl rfl rfl]) | rw [hret _ _ rfl rfl rfl]
  exact Steps.refl _
/-- what holds at the law's entry: the machine, the code, the tables' words (any of lw_tbl by 'hts w (by decide +kernel)'), the script of L ints xs at the cell b, what the Statement gives of the start (any of its parts by flat_of_before) -/
def lw_At (p : Program) (s : State) (m : MethodId) (meth : Method) (c : Code) (b L : Nat) (xs : Nat → Int32) : Prop :=
  p.tables.exec = Jvm.exec ∧ c.code = code ∧ meth.sig.returnType = ret ∧ c.maxLocals = 4 ∧ s.vm.findClass R_law = some m.cls ∧ (∀ w ∈ lw_tbl, w.before #[Value.ref b] s = true) ∧ va_X b L xs s s.heap ∧ b < s.heap.size ∧ meth.locks = false ∧ (Jvm.Cond.and given_1 narrow_1).before #[Value.ref b] s = true
/-- THE LAW'S RUN: the machine in the law's body, at its i-th int, comes to its end -/
def zU (X : zX) (b : Nat) (pc : Nat) (i : Nat) (st : List zV) (mem : zM) : Prop := match X with
  | (p, l, e, R, s, m, args, below, meth, c, Q, g) => zokM mem → zokS st → ∀ (H : Heap) (locs : List Loc) (lsA : Array Slot), va_P g.1 vwCl (zWS g mem) H → va_S (zA g) s.heap H locs → lv_has lsA 4 [(3, .int (Int32.ofInt i)), (2, .ref (g.2.1 (11, 0, 0))), (1, .ref (g.2.1 (0, 0, 0))), (0, .ref b)] → W p l e R s m args below meth c H locs 600000 7302250 Q (F0 m pc lsA (st.map (zup g)))
/-- what the law's run knows beside -/
def zLx (X : zX) (b L : Nat) (xs : Nat → Int32) : Prop := match X with
  | (p, l, e, R, s, m, args, below, meth, c, Q, g) => va_X b L xs s s.heap ∧ b < s.heap.size ∧ (∀ o ∈ zOs, s.heap.size ≤ g.2.1 o) ∧ R = room_1 ∧ args = #[Value.ref b] ∧ Q = lw_Z below #[Value.ref b] s ∧ meth.sig.returnType = ret ∧ L ≤ 2048
section LAWROWS
variable {X : zX} {l : Launch} {g : zG} {h pc b L i : Nat} {xs : Nat → Int32} {st : List zV} {mem : zM}
theorem zh0 : ((0, 0, 0) : zO) ∈ zOs := zmem (t := 0) (s := 0) (i := 0) (0, 0, 1, 1) (by decide +kernel) rfl (by decide) (by decide) (by decide) (by decide)
theorem zh11 : ((11, 0, 0) : zO) ∈ zOs := zmem (t := 11) (s := 0) (i := 0) (11, 0, 1, 1) (by decide +kernel) rfl (by decide) (by decide) (by decide) (by decide)
theorem zu_a1 (hG : zGood X l g RL cL_law h 4) (hd : decode cL_law pc = .ok (.aload_n 1, 1)) (k : zU X b (pc + 1) i (zr 0 0 0 :: st) mem) : zU X b pc i st mem := by
  obtain ⟨p, l, e, R, s, m, args, below, meth, c, Q, g⟩ := X
  obtain ⟨hx, hc, hml, hown, hts, hK, hN, hg, hR1, hR2, hlk, hl2, hg2⟩ := hG
  subst hl2 hg2
  intro hM hS H locs lsA hP hS0 hl
  refine lv_aload_n hx hc hd (i := 1) rfl (hl.2.2 (1, .ref (g.2.1 (0, 0, 0))) (by simp)) ?_
  exact k hM (zokS_cons.mpr ⟨zh0, hS⟩) H locs lsA hP hS0 hl
theorem zu_a2 (hG : zGood X l g RL cL_law h 4) (hd : decode cL_law pc = .ok (.aload_n 2, 1)) (k : zU X b (pc + 1) i (zr 11 0 0 :: st) mem) : zU X b pc i st mem := by
  obtain ⟨p, l, e, R, s, m, args, below, meth, c, Q, g⟩ := X
  obtain ⟨hx, hc, hml, hown, hts, hK, hN, hg, hR1, hR2, hlk, hl2, hg2⟩ := hG
  subst hl2 hg2
  intro hM hS H locs lsA hP hS0 hl
  refine lv_aload_n hx hc hd (i := 2) rfl (hl.2.2 (2, .ref (g.2.1 (11, 0, 0))) (by simp)) ?_
  exact k hM (zokS_cons.mpr ⟨zh11, hS⟩) H locs lsA hP hS0 hl
theorem zu_in {j : Nat} (hj : j < L) (hL : L ≤ 2048) : vp_in (Int32.ofInt (j : Int)) L ∧ (Int32.ofInt (j : Int)).toNatClampNeg = j := by
  have hz : zin (j : Int) := ⟨by omega, by omega⟩
  exact ⟨vp_in_iff.mpr (by rw [zti hz]; omega), by rw [zcl hz]; omega⟩
/-- a number of the script -/
theorem zu_s0 (hG : zGood X l g RL cL_law h 4) (hX : zLx X b L xs) (hi : i < L) (d0 : decode cL_law pc = .ok (.aload_n 0, 1)) (d1 : decode cL_law (pc + 1) = .ok (.iload_n 3, 1)) (d2 : decode cL_law (pc + 2) = .ok (.iaload, 1)) (k : zU X b (pc + 3) i (zi (xs i).toInt :: st) mem) : zU X b pc i st mem := by
  obtain ⟨p, l, e, R, s, m, args, below, meth, c, Q, g⟩ := X
  obtain ⟨hx, hc, hml, hown, hts, hK, hN, hg, hR1, hR2, hlk, hl2, hg2⟩ := hG
  subst hl2 hg2
  intro hM hS H locs lsA hP hS0 hl
  obtain ⟨hX, hbl, hA, hR, ha, hQ, hrt, hL⟩ := hX
  have hin := zu_in hi hL
  refine lv_aload_n hx hc d0 (i := 0) rfl (hl.2.2 (0, .ref b) (by simp)) ?_
  refine lv_iload_n hx hc d1 (i := 3) rfl (hl.2.2 (3, .int (Int32.ofInt i)) (by simp)) ?_
  refine va_sld hx hc hX hbl (fun ⟨o, ho, e⟩ => absurd (hA o ho) (by rw [← e]; omega)) hS0 hin.1 d2 ?_
  rw [hin.2]
  have e : Value.int (xs i) = zup g (zi (xs i).toInt) := by rw [zup, Int32.ofInt_toInt]
  rw [e]
  exact k hM (zokS_cons.mpr ⟨zinT _, hS⟩) H locs lsA hP hS0 hl
theorem zu_s (hG : zGood X l g RL cL_law h 4) (hX : zLx X b L xs) {n : Int} (q : Nat) (hq : n = q) (hi : i + q < L) (d0 : decode cL_law pc = .ok (.aload_n 0, 1)) (d1 : decode cL_law (pc + 1) = .ok (.iload_n 3, 1)) (d2 : decode cL_law (pc + 2) = .ok (.iconst n, 1)) (d3 : decode cL_law (pc + 3) = .ok (.iadd, 1)) (d4 : decode cL_law (pc + 4) = .ok (.iaload, 1)) (k : zU X b (pc + 5) i (zi (xs (i + q)).toInt :: st) mem) : zU X b pc i st mem := by
  obtain ⟨p, l, e, R, s, m, args, below, meth, c, Q, g⟩ := X
  obtain ⟨hx, hc, hml, hown, hts, hK, hN, hg, hR1, hR2, hlk, hl2, hg2⟩ := hG
  subst hl2 hg2
  intro hM hS H locs lsA hP hS0 hl
  obtain ⟨hX, hbl, hA, hR, ha, hQ, hrt, hL⟩ := hX
  have hin := zu_in hi hL
  refine lv_aload_n hx hc d0 (i := 0) rfl (hl.2.2 (0, .ref b) (by simp)) ?_
  refine lv_iload_n hx hc d1 (i := 3) rfl (hl.2.2 (3, .int (Int32.ofInt i)) (by simp)) ?_
  refine lv_iconst hx hc d2 (v := Int32.ofInt n) rfl ?_
  refine lv_iadd hx hc d3 ?_
  rw [zadd, hq, show (i : Int) + (q : Int) = ((i + q : Nat) : Int) by omega]
  refine va_sld hx hc hX hbl (fun ⟨o, ho, e⟩ => absurd (hA o ho) (by rw [← e]; omega)) hS0 hin.1 d4 ?_
  rw [hin.2]
  have e : Value.int (xs (i + q)) = zup g (zi (xs (i + q)).toInt) := by rw [zup, Int32.ofInt_toInt]
  rw [e]
  exact k hM (zokS_cons.mpr ⟨zinT _, hS⟩) H locs lsA hP hS0 hl
theorem zu_bipush (hG : zGood X l g RL cL_law h 4) {n : Int} (hd : decode cL_law pc = .ok (.bipush n, 2)) (hn : zb8 n = true) (k : zU X b (pc + 2) i (zi n :: st) mem) : zU X b pc i st mem := by
  obtain ⟨p, l, e, R, s, m, args, below, meth, c, Q, g⟩ := X
  obtain ⟨hx, hc, hml, hown, hts, hK, hN, hg, hR1, hR2, hlk, hl2, hg2⟩ := hG
  subst hl2 hg2
  intro hM hS H locs lsA hP hS0 hl
  refine lv_bipush hx hc hd (v := Int32.ofInt n) (zb8_v hn) ?_
  exact k hM (zokS_cons.mpr ⟨zb8_in hn, hS⟩) H locs lsA hP hS0 hl
theorem zu_iand (hG : zGood X l g RL cL_law h 4) {x y : Int} (hd : decode cL_law pc = .ok (.iand, 1)) (k : zU X b (pc + 1) i (zi (zand x y) :: st) mem) : zU X b pc i (zi y :: zi x :: st) mem := by
  obtain ⟨p, l, e, R, s, m, args, below, meth, c, Q, g⟩ := X
  obtain ⟨hx, hc, hml, hown, hts, hK, hN, hg, hR1, hR2, hlk, hl2, hg2⟩ := hG
  subst hl2 hg2
  intro hM hS H locs lsA hP hS0 hl
  refine lv_iand hx hc hd ?_
  rw [show Int32.ofInt x &&& Int32.ofInt y = Int32.ofInt (zand x y) from (Int32.ofInt_toInt _).symm]
  exact k hM (zokS_cons.mpr ⟨zinT _, (zokS_cons.mp (zokS_cons.mp hS).2).2⟩) H locs lsA hP hS0 hl
theorem zu_ldc2 (hG : zGood X l g RL cL_law h 4) {j : Nat} {n : Int64} (hd : decode cL_law pc = .ok (.ldc2_w j, 3)) (hw : Cond.constantLong RL j n ∈ zW) (k : zU X b (pc + 3) i (zl n :: st) mem) : zU X b pc i st mem := by
  obtain ⟨p, l, e, R, s, m, args, below, meth, c, Q, g⟩ := X
  obtain ⟨hx, hc, hml, hown, hts, hK, hN, hg, hR1, hR2, hlk, hl2, hg2⟩ := hG
  subst hl2 hg2
  intro hM hS H locs lsA hP hS0 hl
  refine lv_ldc2 hx hc hown (hts _ hw) hd ?_
  exact k hM (zokS_cons.mpr ⟨trivial, hS⟩) H locs lsA hP hS0 hl
theorem zu_land (hG : zGood X l g RL cL_law h 4) {x y : Int64} (hd : decode cL_law pc = .ok (.land, 1)) (k : zU X b (pc + 1) i (zl (x &&& y) :: st) mem) : zU X b pc i (zl y :: zl x :: st) mem := by
  obtain ⟨p, l, e, R, s, m, args, below, meth, c, Q, g⟩ := X
  obtain ⟨hx, hc, hml, hown, hts, hK, hN, hg, hR1, hR2, hlk, hl2, hg2⟩ := hG
  subst hl2 hg2
  intro hM hS H locs lsA hP hS0 hl
  refine lv_land hx hc hd ?_
  exact k hM (zokS_cons.mpr ⟨trivial, (zokS_cons.mp (zokS_cons.mp hS).2).2⟩) H locs lsA hP hS0 hl
theorem zu_lor (hG : zGood X l g RL cL_law h 4) {x y : Int64} (hd : decode cL_law pc = .ok (.lor, 1)) (k : zU X b (pc + 1) i (zl (x ||| y) :: st) mem) : zU X b pc i (zl y :: zl x :: st) mem := by
  obtain ⟨p, l, e, R, s, m, args, below, meth, c, Q, g⟩ := X
  obtain ⟨hx, hc, hml, hown, hts, hK, hN, hg, hR1, hR2, hlk, hl2, hg2⟩ := hG
  subst hl2 hg2
  intro hM hS H locs lsA hP hS0 hl
  refine lv_lor hx hc hd ?_
  exact k hM (zokS_cons.mpr ⟨trivial, (zokS_cons.mp (zokS_cons.mp hS).2).2⟩) H locs lsA hP hS0 hl
theorem zu_lshl (hG : zGood X l g RL cL_law h 4) {x : Int64} {y : Int} (hd : decode cL_law pc = .ok (.lshl, 1)) (k : zU X b (pc + 1) i (zl (x <<< ((Int32.ofInt y).toInt64 &&& 63)) :: st) mem) : zU X b pc i (zi y :: zl x :: st) mem := by
  obtain ⟨p, l, e, R, s, m, args, below, meth, c, Q, g⟩ := X
  obtain ⟨hx, hc, hml, hown, hts, hK, hN, hg, hR1, hR2, hlk, hl2, hg2⟩ := hG
  subst hl2 hg2
  intro hM hS H locs lsA hP hS0 hl
  refine lv_lshl hx hc hd rfl ?_
  exact k hM (zokS_cons.mpr ⟨trivial, (zokS_cons.mp (zokS_cons.mp hS).2).2⟩) H locs lsA hP hS0 hl
theorem zu_i2l (hG : zGood X l g RL cL_law h 4) {x : Int} (hd : decode cL_law pc = .ok (.i2l, 1)) (k : zU X b (pc + 1) i (zl (Int32.ofInt x).toInt64 :: st) mem) : zU X b pc i (zi x :: st) mem := by
  obtain ⟨p, l, e, R, s, m, args, below, meth, c, Q, g⟩ := X
  obtain ⟨hx, hc, hml, hown, hts, hK, hN, hg, hR1, hR2, hlk, hl2, hg2⟩ := hG
  subst hl2 hg2
  intro hM hS H locs lsA hP hS0 hl
  refine lv_i2l hx hc hd rfl ?_
  exact k hM (zokS_cons.mpr ⟨trivial, (zokS_cons.mp hS).2⟩) H locs lsA hP hS0 hl
theorem zu_eq (hG : zGood X l g RL cL_law h 4) {x : Int} {off : Int} {tgt : Nat} (hd : decode cL_law pc = .ok (.if_icmp .eq off, 3)) (ht : (pc : Int) + off = (tgt : Int)) (k : zU X b tgt i st mem) : zU X b pc i (zi x :: zi x :: st) mem := by
  obtain ⟨p, l, e, R, s, m, args, below, meth, c, Q, g⟩ := X
  obtain ⟨hx, hc, hml, hown, hts, hK, hN, hg, hR1, hR2, hlk, hl2, hg2⟩ := hG
  subst hl2 hg2
  intro hM hS H locs lsA hP hS0 hl
  refine lv_icmp_eq hx hc hd ht (fun q => ?_) (fun q => absurd rfl q)
  exact k hM (zokS_cons.mp (zokS_cons.mp hS).2).2 H locs lsA hP hS0 hl
theorem zu_goto (hG : zGood X l g RL cL_law h 4) {off : Int} {tgt : Nat} (hd : decode cL_law pc = .ok (.goto off, 3)) (ht : (pc : Int) + off = (tgt : Int)) (k : zU X b tgt i st mem) : zU X b pc i st mem := by
  obtain ⟨p, l, e, R, s, m, args, below, meth, c, Q, g⟩ := X
  obtain ⟨hx, hc, hml, hown, hts, hK, hN, hg, hR1, hR2, hlk, hl2, hg2⟩ := hG
  subst hl2 hg2
  intro hM hS H locs lsA hP hS0 hl
  refine lv_goto hx hc hd ht ?_
  exact k hM hS H locs lsA hP hS0 hl
theorem zu_tabIn (hG : zGood X l g RL cL_law h 4) {dflt lo hi : Int} {offs : Array Int} {len : Nat} {x off : Int} {tgt : Nat} (hd : decode cL_law pc = .ok (.tableswitch dflt lo hi offs, len)) (h1 : lo ≤ x) (h2 : x ≤ hi) (ho : offs[(x - lo).toNat]? = some off) (ht : (pc : Int) + off = (tgt : Int)) (k : zU X b tgt i st mem) : zU X b pc i (zi x :: st) mem := by
  obtain ⟨p, l, e, R, s, m, args, below, meth, c, Q, g⟩ := X
  obtain ⟨hx, hc, hml, hown, hts, hK, hN, hg, hR1, hR2, hlk, hl2, hg2⟩ := hG
  subst hl2 hg2
  intro hM hS H locs lsA hP hS0 hl
  have hxx : zin x := (zokS_cons.mp hS).1
  refine lv_tableIn hx hc hd (by rw [zti hxx]; omega) (by rw [zti hxx]; omega) (by rw [zti hxx]; exact ho) ht ?_
  exact k hM (zokS_cons.mp hS).2 H locs lsA hP hS0 hl
theorem zu_tabOut (hG : zGood X l g RL cL_law h 4) {dflt lo hi : Int} {offs : Array Int} {len : Nat} {x : Int} {tgt : Nat} (hd : decode cL_law pc = .ok (.tableswitch dflt lo hi offs, len)) (h1 : x < lo ∨ hi < x) (ht : (pc : Int) + dflt = (tgt : Int)) (k : zU X b tgt i st mem) : zU X b pc i (zi x :: st) mem := by
  obtain ⟨p, l, e, R, s, m, args, below, meth, c, Q, g⟩ := X
  obtain ⟨hx, hc, hml, hown, hts, hK, hN, hg, hR1, hR2, hlk, hl2, hg2⟩ := hG
  subst hl2 hg2
  intro hM hS H locs lsA hP hS0 hl
  have hxx : zin x := (zokS_cons.mp hS).1
  refine lv_tableOut hx hc hd (by rw [zti hxx]; exact h1) ht ?_
  exact k hM (zokS_cons.mp hS).2 H locs lsA hP hS0 hl
theorem zu_inc (hG : zGood X l g RL cL_law h 4) (hd : decode cL_law pc = .ok (.iinc 3 4, 3)) (k : zU X b (pc + 3) (i + 4) st mem) : zU X b pc i st mem := by
  obtain ⟨p, l, e, R, s, m, args, below, meth, c, Q, g⟩ := X
  obtain ⟨hx, hc, hml, hown, hts, hK, hN, hg, hR1, hR2, hlk, hl2, hg2⟩ := hG
  subst hl2 hg2
  intro hM hS H locs lsA hP hS0 hl
  refine lv_iinc (k := 0) (v := Int32.ofInt ((i + 4 : Nat) : Int)) (lv' := [(3, .int (Int32.ofInt ((i + 4 : Nat) : Int))), (2, .ref (g.2.1 (11, 0, 0))), (1, .ref (g.2.1 (0, 0, 0))), (0, .ref b)]) hx hc hd hl rfl (by rw [zadd]; congr 1) (by decide) rfl (fun ls2 hl2 => ?_)
  exact k hM hS H locs ls2 hP hS0 hl2
/-- the loop's head -/
theorem zu_head (hG : zGood X l g RL cL_law h 4) (hX : zLx X b L xs) (hi : i ≤ 3000) (kt : L < i + 4 → zU X b 926 i [] mem) (kf : i + 4 ≤ L → zU X b 26 i [] mem) : zU X b 18 i [] mem := by
  obtain ⟨p, l, e, R, s, m, args, below, meth, c, Q, g⟩ := X
  obtain ⟨hx, hc, hml, hown, hts, hK, hN, hg, hR1, hR2, hlk, hl2, hg2⟩ := hG
  subst hl2 hg2
  intro hM hS H locs lsA hP hS0 hl
  obtain ⟨hX, hbl, hA, hR, ha, hQ, hrt, hL⟩ := hX
  refine lv_iload_n hx hc dL_law_18 (i := 3) rfl (hl.2.2 (3, .int (Int32.ofInt i)) (by simp)) ?_
  refine lv_aload_n hx hc dL_law_19 (i := 0) rfl (hl.2.2 (0, .ref b) (by simp)) ?_
  refine va_slen hx hc hX hbl (fun ⟨o, ho, e⟩ => absurd (hA o ho) (by rw [← e]; omega)) hS0 dL_law_20 ?_
  refine lv_iconst hx hc dL_law_21 (v := Int32.ofInt 4) rfl ?_
  refine lv_isub hx hc dL_law_22 ?_
  rw [show (Int32.ofNat L : Int32) = Int32.ofInt (L : Int) from rfl, zsub]
  have z1 : zin (i : Int) := ⟨by omega, by omega⟩
  have z2 : zin ((L : Int) - 4) := ⟨by omega, by omega⟩
  refine lv_icmp_gt hx hc dL_law_23 (tgt := 926) rfl (fun q => ?_) (fun q => ?_)
  · have q2 := (zlt z2 z1).mp q
    exact kt (by omega) hM hS H locs lsA hP hS0 hl
  · have q2 : ¬ (L : Int) - 4 < i := fun z => q ((zlt z2 z1).mpr z)
    exact kf (by omega) hM hS H locs lsA hP hS0 hl
/-- the law's end -/
theorem zu_end (hG : zGood X l g RL cL_law h 4) (hX : zLx X b L xs) : zU X b 926 i [] mem := by
  obtain ⟨p, l, e, R, s, m, args, below, meth, c, Q, g⟩ := X
  obtain ⟨hx, hc, hml, hown, hts, hK, hN, hg, hR1, hR2, hlk, hl2, hg2⟩ := hG
  subst hl2 hg2
  intro hM hS H locs lsA hP hS0 hl
  obtain ⟨hX, hbl, hA, hR, ha, hQ, hrt, hL⟩ := hX
  subst hR ha hQ
  refine va_forget (fun q hq => ?_) ?_
  · obtain ⟨o, ho, e⟩ := hS0.2.2 q hq
    rw [e]
    exact hA o ho
  · refine lv_iconst hx hc dL_law_926 (v := 1) rfl ?_
    exact lw_ret hx hc hrt hlk dL_law_927
theorem zu_call (hG : zGood X l g RL cL_law h 4) (hX : zLx X b L xs) {j ci n t : Nat} {y : zY} {av : List zV} {s0 i0 : Int} {stk : List zV} {Rt : Option zV → zM → Prop} (hd : decode cL_law pc = .ok (.invokevirtual j, 3)) (hw : zLV RL j y ci n) (hM2 : zMet l g y (zr t s0 i0 :: av) mem Rt) (hh : y.2.2.2.2 + 1 ≤ h) (ht : zTO t = some ci) (hn : av.length = n) (hst : stk = av.reverse ++ zr t s0 i0 :: st) (hcc : zcat st ≤ 8) (K : ∀ v m', Rt v m' → zU X b (pc + 3) i (v.toList ++ st) m') : zU X b pc i stk mem := by
  subst hst
  obtain ⟨p, l, e, R, s, m, args, below, meth, c, Q, g⟩ := X
  obtain ⟨hx, hc, hml, hown, hts, hK, hN, hg, hR1, hR2, hlk, hl2, hg2⟩ := hG
  subst hl2 hg2
  intro hM hS H locs lsA hP hS0 hl
  obtain ⟨hX, hbl, hA, hR, ha, hQ, hrt, hL⟩ := hX
  obtain ⟨⟨C, T, N, hcl, hC, hsel⟩, hlink, hinst, hini, hcode, hd3, hmL⟩ := hw
  have hSav : zokS (zr t s0 i0 :: av) := fun v hv => hS v (by
    rcases List.mem_cons.mp hv with rfl | h
    · simp
    · simp [h])
  have hSr : zokS st := fun v hv => hS v (by simp [hv])
  have ho : (t, s0, i0) ∈ zOs := (zokS_cons.mp hSav).1
  obtain ⟨q0, hq, he⟩ := zplace ho g mem
  rw [zent_obj ht] at he
  have hMet := hM2 hg hM hSav
  have cb : CallB R s args RL j y.1 y.2.1 y.2.2.1 y.2.2.2.1 (zYw y) (zRoom y.2.2.2.2) 0 0 n := callB_of n hts (zYw_good (fun _ z => z) hcode) rfl rfl rfl (hts _ hini) (hts _ hlink) hd3 ⟨by show y.2.2.2.2 + 1 ≤ _; omega, by show 8 + (y.2.2.1 + 11) + 38 * y.2.2.2.2 ≤ _; omega⟩
  have hr := va_runV (e := e) (below := below) (meth := meth) (cells := 600000) (slots := 7302250) (locs := locs) (C := C) (As := av.map (zup g)) ⟨hx, hc, rfl, hown, hts⟩ hMet ⟨cb, hts _ hinst, hts _ hsel⟩ ⟨zPW_blind, by rw [← hC] at hcl; have := va_recv hK hP hcl he; rw [hC] at this; exact this, fun U hU hW => ⟨rfl, zPW_of hP hK hN hU hW⟩⟩ (g := F0 m pc lsA ((av.reverse ++ zr t s0 i0 :: st).map (zup g))) (rest := st.map (zup g)) rfl (by simp [hn]) (by rw [hml]; exact hl.1) (by simp [zup]) (lv_room (by rw [zcat_up]; exact hcc)) hd (by rw [hR]; exact ⟨Nat.le_refl _, Nat.le_refl _⟩)
  intro T hT X
  obtain ⟨v, st₀, t, T', L2, h0, X', hL1, e1, e2, ⟨⟨v2, m', hv, hRt, hPW, hM', hv2⟩, hz, hk⟩, stp⟩ := hr T hT X
  have hv : v = v2.map (zup g) := Outcome.returned.inj hv
  subst hv
  rw [h0] at hz hk
  have hSt : zokS (v2.toList ++ st) := by
    cases v2 with
    | none => exact hSr
    | some w => exact zokS_cons.mpr ⟨hv2, hSr⟩
  have hP1 : va_P g.1 vwCl (zWS g m') T'.heap := by rw [e1]; exact hPW.1
  have hS1 : va_S (zA g) s.heap T'.heap (locs ++ L2) := ⟨Nat.le_trans hS0.1 (by rw [e1]; exact hz), fun q h1 h2 => by rw [e1, hk q (Nat.lt_of_lt_of_le h1 hS0.1) h2]; exact hS0.2.1 q h1 h2, fun q hq => by
      rcases List.mem_append.mp hq with h | h
      · exact hS0.2.2 q h
      · exact hL1 q h⟩
  obtain ⟨t2, a1, b1⟩ := K v2 m' hRt hM' hSt T'.heap (locs ++ L2) lsA hP1 hS1 hl T' rfl X'
  refine ⟨t2, stp t2 ?_, b1⟩
  have e3 : (v2.toList ++ st).map (zup g) = (v2.map (zup g)).toList ++ st.map (zup g) := by cases v2 <;> rfl
  rw [e3] at a1
  exact a1
end LAWROWS
