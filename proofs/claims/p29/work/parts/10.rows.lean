theorem zi2c {x : Int} (h0 : 0 ≤ x) (h1 : x < 65536) : ((Int32.ofInt x).toUInt32 % 65536).toInt32 = Int32.ofInt x := by
  obtain ⟨n, rfl⟩ := Int.eq_ofNat_of_zero_le h0
  have hn : n < 65536 := by omega
  show ((nI n).toUInt32 % 65536).toInt32 = nI n
  rw [pk_char, pk_tn (by omega), Nat.mod_eq_of_lt hn]
section ZROWS
variable {X : zX} {l : Launch} {g : zG} {own : String} {cc : ByteArray} {h nL pc : Nat} {ls : zL} {st : List zV} {mem : zM}
def zb32 (n : Int) : Bool := decide (-2147483648 ≤ n) && decide (n < 2147483648)
def zb16 (n : Int) : Bool := decide (-32768 ≤ n) && decide (n < 32768)
def zb8 (n : Int) : Bool := decide (-128 ≤ n) && decide (n < 128)
theorem zb32_in {n : Int} (h : zb32 n = true) : zin n := by simp [zb32] at h; exact h
theorem zb16_in {n : Int} (h : zb16 n = true) : zin n := by simp [zb16] at h; exact ⟨by omega, by omega⟩
theorem zb8_in {n : Int} (h : zb8 n = true) : zin n := by simp [zb8] at h; exact ⟨by omega, by omega⟩
theorem zb8_v {n : Int} (h : zb8 n = true) : (Int8.ofInt n).toInt32 = Int32.ofInt n := by
  have h2 := zb8_in h
  simp [zb8] at h
  apply Int32.toInt_inj.mp
  rw [Int8.toInt_toInt32, Int8.toInt_ofInt_of_le (by omega) (by omega), zti h2]
theorem zb16_v {n : Int} (h : zb16 n = true) : (Int16.ofInt n).toInt32 = Int32.ofInt n := by
  have h2 := zb16_in h
  simp [zb16] at h
  apply Int32.toInt_inj.mp
  rw [Int16.toInt_toInt32, Int16.toInt_ofInt_of_le (by omega) (by omega), zti h2]
theorem z_iconst (hG : zGood X l g own cc h nL) {n : Int} (hd : decode cc pc = .ok (.iconst n, 1)) (hn : zb32 n = true) (k : zZ X (pc + 1) ls (zi n :: st) mem) : zZ X pc ls st mem := by
  obtain ⟨p, l, e, R, s, m, args, below, meth, c, Q, g, kc, ks⟩ := X
  obtain ⟨hx, hb, hml, hown, hts, hK, hN, hg, hR1, hR2, hlk, hl2, hg2⟩ := hG
  subst hl2 hg2
  intro hM hL hS H locs lsA hP hS0 hl
  refine lv_iconst hx hb hd (v := Int32.ofInt n) (rfl) ?_
  exact k hM hL (zokS_cons.mpr ⟨zb32_in hn, hS⟩) H locs lsA hP hS0 hl
theorem z_bipush (hG : zGood X l g own cc h nL) {n : Int} (hd : decode cc pc = .ok (.bipush n, 2)) (hn : zb8 n = true) (k : zZ X (pc + 2) ls (zi n :: st) mem) : zZ X pc ls st mem := by
  obtain ⟨p, l, e, R, s, m, args, below, meth, c, Q, g, kc, ks⟩ := X
  obtain ⟨hx, hb, hml, hown, hts, hK, hN, hg, hR1, hR2, hlk, hl2, hg2⟩ := hG
  subst hl2 hg2
  intro hM hL hS H locs lsA hP hS0 hl
  refine lv_bipush hx hb hd (v := Int32.ofInt n) (zb8_v hn) ?_
  exact k hM hL (zokS_cons.mpr ⟨zb8_in hn, hS⟩) H locs lsA hP hS0 hl
theorem z_sipush (hG : zGood X l g own cc h nL) {n : Int} (hd : decode cc pc = .ok (.sipush n, 3)) (hn : zb16 n = true) (k : zZ X (pc + 3) ls (zi n :: st) mem) : zZ X pc ls st mem := by
  obtain ⟨p, l, e, R, s, m, args, below, meth, c, Q, g, kc, ks⟩ := X
  obtain ⟨hx, hb, hml, hown, hts, hK, hN, hg, hR1, hR2, hlk, hl2, hg2⟩ := hG
  subst hl2 hg2
  intro hM hL hS H locs lsA hP hS0 hl
  refine lv_sipush hx hb hd (v := Int32.ofInt n) (zb16_v hn) ?_
  exact k hM hL (zokS_cons.mpr ⟨zb16_in hn, hS⟩) H locs lsA hP hS0 hl
theorem z_ldc (hG : zGood X l g own cc h nL) {i : Nat} {n : Int} (hd : decode cc pc = .ok (.ldc i, 2)) (hw : Cond.constant own i (Int32.ofInt n) ∈ zW) (hn : zb32 n = true) (k : zZ X (pc + 2) ls (zi n :: st) mem) : zZ X pc ls st mem := by
  obtain ⟨p, l, e, R, s, m, args, below, meth, c, Q, g, kc, ks⟩ := X
  obtain ⟨hx, hb, hml, hown, hts, hK, hN, hg, hR1, hR2, hlk, hl2, hg2⟩ := hG
  subst hl2 hg2
  intro hM hL hS H locs lsA hP hS0 hl
  refine lv_ldc hx hb hown (hts _ hw) hd ?_
  exact k hM hL (zokS_cons.mpr ⟨zb32_in hn, hS⟩) H locs lsA hP hS0 hl
theorem z_ldc2 (hG : zGood X l g own cc h nL) {i : Nat} {n : Int64} (hd : decode cc pc = .ok (.ldc2_w i, 3)) (hw : Cond.constantLong own i n ∈ zW) (k : zZ X (pc + 3) ls (zl n :: st) mem) : zZ X pc ls st mem := by
  obtain ⟨p, l, e, R, s, m, args, below, meth, c, Q, g, kc, ks⟩ := X
  obtain ⟨hx, hb, hml, hown, hts, hK, hN, hg, hR1, hR2, hlk, hl2, hg2⟩ := hG
  subst hl2 hg2
  intro hM hL hS H locs lsA hP hS0 hl
  refine lv_ldc2 hx hb hown (hts _ hw) hd ?_
  exact k hM hL (zokS_cons.mpr ⟨trivial, hS⟩) H locs lsA hP hS0 hl
theorem z_lconst (hG : zGood X l g own cc h nL) {n : Fin 2} (hd : decode cc pc = .ok (.lconst n, 1)) (k : zZ X (pc + 1) ls (zl (Int64.ofNat (n : Nat)) :: st) mem) : zZ X pc ls st mem := by
  obtain ⟨p, l, e, R, s, m, args, below, meth, c, Q, g, kc, ks⟩ := X
  obtain ⟨hx, hb, hml, hown, hts, hK, hN, hg, hR1, hR2, hlk, hl2, hg2⟩ := hG
  subst hl2 hg2
  intro hM hL hS H locs lsA hP hS0 hl
  refine lv_lconst hx hb hd rfl ?_
  exact k hM hL (zokS_cons.mpr ⟨trivial, hS⟩) H locs lsA hP hS0 hl
theorem z_iload_n (hG : zGood X l g own cc h nL) {q : Fin 4} {i : Nat} {x : Int} (hd : decode cc pc = .ok (.iload_n q, 1)) (hi : (q : Nat) = i) (hv : ls[i]? = some (some (zi x))) (k : zZ X (pc + 1) ls (zi x :: st) mem) : zZ X pc ls st mem := by
  obtain ⟨p, l, e, R, s, m, args, below, meth, c, Q, g, kc, ks⟩ := X
  obtain ⟨hx, hb, hml, hown, hts, hK, hN, hg, hR1, hR2, hlk, hl2, hg2⟩ := hG
  subst hl2 hg2
  intro hM hL hS H locs lsA hP hS0 hl
  refine lv_iload_n hx hb hd hi (hl.2.2 i _ hv) ?_
  exact k hM hL (zokS_cons.mpr ⟨zokL_get hL hv, hS⟩) H locs lsA hP hS0 hl
theorem z_iload (hG : zGood X l g own cc h nL) {i : Nat} {x : Int} (hd : decode cc pc = .ok (.iload i, 2)) (hv : ls[i]? = some (some (zi x))) (k : zZ X (pc + 2) ls (zi x :: st) mem) : zZ X pc ls st mem := by
  obtain ⟨p, l, e, R, s, m, args, below, meth, c, Q, g, kc, ks⟩ := X
  obtain ⟨hx, hb, hml, hown, hts, hK, hN, hg, hR1, hR2, hlk, hl2, hg2⟩ := hG
  subst hl2 hg2
  intro hM hL hS H locs lsA hP hS0 hl
  refine lv_iload hx hb hd (hl.2.2 i _ hv) ?_
  exact k hM hL (zokS_cons.mpr ⟨zokL_get hL hv, hS⟩) H locs lsA hP hS0 hl
theorem z_lload_n (hG : zGood X l g own cc h nL) {q : Fin 4} {i : Nat} {x : Int64} (hd : decode cc pc = .ok (.lload_n q, 1)) (hi : (q : Nat) = i) (hv : ls[i]? = some (some (zl x))) (k : zZ X (pc + 1) ls (zl x :: st) mem) : zZ X pc ls st mem := by
  obtain ⟨p, l, e, R, s, m, args, below, meth, c, Q, g, kc, ks⟩ := X
  obtain ⟨hx, hb, hml, hown, hts, hK, hN, hg, hR1, hR2, hlk, hl2, hg2⟩ := hG
  subst hl2 hg2
  intro hM hL hS H locs lsA hP hS0 hl
  refine lv_lload_n hx hb hd hi (hl.2.2 i _ hv) ?_
  exact k hM hL (zokS_cons.mpr ⟨zokL_get hL hv, hS⟩) H locs lsA hP hS0 hl
theorem z_lload (hG : zGood X l g own cc h nL) {i : Nat} {x : Int64} (hd : decode cc pc = .ok (.lload i, 2)) (hv : ls[i]? = some (some (zl x))) (k : zZ X (pc + 2) ls (zl x :: st) mem) : zZ X pc ls st mem := by
  obtain ⟨p, l, e, R, s, m, args, below, meth, c, Q, g, kc, ks⟩ := X
  obtain ⟨hx, hb, hml, hown, hts, hK, hN, hg, hR1, hR2, hlk, hl2, hg2⟩ := hG
  subst hl2 hg2
  intro hM hL hS H locs lsA hP hS0 hl
  refine lv_lload hx hb hd (hl.2.2 i _ hv) ?_
  exact k hM hL (zokS_cons.mpr ⟨zokL_get hL hv, hS⟩) H locs lsA hP hS0 hl
theorem z_aload_n (hG : zGood X l g own cc h nL) {q : Fin 4} {i : Nat} {o : zO} (hd : decode cc pc = .ok (.aload_n q, 1)) (hi : (q : Nat) = i) (hv : ls[i]? = some (some (.inr (.inr o)))) (k : zZ X (pc + 1) ls (.inr (.inr o) :: st) mem) : zZ X pc ls st mem := by
  obtain ⟨p, l, e, R, s, m, args, below, meth, c, Q, g, kc, ks⟩ := X
  obtain ⟨hx, hb, hml, hown, hts, hK, hN, hg, hR1, hR2, hlk, hl2, hg2⟩ := hG
  subst hl2 hg2
  intro hM hL hS H locs lsA hP hS0 hl
  refine lv_aload_n hx hb hd hi (hl.2.2 i _ hv) ?_
  exact k hM hL (zokS_cons.mpr ⟨zokL_get hL hv, hS⟩) H locs lsA hP hS0 hl
theorem z_aload (hG : zGood X l g own cc h nL) {i : Nat} {o : zO} (hd : decode cc pc = .ok (.aload i, 2)) (hv : ls[i]? = some (some (.inr (.inr o)))) (k : zZ X (pc + 2) ls (.inr (.inr o) :: st) mem) : zZ X pc ls st mem := by
  obtain ⟨p, l, e, R, s, m, args, below, meth, c, Q, g, kc, ks⟩ := X
  obtain ⟨hx, hb, hml, hown, hts, hK, hN, hg, hR1, hR2, hlk, hl2, hg2⟩ := hG
  subst hl2 hg2
  intro hM hL hS H locs lsA hP hS0 hl
  refine lv_aload hx hb hd (hl.2.2 i _ hv) ?_
  exact k hM hL (zokS_cons.mpr ⟨zokL_get hL hv, hS⟩) H locs lsA hP hS0 hl
theorem z_istore_n (hG : zGood X l g own cc h nL) {q : Fin 4} {i : Nat} {x : Int} (hd : decode cc pc = .ok (.istore_n q, 1)) (hi : (q : Nat) = i) (hn : i < nL) {ls2 : zL} (he : zst1 ls i (zi x) = ls2) (k : zZ X (pc + 1) ls2 st mem) : zZ X pc ls ((zi x) :: st) mem := by
  obtain ⟨p, l, e, R, s, m, args, below, meth, c, Q, g, kc, ks⟩ := X
  obtain ⟨hx, hb, hml, hown, hts, hK, hN, hg, hR1, hR2, hlk, hl2, hg2⟩ := hG
  subst hl2 hg2
  intro hM hL hS H locs lsA hP hS0 hl
  subst hml
  subst he
  refine lv_istore_n hx hb hd hi (zlr_has hl) hn rfl fun ls' hl' => ?_
  exact k hM (zokL_st1 hL (zokS_cons.mp hS).1) (zokS_cons.mp hS).2 H locs ls' hP hS0 (zlr_st1 (lsA := lsA) ls' hl')
theorem z_istore (hG : zGood X l g own cc h nL) {i : Nat} {x : Int} (hd : decode cc pc = .ok (.istore i, 2)) (hn : i < nL) {ls2 : zL} (he : zst1 ls i (zi x) = ls2) (k : zZ X (pc + 2) ls2 st mem) : zZ X pc ls ((zi x) :: st) mem := by
  obtain ⟨p, l, e, R, s, m, args, below, meth, c, Q, g, kc, ks⟩ := X
  obtain ⟨hx, hb, hml, hown, hts, hK, hN, hg, hR1, hR2, hlk, hl2, hg2⟩ := hG
  subst hl2 hg2
  intro hM hL hS H locs lsA hP hS0 hl
  subst hml
  subst he
  refine lv_istore hx hb hd (zlr_has hl) hn rfl fun ls' hl' => ?_
  exact k hM (zokL_st1 hL (zokS_cons.mp hS).1) (zokS_cons.mp hS).2 H locs ls' hP hS0 (zlr_st1 (lsA := lsA) ls' hl')
theorem z_astore_n (hG : zGood X l g own cc h nL) {q : Fin 4} {i : Nat} {o : zO} (hd : decode cc pc = .ok (.astore_n q, 1)) (hi : (q : Nat) = i) (hn : i < nL) {ls2 : zL} (he : zst1 ls i (.inr (.inr o)) = ls2) (k : zZ X (pc + 1) ls2 st mem) : zZ X pc ls ((.inr (.inr o)) :: st) mem := by
  obtain ⟨p, l, e, R, s, m, args, below, meth, c, Q, g, kc, ks⟩ := X
  obtain ⟨hx, hb, hml, hown, hts, hK, hN, hg, hR1, hR2, hlk, hl2, hg2⟩ := hG
  subst hl2 hg2
  intro hM hL hS H locs lsA hP hS0 hl
  subst hml
  subst he
  refine lv_astore_n hx hb hd hi (zlr_has hl) hn rfl fun ls' hl' => ?_
  exact k hM (zokL_st1 hL (zokS_cons.mp hS).1) (zokS_cons.mp hS).2 H locs ls' hP hS0 (zlr_st1 (lsA := lsA) ls' hl')
theorem z_astore (hG : zGood X l g own cc h nL) {i : Nat} {o : zO} (hd : decode cc pc = .ok (.astore i, 2)) (hn : i < nL) {ls2 : zL} (he : zst1 ls i (.inr (.inr o)) = ls2) (k : zZ X (pc + 2) ls2 st mem) : zZ X pc ls ((.inr (.inr o)) :: st) mem := by
  obtain ⟨p, l, e, R, s, m, args, below, meth, c, Q, g, kc, ks⟩ := X
  obtain ⟨hx, hb, hml, hown, hts, hK, hN, hg, hR1, hR2, hlk, hl2, hg2⟩ := hG
  subst hl2 hg2
  intro hM hL hS H locs lsA hP hS0 hl
  subst hml
  subst he
  refine lv_astore hx hb hd (zlr_has hl) hn rfl fun ls' hl' => ?_
  exact k hM (zokL_st1 hL (zokS_cons.mp hS).1) (zokS_cons.mp hS).2 H locs ls' hP hS0 (zlr_st1 (lsA := lsA) ls' hl')
theorem z_lstore_n (hG : zGood X l g own cc h nL) {q : Fin 4} {i : Nat} {x : Int64} (hd : decode cc pc = .ok (.lstore_n q, 1)) (hi : (q : Nat) = i) (hn : i + 1 < nL) {ls2 : zL} (he : zst2 ls i (zl x) = ls2) (k : zZ X (pc + 1) ls2 st mem) : zZ X pc ls ((zl x) :: st) mem := by
  obtain ⟨p, l, e, R, s, m, args, below, meth, c, Q, g, kc, ks⟩ := X
  obtain ⟨hx, hb, hml, hown, hts, hK, hN, hg, hR1, hR2, hlk, hl2, hg2⟩ := hG
  subst hl2 hg2
  intro hM hL hS H locs lsA hP hS0 hl
  subst hml
  subst he
  refine lv_lstore_n hx hb hd hi (zlr_has hl) hn rfl fun ls' hl' => ?_
  exact k hM (zokL_st2 hL (zokS_cons.mp hS).1) (zokS_cons.mp hS).2 H locs ls' hP hS0 (zlr_st2 (lsA := lsA) ls' hl')
theorem z_lstore (hG : zGood X l g own cc h nL) {i : Nat} {x : Int64} (hd : decode cc pc = .ok (.lstore i, 2)) (hn : i + 1 < nL) {ls2 : zL} (he : zst2 ls i (zl x) = ls2) (k : zZ X (pc + 2) ls2 st mem) : zZ X pc ls ((zl x) :: st) mem := by
  obtain ⟨p, l, e, R, s, m, args, below, meth, c, Q, g, kc, ks⟩ := X
  obtain ⟨hx, hb, hml, hown, hts, hK, hN, hg, hR1, hR2, hlk, hl2, hg2⟩ := hG
  subst hl2 hg2
  intro hM hL hS H locs lsA hP hS0 hl
  subst hml
  subst he
  refine lv_lstore hx hb hd (zlr_has hl) hn rfl fun ls' hl' => ?_
  exact k hM (zokL_st2 hL (zokS_cons.mp hS).1) (zokS_cons.mp hS).2 H locs ls' hP hS0 (zlr_st2 (lsA := lsA) ls' hl')
theorem z_iinc (hG : zGood X l g own cc h nL) {i : Nat} {n x : Int} (hd : decode cc pc = .ok (.iinc i n, 3)) (hn : i < nL) (hv : ls[i]? = some (some (zi x))) (hr1 : -2147483648 ≤ x + n) (hr2 : x + n < 2147483648) {ls2 : zL} (he : zst1 ls i (zi (x + n)) = ls2) (k : zZ X (pc + 3) ls2 st mem) : zZ X pc ls st mem := by
  obtain ⟨p, l, e, R, s, m, args, below, meth, c, Q, g, kc, ks⟩ := X
  obtain ⟨hx, hb, hml, hown, hts, hK, hN, hg, hR1, hR2, hlk, hl2, hg2⟩ := hG
  subst hl2 hg2
  intro hM hL hS H locs lsA hP hS0 hl
  subst hml
  subst he
  have hr : zin (x + n) := ⟨hr1, hr2⟩
  obtain ⟨q, hq⟩ := List.getElem?_of_mem (zlist_mem.mpr ⟨_, hv, rfl⟩ : (i, zup g (zi x)) ∈ zlist g ls)
  refine lv_iinc (k := q) (x := Int32.ofInt x) (v := Int32.ofInt (x + n)) hx hb hd (zlr_has hl) hq (zadd x n) hn rfl fun ls' hl' => ?_
  exact k hM (zokL_st1 hL hr) hS H locs ls' hP hS0 (zlr_st1 (lsA := lsA) (v := zi (x + n)) ls' hl')
theorem z_iadd (hG : zGood X l g own cc h nL) {x y : Int} (hd : decode cc pc = .ok (.iadd, 1)) (hr1 : -2147483648 ≤ x + y) (hr2 : x + y < 2147483648) (k : zZ X (pc + 1) ls (zi (x + y) :: st) mem) : zZ X pc ls (zi y :: zi x :: st) mem := by
  obtain ⟨p, l, e, R, s, m, args, below, meth, c, Q, g, kc, ks⟩ := X
  obtain ⟨hx, hb, hml, hown, hts, hK, hN, hg, hR1, hR2, hlk, hl2, hg2⟩ := hG
  subst hl2 hg2
  intro hM hL hS H locs lsA hP hS0 hl
  have hxx : zin x := (zokS_cons.mp (zokS_cons.mp hS).2).1
  have hyy : zin y := (zokS_cons.mp hS).1
  refine lv_iadd hx hb hd ?_
  rw [zadd]
  exact k hM hL (zokS_cons.mpr ⟨⟨hr1, hr2⟩, (zokS_cons.mp (zokS_cons.mp hS).2).2⟩) H locs lsA hP hS0 hl
theorem z_isub (hG : zGood X l g own cc h nL) {x y : Int} (hd : decode cc pc = .ok (.isub, 1)) (hr1 : -2147483648 ≤ x - y) (hr2 : x - y < 2147483648) (k : zZ X (pc + 1) ls (zi (x - y) :: st) mem) : zZ X pc ls (zi y :: zi x :: st) mem := by
  obtain ⟨p, l, e, R, s, m, args, below, meth, c, Q, g, kc, ks⟩ := X
  obtain ⟨hx, hb, hml, hown, hts, hK, hN, hg, hR1, hR2, hlk, hl2, hg2⟩ := hG
  subst hl2 hg2
  intro hM hL hS H locs lsA hP hS0 hl
  have hxx : zin x := (zokS_cons.mp (zokS_cons.mp hS).2).1
  have hyy : zin y := (zokS_cons.mp hS).1
  refine lv_isub hx hb hd ?_
  rw [zsub]
  exact k hM hL (zokS_cons.mpr ⟨⟨hr1, hr2⟩, (zokS_cons.mp (zokS_cons.mp hS).2).2⟩) H locs lsA hP hS0 hl
theorem z_imul (hG : zGood X l g own cc h nL) {x y : Int} (hd : decode cc pc = .ok (.imul, 1)) (hr1 : -2147483648 ≤ x * y) (hr2 : x * y < 2147483648) (k : zZ X (pc + 1) ls (zi (x * y) :: st) mem) : zZ X pc ls (zi y :: zi x :: st) mem := by
  obtain ⟨p, l, e, R, s, m, args, below, meth, c, Q, g, kc, ks⟩ := X
  obtain ⟨hx, hb, hml, hown, hts, hK, hN, hg, hR1, hR2, hlk, hl2, hg2⟩ := hG
  subst hl2 hg2
  intro hM hL hS H locs lsA hP hS0 hl
  have hxx : zin x := (zokS_cons.mp (zokS_cons.mp hS).2).1
  have hyy : zin y := (zokS_cons.mp hS).1
  refine lv_imul hx hb hd ?_
  rw [zmul]
  exact k hM hL (zokS_cons.mpr ⟨⟨hr1, hr2⟩, (zokS_cons.mp (zokS_cons.mp hS).2).2⟩) H locs lsA hP hS0 hl
theorem z_iaddw (hG : zGood X l g own cc h nL) {x y : Int} (hd : decode cc pc = .ok (.iadd, 1)) (k : zZ X (pc + 1) ls (zi (zwr (x + y)) :: st) mem) : zZ X pc ls (zi y :: zi x :: st) mem := by
  obtain ⟨p, l, e, R, s, m, args, below, meth, c, Q, g, kc, ks⟩ := X
  obtain ⟨hx, hb, hml, hown, hts, hK, hN, hg, hR1, hR2, hlk, hl2, hg2⟩ := hG
  subst hl2 hg2
  intro hM hL hS H locs lsA hP hS0 hl
  have hxx : zin x := (zokS_cons.mp (zokS_cons.mp hS).2).1
  have hyy : zin y := (zokS_cons.mp hS).1
  refine lv_iadd hx hb hd ?_
  rw [zadd, show Int32.ofInt (x + y) = Int32.ofInt (zwr (x + y)) from (Int32.ofInt_toInt _).symm]
  exact k hM hL (zokS_cons.mpr ⟨zinT _, (zokS_cons.mp (zokS_cons.mp hS).2).2⟩) H locs lsA hP hS0 hl
theorem z_isubw (hG : zGood X l g own cc h nL) {x y : Int} (hd : decode cc pc = .ok (.isub, 1)) (k : zZ X (pc + 1) ls (zi (zwr (x - y)) :: st) mem) : zZ X pc ls (zi y :: zi x :: st) mem := by
  obtain ⟨p, l, e, R, s, m, args, below, meth, c, Q, g, kc, ks⟩ := X
  obtain ⟨hx, hb, hml, hown, hts, hK, hN, hg, hR1, hR2, hlk, hl2, hg2⟩ := hG
  subst hl2 hg2
  intro hM hL hS H locs lsA hP hS0 hl
  have hxx : zin x := (zokS_cons.mp (zokS_cons.mp hS).2).1
  have hyy : zin y := (zokS_cons.mp hS).1
  refine lv_isub hx hb hd ?_
  rw [zsub, show Int32.ofInt (x - y) = Int32.ofInt (zwr (x - y)) from (Int32.ofInt_toInt _).symm]
  exact k hM hL (zokS_cons.mpr ⟨zinT _, (zokS_cons.mp (zokS_cons.mp hS).2).2⟩) H locs lsA hP hS0 hl
theorem z_idiv (hG : zGood X l g own cc h nL) {x y : Int} (hd : decode cc pc = .ok (.idiv, 1)) (h0 : 0 ≤ x) (h1 : 0 < y) (k : zZ X (pc + 1) ls (zi (x / y) :: st) mem) : zZ X pc ls (zi y :: zi x :: st) mem := by
  obtain ⟨p, l, e, R, s, m, args, below, meth, c, Q, g, kc, ks⟩ := X
  obtain ⟨hx, hb, hml, hown, hts, hK, hN, hg, hR1, hR2, hlk, hl2, hg2⟩ := hG
  subst hl2 hg2
  intro hM hL hS H locs lsA hP hS0 hl
  have hxx : zin x := (zokS_cons.mp (zokS_cons.mp hS).2).1
  have hyy : zin y := (zokS_cons.mp hS).1
  refine lv_idiv hx hb hd (fun q => by have q2 : Int32.ofInt y = Int32.ofInt 0 := q; have := (zeq hyy z0in).mp q2; omega) ?_
  rw [zdiv hxx hyy h0 h1]
  exact k hM hL (zokS_cons.mpr ⟨⟨by have := Int.ediv_nonneg h0 (Int.le_of_lt h1); omega, by have := Int.ediv_le_self y h0; have := hxx.2; omega⟩, (zokS_cons.mp (zokS_cons.mp hS).2).2⟩) H locs lsA hP hS0 hl
theorem z_irem (hG : zGood X l g own cc h nL) {x y : Int} (hd : decode cc pc = .ok (.irem, 1)) (h0 : 0 ≤ x) (h1 : 0 < y) (k : zZ X (pc + 1) ls (zi (x % y) :: st) mem) : zZ X pc ls (zi y :: zi x :: st) mem := by
  obtain ⟨p, l, e, R, s, m, args, below, meth, c, Q, g, kc, ks⟩ := X
  obtain ⟨hx, hb, hml, hown, hts, hK, hN, hg, hR1, hR2, hlk, hl2, hg2⟩ := hG
  subst hl2 hg2
  intro hM hL hS H locs lsA hP hS0 hl
  have hxx : zin x := (zokS_cons.mp (zokS_cons.mp hS).2).1
  have hyy : zin y := (zokS_cons.mp hS).1
  refine lv_irem hx hb hd (fun q => by have q2 : Int32.ofInt y = Int32.ofInt 0 := q; have := (zeq hyy z0in).mp q2; omega) ?_
  rw [zrem hxx hyy h0 h1]
  exact k hM hL (zokS_cons.mpr ⟨zmodin hyy h1, (zokS_cons.mp (zokS_cons.mp hS).2).2⟩) H locs lsA hP hS0 hl
theorem z_iand (hG : zGood X l g own cc h nL) {x y : Int} (hd : decode cc pc = .ok (.iand, 1)) (k : zZ X (pc + 1) ls (zi (zand x y) :: st) mem) : zZ X pc ls (zi y :: zi x :: st) mem := by
  obtain ⟨p, l, e, R, s, m, args, below, meth, c, Q, g, kc, ks⟩ := X
  obtain ⟨hx, hb, hml, hown, hts, hK, hN, hg, hR1, hR2, hlk, hl2, hg2⟩ := hG
  subst hl2 hg2
  intro hM hL hS H locs lsA hP hS0 hl
  have hxx : zin x := (zokS_cons.mp (zokS_cons.mp hS).2).1
  have hyy : zin y := (zokS_cons.mp hS).1
  refine lv_iand hx hb hd ?_
  rw [show Int32.ofInt x &&& Int32.ofInt y = Int32.ofInt (zand x y) from (Int32.ofInt_toInt _).symm]
  exact k hM hL (zokS_cons.mpr ⟨zinT _, (zokS_cons.mp (zokS_cons.mp hS).2).2⟩) H locs lsA hP hS0 hl
theorem z_ior (hG : zGood X l g own cc h nL) {x y : Int} (hd : decode cc pc = .ok (.ior, 1)) (k : zZ X (pc + 1) ls (zi (zor x y) :: st) mem) : zZ X pc ls (zi y :: zi x :: st) mem := by
  obtain ⟨p, l, e, R, s, m, args, below, meth, c, Q, g, kc, ks⟩ := X
  obtain ⟨hx, hb, hml, hown, hts, hK, hN, hg, hR1, hR2, hlk, hl2, hg2⟩ := hG
  subst hl2 hg2
  intro hM hL hS H locs lsA hP hS0 hl
  have hxx : zin x := (zokS_cons.mp (zokS_cons.mp hS).2).1
  have hyy : zin y := (zokS_cons.mp hS).1
  refine lv_ior hx hb hd ?_
  rw [show Int32.ofInt x ||| Int32.ofInt y = Int32.ofInt (zor x y) from (Int32.ofInt_toInt _).symm]
  exact k hM hL (zokS_cons.mpr ⟨zinT _, (zokS_cons.mp (zokS_cons.mp hS).2).2⟩) H locs lsA hP hS0 hl
theorem z_ixor (hG : zGood X l g own cc h nL) {x y : Int} (hd : decode cc pc = .ok (.ixor, 1)) (k : zZ X (pc + 1) ls (zi (zxor x y) :: st) mem) : zZ X pc ls (zi y :: zi x :: st) mem := by
  obtain ⟨p, l, e, R, s, m, args, below, meth, c, Q, g, kc, ks⟩ := X
  obtain ⟨hx, hb, hml, hown, hts, hK, hN, hg, hR1, hR2, hlk, hl2, hg2⟩ := hG
  subst hl2 hg2
  intro hM hL hS H locs lsA hP hS0 hl
  have hxx : zin x := (zokS_cons.mp (zokS_cons.mp hS).2).1
  have hyy : zin y := (zokS_cons.mp hS).1
  refine lv_ixor hx hb hd ?_
  rw [show Int32.ofInt x ^^^ Int32.ofInt y = Int32.ofInt (zxor x y) from (Int32.ofInt_toInt _).symm]
  exact k hM hL (zokS_cons.mpr ⟨zinT _, (zokS_cons.mp (zokS_cons.mp hS).2).2⟩) H locs lsA hP hS0 hl
theorem z_ishl (hG : zGood X l g own cc h nL) {x y : Int} (hd : decode cc pc = .ok (.ishl, 1)) (k : zZ X (pc + 1) ls (zi (zshl x y) :: st) mem) : zZ X pc ls (zi y :: zi x :: st) mem := by
  obtain ⟨p, l, e, R, s, m, args, below, meth, c, Q, g, kc, ks⟩ := X
  obtain ⟨hx, hb, hml, hown, hts, hK, hN, hg, hR1, hR2, hlk, hl2, hg2⟩ := hG
  subst hl2 hg2
  intro hM hL hS H locs lsA hP hS0 hl
  have hxx : zin x := (zokS_cons.mp (zokS_cons.mp hS).2).1
  have hyy : zin y := (zokS_cons.mp hS).1
  refine lv_ishl hx hb hd ?_
  rw [show Int32.ofInt x <<< (Int32.ofInt y &&& 31) = Int32.ofInt (zshl x y) from (Int32.ofInt_toInt _).symm]
  exact k hM hL (zokS_cons.mpr ⟨zinT _, (zokS_cons.mp (zokS_cons.mp hS).2).2⟩) H locs lsA hP hS0 hl
theorem z_ishr (hG : zGood X l g own cc h nL) {x y : Int} (hd : decode cc pc = .ok (.ishr, 1)) (k : zZ X (pc + 1) ls (zi (zshr x y) :: st) mem) : zZ X pc ls (zi y :: zi x :: st) mem := by
  obtain ⟨p, l, e, R, s, m, args, below, meth, c, Q, g, kc, ks⟩ := X
  obtain ⟨hx, hb, hml, hown, hts, hK, hN, hg, hR1, hR2, hlk, hl2, hg2⟩ := hG
  subst hl2 hg2
  intro hM hL hS H locs lsA hP hS0 hl
  have hxx : zin x := (zokS_cons.mp (zokS_cons.mp hS).2).1
  have hyy : zin y := (zokS_cons.mp hS).1
  refine lv_ishr hx hb hd ?_
  rw [show Int32.ofInt x >>> (Int32.ofInt y &&& 31) = Int32.ofInt (zshr x y) from (Int32.ofInt_toInt _).symm]
  exact k hM hL (zokS_cons.mpr ⟨zinT _, (zokS_cons.mp (zokS_cons.mp hS).2).2⟩) H locs lsA hP hS0 hl
theorem z_ladd (hG : zGood X l g own cc h nL) {x y : Int64} (hd : decode cc pc = .ok (.ladd, 1)) (k : zZ X (pc + 1) ls (zl (x + y) :: st) mem) : zZ X pc ls (zl y :: zl x :: st) mem := by
  obtain ⟨p, l, e, R, s, m, args, below, meth, c, Q, g, kc, ks⟩ := X
  obtain ⟨hx, hb, hml, hown, hts, hK, hN, hg, hR1, hR2, hlk, hl2, hg2⟩ := hG
  subst hl2 hg2
  intro hM hL hS H locs lsA hP hS0 hl
  refine lv_ladd hx hb hd ?_
  exact k hM hL (zokS_cons.mpr ⟨trivial, (zokS_cons.mp (zokS_cons.mp hS).2).2⟩) H locs lsA hP hS0 hl
theorem z_lmul (hG : zGood X l g own cc h nL) {x y : Int64} (hd : decode cc pc = .ok (.lmul, 1)) (k : zZ X (pc + 1) ls (zl (x * y) :: st) mem) : zZ X pc ls (zl y :: zl x :: st) mem := by
  obtain ⟨p, l, e, R, s, m, args, below, meth, c, Q, g, kc, ks⟩ := X
  obtain ⟨hx, hb, hml, hown, hts, hK, hN, hg, hR1, hR2, hlk, hl2, hg2⟩ := hG
  subst hl2 hg2
  intro hM hL hS H locs lsA hP hS0 hl
  refine lv_lmul hx hb hd ?_
  exact k hM hL (zokS_cons.mpr ⟨trivial, (zokS_cons.mp (zokS_cons.mp hS).2).2⟩) H locs lsA hP hS0 hl
theorem z_land (hG : zGood X l g own cc h nL) {x y : Int64} (hd : decode cc pc = .ok (.land, 1)) (k : zZ X (pc + 1) ls (zl (x &&& y) :: st) mem) : zZ X pc ls (zl y :: zl x :: st) mem := by
  obtain ⟨p, l, e, R, s, m, args, below, meth, c, Q, g, kc, ks⟩ := X
  obtain ⟨hx, hb, hml, hown, hts, hK, hN, hg, hR1, hR2, hlk, hl2, hg2⟩ := hG
  subst hl2 hg2
  intro hM hL hS H locs lsA hP hS0 hl
  refine lv_land hx hb hd ?_
  exact k hM hL (zokS_cons.mpr ⟨trivial, (zokS_cons.mp (zokS_cons.mp hS).2).2⟩) H locs lsA hP hS0 hl
theorem z_lor (hG : zGood X l g own cc h nL) {x y : Int64} (hd : decode cc pc = .ok (.lor, 1)) (k : zZ X (pc + 1) ls (zl (x ||| y) :: st) mem) : zZ X pc ls (zl y :: zl x :: st) mem := by
  obtain ⟨p, l, e, R, s, m, args, below, meth, c, Q, g, kc, ks⟩ := X
  obtain ⟨hx, hb, hml, hown, hts, hK, hN, hg, hR1, hR2, hlk, hl2, hg2⟩ := hG
  subst hl2 hg2
  intro hM hL hS H locs lsA hP hS0 hl
  refine lv_lor hx hb hd ?_
  exact k hM hL (zokS_cons.mpr ⟨trivial, (zokS_cons.mp (zokS_cons.mp hS).2).2⟩) H locs lsA hP hS0 hl
theorem z_lushr (hG : zGood X l g own cc h nL) {x : Int64} {y : Int} (hd : decode cc pc = .ok (.lushr, 1)) (k : zZ X (pc + 1) ls (zl ((x.toUInt64 >>> ((Int32.ofInt y).toInt64.toUInt64 &&& Int64.toUInt64 63)).toInt64) :: st) mem) : zZ X pc ls (zi y :: zl x :: st) mem := by
  obtain ⟨p, l, e, R, s, m, args, below, meth, c, Q, g, kc, ks⟩ := X
  obtain ⟨hx, hb, hml, hown, hts, hK, hN, hg, hR1, hR2, hlk, hl2, hg2⟩ := hG
  subst hl2 hg2
  intro hM hL hS H locs lsA hP hS0 hl
  refine lv_lushr hx hb hd rfl ?_
  exact k hM hL (zokS_cons.mpr ⟨trivial, (zokS_cons.mp (zokS_cons.mp hS).2).2⟩) H locs lsA hP hS0 hl
theorem z_lshl (hG : zGood X l g own cc h nL) {x : Int64} {y : Int} (hd : decode cc pc = .ok (.lshl, 1)) (k : zZ X (pc + 1) ls (zl (x <<< ((Int32.ofInt y).toInt64 &&& 63)) :: st) mem) : zZ X pc ls (zi y :: zl x :: st) mem := by
  obtain ⟨p, l, e, R, s, m, args, below, meth, c, Q, g, kc, ks⟩ := X
  obtain ⟨hx, hb, hml, hown, hts, hK, hN, hg, hR1, hR2, hlk, hl2, hg2⟩ := hG
  subst hl2 hg2
  intro hM hL hS H locs lsA hP hS0 hl
  refine lv_lshl hx hb hd rfl ?_
  exact k hM hL (zokS_cons.mpr ⟨trivial, (zokS_cons.mp (zokS_cons.mp hS).2).2⟩) H locs lsA hP hS0 hl
theorem z_lshr (hG : zGood X l g own cc h nL) {x : Int64} {y : Int} (hd : decode cc pc = .ok (.lshr, 1)) (k : zZ X (pc + 1) ls (zl (x >>> ((Int32.ofInt y).toInt64 &&& 63)) :: st) mem) : zZ X pc ls (zi y :: zl x :: st) mem := by
  obtain ⟨p, l, e, R, s, m, args, below, meth, c, Q, g, kc, ks⟩ := X
  obtain ⟨hx, hb, hml, hown, hts, hK, hN, hg, hR1, hR2, hlk, hl2, hg2⟩ := hG
  subst hl2 hg2
  intro hM hL hS H locs lsA hP hS0 hl
  refine lv_lshr hx hb hd rfl ?_
  exact k hM hL (zokS_cons.mpr ⟨trivial, (zokS_cons.mp (zokS_cons.mp hS).2).2⟩) H locs lsA hP hS0 hl
theorem z_i2l (hG : zGood X l g own cc h nL) {x : Int} (hd : decode cc pc = .ok (.i2l, 1)) (k : zZ X (pc + 1) ls (zl (Int32.ofInt x).toInt64 :: st) mem) : zZ X pc ls (zi x :: st) mem := by
  obtain ⟨p, l, e, R, s, m, args, below, meth, c, Q, g, kc, ks⟩ := X
  obtain ⟨hx, hb, hml, hown, hts, hK, hN, hg, hR1, hR2, hlk, hl2, hg2⟩ := hG
  subst hl2 hg2
  intro hM hL hS H locs lsA hP hS0 hl
  refine lv_i2l hx hb hd rfl ?_
  exact k hM hL (zokS_cons.mpr ⟨trivial, (zokS_cons.mp hS).2⟩) H locs lsA hP hS0 hl
theorem z_l2i (hG : zGood X l g own cc h nL) {x : Int64} (hd : decode cc pc = .ok (.l2i, 1)) (k : zZ X (pc + 1) ls (zi x.toInt32.toInt :: st) mem) : zZ X pc ls (zl x :: st) mem := by
  obtain ⟨p, l, e, R, s, m, args, below, meth, c, Q, g, kc, ks⟩ := X
  obtain ⟨hx, hb, hml, hown, hts, hK, hN, hg, hR1, hR2, hlk, hl2, hg2⟩ := hG
  subst hl2 hg2
  intro hM hL hS H locs lsA hP hS0 hl
  refine lv_l2i hx hb hd rfl ?_
  rw [show x.toInt32 = Int32.ofInt x.toInt32.toInt from (Int32.ofInt_toInt _).symm]
  exact k hM hL (zokS_cons.mpr ⟨zinT _, (zokS_cons.mp hS).2⟩) H locs lsA hP hS0 hl
theorem z_i2c (hG : zGood X l g own cc h nL) {x : Int} (hd : decode cc pc = .ok (.i2c, 1)) (h0 : 0 ≤ x) (h1 : x < 65536) (k : zZ X (pc + 1) ls (zi x :: st) mem) : zZ X pc ls (zi x :: st) mem := by
  obtain ⟨p, l, e, R, s, m, args, below, meth, c, Q, g, kc, ks⟩ := X
  obtain ⟨hx, hb, hml, hown, hts, hK, hN, hg, hR1, hR2, hlk, hl2, hg2⟩ := hG
  subst hl2 hg2
  intro hM hL hS H locs lsA hP hS0 hl
  refine lv_i2c hx hb hd (v := Int32.ofInt x) (zi2c h0 h1) ?_
  exact k hM hL hS H locs lsA hP hS0 hl
theorem z_lcmp (hG : zGood X l g own cc h nL) {x y : Int64} (hd : decode cc pc = .ok (.lcmp, 1)) (k : zZ X (pc + 1) ls (zi (lg_cmp x y).toInt :: st) mem) : zZ X pc ls (zl y :: zl x :: st) mem := by
  obtain ⟨p, l, e, R, s, m, args, below, meth, c, Q, g, kc, ks⟩ := X
  obtain ⟨hx, hb, hml, hown, hts, hK, hN, hg, hR1, hR2, hlk, hl2, hg2⟩ := hG
  subst hl2 hg2
  intro hM hL hS H locs lsA hP hS0 hl
  refine W.lcmp hx hb hd ?_
  rw [show lg_cmp x y = Int32.ofInt (lg_cmp x y).toInt from (Int32.ofInt_toInt _).symm]
  exact k hM hL (zokS_cons.mpr ⟨zinT _, (zokS_cons.mp (zokS_cons.mp hS).2).2⟩) H locs lsA hP hS0 hl
theorem z_dup_r (hG : zGood X l g own cc h nL) {o : zO} (hd : decode cc pc = .ok (.dup, 1)) (k : zZ X (pc + 1) ls (.inr (.inr o) :: .inr (.inr o) :: st) mem) : zZ X pc ls (.inr (.inr o) :: st) mem := by
  obtain ⟨p, l, e, R, s, m, args, below, meth, c, Q, g, kc, ks⟩ := X
  obtain ⟨hx, hb, hml, hown, hts, hK, hN, hg, hR1, hR2, hlk, hl2, hg2⟩ := hG
  subst hl2 hg2
  intro hM hL hS H locs lsA hP hS0 hl
  refine lv_dup hx hb hd rfl ?_
  exact k hM hL (zokS_cons.mpr ⟨(zokS_cons.mp hS).1, hS⟩) H locs lsA hP hS0 hl
theorem z_dup_i (hG : zGood X l g own cc h nL) {x : Int} (hd : decode cc pc = .ok (.dup, 1)) (k : zZ X (pc + 1) ls (zi x :: zi x :: st) mem) : zZ X pc ls (zi x :: st) mem := by
  obtain ⟨p, l, e, R, s, m, args, below, meth, c, Q, g, kc, ks⟩ := X
  obtain ⟨hx, hb, hml, hown, hts, hK, hN, hg, hR1, hR2, hlk, hl2, hg2⟩ := hG
  subst hl2 hg2
  intro hM hL hS H locs lsA hP hS0 hl
  refine lv_dup hx hb hd rfl ?_
  exact k hM hL (zokS_cons.mpr ⟨(zokS_cons.mp hS).1, hS⟩) H locs lsA hP hS0 hl
theorem z_dup2 (hG : zGood X l g own cc h nL) {x : Int} {o : zO} (hd : decode cc pc = .ok (.dup2, 1)) (k : zZ X (pc + 1) ls (zi x :: .inr (.inr o) :: zi x :: .inr (.inr o) :: st) mem) : zZ X pc ls (zi x :: .inr (.inr o) :: st) mem := by
  obtain ⟨p, l, e, R, s, m, args, below, meth, c, Q, g, kc, ks⟩ := X
  obtain ⟨hx, hb, hml, hown, hts, hK, hN, hg, hR1, hR2, hlk, hl2, hg2⟩ := hG
  subst hl2 hg2
  intro hM hL hS H locs lsA hP hS0 hl
  refine lv_dup2_11 hx hb hd rfl rfl ?_
  exact k hM hL (zokS_cons.mpr ⟨(zokS_cons.mp hS).1, zokS_cons.mpr ⟨(zokS_cons.mp (zokS_cons.mp hS).2).1, hS⟩⟩) H locs lsA hP hS0 hl
theorem z_if_eq (hG : zGood X l g own cc h nL) {x : Int} {off : Int} {tgt : Nat} (hd : decode cc pc = .ok (.ifCond .eq off, 3)) (ht : (pc : Int) + off = (tgt : Int)) (kt : x = 0 → zZ X tgt ls st mem) (kf : x ≠ 0 → zZ X (pc + 3) ls st mem) : zZ X pc ls (zi x :: st) mem := by
  obtain ⟨p, l, e, R, s, m, args, below, meth, c, Q, g, kc, ks⟩ := X
  obtain ⟨hx, hb, hml, hown, hts, hK, hN, hg, hR1, hR2, hlk, hl2, hg2⟩ := hG
  subst hl2 hg2
  intro hM hL hS H locs lsA hP hS0 hl
  have hxx : zin x := (zokS_cons.mp hS).1
  have hyy : zin 0 := z0in
  have h2 := (zokS_cons.mp hS).2
  refine lv_if_eq hx hb hd ht (fun q => ?_) (fun q => ?_)
  · rw [← z00] at q; exact kt ((zeq hxx hyy).mp q) hM hL h2 H locs lsA hP hS0 hl
  · rw [← z00] at q; exact kf (fun z => q ((zeq hxx hyy).mpr z)) hM hL h2 H locs lsA hP hS0 hl
theorem z_icmp_eq (hG : zGood X l g own cc h nL) {x y : Int} {off : Int} {tgt : Nat} (hd : decode cc pc = .ok (.if_icmp .eq off, 3)) (ht : (pc : Int) + off = (tgt : Int)) (kt : x = y → zZ X tgt ls st mem) (kf : x ≠ y → zZ X (pc + 3) ls st mem) : zZ X pc ls (zi y :: zi x :: st) mem := by
  obtain ⟨p, l, e, R, s, m, args, below, meth, c, Q, g, kc, ks⟩ := X
  obtain ⟨hx, hb, hml, hown, hts, hK, hN, hg, hR1, hR2, hlk, hl2, hg2⟩ := hG
  subst hl2 hg2
  intro hM hL hS H locs lsA hP hS0 hl
  have hxx : zin x := (zokS_cons.mp (zokS_cons.mp hS).2).1
  have hyy : zin y := (zokS_cons.mp hS).1
  have h2 := (zokS_cons.mp (zokS_cons.mp hS).2).2
  refine lv_icmp_eq hx hb hd ht (fun q => ?_) (fun q => ?_)
  · skip; exact kt ((zeq hxx hyy).mp q) hM hL h2 H locs lsA hP hS0 hl
  · skip; exact kf (fun z => q ((zeq hxx hyy).mpr z)) hM hL h2 H locs lsA hP hS0 hl
theorem z_if_ne (hG : zGood X l g own cc h nL) {x : Int} {off : Int} {tgt : Nat} (hd : decode cc pc = .ok (.ifCond .ne off, 3)) (ht : (pc : Int) + off = (tgt : Int)) (kt : x ≠ 0 → zZ X tgt ls st mem) (kf : x = 0 → zZ X (pc + 3) ls st mem) : zZ X pc ls (zi x :: st) mem := by
  obtain ⟨p, l, e, R, s, m, args, below, meth, c, Q, g, kc, ks⟩ := X
  obtain ⟨hx, hb, hml, hown, hts, hK, hN, hg, hR1, hR2, hlk, hl2, hg2⟩ := hG
  subst hl2 hg2
  intro hM hL hS H locs lsA hP hS0 hl
  have hxx : zin x := (zokS_cons.mp hS).1
  have hyy : zin 0 := z0in
  have h2 := (zokS_cons.mp hS).2
  refine lv_if_ne hx hb hd ht (fun q => ?_) (fun q => ?_)
  · rw [← z00] at q; exact kt (fun z => q ((zeq hxx hyy).mpr z)) hM hL h2 H locs lsA hP hS0 hl
  · rw [← z00] at q; exact kf ((zeq hxx hyy).mp q) hM hL h2 H locs lsA hP hS0 hl
theorem z_icmp_ne (hG : zGood X l g own cc h nL) {x y : Int} {off : Int} {tgt : Nat} (hd : decode cc pc = .ok (.if_icmp .ne off, 3)) (ht : (pc : Int) + off = (tgt : Int)) (kt : x ≠ y → zZ X tgt ls st mem) (kf : x = y → zZ X (pc + 3) ls st mem) : zZ X pc ls (zi y :: zi x :: st) mem := by
  obtain ⟨p, l, e, R, s, m, args, below, meth, c, Q, g, kc, ks⟩ := X
  obtain ⟨hx, hb, hml, hown, hts, hK, hN, hg, hR1, hR2, hlk, hl2, hg2⟩ := hG
  subst hl2 hg2
  intro hM hL hS H locs lsA hP hS0 hl
  have hxx : zin x := (zokS_cons.mp (zokS_cons.mp hS).2).1
  have hyy : zin y := (zokS_cons.mp hS).1
  have h2 := (zokS_cons.mp (zokS_cons.mp hS).2).2
  refine lv_icmp_ne hx hb hd ht (fun q => ?_) (fun q => ?_)
  · skip; exact kt (fun z => q ((zeq hxx hyy).mpr z)) hM hL h2 H locs lsA hP hS0 hl
  · skip; exact kf ((zeq hxx hyy).mp q) hM hL h2 H locs lsA hP hS0 hl
theorem z_if_lt (hG : zGood X l g own cc h nL) {x : Int} {off : Int} {tgt : Nat} (hd : decode cc pc = .ok (.ifCond .lt off, 3)) (ht : (pc : Int) + off = (tgt : Int)) (kt : x < 0 → zZ X tgt ls st mem) (kf : 0 ≤ x → zZ X (pc + 3) ls st mem) : zZ X pc ls (zi x :: st) mem := by
  obtain ⟨p, l, e, R, s, m, args, below, meth, c, Q, g, kc, ks⟩ := X
  obtain ⟨hx, hb, hml, hown, hts, hK, hN, hg, hR1, hR2, hlk, hl2, hg2⟩ := hG
  subst hl2 hg2
  intro hM hL hS H locs lsA hP hS0 hl
  have hxx : zin x := (zokS_cons.mp hS).1
  have hyy : zin 0 := z0in
  have h2 := (zokS_cons.mp hS).2
  refine lv_if_lt hx hb hd ht (fun q => ?_) (fun q => ?_)
  · rw [← z00] at q; exact kt ((zlt hxx hyy).mp q) hM hL h2 H locs lsA hP hS0 hl
  · rw [← z00] at q; rw [zlt hxx hyy] at q; exact kf (by omega) hM hL h2 H locs lsA hP hS0 hl
theorem z_icmp_lt (hG : zGood X l g own cc h nL) {x y : Int} {off : Int} {tgt : Nat} (hd : decode cc pc = .ok (.if_icmp .lt off, 3)) (ht : (pc : Int) + off = (tgt : Int)) (kt : x < y → zZ X tgt ls st mem) (kf : y ≤ x → zZ X (pc + 3) ls st mem) : zZ X pc ls (zi y :: zi x :: st) mem := by
  obtain ⟨p, l, e, R, s, m, args, below, meth, c, Q, g, kc, ks⟩ := X
  obtain ⟨hx, hb, hml, hown, hts, hK, hN, hg, hR1, hR2, hlk, hl2, hg2⟩ := hG
  subst hl2 hg2
  intro hM hL hS H locs lsA hP hS0 hl
  have hxx : zin x := (zokS_cons.mp (zokS_cons.mp hS).2).1
  have hyy : zin y := (zokS_cons.mp hS).1
  have h2 := (zokS_cons.mp (zokS_cons.mp hS).2).2
  refine lv_icmp_lt hx hb hd ht (fun q => ?_) (fun q => ?_)
  · skip; exact kt ((zlt hxx hyy).mp q) hM hL h2 H locs lsA hP hS0 hl
  · skip; rw [zlt hxx hyy] at q; exact kf (by omega) hM hL h2 H locs lsA hP hS0 hl
theorem z_if_ge (hG : zGood X l g own cc h nL) {x : Int} {off : Int} {tgt : Nat} (hd : decode cc pc = .ok (.ifCond .ge off, 3)) (ht : (pc : Int) + off = (tgt : Int)) (kt : 0 ≤ x → zZ X tgt ls st mem) (kf : x < 0 → zZ X (pc + 3) ls st mem) : zZ X pc ls (zi x :: st) mem := by
  obtain ⟨p, l, e, R, s, m, args, below, meth, c, Q, g, kc, ks⟩ := X
  obtain ⟨hx, hb, hml, hown, hts, hK, hN, hg, hR1, hR2, hlk, hl2, hg2⟩ := hG
  subst hl2 hg2
  intro hM hL hS H locs lsA hP hS0 hl
  have hxx : zin x := (zokS_cons.mp hS).1
  have hyy : zin 0 := z0in
  have h2 := (zokS_cons.mp hS).2
  refine lv_if_ge hx hb hd ht (fun q => ?_) (fun q => ?_)
  · rw [← z00] at q; exact kt ((zle hyy hxx).mp q) hM hL h2 H locs lsA hP hS0 hl
  · rw [← z00] at q; rw [zle hyy hxx] at q; exact kf (by omega) hM hL h2 H locs lsA hP hS0 hl
theorem z_icmp_ge (hG : zGood X l g own cc h nL) {x y : Int} {off : Int} {tgt : Nat} (hd : decode cc pc = .ok (.if_icmp .ge off, 3)) (ht : (pc : Int) + off = (tgt : Int)) (kt : y ≤ x → zZ X tgt ls st mem) (kf : x < y → zZ X (pc + 3) ls st mem) : zZ X pc ls (zi y :: zi x :: st) mem := by
  obtain ⟨p, l, e, R, s, m, args, below, meth, c, Q, g, kc, ks⟩ := X
  obtain ⟨hx, hb, hml, hown, hts, hK, hN, hg, hR1, hR2, hlk, hl2, hg2⟩ := hG
  subst hl2 hg2
  intro hM hL hS H locs lsA hP hS0 hl
  have hxx : zin x := (zokS_cons.mp (zokS_cons.mp hS).2).1
  have hyy : zin y := (zokS_cons.mp hS).1
  have h2 := (zokS_cons.mp (zokS_cons.mp hS).2).2
  refine lv_icmp_ge hx hb hd ht (fun q => ?_) (fun q => ?_)
  · skip; exact kt ((zle hyy hxx).mp q) hM hL h2 H locs lsA hP hS0 hl
  · skip; rw [zle hyy hxx] at q; exact kf (by omega) hM hL h2 H locs lsA hP hS0 hl
theorem z_if_gt (hG : zGood X l g own cc h nL) {x : Int} {off : Int} {tgt : Nat} (hd : decode cc pc = .ok (.ifCond .gt off, 3)) (ht : (pc : Int) + off = (tgt : Int)) (kt : 0 < x → zZ X tgt ls st mem) (kf : x ≤ 0 → zZ X (pc + 3) ls st mem) : zZ X pc ls (zi x :: st) mem := by
  obtain ⟨p, l, e, R, s, m, args, below, meth, c, Q, g, kc, ks⟩ := X
  obtain ⟨hx, hb, hml, hown, hts, hK, hN, hg, hR1, hR2, hlk, hl2, hg2⟩ := hG
  subst hl2 hg2
  intro hM hL hS H locs lsA hP hS0 hl
  have hxx : zin x := (zokS_cons.mp hS).1
  have hyy : zin 0 := z0in
  have h2 := (zokS_cons.mp hS).2
  refine lv_if_gt hx hb hd ht (fun q => ?_) (fun q => ?_)
  · rw [← z00] at q; exact kt ((zlt hyy hxx).mp q) hM hL h2 H locs lsA hP hS0 hl
  · rw [← z00] at q; rw [zlt hyy hxx] at q; exact kf (by omega) hM hL h2 H locs lsA hP hS0 hl
theorem z_icmp_gt (hG : zGood X l g own cc h nL) {x y : Int} {off : Int} {tgt : Nat} (hd : decode cc pc = .ok (.if_icmp .gt off, 3)) (ht : (pc : Int) + off = (tgt : Int)) (kt : y < x → zZ X tgt ls st mem) (kf : x ≤ y → zZ X (pc + 3) ls st mem) : zZ X pc ls (zi y :: zi x :: st) mem := by
  obtain ⟨p, l, e, R, s, m, args, below, meth, c, Q, g, kc, ks⟩ := X
  obtain ⟨hx, hb, hml, hown, hts, hK, hN, hg, hR1, hR2, hlk, hl2, hg2⟩ := hG
  subst hl2 hg2
  intro hM hL hS H locs lsA hP hS0 hl
  have hxx : zin x := (zokS_cons.mp (zokS_cons.mp hS).2).1
  have hyy : zin y := (zokS_cons.mp hS).1
  have h2 := (zokS_cons.mp (zokS_cons.mp hS).2).2
  refine lv_icmp_gt hx hb hd ht (fun q => ?_) (fun q => ?_)
  · skip; exact kt ((zlt hyy hxx).mp q) hM hL h2 H locs lsA hP hS0 hl
  · skip; rw [zlt hyy hxx] at q; exact kf (by omega) hM hL h2 H locs lsA hP hS0 hl
theorem z_if_le (hG : zGood X l g own cc h nL) {x : Int} {off : Int} {tgt : Nat} (hd : decode cc pc = .ok (.ifCond .le off, 3)) (ht : (pc : Int) + off = (tgt : Int)) (kt : x ≤ 0 → zZ X tgt ls st mem) (kf : 0 < x → zZ X (pc + 3) ls st mem) : zZ X pc ls (zi x :: st) mem := by
  obtain ⟨p, l, e, R, s, m, args, below, meth, c, Q, g, kc, ks⟩ := X
  obtain ⟨hx, hb, hml, hown, hts, hK, hN, hg, hR1, hR2, hlk, hl2, hg2⟩ := hG
  subst hl2 hg2
  intro hM hL hS H locs lsA hP hS0 hl
  have hxx : zin x := (zokS_cons.mp hS).1
  have hyy : zin 0 := z0in
  have h2 := (zokS_cons.mp hS).2
  refine lv_if_le hx hb hd ht (fun q => ?_) (fun q => ?_)
  · rw [← z00] at q; exact kt ((zle hxx hyy).mp q) hM hL h2 H locs lsA hP hS0 hl
  · rw [← z00] at q; rw [zle hxx hyy] at q; exact kf (by omega) hM hL h2 H locs lsA hP hS0 hl
theorem z_icmp_le (hG : zGood X l g own cc h nL) {x y : Int} {off : Int} {tgt : Nat} (hd : decode cc pc = .ok (.if_icmp .le off, 3)) (ht : (pc : Int) + off = (tgt : Int)) (kt : x ≤ y → zZ X tgt ls st mem) (kf : y < x → zZ X (pc + 3) ls st mem) : zZ X pc ls (zi y :: zi x :: st) mem := by
  obtain ⟨p, l, e, R, s, m, args, below, meth, c, Q, g, kc, ks⟩ := X
  obtain ⟨hx, hb, hml, hown, hts, hK, hN, hg, hR1, hR2, hlk, hl2, hg2⟩ := hG
  subst hl2 hg2
  intro hM hL hS H locs lsA hP hS0 hl
  have hxx : zin x := (zokS_cons.mp (zokS_cons.mp hS).2).1
  have hyy : zin y := (zokS_cons.mp hS).1
  have h2 := (zokS_cons.mp (zokS_cons.mp hS).2).2
  refine lv_icmp_le hx hb hd ht (fun q => ?_) (fun q => ?_)
  · skip; exact kt ((zle hxx hyy).mp q) hM hL h2 H locs lsA hP hS0 hl
  · skip; rw [zle hxx hyy] at q; exact kf (by omega) hM hL h2 H locs lsA hP hS0 hl
theorem z_goto (hG : zGood X l g own cc h nL) {off : Int} {tgt : Nat} (hd : decode cc pc = .ok (.goto off, 3)) (ht : (pc : Int) + off = (tgt : Int)) (k : zZ X tgt ls st mem) : zZ X pc ls st mem := by
  obtain ⟨p, l, e, R, s, m, args, below, meth, c, Q, g, kc, ks⟩ := X
  obtain ⟨hx, hb, hml, hown, hts, hK, hN, hg, hR1, hR2, hlk, hl2, hg2⟩ := hG
  subst hl2 hg2
  intro hM hL hS H locs lsA hP hS0 hl
  refine lv_goto hx hb hd ht ?_
  exact k hM hL hS H locs lsA hP hS0 hl
theorem z_tabIn (hG : zGood X l g own cc h nL) {dflt lo hi : Int} {offs : Array Int} {len : Nat} {x off : Int} {tgt : Nat} (hd : decode cc pc = .ok (.tableswitch dflt lo hi offs, len)) (h1 : lo ≤ x) (h2 : x ≤ hi) (ho : offs[(x - lo).toNat]? = some off) (ht : (pc : Int) + off = (tgt : Int)) (k : zZ X tgt ls st mem) : zZ X pc ls (zi x :: st) mem := by
  obtain ⟨p, l, e, R, s, m, args, below, meth, c, Q, g, kc, ks⟩ := X
  obtain ⟨hx, hb, hml, hown, hts, hK, hN, hg, hR1, hR2, hlk, hl2, hg2⟩ := hG
  subst hl2 hg2
  intro hM hL hS H locs lsA hP hS0 hl
  have hxx : zin x := (zokS_cons.mp hS).1
  refine lv_tableIn hx hb hd (by rw [zti hxx]; omega) (by rw [zti hxx]; omega) (by rw [zti hxx]; exact ho) ht ?_
  exact k hM hL (zokS_cons.mp hS).2 H locs lsA hP hS0 hl
theorem z_tabOut (hG : zGood X l g own cc h nL) {dflt lo hi : Int} {offs : Array Int} {len : Nat} {x : Int} {tgt : Nat} (hd : decode cc pc = .ok (.tableswitch dflt lo hi offs, len)) (h1 : x < lo ∨ hi < x) (ht : (pc : Int) + dflt = (tgt : Int)) (k : zZ X tgt ls st mem) : zZ X pc ls (zi x :: st) mem := by
  obtain ⟨p, l, e, R, s, m, args, below, meth, c, Q, g, kc, ks⟩ := X
  obtain ⟨hx, hb, hml, hown, hts, hK, hN, hg, hR1, hR2, hlk, hl2, hg2⟩ := hG
  subst hl2 hg2
  intro hM hL hS H locs lsA hP hS0 hl
  have hxx : zin x := (zokS_cons.mp hS).1
  refine lv_tableOut hx hb hd (by rw [zti hxx]; exact h1) ht ?_
  exact k hM hL (zokS_cons.mp hS).2 H locs lsA hP hS0 hl
theorem z_lookup (hG : zGood X l g own cc h nL) {dflt : Int} {ps : Array (Int × Int)} {len : Nat} {x off : Int} {tgt : Nat} (hd : decode cc pc = .ok (.lookupswitch dflt ps, len)) (hp : (ps.toList.zip (ps.toList.drop 1)).all (fun (a, next) => a.1 < next.1) = true) (ho : Op.lookupswitch.offset ps.toList dflt x = off) (ht : (pc : Int) + off = (tgt : Int)) (k : zZ X tgt ls st mem) : zZ X pc ls (zi x :: st) mem := by
  obtain ⟨p, l, e, R, s, m, args, below, meth, c, Q, g, kc, ks⟩ := X
  obtain ⟨hx, hb, hml, hown, hts, hK, hN, hg, hR1, hR2, hlk, hl2, hg2⟩ := hG
  subst hl2 hg2
  intro hM hL hS H locs lsA hP hS0 hl
  have hxx : zin x := (zokS_cons.mp hS).1
  refine lv_lookup hx hb hd hp (by rw [zti hxx]; exact ho) ht ?_
  exact k hM hL (zokS_cons.mp hS).2 H locs lsA hP hS0 hl
end ZROWS
