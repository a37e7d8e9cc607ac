/-! NUMBERS: an int of the machine is an Int within its range -/
def zin (x : Int) : Prop := -2147483648 ≤ x ∧ x < 2147483648
theorem zti {x : Int} (h : zin x) : (Int32.ofInt x).toInt = x := Int32.toInt_ofInt_of_le (by have := h.1; omega) (by have := h.2; omega)
theorem zinT (v : Int32) : zin v.toInt := ⟨by have := v.le_toInt; omega, by have := v.toInt_lt; omega⟩
theorem zcl {x : Int} (h : zin x) : (Int32.ofInt x).toNatClampNeg = x.toNat := by rw [← Int32.toNat_toInt, zti h]
theorem zadd (x y : Int) : Int32.ofInt x + Int32.ofInt y = Int32.ofInt (x + y) := Int32.toInt_inj.mp (by simp [Int32.toInt_add])
theorem zsub (x y : Int) : Int32.ofInt x - Int32.ofInt y = Int32.ofInt (x - y) := Int32.toInt_inj.mp (by simp [Int32.toInt_sub])
theorem zmul (x y : Int) : Int32.ofInt x * Int32.ofInt y = Int32.ofInt (x * y) := Int32.toInt_inj.mp (by simp [Int32.toInt_mul])
theorem zlt {x y : Int} (hx : zin x) (hy : zin y) : Int32.ofInt x < Int32.ofInt y ↔ x < y := by rw [Int32.lt_iff_toInt_lt, zti hx, zti hy]
theorem zle {x y : Int} (hx : zin x) (hy : zin y) : Int32.ofInt x ≤ Int32.ofInt y ↔ x ≤ y := by rw [Int32.le_iff_toInt_le, zti hx, zti hy]
theorem zeq {x y : Int} (hx : zin x) (hy : zin y) : Int32.ofInt x = Int32.ofInt y ↔ x = y := by rw [← Int32.toInt_inj, zti hx, zti hy]
theorem z0in : zin 0 := ⟨by decide, by decide⟩
theorem z00 : Int32.ofInt 0 = 0 := rfl
theorem zdiv {x y : Int} (hx : zin x) (hy : zin y) (h0 : 0 ≤ x) (h1 : 0 < y) : Int32.ofInt x / Int32.ofInt y = Int32.ofInt (x / y) := by
  have hq : zin (x / y) := ⟨by have := Int.ediv_nonneg h0 (Int.le_of_lt h1); omega, by have := Int.ediv_le_self y h0; have := hx.2; omega⟩
  apply Int32.toInt_inj.mp
  rw [Int32.toInt_div, zti hx, zti hy, zti hq, Int.tdiv_eq_ediv_of_nonneg h0]
  exact Int.bmod_eq_of_le (by have := hq.1; omega) (by have := hq.2; omega)
theorem zmodin {x y : Int} (hy : zin y) (h1 : 0 < y) : zin (x % y) := ⟨by have := Int.emod_nonneg x (Int.ne_of_gt h1); omega, by have := Int.emod_lt_of_pos x h1; have := hy.2; omega⟩
theorem zrem {x y : Int} (hx : zin x) (hy : zin y) (h0 : 0 ≤ x) (h1 : 0 < y) : Int32.ofInt x - Int32.ofInt x / Int32.ofInt y * Int32.ofInt y = Int32.ofInt (x % y) := by
  rw [zdiv hx hy h0 h1, zmul, zsub]
  congr 1
  have := Int.emod_add_mul_ediv x y
  rw [Int.mul_comm] at this
  omega
def zwr (x : Int) : Int := (Int32.ofInt x).toInt
theorem zwr_eq {x : Int} (h : zin x) : zwr x = x := zti h
def zand (x y : Int) : Int := (Int32.ofInt x &&& Int32.ofInt y).toInt
def zor (x y : Int) : Int := (Int32.ofInt x ||| Int32.ofInt y).toInt
def zxor (x y : Int) : Int := (Int32.ofInt x ^^^ Int32.ofInt y).toInt
def zshl (x y : Int) : Int := (Int32.ofInt x <<< (Int32.ofInt y &&& 31)).toInt
def zshr (x y : Int) : Int := (Int32.ofInt x >>> (Int32.ofInt y &&& 31)).toInt
/-! CELLS -/
abbrev zV : Type := Int ⊕ Int64 ⊕ zO
abbrev zM : Type := Nat → Int → Int → Int → Int
abbrev zL : Type := List (Option zV)
abbrev zi (x : Int) : zV := Sum.inl x
abbrev zl (x : Int64) : zV := Sum.inr (Sum.inl x)
abbrev zr (t : Nat) (s i : Int) : zV := Sum.inr (Sum.inr (t, s, i))
/-- the machine's classes, the cells' addresses, the arrays' classes -/
abbrev zG : Type := va_G × (zO → Nat) × (Nat → ClassId)
def zup (g : zG) : zV → Value
  | .inl x => .int (Int32.ofInt x)
  | .inr (.inl x) => .long x
  | .inr (.inr o) => .ref (g.2.1 o)
def zBase : List zO := zDIM.flatMap fun d => (List.range d.2.2.1).flatMap fun (a : Nat) => (List.range d.2.2.2).map fun (b : Nat) => (d.1, ((d.2.1 + a : Nat) : Int), (b : Int))
/-- which of the law's own arrays is in the world: its mode stands at an id of its own -/
def zExt : Nat → List zO := fun n => match n with
  | 1 => [(45, 0, 0)]
  | 2 => [(46, 0, 0)]
  | _ => []
def zOs (g : zG) : List zO := zBase ++ zExt (g.2.1 (999, 0, 0))
theorem zExt_tag {n : Nat} {o : zO} (h : o ∈ zExt n) : o = (44 + n, 0, 0) ∧ (n = 1 ∨ n = 2) := by
  unfold zExt at h
  split at h
  · exact ⟨List.mem_singleton.mp h, Or.inl rfl⟩
  · exact ⟨List.mem_singleton.mp h, Or.inr rfl⟩
  · cases h
theorem zmem {g : zG} {t : Nat} {s i : Int} (d : Nat × Nat × Nat × Nat) (hd : d ∈ zDIM) (ht : d.1 = t) (h1 : (d.2.1 : Int) ≤ s) (h2 : s < (d.2.1 : Int) + d.2.2.1) (h3 : 0 ≤ i) (h4 : i < d.2.2.2) : (t, s, i) ∈ zOs g := by
  refine List.mem_append_left _ (List.mem_flatMap.mpr ⟨d, hd, List.mem_flatMap.mpr ⟨(s - d.2.1).toNat, List.mem_range.mpr (by omega), List.mem_map.mpr ⟨i.toNat, List.mem_range.mpr (by omega), ?_⟩⟩⟩)
  have e1 : ((d.2.1 + (s - (d.2.1 : Int)).toNat : Nat) : Int) = s := by omega
  have e2 : ((i.toNat : Nat) : Int) = i := by omega
  rw [e1, e2, ht]
theorem zbase_of {o : zO} (h : o ∈ zBase) : ∃ d ∈ zDIM, d.1 = o.1 ∧ (d.2.1 : Int) ≤ o.2.1 ∧ o.2.1 < (d.2.1 : Int) + d.2.2.1 ∧ 0 ≤ o.2.2 ∧ o.2.2 < d.2.2.2 := by
  obtain ⟨d, hd, h⟩ := List.mem_flatMap.mp h
  obtain ⟨a, ha, h⟩ := List.mem_flatMap.mp h
  obtain ⟨b, hb, h⟩ := List.mem_map.mp h
  have ha := List.mem_range.mp ha
  have hb := List.mem_range.mp hb
  subst h
  exact ⟨d, hd, rfl, by simp; omega, by simp; omega, by simp, by simp; omega⟩
theorem zDIM_tag : ∀ d ∈ zDIM, d.1 < 45 := by decide +kernel
theorem zbase_tag {o : zO} (h : o ∈ zBase) : o.1 < 45 := by
  obtain ⟨d, hd, h1, -⟩ := zbase_of h
  rw [← h1]
  exact zDIM_tag d hd
theorem zmem_of {g : zG} {o : zO} (h : o ∈ zOs g) (ht : o.1 < 45) : ∃ d ∈ zDIM, d.1 = o.1 ∧ (d.2.1 : Int) ≤ o.2.1 ∧ o.2.1 < (d.2.1 : Int) + d.2.2.1 ∧ 0 ≤ o.2.2 ∧ o.2.2 < d.2.2.2 := by
  rcases List.mem_append.mp h with h1 | h1
  · exact zbase_of h1
  · obtain ⟨e, q⟩ := zExt_tag h1
    rw [e] at ht
    have : 44 + g.2.1 (999, 0, 0) < 45 := ht
    omega
theorem zDIM_apart : zDIM.Pairwise (fun d d' => d.1 ≠ d'.1 ∨ d.2.1 + d.2.2.1 ≤ d'.2.1) := by decide +kernel
theorem zBase_nd : zBase.Nodup := by
  refine List.pairwise_flatMap.mpr ⟨fun d _ => List.pairwise_flatMap.mpr ⟨fun a _ => List.pairwise_map.mpr ?_, ?_⟩, ?_⟩
  · exact List.Pairwise.imp (fun {x y} h e => by simp at e; omega) List.pairwise_lt_range
  · refine List.Pairwise.imp (fun {a b} h x hx y hy e => ?_) List.pairwise_lt_range
    obtain ⟨u, -, rfl⟩ := List.mem_map.mp hx
    obtain ⟨v, -, rfl⟩ := List.mem_map.mp hy
    simp at e
    omega
  · refine List.Pairwise.imp (fun {d d'} h x hx y hy e => ?_) zDIM_apart
    obtain ⟨a, ha, hx⟩ := List.mem_flatMap.mp hx
    obtain ⟨b, hb, hx⟩ := List.mem_map.mp hx
    obtain ⟨a', ha', hy⟩ := List.mem_flatMap.mp hy
    obtain ⟨b', hb', hy⟩ := List.mem_map.mp hy
    have ha := List.mem_range.mp ha
    subst hx
    subst hy
    simp at e
    omega
theorem zOs_nd {g : zG} : (zOs g).Nodup := by
  refine List.nodup_append.mpr ⟨zBase_nd, ?_, fun a ha b hb e => ?_⟩
  · unfold zExt
    split <;> simp
  · have h1 := zbase_tag ha
    obtain ⟨h2, q⟩ := zExt_tag hb
    rw [e, h2] at h1
    have : 44 + g.2.1 (999, 0, 0) < 45 := h1
    omega
def zfv (g : zG) (mem : zM) (t : Nat) (s i : Int) (c k : Nat) : Value := if zFR c k = true then .ref (g.2.1 (zFref t s i k)) else .int (Int32.ofInt (mem t s i k))
def zent (g : zG) (mem : zM) (o : zO) : va_E := match zTO o.1 with
  | some c => .inr (c, (List.range (zNF c)).map fun k => zfv g mem o.1 o.2.1 o.2.2 c k)
  | none => match zTA o.1 with
    | some q => .inl (g.2.2 q.1, q.2, if zTR q.1 = true then .inr (.inr (.inr (.inr (fun j => if j < q.2 then some (g.2.1 (zAref o.1 o.2.1 o.2.2 j)) else none)))) else .inl (fun j => Int32.ofInt (mem o.1 o.2.1 o.2.2 j)))
    | none => .inr (0, [])
def zWS (g : zG) (mem : zM) : va_W := (zOs g).map fun o => (g.2.1 o, zent g mem o)
def zset (mem : zM) (t : Nat) (s i k v : Int) : zM := fun t' s' i' k' => if t' = t ∧ s' = s ∧ i' = i ∧ k' = k then v else mem t' s' i' k'
def zokM (mem : zM) : Prop := ∀ t s i k, zin (mem t s i k)
def zokV (g : zG) : zV → Prop
  | .inl x => zin x
  | .inr (.inl _) => True
  | .inr (.inr o) => o ∈ zOs g ∨ o = (998, 0, 0)
def zokL (g : zG) (ls : zL) : Prop := ∀ v, some v ∈ ls → zokV g v
def zokS (g : zG) (st : List zV) : Prop := ∀ v ∈ st, zokV g v
theorem zokM_set {mem : zM} (h : zokM mem) {v : Int} (hv : zin v) (t : Nat) (s i k : Int) : zokM (zset mem t s i k v) := by
  intro t' s' i' k'
  unfold zset
  split
  · exact hv
  · exact h _ _ _ _
theorem zokS_cons {g : zG} {v : zV} {st : List zV} : zokS g (v :: st) ↔ zokV g v ∧ zokS g st := by simp [zokS]
theorem zokS_nil {g : zG} : zokS g [] := fun v h => by cases h
theorem zok_o {g : zG} {t ci : Nat} {s i : Int} (h : zokV g (zr t s i)) (ht : zTO t = some ci) : (t, s, i) ∈ zOs g := by
  rcases h with h | h
  · exact h
  · have : t = 998 := congrArg Prod.fst h
    subst this
    cases ht
theorem zok_a {g : zG} {t : Nat} {q : Nat × Nat} {s i : Int} (h : zokV g (zr t s i)) (ht : zTA t = some q) : (t, s, i) ∈ zOs g := by
  rcases h with h | h
  · exact h
  · have : t = 998 := congrArg Prod.fst h
    subst this
    cases ht
def zGok (g : zG) : Prop := ∀ o ∈ zOs g, ∀ o' ∈ zOs g, g.2.1 o = g.2.1 o' → o = o'
def zA (g : zG) : Nat → Prop := fun q => ∃ o ∈ zOs g, q = g.2.1 o
def zTYS (g : zG) : List (ClassId × FieldType) := (List.range 8).map fun k => (g.2.2 k, zTY.getD k .int)
theorem zplace {g : zG} {o : zO} (h : o ∈ zOs g) (mem : zM) : ∃ q0 : Nat, (zOs g)[q0]? = some o ∧ (zWS g mem)[q0]? = some (g.2.1 o, zent g mem o) := by
  obtain ⟨q, hq⟩ := List.getElem?_of_mem h
  exact ⟨q, hq, by simp [zWS, hq]⟩
theorem zDw {g : zG} (hg : zGok g) (mem : zM) : va_D (zA g) (zWS g mem) := by
  have key : ∀ (k : Nat) (q : Nat × va_E), (zWS g mem)[k]? = some q → ∃ o, (zOs g)[k]? = some o ∧ q.1 = g.2.1 o := by
    intro k q h
    unfold zWS at h
    rw [List.getElem?_map] at h
    cases ho : (zOs g)[k]? with
    | none => rw [ho] at h; cases h
    | some o => rw [ho] at h; cases h; exact ⟨o, rfl, rfl⟩
  refine ⟨fun i j p q hi hj hpq => ?_, fun k q hk => ?_⟩
  · obtain ⟨o, h1, h2⟩ := key i p hi
    obtain ⟨o', h3, h4⟩ := key j q hj
    have e : o = o' := hg o (List.mem_of_getElem? h1) o' (List.mem_of_getElem? h3) (by rw [← h2, ← h4, hpq])
    subst e
    exact (List.getElem?_inj (List.getElem?_eq_some_iff.mp h1).1 zOs_nd).mp (h1.trans h3.symm)
  · obtain ⟨o, h1, h2⟩ := key k q hk
    exact ⟨o, List.mem_of_getElem? h1, h2⟩
theorem zWS_set {g : zG} {mem mem' : zM} {o : zO} {q0 : Nat} (hq : (zOs g)[q0]? = some o) {e : va_E} (he : zent g mem' o = e) (hne : ∀ o', o' ≠ o → zent g mem' o' = zent g mem o') : (zWS g mem).set q0 (g.2.1 o, e) = zWS g mem' := by
  apply List.ext_getElem?
  intro k
  have hl := (List.getElem?_eq_some_iff.mp hq).1
  by_cases hk : k = q0
  · subst hk
    rw [List.getElem?_set_self (by simp [zWS]; exact hl)]
    simp [zWS, hq, he]
  · rw [List.getElem?_set_ne (Ne.symm hk)]
    unfold zWS
    rw [List.getElem?_map, List.getElem?_map]
    cases ho : (zOs g)[k]? with
    | none => rfl
    | some o' =>
      have hne' : o' ≠ o := fun z => hk ((List.getElem?_inj (List.getElem?_eq_some_iff.mp ho).1 zOs_nd).mp (by rw [ho, hq, z]))
      simp [hne o' hne']
/-- writing one slot of a cell leaves the others as they were -/
theorem zent_ne {g : zG} {mem : zM} {t : Nat} {s i k v : Int} {o' : zO} (h : o' ≠ (t, s, i)) : zent g (zset mem t s i k v) o' = zent g mem o' := by
  obtain ⟨t', s', i'⟩ := o'
  have hc : ∀ k' : Int, zset mem t s i k v t' s' i' k' = mem t' s' i' k' := by
    intro k'
    unfold zset
    rw [if_neg]
    rintro ⟨h1, h2, h3, -⟩
    exact h (by rw [h1, h2, h3])
  simp only [zent, zfv, hc]
/-! WORDS -/
def zW : List Cond := lw_tbl.filter goodWord
theorem zW_in {w : Cond} (h : w ∈ lw_tbl) (hg : goodWord w = true) : w ∈ zW := List.mem_filter.mpr ⟨h, hg⟩
theorem zW_tbl {w : Cond} (h : w ∈ zW) : w ∈ lw_tbl := (List.mem_filter.mp h).1
theorem zW_good : zW.all goodWord = true := List.all_eq_true.mpr fun _ h => (List.mem_filter.mp h).2
/-- links to a nest mate's private static method -/
def zNL : List (String × Nat × MethodName × String) := [(RX4, 48, yX10_roundedUp, RX10), (RX9, 78, yX10_roundedUp, RX10), (RX6, 120, yX10_roundedUp, RX10), (RX5, 108, yX10_roundedUp, RX10)]
def zNW : List Cond := zNL.map fun q => .methodLinkNest q.1 q.2.1 q.2.2.1 q.2.2.2
def zPW (g : zG) (mem : zM) (U : State) : Prop := va_P g.1 vwCl (zWS g mem) U.heap ∧ va_K g.1 vwCl (zTYS g) U ∧ ∀ w ∈ zNW, va_Nw w U
/-- a method: its name, code, locals, result, and how deep its calls go -/
abbrev zY : Type := MethodName × ByteArray × Nat × Option FieldType × Nat
def zYw (y : zY) : List Cond := .code y.1 y.2.1 y.2.2.1 y.2.2.2.1 :: zW
def zRoom (h : Nat) : Room := { frames := h, cells := 0, slots := 0, locals := 38 * h }
def zokR (g : zG) : Option zV → Prop
  | none => True
  | some v => zokV g v
def zQc (g : zG) (Rt : Option zV → zM → Prop) : Array Value → State → Outcome → State → Prop := fun _ st oc t => (∃ (v : Option zV) (m' : zM), oc = .returned (v.map (zup g)) ∧ Rt v m' ∧ zPW g m' t ∧ zokM m' ∧ zokR g v) ∧ va_F (zA g) st t
/-- THE CONTRACT of a method on these arguments and this memory: it ends, with an answer and a memory of Rt -/
def zMet (l : Launch) (g : zG) (y : zY) (av : List zV) (mem : zM) (Rt : Option zV → zM → Prop) : Prop :=
  zGok g → zokM mem → zokS g av → Met l y.1 (zYw y) (zRoom y.2.2.2.2) (va_Pc (av.map (zup g)) (fun U => zPW g mem U)) (zQc g Rt) 0 0 (zA g)
/-! LOCALS -/
def zclr : zL → Nat → zL
  | [], _ => []
  | x :: r, 0 => x :: r
  | some (.inr (.inl _)) :: r, 1 => none :: r
  | x :: r, 1 => x :: r
  | x :: r, n + 2 => x :: zclr r (n + 1)
def zst1 (ls : zL) (k : Nat) (v : zV) : zL := (zclr ls k).set k (some v)
def zst2 (ls : zL) (k : Nat) (v : zV) : zL := ((zclr ls k).set k (some v)).set (k + 1) none
def zlr (g : zG) (n : Nat) (ls : zL) (lsA : Array Slot) : Prop := lsA.size = n ∧ lv_wf lsA ∧ ∀ (k : Nat) (v : zV), ls[k]? = some (some v) → lsA[k]? = some (.val (zup g v))
theorem zclr_at : ∀ (ls : zL) (n j : Nat) (v : zV), (zclr ls n)[j]? = some (some v) → ls[j]? = some (some v) ∧ ¬ (j + 1 = n ∧ ∃ x, v = .inr (.inl x))
  | [], n, j, v, h => by simp [zclr] at h
  | x :: r, 0, j, v, h => ⟨by simpa [zclr] using h, fun q => by omega⟩
  | none :: r, 1, j, v, h => by
    cases j with
    | zero => simp [zclr] at h
    | succ j => exact ⟨by simpa [zclr] using h, fun q => by omega⟩
  | some (.inl y) :: r, 1, j, v, h => by
    cases j with
    | zero =>
      simp [zclr] at h
      subst h
      exact ⟨by simp, fun q => by obtain ⟨-, x, hx⟩ := q; cases hx⟩
    | succ j => exact ⟨by simpa [zclr] using h, fun q => by omega⟩
  | some (.inr (.inl y)) :: r, 1, j, v, h => by
    cases j with
    | zero => simp [zclr] at h
    | succ j => exact ⟨by simpa [zclr] using h, fun q => by omega⟩
  | some (.inr (.inr y)) :: r, 1, j, v, h => by
    cases j with
    | zero =>
      simp [zclr] at h
      subst h
      exact ⟨by simp, fun q => by obtain ⟨-, x, hx⟩ := q; cases hx⟩
    | succ j => exact ⟨by simpa [zclr] using h, fun q => by omega⟩
  | x :: r, n + 2, 0, v, h => ⟨by simpa [zclr] using h, fun q => by omega⟩
  | x :: r, n + 2, j + 1, v, h => by
    have h' : (zclr r (n + 1))[j]? = some (some v) := by simpa [zclr] using h
    obtain ⟨h1, h2⟩ := zclr_at r (n + 1) j v h'
    exact ⟨by simpa using h1, fun q => h2 ⟨by omega, q.2⟩⟩
theorem zup_cat {g : zG} {v : zV} : (zup g v).category = 2 ↔ ∃ x, v = .inr (.inl x) := by
  rcases v with x | x | x <;> simp [zup, Value.category]
/-- the locals as the kit lists them -/
def zlist (g : zG) (ls : zL) : List (Nat × Value) := ls.zipIdx.filterMap fun q => q.1.map fun v => (q.2, zup g v)
theorem zlist_mem {g : zG} {ls : zL} {k : Nat} {w : Value} : (k, w) ∈ zlist g ls ↔ ∃ v, ls[k]? = some (some v) ∧ w = zup g v := by
  unfold zlist
  rw [List.mem_filterMap]
  constructor
  · rintro ⟨⟨o, j⟩, hm, h⟩
    cases o with
    | none => simp at h
    | some v =>
      simp at h
      have := List.mk_mem_zipIdx_iff_getElem?.mp hm
      obtain ⟨h1, h2⟩ := h
      subst h1
      exact ⟨v, this, h2.symm⟩
  · rintro ⟨v, h1, h2⟩
    exact ⟨(some v, k), List.mk_mem_zipIdx_iff_getElem?.mpr h1, by simp [h2]⟩
theorem zlr_has {g : zG} {n : Nat} {ls : zL} {lsA : Array Slot} (h : zlr g n ls lsA) : lv_has lsA n (zlist g ls) := by
  refine ⟨h.1, h.2.1, fun q hq => ?_⟩
  obtain ⟨k, w⟩ := q
  obtain ⟨v, h1, h2⟩ := zlist_mem.mp hq
  rw [h2]
  exact h.2.2 k v h1
theorem zst1_at {ls : zL} {k j : Nat} {v w : zV} (h : (zst1 ls k v)[j]? = some (some w)) : (j = k ∧ w = v) ∨ (j ≠ k ∧ ls[j]? = some (some w) ∧ ¬ (j + 1 = k ∧ ∃ x, w = .inr (.inl x))) := by
  unfold zst1 at h
  by_cases hj : j = k
  · subst hj
    by_cases hl : j < (zclr ls j).length
    · rw [List.getElem?_set_self hl] at h
      left
      exact ⟨rfl, by cases h; rfl⟩
    · rw [List.getElem?_eq_none (by simp; omega)] at h
      cases h
  · rw [List.getElem?_set_ne (Ne.symm hj)] at h
    exact Or.inr ⟨hj, zclr_at ls k j w h⟩
theorem zlr_st1 {g : zG} {n : Nat} {ls : zL} {lsA : Array Slot} {k : Nat} {v : zV} (ls' : Array Slot) (h : lv_has ls' n ((k, zup g v) :: (zlist g ls).filter (fun q => !(q.1 == k) && !(q.1 + 1 == k && q.2.category == 2)))) : zlr g n (zst1 ls k v) ls' := by
  refine ⟨h.1, h.2.1, fun j w hj => ?_⟩
  rcases zst1_at hj with ⟨e1, e2⟩ | ⟨e1, e2, e3⟩
  · rw [e1, e2]
    exact h.2.2 _ List.mem_cons_self
  · refine h.2.2 (j, zup g w) (List.mem_cons_of_mem _ (List.mem_filter.mpr ⟨zlist_mem.mpr ⟨w, e2, rfl⟩, ?_⟩))
    have hc : ¬ (j + 1 = k ∧ (zup g w).category = 2) := fun q => e3 ⟨q.1, zup_cat.mp q.2⟩
    simp [e1]
    rcases Classical.em (j + 1 = k) with q | q
    · exact Or.inr fun z => hc ⟨q, z⟩
    · exact Or.inl q
theorem zlr_st2 {g : zG} {n : Nat} {ls : zL} {lsA : Array Slot} {k : Nat} {v : zV} (ls' : Array Slot) (h : lv_has ls' n ((k, zup g v) :: (zlist g ls).filter (fun q => !(q.1 == k) && (!(q.1 == k + 1) && !(q.1 + 1 == k && q.2.category == 2))))) : zlr g n (zst2 ls k v) ls' := by
  refine ⟨h.1, h.2.1, fun j w hj => ?_⟩
  unfold zst2 at hj
  by_cases hj1 : j = k + 1
  · subst hj1
    by_cases hl : k + 1 < ((zclr ls k).set k (some v)).length
    · rw [List.getElem?_set_self hl] at hj
      cases hj
    · rw [List.getElem?_eq_none (by simp at hl ⊢; omega)] at hj
      cases hj
  · rw [List.getElem?_set_ne (Ne.symm hj1)] at hj
    rcases zst1_at hj with ⟨e1, e2⟩ | ⟨e1, e2, e3⟩
    · rw [e1, e2]
      exact h.2.2 _ List.mem_cons_self
    · refine h.2.2 (j, zup g w) (List.mem_cons_of_mem _ (List.mem_filter.mpr ⟨zlist_mem.mpr ⟨w, e2, rfl⟩, ?_⟩))
      have hc : ¬ (j + 1 = k ∧ (zup g w).category = 2) := fun q => e3 ⟨q.1, zup_cat.mp q.2⟩
      simp [e1, hj1]
      rcases Classical.em (j + 1 = k) with q | q
      · exact Or.inr fun z => hc ⟨q, z⟩
      · exact Or.inl q
theorem zokL_get {g : zG} {ls : zL} (h : zokL g ls) {k : Nat} {v : zV} (hk : ls[k]? = some (some v)) : zokV g v := h v (List.mem_of_getElem? hk)
theorem zokL_st1 {g : zG} {ls : zL} (h : zokL g ls) {k : Nat} {v : zV} (hv : zokV g v) : zokL g (zst1 ls k v) := by
  intro w hw
  obtain ⟨j, hj⟩ := List.getElem?_of_mem hw
  rcases zst1_at hj with ⟨-, e2⟩ | ⟨-, e2, -⟩
  · rw [e2]; exact hv
  · exact zokL_get h e2
theorem zokL_st2 {g : zG} {ls : zL} (h : zokL g ls) {k : Nat} {v : zV} (hv : zokV g v) : zokL g (zst2 ls k v) := by
  intro w hw
  unfold zst2 at hw
  have : some w ∈ (zst1 ls k v) ∨ some w = none := List.mem_or_eq_of_mem_set hw
  rcases this with h1 | h1
  · exact zokL_st1 h hv w h1
  · cases h1
/-- the judgement: the machine, here, comes to its end -/
abbrev zX : Type := Program × Launch × Env × Room × State × MethodId × Array Value × List Frame × Method × Code × (State → Prop) × zG × Nat × Nat
def zZ (X : zX) (pc : Nat) (ls : zL) (st : List zV) (mem : zM) : Prop := match X with
  | (p, l, e, R, s, m, args, below, meth, c, Q, g, kc, ks) => zokM mem → zokL g ls → zokS g st → ∀ (H : Heap) (locs : List Loc) (lsA : Array Slot), va_P g.1 vwCl (zWS g mem) H → va_S (zA g) s.heap H locs → zlr g c.maxLocals ls lsA → W p l e R s m args below meth c H locs kc ks Q (F0 m pc lsA (st.map (zup g)))
/-- what holds of a method that runs -/
def zGood (X : zX) (l : Launch) (g : zG) (own : String) (cc : ByteArray) (h nL : Nat) : Prop := match X with
  | (p, l2, e, R, s, m, args, below, meth, c, Q, g2, kc, ks) => p.tables.exec = Jvm.exec ∧ c.code = cc ∧ c.maxLocals = nL ∧ s.vm.findClass own = some m.cls ∧ (∀ w ∈ zW, w.before args s = true) ∧ va_K g.1 vwCl (zTYS g) s ∧ (∀ w ∈ zNW, va_Nw w s) ∧ zGok g ∧ (h ≤ R.frames ∧ kc ≤ R.cells ∧ ks ≤ R.slots) ∧ 38 * h ≤ R.locals ∧ meth.locks = false ∧ l2 = l ∧ g2 = g
def zEnd (X : zX) (ret : Option FieldType) (Rt : Option zV → zM → Prop) : Prop := match X with
  | (p, l, e, R, s, m, args, below, meth, c, Q, g, kc, ks) => meth.sig.returnType = ret ∧ Q = MQ below (zQc g Rt) args s kc ks (zA g)
