theorem KAO_X7 : Cond.arrayOver (.object "TinKitchen$State") ∈ lw_tbl := List.mem_of_getElem? (i := 234) (by decide +kernel)
theorem KAO_X1 : Cond.arrayOver (.object "TinKitchen$Ingredient") ∈ lw_tbl := List.mem_of_getElem? (i := 59) (by decide +kernel)
theorem KAO_X4 : Cond.arrayOver (.object "TinKitchen$Recipe") ∈ lw_tbl := List.mem_of_getElem? (i := 61) (by decide +kernel)
theorem KAO_X8 : Cond.arrayOver (.object "TinKitchen$Step") ∈ lw_tbl := List.mem_of_getElem? (i := 130) (by decide +kernel)
theorem KAO_I : Cond.arrayOver (.array .int) ∈ lw_tbl := List.mem_of_getElem? (i := 294) (by decide +kernel)
theorem zNW_t : ∀ w ∈ zNW, w ∈ lw_tbl := List.forall_mem_cons.mpr ⟨List.mem_of_getElem? (i := 537) (by decide +kernel), List.forall_mem_cons.mpr ⟨List.mem_of_getElem? (i := 587) (by decide +kernel), List.forall_mem_cons.mpr ⟨List.mem_of_getElem? (i := 602) (by decide +kernel), List.forall_mem_cons.mpr ⟨List.mem_of_getElem? (i := 695) (by decide +kernel), fun _ h => by cases h⟩⟩⟩⟩
theorem zNW2_t : ∀ w ∈ zNW2, w ∈ lw_tbl := List.forall_mem_cons.mpr ⟨List.mem_of_getElem? (i := 132) (by decide +kernel), List.forall_mem_cons.mpr ⟨List.mem_of_getElem? (i := 63) (by decide +kernel), List.forall_mem_cons.mpr ⟨List.mem_of_getElem? (i := 249) (by decide +kernel), List.forall_mem_cons.mpr ⟨List.mem_of_getElem? (i := 257) (by decide +kernel), List.forall_mem_cons.mpr ⟨List.mem_of_getElem? (i := 289) (by decide +kernel), List.forall_mem_cons.mpr ⟨List.mem_of_getElem? (i := 297) (by decide +kernel), List.forall_mem_cons.mpr ⟨List.mem_of_getElem? (i := 377) (by decide +kernel), fun _ h => by cases h⟩⟩⟩⟩⟩⟩⟩
theorem zArr_c {s : State} {args : Array Value} {ty : FieldType} (h : (Cond.arrayClass ty).before args s = true) (ht : ∀ c, s.vm.findClass ("[" ++ ty.toString) = some c → va_RA s c ty) : ∃ c, ArrOfT s c ty ∧ va_RA s c ty := by
  obtain ⟨c, k, comp, h1, h2, h3⟩ := Cond.arrayClass_spec h
  exact ⟨c, fun n z => ⟨fun k h => (by cases h), k, h2, comp, h3⟩, ht c h1⟩
theorem zArr_o {s : State} {args : Array Value} {C : String} (h : (Cond.arrayOver (.object C)).before args s = true) : ∃ c, ArrOfT s c (.object C) ∧ va_RA s c (.object C) := by
  obtain ⟨comp, c, k, h1, -, h3, h4, h5⟩ := Cond.arrayOver_spec h
  exact ⟨c, fun n z => ⟨fun k h => (by cases h), k, h3, comp, h4⟩, k, comp, h3, h4, h1, h5⟩
theorem zArr_a {s : State} {args : Array Value} (h : (Cond.arrayOver (.array .int)).before args s = true) : ∃ c, ArrOfT s c (.array .int) ∧ va_RA s c (.array .int) := by
  obtain ⟨comp, c, k, h1, h3, h4, h5⟩ := Cond.arrayOver_specA h
  exact ⟨c, fun n z => ⟨fun k h => (by cases h), k, h3, comp, h4⟩, h5⟩
theorem zK_start {s : State} {args : Array Value} (hts : ∀ w ∈ lw_tbl, w.before args s = true) : ∃ (D : va_G) (cA : Nat → ClassId), ∀ ad : zO → Nat, va_K D vwCl (zTYS (D, ad, cA)) s := by
  have htz : ∀ w ∈ zW, w.before args s = true := fun w hw => hts w (zW_tbl hw)
  have h1 : ∀ k : Nat, ∃ y : ClassId × (Nat → Nat), ∀ q : vw_C, vwCl[k]? = some q → u_Kn s q.1 q.2.1 q.2.2 y.1 y.2 := by
    intro k
    match k with
    | 0 =>
      obtain ⟨cC, iS, h⟩ := u_known htz wu_X0 (htz _ KI_X0)
      exact ⟨(cC, iS), fun q hq => by cases hq; exact h⟩
    | 1 =>
      obtain ⟨cC, iS, h⟩ := u_known htz wu_X1 (htz _ KI_X1)
      exact ⟨(cC, iS), fun q hq => by cases hq; exact h⟩
    | 2 =>
      obtain ⟨cC, iS, h⟩ := u_known htz wu_X2 (htz _ KI_X2)
      exact ⟨(cC, iS), fun q hq => by cases hq; exact h⟩
    | 3 =>
      obtain ⟨cC, iS, h⟩ := u_known htz wu_X3 (htz _ KI_X3)
      exact ⟨(cC, iS), fun q hq => by cases hq; exact h⟩
    | 4 =>
      obtain ⟨cC, iS, h⟩ := u_known htz wu_X4 (htz _ KI_X4)
      exact ⟨(cC, iS), fun q hq => by cases hq; exact h⟩
    | 5 =>
      obtain ⟨cC, iS, h⟩ := u_known htz wu_X5 (htz _ KI_X5)
      exact ⟨(cC, iS), fun q hq => by cases hq; exact h⟩
    | 6 =>
      obtain ⟨cC, iS, h⟩ := u_known htz wu_X6 (htz _ KI_X6)
      exact ⟨(cC, iS), fun q hq => by cases hq; exact h⟩
    | 7 =>
      obtain ⟨cC, iS, h⟩ := u_known htz wu_X7 (htz _ KI_X7)
      exact ⟨(cC, iS), fun q hq => by cases hq; exact h⟩
    | 8 =>
      obtain ⟨cC, iS, h⟩ := u_known htz wu_X8 (htz _ KI_X8)
      exact ⟨(cC, iS), fun q hq => by cases hq; exact h⟩
    | 9 =>
      obtain ⟨cC, iS, h⟩ := u_known htz wu_X9 (htz _ KI_X9)
      exact ⟨(cC, iS), fun q hq => by cases hq; exact h⟩
    | 10 =>
      obtain ⟨cC, iS, h⟩ := u_known htz wu_X10 (htz _ KI_X10)
      exact ⟨(cC, iS), fun q hq => by cases hq; exact h⟩
    | k + 11 => exact ⟨(0, fun _ => 0), fun q hq => by cases hq⟩
  obtain ⟨f, hf⟩ := Classical.axiomOfChoice h1
  have h2 : ∀ k : Nat, ∃ c : ClassId, k < 8 → ArrOfT s c (zTY.getD k .int) ∧ va_RA s c (zTY.getD k .int) := by
    intro k
    match k with
    | 0 => obtain ⟨c, h⟩ := zArr_c (htz _ KA_int) (fun _ h => h); exact ⟨c, fun _ => h⟩
    | 1 => obtain ⟨c, h⟩ := zArr_c (htz _ KA_boolean) (fun _ h => h); exact ⟨c, fun _ => h⟩
    | 2 => obtain ⟨c, h⟩ := zArr_c (htz _ KA_char) (fun _ h => h); exact ⟨c, fun _ => h⟩
    | 3 => obtain ⟨c, h⟩ := zArr_o (hts _ KAO_X7); exact ⟨c, fun _ => h⟩
    | 4 => obtain ⟨c, h⟩ := zArr_o (hts _ KAO_X1); exact ⟨c, fun _ => h⟩
    | 5 => obtain ⟨c, h⟩ := zArr_o (hts _ KAO_X4); exact ⟨c, fun _ => h⟩
    | 6 => obtain ⟨c, h⟩ := zArr_o (hts _ KAO_X8); exact ⟨c, fun _ => h⟩
    | 7 => obtain ⟨c, h⟩ := zArr_a (hts _ KAO_I); exact ⟨c, fun _ => h⟩
    | k + 8 => exact ⟨0, fun h => by omega⟩
  obtain ⟨cA, hc⟩ := Classical.axiomOfChoice h2
  refine ⟨(fun k => (f k).1, fun k => (f k).2), cA, fun ad => ⟨fun c q hq => hf c q hq, fun k q hq => ?_⟩⟩
  have hk : k < 8 := by
    have := (List.getElem?_eq_some_iff.mp hq).1
    simpa [zTYS] using this
  rw [zTYS_at hk] at hq
  cases hq
  exact hc k hk
theorem zAO_start {s : State} {args : Array Value} (hts : ∀ w ∈ lw_tbl, w.before args s = true) : zAOs s := by
  refine ⟨fun C hC => ?_, hts _ KAO_I, fun w hw => ?_⟩
  · simp only [zAOn, List.mem_cons, List.not_mem_nil, or_false] at hC
    rcases hC with rfl | rfl | rfl | rfl
    · exact hts _ KAO_X7
    · exact hts _ KAO_X1
    · exact hts _ KAO_X4
    · exact hts _ KAO_X8
  · have h1 := hts w (zNW2_t w hw)
    obtain ⟨r, -, rfl⟩ := List.mem_map.mp hw
    exact va_Nw.of rfl h1
theorem zNW_start {s : State} {args : Array Value} (hts : ∀ w ∈ lw_tbl, w.before args s = true) : ∀ w ∈ zNW, va_Nw w s := fun w hw => by
  have h1 := hts w (zNW_t w hw)
  obtain ⟨r, -, rfl⟩ := List.mem_map.mp hw
  exact va_Nw.of rfl h1
/-- all that stands in the world is made -/

theorem zall7 {s i : Int} {t : Nat} (h : (t = 2 ∧ i = 0) ∨ ((t = 15 ∨ t = 16) ∧ i = 0) ∨ ((t = 3 ∨ t = 12 ∨ t = 13 ∨ t = 14) ∧ 0 ≤ i ∧ i < 8) ∨ ((t = 4 ∨ t = 17 ∨ t = 18) ∧ 0 ≤ i ∧ i < 4) ∨ (t = 5 ∧ 0 ≤ i ∧ i < 32)) : zCl7 s (t, s, i) := by
  rcases h with ⟨rfl, rfl⟩ | ⟨h, rfl⟩ | ⟨h, i0, i1⟩ | ⟨h, i0, i1⟩ | ⟨rfl, i0, i1⟩
  · exact Or.inl rfl
  · rcases h with rfl | rfl
    · exact Or.inr (Or.inl rfl)
    · exact Or.inr (Or.inr (Or.inl rfl))
  · refine Or.inr (Or.inr (Or.inr (Or.inl ⟨i, i0, i1, ?_⟩)))
    rcases h with rfl | rfl | rfl | rfl
    · exact Or.inl rfl
    · exact Or.inr (Or.inl rfl)
    · exact Or.inr (Or.inr (Or.inl rfl))
    · exact Or.inr (Or.inr (Or.inr rfl))
  · refine Or.inr (Or.inr (Or.inr (Or.inr ⟨i, i0, i1, ?_⟩)))
    rcases h with rfl | rfl | rfl
    · exact Or.inl rfl
    · exact Or.inr (Or.inl rfl)
    · exact Or.inr (Or.inr (Or.inl rfl))
  · refine Or.inr (Or.inr (Or.inr (Or.inr ⟨i / 8, by omega, by omega, Or.inr (Or.inr (Or.inr ⟨i % 8, by omega, by omega, ?_⟩))⟩)))
    rw [show 8 * (i / 8) + i % 8 = i by omega]
theorem zallS {s i : Int} {t : Nat} (hs : 0 ≤ s ∧ s < 9) (h : zCl7 s (t, s, i)) : zCl10 (t, s, i) := by
  by_cases h0 : s = 0
  · subst h0
    exact Or.inr (Or.inr (Or.inl (Or.inl (Or.inl (Or.inl (Or.inl (Or.inl h)))))))
  · by_cases h6 : s ≤ 6
    · exact Or.inr (Or.inr (Or.inl (Or.inl (Or.inl (Or.inl (Or.inl (Or.inr (Or.inr (Or.inr ⟨s - 1, by omega, by omega, by rw [show 1 + (s - 1) = s by omega]; exact h⟩)))))))))
    · exact Or.inr (Or.inr (Or.inr ⟨s - 7, by omega, by omega, by rw [show 7 + (s - 7) = s by omega]; exact h⟩))
