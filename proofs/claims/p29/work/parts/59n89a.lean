/-- the memory of what is new -/
def zM0 : zM := fun t s i k => if t = 2 ∧ k = 1 then 2 else if t = 1 ∧ k = 1 then 5 else if t = 45 ∧ k = 3 then 2 else 0
theorem zM0_z {t : Nat} {s i k : Int} (h : ¬ (t = 2 ∧ k = 1) ∧ ¬ (t = 1 ∧ k = 1) ∧ ¬ (t = 45 ∧ k = 3)) : zM0 t s i k = 0 := by
  unfold zM0
  rw [if_neg h.1, if_neg h.2.1, if_neg h.2.2]
theorem zM0_ok : zokM zM0 := fun t s i k => by
  unfold zM0
  split
  · exact ⟨by decide, by decide⟩
  · split
    · exact ⟨by decide, by decide⟩
    · split
      · exact ⟨by decide, by decide⟩
      · exact ⟨by decide, by decide⟩
theorem zIS0 {s : Int} : zIS 0 zM0 s := by
  have z2 : zM0 2 s 0 1 = 2 := rfl
  have z20 : zM0 2 s 0 0 = 0 := rfl
  have z24 : zM0 2 s 0 4 = 0 := rfl
  have z25 : zM0 2 s 0 5 = 0 := rfl
  have z3 : ∀ i k, zM0 3 s i k = 0 := fun i k => zM0_z (by omega)
  have z4 : ∀ i k, zM0 4 s i k = 0 := fun i k => zM0_z (by omega)
  have z5 : ∀ i k, zM0 5 s i k = 0 := fun i k => zM0_z (by omega)
  have z12 : ∀ i k, zM0 12 s i k = 0 := fun i k => zM0_z (by omega)
  have z13 : ∀ i k, zM0 13 s i k = 0 := fun i k => zM0_z (by omega)
  have z14 : ∀ i k, zM0 14 s i k = 0 := fun i k => zM0_z (by omega)
  have z17 : ∀ i k, zM0 17 s i k = 0 := fun i k => zM0_z (by omega)
  unfold zIS zrec zbool zkin
  simp only [z2, z20, z24, z25, z3, z4, z5, z12, z13, z14, z17]
  refine ⟨by decide, by decide, by decide, by decide, fun r r0 r1 => ⟨by decide, by decide, by decide, fun k k0 k1 => by decide⟩, ⟨fun i i0 i1 => Or.inl trivial, fun i i0 i1 => Or.inl trivial⟩, fun i i0 i1 => ⟨⟨by decide, fun k k0 k1 => by omega, fun k k0 k1 => by omega, fun k o k0 k1 => by omega⟩, fun j j0 j1 => by decide, by decide, fun q => by omega, fun q => ⟨trivial, fun j j0 j1 => trivial⟩, fun q => by omega⟩, fun r r0 r1 => ⟨fun k k0 k1 => trivial, fun q => trivial, fun q => by omega⟩, fun j j0 j1 q => by omega⟩
theorem zHd0 : zInv 0 zM0 ∧ zsch zM0 := by
  refine ⟨⟨⟨by decide, by decide⟩, fun j j0 j1 => ?_, fun s s0 s1 => zIS0, by decide, fun j j0 j1 => ?_, fun s s0 s1 => Or.inl (zM0_z (by omega)), fun j j0 j1 => Or.inl (zM0_z (by omega))⟩, fun j j0 j1 => ?_⟩
  · rw [zM0_z (by omega), zM0_z (by omega)]
    decide
  · rw [zM0_z (by omega)]
    decide
  · rw [zM0_z (by omega), zM0_z (by omega), zM0_z (by omega)]
    decide
