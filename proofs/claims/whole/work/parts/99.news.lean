def zCl11s (x : zO) : Prop := x = (11, 0, 0) ∨ x = (45, 0, 0) ∨ x = (46, 0, 0) ∨ x = (47, 0, 0) ∨ x = (48, 0, 0) ∨ x = (49, 0, 0) ∨ x = (50, 0, 0) ∨ x = (51, 0, 0) ∨ x = (52, 0, 0) ∨ x = (53, 0, 0) ∨ x = (54, 0, 0) ∨ x = (55, 0, 0) ∨ x = (56, 0, 0) ∨ x = (57, 0, 0) ∨ x = (58, 0, 0) ∨ x = (59, 0, 0) ∨ x = (60, 0, 0) ∨ x = (61, 0, 0) ∨ x = (62, 0, 0) ∨ x = (63, 0, 0)
set_option maxRecDepth 20000 in
theorem zall {o : zO} (ho : o ∈ zOs) : zCl10 o ∨ zCl11s o := by
  obtain ⟨d, hd, h1, h2, h3, h4, h5⟩ := zmem_of ho
  obtain ⟨t, s, i⟩ := o
  simp only [zDIM, List.mem_cons, List.not_mem_nil, or_false] at hd
  simp only at h1 h2 h3 h4 h5
  rcases hd with rfl | rfl | rfl | rfl | rfl | rfl | rfl | rfl | rfl | rfl | rfl | rfl | rfl | rfl | rfl | rfl | rfl | rfl | rfl | rfl | rfl | rfl | rfl | rfl | rfl | rfl | rfl | rfl | rfl | rfl | rfl | rfl | rfl | rfl | rfl | rfl | rfl | rfl | rfl | rfl | rfl | rfl | rfl | rfl | rfl | rfl | rfl | rfl | rfl | rfl | rfl | rfl | rfl | rfl | rfl | rfl | rfl | rfl | rfl | rfl | rfl | rfl | rfl | rfl | rfl | rfl | rfl | rfl
  · simp only at h1 h2 h3 h4 h5; subst h1; obtain rfl : s = 0 := (by omega); obtain rfl : i = 0 := (by omega); exact Or.inl (Or.inl rfl)
  · simp only at h1 h2 h3 h4 h5; subst h1; obtain rfl : s = 0 := (by omega); obtain rfl : i = 0 := (by omega); exact Or.inl (Or.inr (Or.inr (Or.inl (Or.inl (Or.inl (Or.inl (Or.inl (Or.inr (Or.inl rfl)))))))))
  · simp only at h1 h2 h3 h4 h5; subst h1; exact Or.inl (zallS ⟨by omega, by omega⟩ (zall7 (by omega)))
  · simp only at h1 h2 h3 h4 h5; subst h1; exact Or.inl (zallS ⟨by omega, by omega⟩ (zall7 (by omega)))
  · simp only at h1 h2 h3 h4 h5; subst h1; exact Or.inl (zallS ⟨by omega, by omega⟩ (zall7 (by omega)))
  · simp only at h1 h2 h3 h4 h5; subst h1; obtain rfl : s = 9 := (by omega); obtain rfl : i = 0 := (by omega); exact Or.inl (Or.inr (Or.inr (Or.inl (Or.inl (Or.inl (Or.inr (Or.inr (Or.inl (Or.inl rfl)))))))))
  · simp only at h1 h2 h3 h4 h5; subst h1; exact Or.inl (zallS ⟨by omega, by omega⟩ (zall7 (by omega)))
  · simp only at h1 h2 h3 h4 h5; subst h1; obtain rfl : s = 9 := (by omega); exact Or.inl (Or.inr (Or.inr (Or.inl (Or.inl (Or.inl (Or.inr (Or.inr (Or.inl (Or.inr (Or.inr (Or.inr ⟨i, by omega, by omega, by rw [show 8 * 0 + i = i by omega]⟩)))))))))))
  · simp only at h1 h2 h3 h4 h5; subst h1; obtain rfl : s = 0 := (by omega); obtain rfl : i = 0 := (by omega); exact Or.inl (Or.inr (Or.inr (Or.inl (Or.inl (Or.inl (Or.inr (Or.inr (Or.inr (Or.inl rfl)))))))))
  · simp only at h1 h2 h3 h4 h5; subst h1; obtain rfl : s = 0 := (by omega); obtain rfl : i = 0 := (by omega); exact Or.inl (Or.inr (Or.inr (Or.inl (Or.inl (Or.inl (Or.inr (Or.inl rfl)))))))
  · simp only at h1 h2 h3 h4 h5; subst h1; obtain rfl : s = 0 := (by omega); obtain rfl : i = 0 := (by omega); exact Or.inl (Or.inr (Or.inr (Or.inl (Or.inl (Or.inr (Or.inl rfl))))))
  · simp only at h1 h2 h3 h4 h5; subst h1; obtain rfl : s = 0 := (by omega); obtain rfl : i = 0 := (by omega); exact Or.inl (Or.inr (Or.inr (Or.inl (Or.inl (Or.inr (Or.inr (Or.inr (Or.inr (Or.inl rfl)))))))))
  · simp only at h1 h2 h3 h4 h5; subst h1; obtain rfl : s = 0 := (by omega); obtain rfl : i = 0 := (by omega); exact Or.inl (Or.inr (Or.inr (Or.inl (Or.inr (Or.inl rfl)))))
  · simp only at h1 h2 h3 h4 h5; subst h1; obtain rfl : s = 0 := (by omega); obtain rfl : i = 0 := (by omega); exact Or.inr (Or.inl rfl)
  · simp only at h1 h2 h3 h4 h5; subst h1; exact Or.inl (zallS ⟨by omega, by omega⟩ (zall7 (by omega)))
  · simp only at h1 h2 h3 h4 h5; subst h1; exact Or.inl (zallS ⟨by omega, by omega⟩ (zall7 (by omega)))
  · simp only at h1 h2 h3 h4 h5; subst h1; exact Or.inl (zallS ⟨by omega, by omega⟩ (zall7 (by omega)))
  · simp only at h1 h2 h3 h4 h5; subst h1; exact Or.inl (zallS ⟨by omega, by omega⟩ (zall7 (by omega)))
  · simp only at h1 h2 h3 h4 h5; subst h1; exact Or.inl (zallS ⟨by omega, by omega⟩ (zall7 (by omega)))
  · simp only at h1 h2 h3 h4 h5; subst h1; exact Or.inl (zallS ⟨by omega, by omega⟩ (zall7 (by omega)))
  · simp only at h1 h2 h3 h4 h5; subst h1; obtain rfl : s = 9 := (by omega); obtain rfl : i = 0 := (by omega); exact Or.inl (Or.inr (Or.inr (Or.inl (Or.inl (Or.inl (Or.inr (Or.inr (Or.inl (Or.inr (Or.inl rfl))))))))))
  · simp only at h1 h2 h3 h4 h5; subst h1; exact Or.inl (zallS ⟨by omega, by omega⟩ (zall7 (by omega)))
  · simp only at h1 h2 h3 h4 h5; subst h1; obtain rfl : s = 9 := (by omega); obtain rfl : i = 0 := (by omega); exact Or.inl (Or.inr (Or.inr (Or.inl (Or.inl (Or.inl (Or.inr (Or.inr (Or.inl (Or.inr (Or.inr (Or.inl rfl)))))))))))
  · simp only at h1 h2 h3 h4 h5; subst h1; obtain rfl : s = 0 := (by omega); obtain rfl : i = 0 := (by omega); exact Or.inl (Or.inr (Or.inr (Or.inl (Or.inl (Or.inl (Or.inl (Or.inl (Or.inr (Or.inr (Or.inl rfl))))))))))
  · simp only at h1 h2 h3 h4 h5; subst h1; obtain rfl : s = 0 := (by omega); obtain rfl : i = 0 := (by omega); exact Or.inl (Or.inr (Or.inl rfl))
  · simp only at h1 h2 h3 h4 h5; subst h1; obtain rfl : s = 0 := (by omega); obtain rfl : i = 0 := (by omega); exact Or.inl (Or.inr (Or.inr (Or.inl (Or.inl (Or.inl (Or.inl (Or.inr (rfl))))))))
  · simp only at h1 h2 h3 h4 h5; subst h1; obtain rfl : s = 0 := (by omega); obtain rfl : i = 0 := (by omega); exact Or.inl (Or.inr (Or.inr (Or.inl (Or.inl (Or.inl (Or.inr (Or.inr (Or.inr (Or.inr rfl)))))))))
  · simp only at h1 h2 h3 h4 h5; subst h1; obtain rfl : s = 0 := (by omega); obtain rfl : i = 0 := (by omega); exact Or.inl (Or.inr (Or.inr (Or.inl (Or.inl (Or.inr (Or.inr (Or.inl ⟨by decide, by decide, rfl, rfl⟩)))))))
  · simp only at h1 h2 h3 h4 h5; subst h1; obtain rfl : s = 0 := (by omega); obtain rfl : i = 0 := (by omega); exact Or.inl (Or.inr (Or.inr (Or.inl (Or.inl (Or.inr (Or.inr (Or.inl ⟨by decide, by decide, rfl, rfl⟩)))))))
  · simp only at h1 h2 h3 h4 h5; subst h1; obtain rfl : s = 0 := (by omega); obtain rfl : i = 0 := (by omega); exact Or.inl (Or.inr (Or.inr (Or.inl (Or.inl (Or.inr (Or.inr (Or.inl ⟨by decide, by decide, rfl, rfl⟩)))))))
  · simp only at h1 h2 h3 h4 h5; subst h1; obtain rfl : s = 0 := (by omega); obtain rfl : i = 0 := (by omega); exact Or.inl (Or.inr (Or.inr (Or.inl (Or.inl (Or.inr (Or.inr (Or.inl ⟨by decide, by decide, rfl, rfl⟩)))))))
  · simp only at h1 h2 h3 h4 h5; subst h1; obtain rfl : s = 0 := (by omega); obtain rfl : i = 0 := (by omega); exact Or.inl (Or.inr (Or.inr (Or.inl (Or.inl (Or.inr (Or.inr (Or.inl ⟨by decide, by decide, rfl, rfl⟩)))))))
  · simp only at h1 h2 h3 h4 h5; subst h1; obtain rfl : s = 0 := (by omega); obtain rfl : i = 0 := (by omega); exact Or.inl (Or.inr (Or.inr (Or.inl (Or.inl (Or.inr (Or.inr (Or.inl ⟨by decide, by decide, rfl, rfl⟩)))))))
  · simp only at h1 h2 h3 h4 h5; subst h1; obtain rfl : s = 0 := (by omega); obtain rfl : i = 0 := (by omega); exact Or.inl (Or.inr (Or.inr (Or.inl (Or.inl (Or.inr (Or.inr (Or.inl ⟨by decide, by decide, rfl, rfl⟩)))))))
  · simp only at h1 h2 h3 h4 h5; subst h1; obtain rfl : s = 0 := (by omega); obtain rfl : i = 0 := (by omega); exact Or.inl (Or.inr (Or.inr (Or.inl (Or.inl (Or.inr (Or.inr (Or.inl ⟨by decide, by decide, rfl, rfl⟩)))))))
  · simp only at h1 h2 h3 h4 h5; subst h1; obtain rfl : s = 0 := (by omega); obtain rfl : i = 0 := (by omega); exact Or.inl (Or.inr (Or.inr (Or.inl (Or.inl (Or.inr (Or.inr (Or.inr (Or.inl (Or.inl rfl)))))))))
  · simp only at h1 h2 h3 h4 h5; subst h1; obtain rfl : s = 0 := (by omega); exact Or.inl (Or.inr (Or.inr (Or.inl (Or.inl (Or.inr (Or.inr (Or.inr (Or.inl (Or.inr ⟨i, by omega, by omega, rfl⟩)))))))))
  · simp only at h1 h2 h3 h4 h5; subst h1; obtain rfl : s = 0 := (by omega); obtain rfl : i = 0 := (by omega); exact Or.inl (Or.inr (Or.inr (Or.inl (Or.inl (Or.inr (Or.inr (Or.inr (Or.inr (Or.inr (Or.inl rfl))))))))))
  · simp only at h1 h2 h3 h4 h5; subst h1; obtain rfl : s = 0 := (by omega); obtain rfl : i = 0 := (by omega); exact Or.inl (Or.inr (Or.inr (Or.inl (Or.inl (Or.inr (Or.inr (Or.inr (Or.inr (Or.inr (Or.inr (Or.inl rfl)))))))))))
  · simp only at h1 h2 h3 h4 h5; subst h1; obtain rfl : s = 0 := (by omega); obtain rfl : i = 0 := (by omega); exact Or.inl (Or.inr (Or.inr (Or.inl (Or.inl (Or.inr (Or.inr (Or.inr (Or.inr (Or.inr (Or.inr (Or.inr (Or.inl rfl))))))))))))
  · simp only at h1 h2 h3 h4 h5; subst h1; obtain rfl : s = 0 := (by omega); obtain rfl : i = 0 := (by omega); exact Or.inl (Or.inr (Or.inr (Or.inl (Or.inl (Or.inr (Or.inr (Or.inr (Or.inr (Or.inr (Or.inr (Or.inr (Or.inr (Or.inl rfl)))))))))))))
  · simp only at h1 h2 h3 h4 h5; subst h1; obtain rfl : s = 0 := (by omega); obtain rfl : i = 0 := (by omega); exact Or.inl (Or.inr (Or.inr (Or.inl (Or.inl (Or.inr (Or.inr (Or.inr (Or.inr (Or.inr (Or.inr (Or.inr (Or.inr (Or.inr (Or.inl rfl))))))))))))))
  · simp only at h1 h2 h3 h4 h5; subst h1; obtain rfl : s = 0 := (by omega); obtain rfl : i = 0 := (by omega); exact Or.inl (Or.inr (Or.inr (Or.inl (Or.inl (Or.inr (Or.inr (Or.inr (Or.inr (Or.inr (Or.inr (Or.inr (Or.inr (Or.inr (Or.inr (rfl)))))))))))))))
  · simp only at h1 h2 h3 h4 h5; subst h1; obtain rfl : s = 0 := (by omega); obtain rfl : i = 0 := (by omega); exact Or.inl (Or.inr (Or.inr (Or.inl (Or.inr (Or.inr (Or.inl rfl))))))
  · simp only at h1 h2 h3 h4 h5; subst h1; obtain rfl : s = 0 := (by omega); obtain rfl : i = 0 := (by omega); exact Or.inl (Or.inr (Or.inr (Or.inl (Or.inr (Or.inr (Or.inr (Or.inl rfl)))))))
  · simp only at h1 h2 h3 h4 h5; subst h1; obtain rfl : s = 0 := (by omega); obtain rfl : i = 0 := (by omega); exact Or.inl (Or.inr (Or.inr (Or.inl (Or.inr (Or.inr (Or.inr (Or.inr (Or.inl rfl))))))))
  · simp only at h1 h2 h3 h4 h5; subst h1; obtain rfl : s = 0 := (by omega); obtain rfl : i = 0 := (by omega); exact Or.inl (Or.inr (Or.inr (Or.inl (Or.inr (Or.inr (Or.inr (Or.inr (Or.inr (Or.inl rfl)))))))))
  · simp only at h1 h2 h3 h4 h5; subst h1; obtain rfl : s = 0 := (by omega); obtain rfl : i = 0 := (by omega); exact Or.inl (Or.inr (Or.inr (Or.inl (Or.inr (Or.inr (Or.inr (Or.inr (Or.inr (Or.inr (Or.inl rfl))))))))))
  · simp only at h1 h2 h3 h4 h5; subst h1; obtain rfl : s = 0 := (by omega); obtain rfl : i = 0 := (by omega); exact Or.inl (Or.inr (Or.inr (Or.inl (Or.inr (Or.inr (Or.inr (Or.inr (Or.inr (Or.inr (Or.inr (rfl)))))))))))
  · simp only at h1 h2 h3 h4 h5; subst h1; obtain rfl : s = 0 := (by omega); obtain rfl : i = 0 := (by omega); exact Or.inr (Or.inr (Or.inl rfl))
  · simp only at h1 h2 h3 h4 h5; subst h1; obtain rfl : s = 0 := (by omega); obtain rfl : i = 0 := (by omega); exact Or.inr (Or.inr (Or.inr (Or.inl rfl)))
  · simp only at h1 h2 h3 h4 h5; subst h1; obtain rfl : s = 0 := (by omega); obtain rfl : i = 0 := (by omega); exact Or.inr (Or.inr (Or.inr (Or.inr (Or.inl rfl))))
  · simp only at h1 h2 h3 h4 h5; subst h1; obtain rfl : s = 0 := (by omega); obtain rfl : i = 0 := (by omega); exact Or.inr (Or.inr (Or.inr (Or.inr (Or.inr (Or.inl rfl)))))
  · simp only at h1 h2 h3 h4 h5; subst h1; obtain rfl : s = 0 := (by omega); obtain rfl : i = 0 := (by omega); exact Or.inr (Or.inr (Or.inr (Or.inr (Or.inr (Or.inr (Or.inl rfl))))))
  · simp only at h1 h2 h3 h4 h5; subst h1; obtain rfl : s = 0 := (by omega); obtain rfl : i = 0 := (by omega); exact Or.inr (Or.inr (Or.inr (Or.inr (Or.inr (Or.inr (Or.inr (Or.inl rfl)))))))
  · simp only at h1 h2 h3 h4 h5; subst h1; obtain rfl : s = 0 := (by omega); obtain rfl : i = 0 := (by omega); exact Or.inr (Or.inr (Or.inr (Or.inr (Or.inr (Or.inr (Or.inr (Or.inr (Or.inl rfl))))))))
  · simp only at h1 h2 h3 h4 h5; subst h1; obtain rfl : s = 0 := (by omega); obtain rfl : i = 0 := (by omega); exact Or.inr (Or.inr (Or.inr (Or.inr (Or.inr (Or.inr (Or.inr (Or.inr (Or.inr (Or.inl rfl)))))))))
  · simp only at h1 h2 h3 h4 h5; subst h1; obtain rfl : s = 0 := (by omega); obtain rfl : i = 0 := (by omega); exact Or.inr (Or.inr (Or.inr (Or.inr (Or.inr (Or.inr (Or.inr (Or.inr (Or.inr (Or.inr (Or.inl rfl))))))))))
  · simp only at h1 h2 h3 h4 h5; subst h1; obtain rfl : s = 0 := (by omega); obtain rfl : i = 0 := (by omega); exact Or.inr (Or.inr (Or.inr (Or.inr (Or.inr (Or.inr (Or.inr (Or.inr (Or.inr (Or.inr (Or.inr (Or.inl rfl)))))))))))
  · simp only at h1 h2 h3 h4 h5; subst h1; obtain rfl : s = 0 := (by omega); obtain rfl : i = 0 := (by omega); exact Or.inr (Or.inr (Or.inr (Or.inr (Or.inr (Or.inr (Or.inr (Or.inr (Or.inr (Or.inr (Or.inr (Or.inr (Or.inl rfl))))))))))))
  · simp only at h1 h2 h3 h4 h5; subst h1; obtain rfl : s = 0 := (by omega); obtain rfl : i = 0 := (by omega); exact Or.inr (Or.inr (Or.inr (Or.inr (Or.inr (Or.inr (Or.inr (Or.inr (Or.inr (Or.inr (Or.inr (Or.inr (Or.inr (Or.inl rfl)))))))))))))
  · simp only at h1 h2 h3 h4 h5; subst h1; obtain rfl : s = 0 := (by omega); obtain rfl : i = 0 := (by omega); exact Or.inr (Or.inr (Or.inr (Or.inr (Or.inr (Or.inr (Or.inr (Or.inr (Or.inr (Or.inr (Or.inr (Or.inr (Or.inr (Or.inr (Or.inl rfl))))))))))))))
  · simp only at h1 h2 h3 h4 h5; subst h1; obtain rfl : s = 0 := (by omega); obtain rfl : i = 0 := (by omega); exact Or.inr (Or.inr (Or.inr (Or.inr (Or.inr (Or.inr (Or.inr (Or.inr (Or.inr (Or.inr (Or.inr (Or.inr (Or.inr (Or.inr (Or.inr (Or.inl rfl)))))))))))))))
  · simp only at h1 h2 h3 h4 h5; subst h1; obtain rfl : s = 0 := (by omega); obtain rfl : i = 0 := (by omega); exact Or.inr (Or.inr (Or.inr (Or.inr (Or.inr (Or.inr (Or.inr (Or.inr (Or.inr (Or.inr (Or.inr (Or.inr (Or.inr (Or.inr (Or.inr (Or.inr (Or.inl rfl))))))))))))))))
  · simp only at h1 h2 h3 h4 h5; subst h1; obtain rfl : s = 0 := (by omega); obtain rfl : i = 0 := (by omega); exact Or.inr (Or.inr (Or.inr (Or.inr (Or.inr (Or.inr (Or.inr (Or.inr (Or.inr (Or.inr (Or.inr (Or.inr (Or.inr (Or.inr (Or.inr (Or.inr (Or.inr (Or.inl rfl)))))))))))))))))
  · simp only at h1 h2 h3 h4 h5; subst h1; obtain rfl : s = 0 := (by omega); obtain rfl : i = 0 := (by omega); exact Or.inr (Or.inr (Or.inr (Or.inr (Or.inr (Or.inr (Or.inr (Or.inr (Or.inr (Or.inr (Or.inr (Or.inr (Or.inr (Or.inr (Or.inr (Or.inr (Or.inr (Or.inr (Or.inl rfl))))))))))))))))))
  · simp only at h1 h2 h3 h4 h5; subst h1; obtain rfl : s = 0 := (by omega); obtain rfl : i = 0 := (by omega); exact Or.inr (Or.inr (Or.inr (Or.inr (Or.inr (Or.inr (Or.inr (Or.inr (Or.inr (Or.inr (Or.inr (Or.inr (Or.inr (Or.inr (Or.inr (Or.inr (Or.inr (Or.inr (Or.inr (Or.inl rfl)))))))))))))))))))
  · simp only at h1 h2 h3 h4 h5; subst h1; obtain rfl : s = 0 := (by omega); obtain rfl : i = 0 := (by omega); exact Or.inr (Or.inr (Or.inr (Or.inr (Or.inr (Or.inr (Or.inr (Or.inr (Or.inr (Or.inr (Or.inr (Or.inr (Or.inr (Or.inr (Or.inr (Or.inr (Or.inr (Or.inr (Or.inr (Or.inr (rfl))))))))))))))))))))
theorem n_astore_n {X : zX} {A : Nat → Prop} {l : Launch} {g : zG} {own : String} {cc : ByteArray} {h nL pc cl sl : Nat} {lv : List (Nat × Value)} {st : List Value} {ow : va_W} {wo : List Nat} {S : zO → Prop} {ad : zO → Nat} (hC : zNc X A l g own cc h nL) {k : Fin 4} {i x : Nat} {lv' : List (Nat × Value)} (hd : decode cc pc = .ok (.astore_n k, 1)) (hi : (k : Nat) = i) (hn : i < nL) (hlv : (i, Value.ref x) :: lv.filter (fun q => !(q.1 == i) && !(q.1 + 1 == i && q.2.category == 2)) = lv') (K : zNw X A (pc + 1) lv' st ow wo S ad cl sl) : zNw X A pc lv (.ref x :: st) ow wo S ad cl sl := by
  obtain ⟨p, l, e, R, s, m, args, below, meth, c, Q, g⟩ := X
  obtain ⟨hx, hb, hml, hown, hts, hK, hAO, hR1, hR2, hlk, hl2, hg2, hA⟩ := hC
  subst hl2 hg2
  intro H locs lsA hP hD hB hS hw hl
  refine lv_astore_n (lv' := lv') hx hb hd hi hl (by omega) hlv (fun ls hl => ?_)
  exact K H locs ls hP hD hB hS hw hl
theorem zCl10_g {x : zO} (h : zCl10 x) : zgrp x ≠ 9 := by
  rcases h with rfl | rfl | h | ⟨j, j0, j1, hj⟩
  · decide
  · decide
  · have h1 := zS6_g h
    omega
  · have h1 := zCl7_g (s := 7 + j) (by omega) hj
    omega
theorem zCl11_g {x : zO} (h : zCl11s x) : zgrp x = 9 := by
  rcases h with rfl | rfl | rfl | rfl | rfl | rfl | rfl | rfl | rfl | rfl | rfl | rfl | rfl | rfl | rfl | rfl | rfl | rfl | rfl | rfl <;> rfl
theorem zref11 {s i : Int} {o : zO} (h : zrefOf (11, s, i) o) : zCl11s o := by
  rcases h with ⟨c, k, q1, q2, q3, q4⟩ | ⟨q, j, q1, -⟩
  · cases q1
    have hk : k < 31 := q2
    rw [q4]
    unfold zCl11s
    rcases (show k = 0 ∨ k = 1 ∨ k = 2 ∨ k = 3 ∨ k = 4 ∨ k = 5 ∨ k = 6 ∨ k = 7 ∨ k = 8 ∨ k = 9 ∨ k = 10 ∨ k = 11 ∨ k = 12 ∨ k = 13 ∨ k = 14 ∨ k = 15 ∨ k = 16 ∨ k = 17 ∨ k = 18 ∨ k = 19 ∨ k = 20 ∨ k = 21 ∨ k = 22 ∨ k = 23 ∨ k = 24 ∨ k = 25 ∨ k = 26 ∨ k = 27 ∨ k = 28 ∨ k = 29 ∨ k = 30 by omega) with rfl | rfl | rfl | rfl | rfl | rfl | rfl | rfl | rfl | rfl | rfl | rfl | rfl | rfl | rfl | rfl | rfl | rfl | rfl | rfl | rfl | rfl | rfl | rfl | rfl | rfl | rfl | rfl | rfl | rfl | rfl <;> first | (cases q3; done) | (simp [zFref]; done)
  · cases q1
theorem zCl11_r {x o : zO} (h : zCl11s x) (hr : zrefOf x o) : zCl11s o := by
  rcases h with rfl | rfl | rfl | rfl | rfl | rfl | rfl | rfl | rfl | rfl | rfl | rfl | rfl | rfl | rfl | rfl | rfl | rfl | rfl | rfl
  · exact zref11 hr
  all_goals exact absurd hr (zno_ref rfl rfl rfl)
theorem zS7c_r {x o : zO} (h : zCl10 x) (hr : zrefOf x o) : zgrp o ≠ 9 := by
  rcases h with rfl | rfl | h | ⟨j, j0, j1, hj⟩
  · rcases hr with ⟨c, k, q1, q2, q3, q4⟩ | ⟨q, j, q1, -⟩
    · cases q1
      have hk : k < 8 := q2
      rw [q4]
      rcases (show k = 0 ∨ k = 1 ∨ k = 2 ∨ k = 3 ∨ k = 4 ∨ k = 5 ∨ k = 6 ∨ k = 7 by omega) with rfl | rfl | rfl | rfl | rfl | rfl | rfl | rfl <;> decide
    · cases q1
  · obtain ⟨j, hj, e⟩ := zref_arr (t := 20) rfl rfl hr
    have h1 := zCl7_g (s := 7 + (j : Int)) (x := o) (by omega) (Or.inl e)
    omega
  · have h1 := zS6_g (zS6_r h hr)
    omega
  · have h1 := zCl7_g (s := 7 + j) (by omega) (zCl7_r hj hr)
    omega
