set_option maxRecDepth 20000 in
theorem zall {o : zO} (ho : o ∈ zBase) : zCl10 o := by
  obtain ⟨d, hd, h1, h2, h3, h4, h5⟩ := zbase_of ho
  obtain ⟨t, s, i⟩ := o
  simp only [zDIM, List.mem_cons, List.not_mem_nil, or_false] at hd
  simp only at h1 h2 h3 h4 h5
  rcases hd with rfl | rfl | rfl | rfl | rfl | rfl | rfl | rfl | rfl | rfl | rfl | rfl | rfl | rfl | rfl | rfl | rfl | rfl | rfl | rfl | rfl | rfl | rfl | rfl | rfl | rfl | rfl | rfl | rfl | rfl | rfl | rfl | rfl | rfl | rfl | rfl | rfl | rfl | rfl | rfl | rfl | rfl | rfl | rfl | rfl | rfl | rfl | rfl
  · simp only at h1 h2 h3 h4 h5; subst h1; obtain rfl : s = 0 := (by omega); obtain rfl : i = 0 := (by omega); exact Or.inl rfl
  · simp only at h1 h2 h3 h4 h5; subst h1; obtain rfl : s = 0 := (by omega); obtain rfl : i = 0 := (by omega); exact Or.inr (Or.inr (Or.inl (Or.inl (Or.inl (Or.inl (Or.inl (Or.inr (Or.inl rfl))))))))
  · simp only at h1 h2 h3 h4 h5; subst h1; exact zallS ⟨by omega, by omega⟩ (zall7 (by omega))
  · simp only at h1 h2 h3 h4 h5; subst h1; exact zallS ⟨by omega, by omega⟩ (zall7 (by omega))
  · simp only at h1 h2 h3 h4 h5; subst h1; exact zallS ⟨by omega, by omega⟩ (zall7 (by omega))
  · simp only at h1 h2 h3 h4 h5; subst h1; obtain rfl : s = 9 := (by omega); obtain rfl : i = 0 := (by omega); exact Or.inr (Or.inr (Or.inl (Or.inl (Or.inl (Or.inr (Or.inr (Or.inl (Or.inl rfl))))))))
  · simp only at h1 h2 h3 h4 h5; subst h1; exact zallS ⟨by omega, by omega⟩ (zall7 (by omega))
  · simp only at h1 h2 h3 h4 h5; subst h1; obtain rfl : s = 9 := (by omega); exact Or.inr (Or.inr (Or.inl (Or.inl (Or.inl (Or.inr (Or.inr (Or.inl (Or.inr (Or.inr (Or.inr ⟨i, by omega, by omega, by rw [show 8 * 0 + i = i by omega]⟩))))))))))
  · simp only at h1 h2 h3 h4 h5; subst h1; obtain rfl : s = 0 := (by omega); obtain rfl : i = 0 := (by omega); exact Or.inr (Or.inr (Or.inl (Or.inl (Or.inl (Or.inr (Or.inr (Or.inr (Or.inl rfl))))))))
  · simp only at h1 h2 h3 h4 h5; subst h1; obtain rfl : s = 0 := (by omega); obtain rfl : i = 0 := (by omega); exact Or.inr (Or.inr (Or.inl (Or.inl (Or.inl (Or.inr (Or.inl rfl))))))
  · simp only at h1 h2 h3 h4 h5; subst h1; obtain rfl : s = 0 := (by omega); obtain rfl : i = 0 := (by omega); exact Or.inr (Or.inr (Or.inl (Or.inl (Or.inr (Or.inl rfl)))))
  · simp only at h1 h2 h3 h4 h5; subst h1; obtain rfl : s = 0 := (by omega); obtain rfl : i = 0 := (by omega); exact Or.inr (Or.inr (Or.inl (Or.inl (Or.inr (Or.inr (Or.inr (Or.inr (Or.inl rfl))))))))
  · simp only at h1 h2 h3 h4 h5; subst h1; obtain rfl : s = 0 := (by omega); obtain rfl : i = 0 := (by omega); exact Or.inr (Or.inr (Or.inl (Or.inr (Or.inl rfl))))
  · simp only at h1 h2 h3 h4 h5; subst h1; exact zallS ⟨by omega, by omega⟩ (zall7 (by omega))
  · simp only at h1 h2 h3 h4 h5; subst h1; exact zallS ⟨by omega, by omega⟩ (zall7 (by omega))
  · simp only at h1 h2 h3 h4 h5; subst h1; exact zallS ⟨by omega, by omega⟩ (zall7 (by omega))
  · simp only at h1 h2 h3 h4 h5; subst h1; exact zallS ⟨by omega, by omega⟩ (zall7 (by omega))
  · simp only at h1 h2 h3 h4 h5; subst h1; exact zallS ⟨by omega, by omega⟩ (zall7 (by omega))
  · simp only at h1 h2 h3 h4 h5; subst h1; exact zallS ⟨by omega, by omega⟩ (zall7 (by omega))
  · simp only at h1 h2 h3 h4 h5; subst h1; obtain rfl : s = 9 := (by omega); obtain rfl : i = 0 := (by omega); exact Or.inr (Or.inr (Or.inl (Or.inl (Or.inl (Or.inr (Or.inr (Or.inl (Or.inr (Or.inl rfl)))))))))
  · simp only at h1 h2 h3 h4 h5; subst h1; exact zallS ⟨by omega, by omega⟩ (zall7 (by omega))
  · simp only at h1 h2 h3 h4 h5; subst h1; obtain rfl : s = 9 := (by omega); obtain rfl : i = 0 := (by omega); exact Or.inr (Or.inr (Or.inl (Or.inl (Or.inl (Or.inr (Or.inr (Or.inl (Or.inr (Or.inr (Or.inl rfl))))))))))
  · simp only at h1 h2 h3 h4 h5; subst h1; obtain rfl : s = 0 := (by omega); obtain rfl : i = 0 := (by omega); exact Or.inr (Or.inr (Or.inl (Or.inl (Or.inl (Or.inl (Or.inl (Or.inr (Or.inr (Or.inl rfl)))))))))
  · simp only at h1 h2 h3 h4 h5; subst h1; obtain rfl : s = 0 := (by omega); obtain rfl : i = 0 := (by omega); exact Or.inr (Or.inl rfl)
  · simp only at h1 h2 h3 h4 h5; subst h1; obtain rfl : s = 0 := (by omega); obtain rfl : i = 0 := (by omega); exact Or.inr (Or.inr (Or.inl (Or.inl (Or.inl (Or.inl (Or.inr (rfl)))))))
  · simp only at h1 h2 h3 h4 h5; subst h1; obtain rfl : s = 0 := (by omega); obtain rfl : i = 0 := (by omega); exact Or.inr (Or.inr (Or.inl (Or.inl (Or.inl (Or.inr (Or.inr (Or.inr (Or.inr rfl))))))))
  · simp only at h1 h2 h3 h4 h5; subst h1; obtain rfl : s = 0 := (by omega); obtain rfl : i = 0 := (by omega); exact Or.inr (Or.inr (Or.inl (Or.inl (Or.inr (Or.inr (Or.inl ⟨by decide, by decide, rfl, rfl⟩))))))
  · simp only at h1 h2 h3 h4 h5; subst h1; obtain rfl : s = 0 := (by omega); obtain rfl : i = 0 := (by omega); exact Or.inr (Or.inr (Or.inl (Or.inl (Or.inr (Or.inr (Or.inl ⟨by decide, by decide, rfl, rfl⟩))))))
  · simp only at h1 h2 h3 h4 h5; subst h1; obtain rfl : s = 0 := (by omega); obtain rfl : i = 0 := (by omega); exact Or.inr (Or.inr (Or.inl (Or.inl (Or.inr (Or.inr (Or.inl ⟨by decide, by decide, rfl, rfl⟩))))))
  · simp only at h1 h2 h3 h4 h5; subst h1; obtain rfl : s = 0 := (by omega); obtain rfl : i = 0 := (by omega); exact Or.inr (Or.inr (Or.inl (Or.inl (Or.inr (Or.inr (Or.inl ⟨by decide, by decide, rfl, rfl⟩))))))
  · simp only at h1 h2 h3 h4 h5; subst h1; obtain rfl : s = 0 := (by omega); obtain rfl : i = 0 := (by omega); exact Or.inr (Or.inr (Or.inl (Or.inl (Or.inr (Or.inr (Or.inl ⟨by decide, by decide, rfl, rfl⟩))))))
  · simp only at h1 h2 h3 h4 h5; subst h1; obtain rfl : s = 0 := (by omega); obtain rfl : i = 0 := (by omega); exact Or.inr (Or.inr (Or.inl (Or.inl (Or.inr (Or.inr (Or.inl ⟨by decide, by decide, rfl, rfl⟩))))))
  · simp only at h1 h2 h3 h4 h5; subst h1; obtain rfl : s = 0 := (by omega); obtain rfl : i = 0 := (by omega); exact Or.inr (Or.inr (Or.inl (Or.inl (Or.inr (Or.inr (Or.inl ⟨by decide, by decide, rfl, rfl⟩))))))
  · simp only at h1 h2 h3 h4 h5; subst h1; obtain rfl : s = 0 := (by omega); obtain rfl : i = 0 := (by omega); exact Or.inr (Or.inr (Or.inl (Or.inl (Or.inr (Or.inr (Or.inl ⟨by decide, by decide, rfl, rfl⟩))))))
  · simp only at h1 h2 h3 h4 h5; subst h1; obtain rfl : s = 0 := (by omega); obtain rfl : i = 0 := (by omega); exact Or.inr (Or.inr (Or.inl (Or.inl (Or.inr (Or.inr (Or.inr (Or.inl (Or.inl rfl))))))))
  · simp only at h1 h2 h3 h4 h5; subst h1; obtain rfl : s = 0 := (by omega); exact Or.inr (Or.inr (Or.inl (Or.inl (Or.inr (Or.inr (Or.inr (Or.inl (Or.inr ⟨i, by omega, by omega, rfl⟩))))))))
  · simp only at h1 h2 h3 h4 h5; subst h1; obtain rfl : s = 0 := (by omega); obtain rfl : i = 0 := (by omega); exact Or.inr (Or.inr (Or.inl (Or.inl (Or.inr (Or.inr (Or.inr (Or.inr (Or.inr (Or.inl rfl)))))))))
  · simp only at h1 h2 h3 h4 h5; subst h1; obtain rfl : s = 0 := (by omega); obtain rfl : i = 0 := (by omega); exact Or.inr (Or.inr (Or.inl (Or.inl (Or.inr (Or.inr (Or.inr (Or.inr (Or.inr (Or.inr (Or.inl rfl))))))))))
  · simp only at h1 h2 h3 h4 h5; subst h1; obtain rfl : s = 0 := (by omega); obtain rfl : i = 0 := (by omega); exact Or.inr (Or.inr (Or.inl (Or.inl (Or.inr (Or.inr (Or.inr (Or.inr (Or.inr (Or.inr (Or.inr (Or.inl rfl)))))))))))
  · simp only at h1 h2 h3 h4 h5; subst h1; obtain rfl : s = 0 := (by omega); obtain rfl : i = 0 := (by omega); exact Or.inr (Or.inr (Or.inl (Or.inl (Or.inr (Or.inr (Or.inr (Or.inr (Or.inr (Or.inr (Or.inr (Or.inr (Or.inl rfl))))))))))))
  · simp only at h1 h2 h3 h4 h5; subst h1; obtain rfl : s = 0 := (by omega); obtain rfl : i = 0 := (by omega); exact Or.inr (Or.inr (Or.inl (Or.inl (Or.inr (Or.inr (Or.inr (Or.inr (Or.inr (Or.inr (Or.inr (Or.inr (Or.inr (Or.inl rfl)))))))))))))
  · simp only at h1 h2 h3 h4 h5; subst h1; obtain rfl : s = 0 := (by omega); obtain rfl : i = 0 := (by omega); exact Or.inr (Or.inr (Or.inl (Or.inl (Or.inr (Or.inr (Or.inr (Or.inr (Or.inr (Or.inr (Or.inr (Or.inr (Or.inr (Or.inr (rfl))))))))))))))
  · simp only at h1 h2 h3 h4 h5; subst h1; obtain rfl : s = 0 := (by omega); obtain rfl : i = 0 := (by omega); exact Or.inr (Or.inr (Or.inl (Or.inr (Or.inr (Or.inl rfl)))))
  · simp only at h1 h2 h3 h4 h5; subst h1; obtain rfl : s = 0 := (by omega); obtain rfl : i = 0 := (by omega); exact Or.inr (Or.inr (Or.inl (Or.inr (Or.inr (Or.inr (Or.inl rfl))))))
  · simp only at h1 h2 h3 h4 h5; subst h1; obtain rfl : s = 0 := (by omega); obtain rfl : i = 0 := (by omega); exact Or.inr (Or.inr (Or.inl (Or.inr (Or.inr (Or.inr (Or.inr (Or.inl rfl)))))))
  · simp only at h1 h2 h3 h4 h5; subst h1; obtain rfl : s = 0 := (by omega); obtain rfl : i = 0 := (by omega); exact Or.inr (Or.inr (Or.inl (Or.inr (Or.inr (Or.inr (Or.inr (Or.inr (Or.inl rfl))))))))
  · simp only at h1 h2 h3 h4 h5; subst h1; obtain rfl : s = 0 := (by omega); obtain rfl : i = 0 := (by omega); exact Or.inr (Or.inr (Or.inl (Or.inr (Or.inr (Or.inr (Or.inr (Or.inr (Or.inr (Or.inl rfl)))))))))
  · simp only at h1 h2 h3 h4 h5; subst h1; obtain rfl : s = 0 := (by omega); obtain rfl : i = 0 := (by omega); exact Or.inr (Or.inr (Or.inl (Or.inr (Or.inr (Or.inr (Or.inr (Or.inr (Or.inr (Or.inr (rfl))))))))))
theorem n_astore_n {X : zX} {A : Nat → Prop} {l : Launch} {g : zG} {own : String} {cc : ByteArray} {h nL pc cl sl : Nat} {lv : List (Nat × Value)} {st : List Value} {ow : va_W} {wo : List Nat} {S : zO → Prop} {ad : zO → Nat} (hC : zNc X A l g own cc h nL) {k : Fin 4} {i x : Nat} {lv' : List (Nat × Value)} (hd : decode cc pc = .ok (.astore_n k, 1)) (hi : (k : Nat) = i) (hn : i < nL) (hlv : (i, Value.ref x) :: lv.filter (fun q => !(q.1 == i) && !(q.1 + 1 == i && q.2.category == 2)) = lv') (K : zNw X A (pc + 1) lv' st ow wo S ad cl sl) : zNw X A pc lv (.ref x :: st) ow wo S ad cl sl := by
  obtain ⟨p, l, e, R, s, m, args, below, meth, c, Q, g, kc, ks⟩ := X
  obtain ⟨hx, hb, hml, hown, hts, hK, hAO, hR1, hR2, hlk, hl2, hg2, hA⟩ := hC
  subst hl2 hg2
  intro H locs lsA hP hD hB hS hw hl
  refine lv_astore_n (lv' := lv') hx hb hd hi hl (by omega) hlv (fun ls hl => ?_)
  exact K H locs ls hP hD hB hS hw hl
