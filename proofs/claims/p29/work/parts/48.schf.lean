/-- the steps whose places are below q -/
def zEr (E : zE) (q : Int) : zE := fun a p => if a = 0 then (if p < q then E 0 p else 0) else E a p
def zins (od : Int → Int) (a p : Int) : Int → Int := fun j => if j < a then od j else if j = a then p else od (j - 1)
theorem zins_sum {od : Int → Int} {p : Int} (f : Int → Int) : ∀ (n : Nat) (a : Nat), a ≤ n → zsum (n + 1) (fun j => f (zins od a p j)) = zsum n (fun j => f (od j)) + f p
  | 0, a, h => by
    have : a = 0 := by omega
    subst this
    simp [zsum, zins]
  | n + 1, a, h => by
    by_cases e : a = n + 1
    · subst e
      rw [zsum, zsum_congr (f' := fun j => f (od j)) (n + 1) (fun j h0 h1 => by simp only [zins]; rw [if_pos (by omega)])]
      simp [zins]
    · rw [zsum, zins_sum f n a (by omega)]
      have e1 : zins od a p ((n + 1 : Nat) : Int) = od n := by
        simp only [zins]
        rw [if_neg (by omega), if_neg (by omega)]
        congr 1
        omega
      rw [e1]
      simp only [zsum]
      omega
theorem zsum_one {f : Int → Int} {p : Int} (h0 : 0 ≤ p) {S S' : Int → Prop} [DecidablePred S] [DecidablePred S'] (hp : ¬ S p) (hp' : S' p) : ∀ n : Nat, (∀ j : Int, 0 ≤ j → j < n → j ≠ p → (S' j ↔ S j)) → zsum n (fun j => if S' j then f j else 0) = zsum n (fun j => if S j then f j else 0) + (if p < n then f p else 0)
  | 0, _ => by simp [zsum]; omega
  | n + 1, h => by
    rw [zsum, zsum, zsum_one h0 hp hp' n (fun j j0 j1 => h j j0 (by omega))]
    by_cases e : p = n
    · subst e
      rw [if_neg (by omega), if_pos hp', if_neg hp, if_pos (by omega)]
    · have h1 := h n (by omega) (by omega) (fun z => e z.symm)
      have t1 : (if p < ((n + 1 : Nat) : Int) then f p else 0) = (if p < (n : Int) then f p else 0) := by
        by_cases e2 : p < (n : Int)
        · rw [if_pos (show p < ((n + 1 : Nat) : Int) by omega), if_pos e2]
        · rw [if_neg (show ¬ p < ((n + 1 : Nat) : Int) by omega), if_neg e2]
      have t2 : (if S' (n : Int) then f n else 0) = (if S (n : Int) then f n else 0) := by
        by_cases s : S n
        · rw [if_pos s, if_pos (h1.mpr s)]
        · rw [if_neg s, if_neg (fun z => s (h1.mp z))]
      rw [t1, t2]
      omega
theorem zsho_od {m : zM} {a n p j : Int} (h0 : 0 ≤ a) (hj : j ≤ n) : zsho m a n p 44 0 0 j = zins (m 44 0 0) a p j := by
  simp only [zsho, zset, zshf, zins]
  grind
theorem zsho_n {m : zM} {a n p : Int} : zsho m a n p 10 0 0 7 = n + 1 := by simp [zsho, zset]
theorem zsho_o {m : zM} {a n p : Int} {t : Nat} {s i k : Int} (h : t ≠ 44) (h2 : t ≠ 10 ∨ k ≠ 7) : zsho m a n p t s i k = m t s i k := by
  simp only [zsho, zset, zshf]
  grind
/-- a menu's place is put into the order -/
theorem zOr_ins {E : zE} {m : zM} {q a : Int} (hq : 0 ≤ q ∧ q < 32) (hon : E 0 q = 1) (ho : zodr m) (hO : zOr (zEr E q) m) (hm : ∀ p : Int, 0 ≤ p → p ≤ q → E 0 p = 1 → m 39 0 0 p = E 4 p) (ha : 0 ≤ a) (han : a ≤ m 10 0 0 7) (h1 : a = 0 ∨ m 39 0 0 q ≤ m 39 0 0 (m 44 0 0 (a - 1))) (h2 : ∀ j : Int, a ≤ j → j < m 10 0 0 7 → m 39 0 0 (m 44 0 0 j) < m 39 0 0 q) : zOr (zEr E (q + 1)) (zsho m a (m 10 0 0 7) q) := by
  have old : ∀ j : Int, 0 ≤ j → j < m 10 0 0 7 → (0 ≤ m 44 0 0 j ∧ m 44 0 0 j < q) ∧ E 0 (m 44 0 0 j) = 1 ∧ m 39 0 0 (m 44 0 0 j) = E 4 (m 44 0 0 j) := fun j j0 j1 => by
    have e := hO.1 j j0 j1
    have e2 := ho.2 j j0 j1
    simp only [zEr, if_true] at e
    by_cases z : m 44 0 0 j < q
    · rw [if_pos z] at e
      exact ⟨⟨e2.1, z⟩, e, hm _ e2.1 (by omega) e⟩
    · rw [if_neg z] at e
      omega
  have hmq := hm q hq.1 (Int.le_refl _) hon
  have sorted : ∀ i j : Int, 0 ≤ i → i < j → j < m 10 0 0 7 → zahd E (m 44 0 0 i) (m 44 0 0 j) := fun i j i0 ij jn => by
    have := hO.2.2.1 i j i0 ij jn
    simpa [zahd, zEr] using this
  have ahead : ∀ j : Int, 0 ≤ j → j < a → zahd E (m 44 0 0 j) q := fun j j0 ja => by
    have oj := old j j0 (by omega)
    have oa := old (a - 1) (by omega) (by omega)
    have h3 : m 39 0 0 q ≤ m 39 0 0 (m 44 0 0 (a - 1)) := by omega
    rcases (show j = a - 1 ∨ j < a - 1 by omega) with e | e
    · simp only [zahd]
      rw [e] at oj ⊢
      omega
    · have s := sorted j (a - 1) j0 e (by omega)
      simp only [zahd] at s ⊢
      omega
  have behind : ∀ j : Int, a ≤ j → j < m 10 0 0 7 → zahd E q (m 44 0 0 j) := fun j j0 j1 => by
    have oj := old j (by omega) j1
    have := h2 j j0 j1
    simp only [zahd]
    omega
  have hE4 : ∀ x y : Int, zahd (zEr E (q + 1)) x y ↔ zahd E x y := fun x y => by simp [zahd, zEr]
  have hE0 : ∀ x : Int, zEr E (q + 1) 0 x = if x < q + 1 then E 0 x else 0 := fun x => by simp [zEr]
  refine ⟨fun j j0 j1 => ?_, fun p p0 p1 p2 => ?_, fun i j i0 ij jn => ?_, fun f => ?_⟩
  · rw [zsho_n] at j1
    rw [zsho_od ha (by omega), hE0]
    by_cases c : j < a
    · have oj := old j j0 (by omega)
      rw [show zins (m 44 0 0) a q j = m 44 0 0 j from if_pos c, if_pos (by omega)]
      exact oj.2.1
    · by_cases c2 : j = a
      · rw [show zins (m 44 0 0) a q j = q by (simp only [zins]; rw [if_neg c, if_pos c2]), if_pos (by omega)]
        exact hon
      · have oj := old (j - 1) (by omega) (by omega)
        rw [show zins (m 44 0 0) a q j = m 44 0 0 (j - 1) by (simp only [zins]; rw [if_neg c, if_neg c2]), if_pos (by omega)]
        exact oj.2.1
  · rw [hE0] at p2
    by_cases c : p < q + 1
    · rw [if_pos c] at p2
      by_cases e : p = q
      · exact ⟨a, ha, by rw [zsho_n]; omega, by rw [zsho_od ha han, e]; simp [zins]⟩
      · obtain ⟨j, j0, j1, j2⟩ := hO.2.1 p p0 p1 (by simp only [zEr, if_true]; rw [if_pos (by omega)]; exact p2)
        by_cases c2 : j < a
        · exact ⟨j, j0, by rw [zsho_n]; omega, by rw [zsho_od ha (by omega)]; simp only [zins]; rw [if_pos c2, j2]⟩
        · exact ⟨j + 1, by omega, by rw [zsho_n]; omega, by rw [zsho_od ha (by omega)]; simp only [zins]; rw [if_neg (by omega), if_neg (by omega), show j + 1 - 1 = j by omega, j2]⟩
    · rw [if_neg c] at p2
      omega
  · rw [zsho_n] at jn
    rw [zsho_od ha (by omega), zsho_od ha (by omega), hE4]
    simp only [zins]
    by_cases c1 : i < a
    · rw [if_pos c1]
      by_cases c2 : j < a
      · rw [if_pos c2]
        exact sorted i j i0 ij (by omega)
      · rw [if_neg c2]
        by_cases c3 : j = a
        · rw [if_pos c3]
          exact ahead i i0 c1
        · rw [if_neg c3]
          exact sorted i (j - 1) i0 (by omega) (by omega)
    · rw [if_neg c1]
      by_cases c2 : i = a
      · rw [if_pos c2, if_neg (by omega), if_neg (by omega)]
        exact behind (j - 1) (by omega) (by omega)
      · rw [if_neg c2, if_neg (by omega), if_neg (by omega)]
        exact sorted (i - 1) (j - 1) (by omega) (by omega) (by omega)
  · rw [zsho_n]
    have hn := ho.1
    have e1 : (m 10 0 0 7 + 1).toNat = (m 10 0 0 7).toNat + 1 := by omega
    rw [e1]
    have e2 := zins_sum (od := m 44 0 0) (p := q) f (m 10 0 0 7).toNat a.toNat (by omega)
    rw [show ((a.toNat : Nat) : Int) = a by omega] at e2
    have e3 : zsum ((m 10 0 0 7).toNat + 1) (fun j => f (zsho m a (m 10 0 0 7) q 44 0 0 j)) = zsum ((m 10 0 0 7).toNat + 1) (fun j => f (zins (m 44 0 0) a q j)) := zsum_congr _ (fun j j0 j1 => by rw [zsho_od ha (by omega)])
    rw [e3, e2, hO.2.2.2 f]
    have e4 := zsum_one (f := f) hq.1 (S := fun j => zEr E q 0 j = 1) (S' := fun j => zEr E (q + 1) 0 j = 1) (by simp [zEr]) (by simp [zEr, hon]; omega) 32 (fun j j0 j1 hne => by
      simp only [zEr, if_true]
      by_cases c : j < q
      · rw [if_pos c, if_pos (by omega)]
      · rw [if_neg c, if_neg (by omega)])
    rw [e4, if_pos (by omega)]
