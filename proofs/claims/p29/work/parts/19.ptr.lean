theorem zD_0 : ∀ d ∈ zDIM, d.1 = 0 → d = (0, 0, 1, 1) := by decide +kernel
theorem zv_0 {g : zG} {s i : Int} (h1 : 0 ≤ s) (h2 : s < 1) (h3 : 0 ≤ i) (h4 : i < 1) : (0, s, i) ∈ zOs g := zmem (0, 0, 1, 1) (by decide) rfl (by simpa using h1) (by simp; omega) h3 (by simpa using h4)
theorem zb_0 {g : zG} {s i : Int} (h : (0, s, i) ∈ zOs g) : (0 ≤ s ∧ s < 1 ∧ 0 ≤ i ∧ i < 1) := by
  obtain ⟨d, hd, h1, h2, h3, h4, h5⟩ := zmem_of h (by show (0 : Nat) < 45; decide)
  rcases zD_0 d hd h1 with rfl
  · simp at h2 h3 h4 h5; omega
theorem zD_1 : ∀ d ∈ zDIM, d.1 = 1 → d = (1, 0, 1, 1) := by decide +kernel
theorem zv_1 {g : zG} {s i : Int} (h1 : 0 ≤ s) (h2 : s < 1) (h3 : 0 ≤ i) (h4 : i < 1) : (1, s, i) ∈ zOs g := zmem (1, 0, 1, 1) (by decide) rfl (by simpa using h1) (by simp; omega) h3 (by simpa using h4)
theorem zb_1 {g : zG} {s i : Int} (h : (1, s, i) ∈ zOs g) : (0 ≤ s ∧ s < 1 ∧ 0 ≤ i ∧ i < 1) := by
  obtain ⟨d, hd, h1, h2, h3, h4, h5⟩ := zmem_of h (by show (1 : Nat) < 45; decide)
  rcases zD_1 d hd h1 with rfl
  · simp at h2 h3 h4 h5; omega
theorem zD_2 : ∀ d ∈ zDIM, d.1 = 2 → d = (2, 0, 9, 1) := by decide +kernel
theorem zv_2 {g : zG} {s i : Int} (h1 : 0 ≤ s) (h2 : s < 9) (h3 : 0 ≤ i) (h4 : i < 1) : (2, s, i) ∈ zOs g := zmem (2, 0, 9, 1) (by decide) rfl (by simpa using h1) (by simp; omega) h3 (by simpa using h4)
theorem zb_2 {g : zG} {s i : Int} (h : (2, s, i) ∈ zOs g) : (0 ≤ s ∧ s < 9 ∧ 0 ≤ i ∧ i < 1) := by
  obtain ⟨d, hd, h1, h2, h3, h4, h5⟩ := zmem_of h (by show (2 : Nat) < 45; decide)
  rcases zD_2 d hd h1 with rfl
  · simp at h2 h3 h4 h5; omega
theorem zD_3 : ∀ d ∈ zDIM, d.1 = 3 → d = (3, 0, 9, 8) := by decide +kernel
theorem zv_3 {g : zG} {s i : Int} (h1 : 0 ≤ s) (h2 : s < 9) (h3 : 0 ≤ i) (h4 : i < 8) : (3, s, i) ∈ zOs g := zmem (3, 0, 9, 8) (by decide) rfl (by simpa using h1) (by simp; omega) h3 (by simpa using h4)
theorem zb_3 {g : zG} {s i : Int} (h : (3, s, i) ∈ zOs g) : (0 ≤ s ∧ s < 9 ∧ 0 ≤ i ∧ i < 8) := by
  obtain ⟨d, hd, h1, h2, h3, h4, h5⟩ := zmem_of h (by show (3 : Nat) < 45; decide)
  rcases zD_3 d hd h1 with rfl
  · simp at h2 h3 h4 h5; omega
theorem zD_4 : ∀ d ∈ zDIM, d.1 = 4 → d = (4, 0, 9, 4) ∨ d = (4, 9, 1, 1) := by decide +kernel
theorem zv_4 {g : zG} {s i : Int} (h1 : 0 ≤ s) (h2 : s < 9) (h3 : 0 ≤ i) (h4 : i < 4) : (4, s, i) ∈ zOs g := zmem (4, 0, 9, 4) (by decide) rfl (by simpa using h1) (by simp; omega) h3 (by simpa using h4)
theorem zv_4b {g : zG} {s i : Int} (h1 : 9 ≤ s) (h2 : s < 10) (h3 : 0 ≤ i) (h4 : i < 1) : (4, s, i) ∈ zOs g := zmem (4, 9, 1, 1) (by decide) rfl (by simpa using h1) (by simp; omega) h3 (by simpa using h4)
theorem zb_4 {g : zG} {s i : Int} (h : (4, s, i) ∈ zOs g) : (0 ≤ s ∧ s < 9 ∧ 0 ≤ i ∧ i < 4) ∨ (9 ≤ s ∧ s < 10 ∧ 0 ≤ i ∧ i < 1) := by
  obtain ⟨d, hd, h1, h2, h3, h4, h5⟩ := zmem_of h (by show (4 : Nat) < 45; decide)
  rcases zD_4 d hd h1 with rfl | rfl
  · simp at h2 h3 h4 h5; omega
  · simp at h2 h3 h4 h5; omega
theorem zD_5 : ∀ d ∈ zDIM, d.1 = 5 → d = (5, 0, 9, 32) ∨ d = (5, 9, 1, 8) := by decide +kernel
theorem zv_5 {g : zG} {s i : Int} (h1 : 0 ≤ s) (h2 : s < 9) (h3 : 0 ≤ i) (h4 : i < 32) : (5, s, i) ∈ zOs g := zmem (5, 0, 9, 32) (by decide) rfl (by simpa using h1) (by simp; omega) h3 (by simpa using h4)
theorem zv_5b {g : zG} {s i : Int} (h1 : 9 ≤ s) (h2 : s < 10) (h3 : 0 ≤ i) (h4 : i < 8) : (5, s, i) ∈ zOs g := zmem (5, 9, 1, 8) (by decide) rfl (by simpa using h1) (by simp; omega) h3 (by simpa using h4)
theorem zb_5 {g : zG} {s i : Int} (h : (5, s, i) ∈ zOs g) : (0 ≤ s ∧ s < 9 ∧ 0 ≤ i ∧ i < 32) ∨ (9 ≤ s ∧ s < 10 ∧ 0 ≤ i ∧ i < 8) := by
  obtain ⟨d, hd, h1, h2, h3, h4, h5⟩ := zmem_of h (by show (5 : Nat) < 45; decide)
  rcases zD_5 d hd h1 with rfl | rfl
  · simp at h2 h3 h4 h5; omega
  · simp at h2 h3 h4 h5; omega
theorem zD_6 : ∀ d ∈ zDIM, d.1 = 6 → d = (6, 0, 1, 1) := by decide +kernel
theorem zv_6 {g : zG} {s i : Int} (h1 : 0 ≤ s) (h2 : s < 1) (h3 : 0 ≤ i) (h4 : i < 1) : (6, s, i) ∈ zOs g := zmem (6, 0, 1, 1) (by decide) rfl (by simpa using h1) (by simp; omega) h3 (by simpa using h4)
theorem zb_6 {g : zG} {s i : Int} (h : (6, s, i) ∈ zOs g) : (0 ≤ s ∧ s < 1 ∧ 0 ≤ i ∧ i < 1) := by
  obtain ⟨d, hd, h1, h2, h3, h4, h5⟩ := zmem_of h (by show (6 : Nat) < 45; decide)
  rcases zD_6 d hd h1 with rfl
  · simp at h2 h3 h4 h5; omega
theorem zD_7 : ∀ d ∈ zDIM, d.1 = 7 → d = (7, 0, 1, 1) := by decide +kernel
theorem zv_7 {g : zG} {s i : Int} (h1 : 0 ≤ s) (h2 : s < 1) (h3 : 0 ≤ i) (h4 : i < 1) : (7, s, i) ∈ zOs g := zmem (7, 0, 1, 1) (by decide) rfl (by simpa using h1) (by simp; omega) h3 (by simpa using h4)
theorem zb_7 {g : zG} {s i : Int} (h : (7, s, i) ∈ zOs g) : (0 ≤ s ∧ s < 1 ∧ 0 ≤ i ∧ i < 1) := by
  obtain ⟨d, hd, h1, h2, h3, h4, h5⟩ := zmem_of h (by show (7 : Nat) < 45; decide)
  rcases zD_7 d hd h1 with rfl
  · simp at h2 h3 h4 h5; omega
theorem zD_8 : ∀ d ∈ zDIM, d.1 = 8 → d = (8, 0, 1, 1) := by decide +kernel
theorem zv_8 {g : zG} {s i : Int} (h1 : 0 ≤ s) (h2 : s < 1) (h3 : 0 ≤ i) (h4 : i < 1) : (8, s, i) ∈ zOs g := zmem (8, 0, 1, 1) (by decide) rfl (by simpa using h1) (by simp; omega) h3 (by simpa using h4)
theorem zb_8 {g : zG} {s i : Int} (h : (8, s, i) ∈ zOs g) : (0 ≤ s ∧ s < 1 ∧ 0 ≤ i ∧ i < 1) := by
  obtain ⟨d, hd, h1, h2, h3, h4, h5⟩ := zmem_of h (by show (8 : Nat) < 45; decide)
  rcases zD_8 d hd h1 with rfl
  · simp at h2 h3 h4 h5; omega
theorem zD_9 : ∀ d ∈ zDIM, d.1 = 9 → d = (9, 0, 1, 1) := by decide +kernel
theorem zv_9 {g : zG} {s i : Int} (h1 : 0 ≤ s) (h2 : s < 1) (h3 : 0 ≤ i) (h4 : i < 1) : (9, s, i) ∈ zOs g := zmem (9, 0, 1, 1) (by decide) rfl (by simpa using h1) (by simp; omega) h3 (by simpa using h4)
theorem zb_9 {g : zG} {s i : Int} (h : (9, s, i) ∈ zOs g) : (0 ≤ s ∧ s < 1 ∧ 0 ≤ i ∧ i < 1) := by
  obtain ⟨d, hd, h1, h2, h3, h4, h5⟩ := zmem_of h (by show (9 : Nat) < 45; decide)
  rcases zD_9 d hd h1 with rfl
  · simp at h2 h3 h4 h5; omega
theorem zD_10 : ∀ d ∈ zDIM, d.1 = 10 → d = (10, 0, 1, 1) := by decide +kernel
theorem zv_10 {g : zG} {s i : Int} (h1 : 0 ≤ s) (h2 : s < 1) (h3 : 0 ≤ i) (h4 : i < 1) : (10, s, i) ∈ zOs g := zmem (10, 0, 1, 1) (by decide) rfl (by simpa using h1) (by simp; omega) h3 (by simpa using h4)
theorem zb_10 {g : zG} {s i : Int} (h : (10, s, i) ∈ zOs g) : (0 ≤ s ∧ s < 1 ∧ 0 ≤ i ∧ i < 1) := by
  obtain ⟨d, hd, h1, h2, h3, h4, h5⟩ := zmem_of h (by show (10 : Nat) < 45; decide)
  rcases zD_10 d hd h1 with rfl
  · simp at h2 h3 h4 h5; omega
theorem zD_12 : ∀ d ∈ zDIM, d.1 = 12 → d = (12, 0, 9, 8) := by decide +kernel
theorem zv_12 {g : zG} {s i : Int} (h1 : 0 ≤ s) (h2 : s < 9) (h3 : 0 ≤ i) (h4 : i < 8) : (12, s, i) ∈ zOs g := zmem (12, 0, 9, 8) (by decide) rfl (by simpa using h1) (by simp; omega) h3 (by simpa using h4)
theorem zb_12 {g : zG} {s i : Int} (h : (12, s, i) ∈ zOs g) : (0 ≤ s ∧ s < 9 ∧ 0 ≤ i ∧ i < 8) := by
  obtain ⟨d, hd, h1, h2, h3, h4, h5⟩ := zmem_of h (by show (12 : Nat) < 45; decide)
  rcases zD_12 d hd h1 with rfl
  · simp at h2 h3 h4 h5; omega
theorem zD_13 : ∀ d ∈ zDIM, d.1 = 13 → d = (13, 0, 9, 8) := by decide +kernel
theorem zv_13 {g : zG} {s i : Int} (h1 : 0 ≤ s) (h2 : s < 9) (h3 : 0 ≤ i) (h4 : i < 8) : (13, s, i) ∈ zOs g := zmem (13, 0, 9, 8) (by decide) rfl (by simpa using h1) (by simp; omega) h3 (by simpa using h4)
theorem zb_13 {g : zG} {s i : Int} (h : (13, s, i) ∈ zOs g) : (0 ≤ s ∧ s < 9 ∧ 0 ≤ i ∧ i < 8) := by
  obtain ⟨d, hd, h1, h2, h3, h4, h5⟩ := zmem_of h (by show (13 : Nat) < 45; decide)
  rcases zD_13 d hd h1 with rfl
  · simp at h2 h3 h4 h5; omega
theorem zD_14 : ∀ d ∈ zDIM, d.1 = 14 → d = (14, 0, 9, 8) := by decide +kernel
theorem zv_14 {g : zG} {s i : Int} (h1 : 0 ≤ s) (h2 : s < 9) (h3 : 0 ≤ i) (h4 : i < 8) : (14, s, i) ∈ zOs g := zmem (14, 0, 9, 8) (by decide) rfl (by simpa using h1) (by simp; omega) h3 (by simpa using h4)
theorem zb_14 {g : zG} {s i : Int} (h : (14, s, i) ∈ zOs g) : (0 ≤ s ∧ s < 9 ∧ 0 ≤ i ∧ i < 8) := by
  obtain ⟨d, hd, h1, h2, h3, h4, h5⟩ := zmem_of h (by show (14 : Nat) < 45; decide)
  rcases zD_14 d hd h1 with rfl
  · simp at h2 h3 h4 h5; omega
theorem zD_15 : ∀ d ∈ zDIM, d.1 = 15 → d = (15, 0, 9, 1) := by decide +kernel
theorem zv_15 {g : zG} {s i : Int} (h1 : 0 ≤ s) (h2 : s < 9) (h3 : 0 ≤ i) (h4 : i < 1) : (15, s, i) ∈ zOs g := zmem (15, 0, 9, 1) (by decide) rfl (by simpa using h1) (by simp; omega) h3 (by simpa using h4)
theorem zb_15 {g : zG} {s i : Int} (h : (15, s, i) ∈ zOs g) : (0 ≤ s ∧ s < 9 ∧ 0 ≤ i ∧ i < 1) := by
  obtain ⟨d, hd, h1, h2, h3, h4, h5⟩ := zmem_of h (by show (15 : Nat) < 45; decide)
  rcases zD_15 d hd h1 with rfl
  · simp at h2 h3 h4 h5; omega
theorem zD_16 : ∀ d ∈ zDIM, d.1 = 16 → d = (16, 0, 9, 1) := by decide +kernel
theorem zv_16 {g : zG} {s i : Int} (h1 : 0 ≤ s) (h2 : s < 9) (h3 : 0 ≤ i) (h4 : i < 1) : (16, s, i) ∈ zOs g := zmem (16, 0, 9, 1) (by decide) rfl (by simpa using h1) (by simp; omega) h3 (by simpa using h4)
theorem zb_16 {g : zG} {s i : Int} (h : (16, s, i) ∈ zOs g) : (0 ≤ s ∧ s < 9 ∧ 0 ≤ i ∧ i < 1) := by
  obtain ⟨d, hd, h1, h2, h3, h4, h5⟩ := zmem_of h (by show (16 : Nat) < 45; decide)
  rcases zD_16 d hd h1 with rfl
  · simp at h2 h3 h4 h5; omega
theorem zD_17 : ∀ d ∈ zDIM, d.1 = 17 → d = (17, 0, 9, 4) ∨ d = (17, 9, 1, 1) := by decide +kernel
theorem zv_17 {g : zG} {s i : Int} (h1 : 0 ≤ s) (h2 : s < 9) (h3 : 0 ≤ i) (h4 : i < 4) : (17, s, i) ∈ zOs g := zmem (17, 0, 9, 4) (by decide) rfl (by simpa using h1) (by simp; omega) h3 (by simpa using h4)
theorem zv_17b {g : zG} {s i : Int} (h1 : 9 ≤ s) (h2 : s < 10) (h3 : 0 ≤ i) (h4 : i < 1) : (17, s, i) ∈ zOs g := zmem (17, 9, 1, 1) (by decide) rfl (by simpa using h1) (by simp; omega) h3 (by simpa using h4)
theorem zb_17 {g : zG} {s i : Int} (h : (17, s, i) ∈ zOs g) : (0 ≤ s ∧ s < 9 ∧ 0 ≤ i ∧ i < 4) ∨ (9 ≤ s ∧ s < 10 ∧ 0 ≤ i ∧ i < 1) := by
  obtain ⟨d, hd, h1, h2, h3, h4, h5⟩ := zmem_of h (by show (17 : Nat) < 45; decide)
  rcases zD_17 d hd h1 with rfl | rfl
  · simp at h2 h3 h4 h5; omega
  · simp at h2 h3 h4 h5; omega
theorem zD_18 : ∀ d ∈ zDIM, d.1 = 18 → d = (18, 0, 9, 4) ∨ d = (18, 9, 1, 1) := by decide +kernel
theorem zv_18 {g : zG} {s i : Int} (h1 : 0 ≤ s) (h2 : s < 9) (h3 : 0 ≤ i) (h4 : i < 4) : (18, s, i) ∈ zOs g := zmem (18, 0, 9, 4) (by decide) rfl (by simpa using h1) (by simp; omega) h3 (by simpa using h4)
theorem zv_18b {g : zG} {s i : Int} (h1 : 9 ≤ s) (h2 : s < 10) (h3 : 0 ≤ i) (h4 : i < 1) : (18, s, i) ∈ zOs g := zmem (18, 9, 1, 1) (by decide) rfl (by simpa using h1) (by simp; omega) h3 (by simpa using h4)
theorem zb_18 {g : zG} {s i : Int} (h : (18, s, i) ∈ zOs g) : (0 ≤ s ∧ s < 9 ∧ 0 ≤ i ∧ i < 4) ∨ (9 ≤ s ∧ s < 10 ∧ 0 ≤ i ∧ i < 1) := by
  obtain ⟨d, hd, h1, h2, h3, h4, h5⟩ := zmem_of h (by show (18 : Nat) < 45; decide)
  rcases zD_18 d hd h1 with rfl | rfl
  · simp at h2 h3 h4 h5; omega
  · simp at h2 h3 h4 h5; omega
theorem zD_19 : ∀ d ∈ zDIM, d.1 = 19 → d = (19, 0, 1, 1) := by decide +kernel
theorem zv_19 {g : zG} {s i : Int} (h1 : 0 ≤ s) (h2 : s < 1) (h3 : 0 ≤ i) (h4 : i < 1) : (19, s, i) ∈ zOs g := zmem (19, 0, 1, 1) (by decide) rfl (by simpa using h1) (by simp; omega) h3 (by simpa using h4)
theorem zb_19 {g : zG} {s i : Int} (h : (19, s, i) ∈ zOs g) : (0 ≤ s ∧ s < 1 ∧ 0 ≤ i ∧ i < 1) := by
  obtain ⟨d, hd, h1, h2, h3, h4, h5⟩ := zmem_of h (by show (19 : Nat) < 45; decide)
  rcases zD_19 d hd h1 with rfl
  · simp at h2 h3 h4 h5; omega
theorem zD_20 : ∀ d ∈ zDIM, d.1 = 20 → d = (20, 0, 1, 1) := by decide +kernel
theorem zv_20 {g : zG} {s i : Int} (h1 : 0 ≤ s) (h2 : s < 1) (h3 : 0 ≤ i) (h4 : i < 1) : (20, s, i) ∈ zOs g := zmem (20, 0, 1, 1) (by decide) rfl (by simpa using h1) (by simp; omega) h3 (by simpa using h4)
theorem zb_20 {g : zG} {s i : Int} (h : (20, s, i) ∈ zOs g) : (0 ≤ s ∧ s < 1 ∧ 0 ≤ i ∧ i < 1) := by
  obtain ⟨d, hd, h1, h2, h3, h4, h5⟩ := zmem_of h (by show (20 : Nat) < 45; decide)
  rcases zD_20 d hd h1 with rfl
  · simp at h2 h3 h4 h5; omega
theorem zD_21 : ∀ d ∈ zDIM, d.1 = 21 → d = (21, 0, 1, 1) := by decide +kernel
theorem zv_21 {g : zG} {s i : Int} (h1 : 0 ≤ s) (h2 : s < 1) (h3 : 0 ≤ i) (h4 : i < 1) : (21, s, i) ∈ zOs g := zmem (21, 0, 1, 1) (by decide) rfl (by simpa using h1) (by simp; omega) h3 (by simpa using h4)
theorem zb_21 {g : zG} {s i : Int} (h : (21, s, i) ∈ zOs g) : (0 ≤ s ∧ s < 1 ∧ 0 ≤ i ∧ i < 1) := by
  obtain ⟨d, hd, h1, h2, h3, h4, h5⟩ := zmem_of h (by show (21 : Nat) < 45; decide)
  rcases zD_21 d hd h1 with rfl
  · simp at h2 h3 h4 h5; omega
theorem zD_22 : ∀ d ∈ zDIM, d.1 = 22 → d = (22, 0, 1, 1) := by decide +kernel
theorem zv_22 {g : zG} {s i : Int} (h1 : 0 ≤ s) (h2 : s < 1) (h3 : 0 ≤ i) (h4 : i < 1) : (22, s, i) ∈ zOs g := zmem (22, 0, 1, 1) (by decide) rfl (by simpa using h1) (by simp; omega) h3 (by simpa using h4)
theorem zb_22 {g : zG} {s i : Int} (h : (22, s, i) ∈ zOs g) : (0 ≤ s ∧ s < 1 ∧ 0 ≤ i ∧ i < 1) := by
  obtain ⟨d, hd, h1, h2, h3, h4, h5⟩ := zmem_of h (by show (22 : Nat) < 45; decide)
  rcases zD_22 d hd h1 with rfl
  · simp at h2 h3 h4 h5; omega
theorem zD_23 : ∀ d ∈ zDIM, d.1 = 23 → d = (23, 0, 1, 1) := by decide +kernel
theorem zv_23 {g : zG} {s i : Int} (h1 : 0 ≤ s) (h2 : s < 1) (h3 : 0 ≤ i) (h4 : i < 1) : (23, s, i) ∈ zOs g := zmem (23, 0, 1, 1) (by decide) rfl (by simpa using h1) (by simp; omega) h3 (by simpa using h4)
theorem zb_23 {g : zG} {s i : Int} (h : (23, s, i) ∈ zOs g) : (0 ≤ s ∧ s < 1 ∧ 0 ≤ i ∧ i < 1) := by
  obtain ⟨d, hd, h1, h2, h3, h4, h5⟩ := zmem_of h (by show (23 : Nat) < 45; decide)
  rcases zD_23 d hd h1 with rfl
  · simp at h2 h3 h4 h5; omega
theorem zD_24 : ∀ d ∈ zDIM, d.1 = 24 → d = (24, 0, 1, 1) := by decide +kernel
theorem zv_24 {g : zG} {s i : Int} (h1 : 0 ≤ s) (h2 : s < 1) (h3 : 0 ≤ i) (h4 : i < 1) : (24, s, i) ∈ zOs g := zmem (24, 0, 1, 1) (by decide) rfl (by simpa using h1) (by simp; omega) h3 (by simpa using h4)
theorem zb_24 {g : zG} {s i : Int} (h : (24, s, i) ∈ zOs g) : (0 ≤ s ∧ s < 1 ∧ 0 ≤ i ∧ i < 1) := by
  obtain ⟨d, hd, h1, h2, h3, h4, h5⟩ := zmem_of h (by show (24 : Nat) < 45; decide)
  rcases zD_24 d hd h1 with rfl
  · simp at h2 h3 h4 h5; omega
theorem zD_25 : ∀ d ∈ zDIM, d.1 = 25 → d = (25, 0, 1, 1) := by decide +kernel
theorem zv_25 {g : zG} {s i : Int} (h1 : 0 ≤ s) (h2 : s < 1) (h3 : 0 ≤ i) (h4 : i < 1) : (25, s, i) ∈ zOs g := zmem (25, 0, 1, 1) (by decide) rfl (by simpa using h1) (by simp; omega) h3 (by simpa using h4)
theorem zb_25 {g : zG} {s i : Int} (h : (25, s, i) ∈ zOs g) : (0 ≤ s ∧ s < 1 ∧ 0 ≤ i ∧ i < 1) := by
  obtain ⟨d, hd, h1, h2, h3, h4, h5⟩ := zmem_of h (by show (25 : Nat) < 45; decide)
  rcases zD_25 d hd h1 with rfl
  · simp at h2 h3 h4 h5; omega
theorem zD_26 : ∀ d ∈ zDIM, d.1 = 26 → d = (26, 0, 1, 1) := by decide +kernel
theorem zv_26 {g : zG} {s i : Int} (h1 : 0 ≤ s) (h2 : s < 1) (h3 : 0 ≤ i) (h4 : i < 1) : (26, s, i) ∈ zOs g := zmem (26, 0, 1, 1) (by decide) rfl (by simpa using h1) (by simp; omega) h3 (by simpa using h4)
theorem zb_26 {g : zG} {s i : Int} (h : (26, s, i) ∈ zOs g) : (0 ≤ s ∧ s < 1 ∧ 0 ≤ i ∧ i < 1) := by
  obtain ⟨d, hd, h1, h2, h3, h4, h5⟩ := zmem_of h (by show (26 : Nat) < 45; decide)
  rcases zD_26 d hd h1 with rfl
  · simp at h2 h3 h4 h5; omega
theorem zD_27 : ∀ d ∈ zDIM, d.1 = 27 → d = (27, 0, 1, 1) := by decide +kernel
theorem zv_27 {g : zG} {s i : Int} (h1 : 0 ≤ s) (h2 : s < 1) (h3 : 0 ≤ i) (h4 : i < 1) : (27, s, i) ∈ zOs g := zmem (27, 0, 1, 1) (by decide) rfl (by simpa using h1) (by simp; omega) h3 (by simpa using h4)
theorem zb_27 {g : zG} {s i : Int} (h : (27, s, i) ∈ zOs g) : (0 ≤ s ∧ s < 1 ∧ 0 ≤ i ∧ i < 1) := by
  obtain ⟨d, hd, h1, h2, h3, h4, h5⟩ := zmem_of h (by show (27 : Nat) < 45; decide)
  rcases zD_27 d hd h1 with rfl
  · simp at h2 h3 h4 h5; omega
theorem zD_28 : ∀ d ∈ zDIM, d.1 = 28 → d = (28, 0, 1, 1) := by decide +kernel
theorem zv_28 {g : zG} {s i : Int} (h1 : 0 ≤ s) (h2 : s < 1) (h3 : 0 ≤ i) (h4 : i < 1) : (28, s, i) ∈ zOs g := zmem (28, 0, 1, 1) (by decide) rfl (by simpa using h1) (by simp; omega) h3 (by simpa using h4)
theorem zb_28 {g : zG} {s i : Int} (h : (28, s, i) ∈ zOs g) : (0 ≤ s ∧ s < 1 ∧ 0 ≤ i ∧ i < 1) := by
  obtain ⟨d, hd, h1, h2, h3, h4, h5⟩ := zmem_of h (by show (28 : Nat) < 45; decide)
  rcases zD_28 d hd h1 with rfl
  · simp at h2 h3 h4 h5; omega
theorem zD_29 : ∀ d ∈ zDIM, d.1 = 29 → d = (29, 0, 1, 1) := by decide +kernel
theorem zv_29 {g : zG} {s i : Int} (h1 : 0 ≤ s) (h2 : s < 1) (h3 : 0 ≤ i) (h4 : i < 1) : (29, s, i) ∈ zOs g := zmem (29, 0, 1, 1) (by decide) rfl (by simpa using h1) (by simp; omega) h3 (by simpa using h4)
theorem zb_29 {g : zG} {s i : Int} (h : (29, s, i) ∈ zOs g) : (0 ≤ s ∧ s < 1 ∧ 0 ≤ i ∧ i < 1) := by
  obtain ⟨d, hd, h1, h2, h3, h4, h5⟩ := zmem_of h (by show (29 : Nat) < 45; decide)
  rcases zD_29 d hd h1 with rfl
  · simp at h2 h3 h4 h5; omega
theorem zD_30 : ∀ d ∈ zDIM, d.1 = 30 → d = (30, 0, 1, 1) := by decide +kernel
theorem zv_30 {g : zG} {s i : Int} (h1 : 0 ≤ s) (h2 : s < 1) (h3 : 0 ≤ i) (h4 : i < 1) : (30, s, i) ∈ zOs g := zmem (30, 0, 1, 1) (by decide) rfl (by simpa using h1) (by simp; omega) h3 (by simpa using h4)
theorem zb_30 {g : zG} {s i : Int} (h : (30, s, i) ∈ zOs g) : (0 ≤ s ∧ s < 1 ∧ 0 ≤ i ∧ i < 1) := by
  obtain ⟨d, hd, h1, h2, h3, h4, h5⟩ := zmem_of h (by show (30 : Nat) < 45; decide)
  rcases zD_30 d hd h1 with rfl
  · simp at h2 h3 h4 h5; omega
theorem zD_31 : ∀ d ∈ zDIM, d.1 = 31 → d = (31, 0, 1, 1) := by decide +kernel
theorem zv_31 {g : zG} {s i : Int} (h1 : 0 ≤ s) (h2 : s < 1) (h3 : 0 ≤ i) (h4 : i < 1) : (31, s, i) ∈ zOs g := zmem (31, 0, 1, 1) (by decide) rfl (by simpa using h1) (by simp; omega) h3 (by simpa using h4)
theorem zb_31 {g : zG} {s i : Int} (h : (31, s, i) ∈ zOs g) : (0 ≤ s ∧ s < 1 ∧ 0 ≤ i ∧ i < 1) := by
  obtain ⟨d, hd, h1, h2, h3, h4, h5⟩ := zmem_of h (by show (31 : Nat) < 45; decide)
  rcases zD_31 d hd h1 with rfl
  · simp at h2 h3 h4 h5; omega
theorem zD_32 : ∀ d ∈ zDIM, d.1 = 32 → d = (32, 0, 1, 8) := by decide +kernel
theorem zv_32 {g : zG} {s i : Int} (h1 : 0 ≤ s) (h2 : s < 1) (h3 : 0 ≤ i) (h4 : i < 8) : (32, s, i) ∈ zOs g := zmem (32, 0, 1, 8) (by decide) rfl (by simpa using h1) (by simp; omega) h3 (by simpa using h4)
theorem zb_32 {g : zG} {s i : Int} (h : (32, s, i) ∈ zOs g) : (0 ≤ s ∧ s < 1 ∧ 0 ≤ i ∧ i < 8) := by
  obtain ⟨d, hd, h1, h2, h3, h4, h5⟩ := zmem_of h (by show (32 : Nat) < 45; decide)
  rcases zD_32 d hd h1 with rfl
  · simp at h2 h3 h4 h5; omega
theorem zD_33 : ∀ d ∈ zDIM, d.1 = 33 → d = (33, 0, 1, 1) := by decide +kernel
theorem zv_33 {g : zG} {s i : Int} (h1 : 0 ≤ s) (h2 : s < 1) (h3 : 0 ≤ i) (h4 : i < 1) : (33, s, i) ∈ zOs g := zmem (33, 0, 1, 1) (by decide) rfl (by simpa using h1) (by simp; omega) h3 (by simpa using h4)
theorem zb_33 {g : zG} {s i : Int} (h : (33, s, i) ∈ zOs g) : (0 ≤ s ∧ s < 1 ∧ 0 ≤ i ∧ i < 1) := by
  obtain ⟨d, hd, h1, h2, h3, h4, h5⟩ := zmem_of h (by show (33 : Nat) < 45; decide)
  rcases zD_33 d hd h1 with rfl
  · simp at h2 h3 h4 h5; omega
theorem zD_34 : ∀ d ∈ zDIM, d.1 = 34 → d = (34, 0, 1, 1) := by decide +kernel
theorem zv_34 {g : zG} {s i : Int} (h1 : 0 ≤ s) (h2 : s < 1) (h3 : 0 ≤ i) (h4 : i < 1) : (34, s, i) ∈ zOs g := zmem (34, 0, 1, 1) (by decide) rfl (by simpa using h1) (by simp; omega) h3 (by simpa using h4)
theorem zb_34 {g : zG} {s i : Int} (h : (34, s, i) ∈ zOs g) : (0 ≤ s ∧ s < 1 ∧ 0 ≤ i ∧ i < 1) := by
  obtain ⟨d, hd, h1, h2, h3, h4, h5⟩ := zmem_of h (by show (34 : Nat) < 45; decide)
  rcases zD_34 d hd h1 with rfl
  · simp at h2 h3 h4 h5; omega
theorem zD_35 : ∀ d ∈ zDIM, d.1 = 35 → d = (35, 0, 1, 1) := by decide +kernel
theorem zv_35 {g : zG} {s i : Int} (h1 : 0 ≤ s) (h2 : s < 1) (h3 : 0 ≤ i) (h4 : i < 1) : (35, s, i) ∈ zOs g := zmem (35, 0, 1, 1) (by decide) rfl (by simpa using h1) (by simp; omega) h3 (by simpa using h4)
theorem zb_35 {g : zG} {s i : Int} (h : (35, s, i) ∈ zOs g) : (0 ≤ s ∧ s < 1 ∧ 0 ≤ i ∧ i < 1) := by
  obtain ⟨d, hd, h1, h2, h3, h4, h5⟩ := zmem_of h (by show (35 : Nat) < 45; decide)
  rcases zD_35 d hd h1 with rfl
  · simp at h2 h3 h4 h5; omega
theorem zD_36 : ∀ d ∈ zDIM, d.1 = 36 → d = (36, 0, 1, 1) := by decide +kernel
theorem zv_36 {g : zG} {s i : Int} (h1 : 0 ≤ s) (h2 : s < 1) (h3 : 0 ≤ i) (h4 : i < 1) : (36, s, i) ∈ zOs g := zmem (36, 0, 1, 1) (by decide) rfl (by simpa using h1) (by simp; omega) h3 (by simpa using h4)
theorem zb_36 {g : zG} {s i : Int} (h : (36, s, i) ∈ zOs g) : (0 ≤ s ∧ s < 1 ∧ 0 ≤ i ∧ i < 1) := by
  obtain ⟨d, hd, h1, h2, h3, h4, h5⟩ := zmem_of h (by show (36 : Nat) < 45; decide)
  rcases zD_36 d hd h1 with rfl
  · simp at h2 h3 h4 h5; omega
theorem zD_37 : ∀ d ∈ zDIM, d.1 = 37 → d = (37, 0, 1, 1) := by decide +kernel
theorem zv_37 {g : zG} {s i : Int} (h1 : 0 ≤ s) (h2 : s < 1) (h3 : 0 ≤ i) (h4 : i < 1) : (37, s, i) ∈ zOs g := zmem (37, 0, 1, 1) (by decide) rfl (by simpa using h1) (by simp; omega) h3 (by simpa using h4)
theorem zb_37 {g : zG} {s i : Int} (h : (37, s, i) ∈ zOs g) : (0 ≤ s ∧ s < 1 ∧ 0 ≤ i ∧ i < 1) := by
  obtain ⟨d, hd, h1, h2, h3, h4, h5⟩ := zmem_of h (by show (37 : Nat) < 45; decide)
  rcases zD_37 d hd h1 with rfl
  · simp at h2 h3 h4 h5; omega
theorem zD_38 : ∀ d ∈ zDIM, d.1 = 38 → d = (38, 0, 1, 1) := by decide +kernel
theorem zv_38 {g : zG} {s i : Int} (h1 : 0 ≤ s) (h2 : s < 1) (h3 : 0 ≤ i) (h4 : i < 1) : (38, s, i) ∈ zOs g := zmem (38, 0, 1, 1) (by decide) rfl (by simpa using h1) (by simp; omega) h3 (by simpa using h4)
theorem zb_38 {g : zG} {s i : Int} (h : (38, s, i) ∈ zOs g) : (0 ≤ s ∧ s < 1 ∧ 0 ≤ i ∧ i < 1) := by
  obtain ⟨d, hd, h1, h2, h3, h4, h5⟩ := zmem_of h (by show (38 : Nat) < 45; decide)
  rcases zD_38 d hd h1 with rfl
  · simp at h2 h3 h4 h5; omega
theorem zD_39 : ∀ d ∈ zDIM, d.1 = 39 → d = (39, 0, 1, 1) := by decide +kernel
theorem zv_39 {g : zG} {s i : Int} (h1 : 0 ≤ s) (h2 : s < 1) (h3 : 0 ≤ i) (h4 : i < 1) : (39, s, i) ∈ zOs g := zmem (39, 0, 1, 1) (by decide) rfl (by simpa using h1) (by simp; omega) h3 (by simpa using h4)
theorem zb_39 {g : zG} {s i : Int} (h : (39, s, i) ∈ zOs g) : (0 ≤ s ∧ s < 1 ∧ 0 ≤ i ∧ i < 1) := by
  obtain ⟨d, hd, h1, h2, h3, h4, h5⟩ := zmem_of h (by show (39 : Nat) < 45; decide)
  rcases zD_39 d hd h1 with rfl
  · simp at h2 h3 h4 h5; omega
theorem zD_40 : ∀ d ∈ zDIM, d.1 = 40 → d = (40, 0, 1, 1) := by decide +kernel
theorem zv_40 {g : zG} {s i : Int} (h1 : 0 ≤ s) (h2 : s < 1) (h3 : 0 ≤ i) (h4 : i < 1) : (40, s, i) ∈ zOs g := zmem (40, 0, 1, 1) (by decide) rfl (by simpa using h1) (by simp; omega) h3 (by simpa using h4)
theorem zb_40 {g : zG} {s i : Int} (h : (40, s, i) ∈ zOs g) : (0 ≤ s ∧ s < 1 ∧ 0 ≤ i ∧ i < 1) := by
  obtain ⟨d, hd, h1, h2, h3, h4, h5⟩ := zmem_of h (by show (40 : Nat) < 45; decide)
  rcases zD_40 d hd h1 with rfl
  · simp at h2 h3 h4 h5; omega
theorem zD_41 : ∀ d ∈ zDIM, d.1 = 41 → d = (41, 0, 1, 1) := by decide +kernel
theorem zv_41 {g : zG} {s i : Int} (h1 : 0 ≤ s) (h2 : s < 1) (h3 : 0 ≤ i) (h4 : i < 1) : (41, s, i) ∈ zOs g := zmem (41, 0, 1, 1) (by decide) rfl (by simpa using h1) (by simp; omega) h3 (by simpa using h4)
theorem zb_41 {g : zG} {s i : Int} (h : (41, s, i) ∈ zOs g) : (0 ≤ s ∧ s < 1 ∧ 0 ≤ i ∧ i < 1) := by
  obtain ⟨d, hd, h1, h2, h3, h4, h5⟩ := zmem_of h (by show (41 : Nat) < 45; decide)
  rcases zD_41 d hd h1 with rfl
  · simp at h2 h3 h4 h5; omega
theorem zD_42 : ∀ d ∈ zDIM, d.1 = 42 → d = (42, 0, 1, 1) := by decide +kernel
theorem zv_42 {g : zG} {s i : Int} (h1 : 0 ≤ s) (h2 : s < 1) (h3 : 0 ≤ i) (h4 : i < 1) : (42, s, i) ∈ zOs g := zmem (42, 0, 1, 1) (by decide) rfl (by simpa using h1) (by simp; omega) h3 (by simpa using h4)
theorem zb_42 {g : zG} {s i : Int} (h : (42, s, i) ∈ zOs g) : (0 ≤ s ∧ s < 1 ∧ 0 ≤ i ∧ i < 1) := by
  obtain ⟨d, hd, h1, h2, h3, h4, h5⟩ := zmem_of h (by show (42 : Nat) < 45; decide)
  rcases zD_42 d hd h1 with rfl
  · simp at h2 h3 h4 h5; omega
theorem zD_43 : ∀ d ∈ zDIM, d.1 = 43 → d = (43, 0, 1, 1) := by decide +kernel
theorem zv_43 {g : zG} {s i : Int} (h1 : 0 ≤ s) (h2 : s < 1) (h3 : 0 ≤ i) (h4 : i < 1) : (43, s, i) ∈ zOs g := zmem (43, 0, 1, 1) (by decide) rfl (by simpa using h1) (by simp; omega) h3 (by simpa using h4)
theorem zb_43 {g : zG} {s i : Int} (h : (43, s, i) ∈ zOs g) : (0 ≤ s ∧ s < 1 ∧ 0 ≤ i ∧ i < 1) := by
  obtain ⟨d, hd, h1, h2, h3, h4, h5⟩ := zmem_of h (by show (43 : Nat) < 45; decide)
  rcases zD_43 d hd h1 with rfl
  · simp at h2 h3 h4 h5; omega
theorem zD_44 : ∀ d ∈ zDIM, d.1 = 44 → d = (44, 0, 1, 1) := by decide +kernel
theorem zv_44 {g : zG} {s i : Int} (h1 : 0 ≤ s) (h2 : s < 1) (h3 : 0 ≤ i) (h4 : i < 1) : (44, s, i) ∈ zOs g := zmem (44, 0, 1, 1) (by decide) rfl (by simpa using h1) (by simp; omega) h3 (by simpa using h4)
theorem zb_44 {g : zG} {s i : Int} (h : (44, s, i) ∈ zOs g) : (0 ≤ s ∧ s < 1 ∧ 0 ≤ i ∧ i < 1) := by
  obtain ⟨d, hd, h1, h2, h3, h4, h5⟩ := zmem_of h (by show (44 : Nat) < 45; decide)
  rcases zD_44 d hd h1 with rfl
  · simp at h2 h3 h4 h5; omega
section ZPTR
variable {X : zX} {l : Launch} {g : zG} {own : String} {cc : ByteArray} {h nL pc : Nat} {ls : zL} {st : List zV} {mem : zM}
theorem z_get_10_0 (hG : zGood X l g own cc h nL) {idx : Nat} {s i : Int} (hd : decode cc pc = .ok (.getfield idx, 3)) (hw : zFL own idx 10 0) (K : zZ X (pc + 3) ls (zr 2 0 0 :: st) mem) : zZ X pc ls (zr 0 s i :: st) mem := by
  refine z_getR hG hd hw rfl rfl rfl (fun ho => ?_) K
  have hb := zb_0 ho
  exact zv_2 (by omega) (by omega) (by omega) (by omega)
theorem z_get_10_1 (hG : zGood X l g own cc h nL) {idx : Nat} {s i : Int} (hd : decode cc pc = .ok (.getfield idx, 3)) (hw : zFL own idx 10 1) (K : zZ X (pc + 3) ls (zr 1 0 0 :: st) mem) : zZ X pc ls (zr 0 s i :: st) mem := by
  refine z_getR hG hd hw rfl rfl rfl (fun ho => ?_) K
  have hb := zb_0 ho
  exact zv_1 (by omega) (by omega) (by omega) (by omega)
theorem z_get_10_2 (hG : zGood X l g own cc h nL) {idx : Nat} {s i : Int} (hd : decode cc pc = .ok (.getfield idx, 3)) (hw : zFL own idx 10 2) (K : zZ X (pc + 3) ls (zr 20 0 0 :: st) mem) : zZ X pc ls (zr 0 s i :: st) mem := by
  refine z_getR hG hd hw rfl rfl rfl (fun ho => ?_) K
  have hb := zb_0 ho
  exact zv_20 (by omega) (by omega) (by omega) (by omega)
theorem z_get_10_3 (hG : zGood X l g own cc h nL) {idx : Nat} {s i : Int} (hd : decode cc pc = .ok (.getfield idx, 3)) (hw : zFL own idx 10 3) (K : zZ X (pc + 3) ls (zr 21 0 0 :: st) mem) : zZ X pc ls (zr 0 s i :: st) mem := by
  refine z_getR hG hd hw rfl rfl rfl (fun ho => ?_) K
  have hb := zb_0 ho
  exact zv_21 (by omega) (by omega) (by omega) (by omega)
theorem z_get_10_4 (hG : zGood X l g own cc h nL) {idx : Nat} {s i : Int} (hd : decode cc pc = .ok (.getfield idx, 3)) (hw : zFL own idx 10 4) (K : zZ X (pc + 3) ls (zr 7 0 0 :: st) mem) : zZ X pc ls (zr 0 s i :: st) mem := by
  refine z_getR hG hd hw rfl rfl rfl (fun ho => ?_) K
  have hb := zb_0 ho
  exact zv_7 (by omega) (by omega) (by omega) (by omega)
theorem z_get_10_5 (hG : zGood X l g own cc h nL) {idx : Nat} {s i : Int} (hd : decode cc pc = .ok (.getfield idx, 3)) (hw : zFL own idx 10 5) (K : zZ X (pc + 3) ls (zr 6 0 0 :: st) mem) : zZ X pc ls (zr 0 s i :: st) mem := by
  refine z_getR hG hd hw rfl rfl rfl (fun ho => ?_) K
  have hb := zb_0 ho
  exact zv_6 (by omega) (by omega) (by omega) (by omega)
theorem z_get_10_6 (hG : zGood X l g own cc h nL) {idx : Nat} {s i : Int} (hd : decode cc pc = .ok (.getfield idx, 3)) (hw : zFL own idx 10 6) (K : zZ X (pc + 3) ls (zr 8 0 0 :: st) mem) : zZ X pc ls (zr 0 s i :: st) mem := by
  refine z_getR hG hd hw rfl rfl rfl (fun ho => ?_) K
  have hb := zb_0 ho
  exact zv_8 (by omega) (by omega) (by omega) (by omega)
theorem z_get_10_7 (hG : zGood X l g own cc h nL) {idx : Nat} {s i : Int} (hd : decode cc pc = .ok (.getfield idx, 3)) (hw : zFL own idx 10 7) (K : zZ X (pc + 3) ls (zr 10 0 0 :: st) mem) : zZ X pc ls (zr 0 s i :: st) mem := by
  refine z_getR hG hd hw rfl rfl rfl (fun ho => ?_) K
  have hb := zb_0 ho
  exact zv_10 (by omega) (by omega) (by omega) (by omega)
theorem z_get_0_2 (hG : zGood X l g own cc h nL) {idx : Nat} {s i : Int} (hd : decode cc pc = .ok (.getfield idx, 3)) (hw : zFL own idx 0 2) (K : zZ X (pc + 3) ls (zr 19 0 0 :: st) mem) : zZ X pc ls (zr 1 s i :: st) mem := by
  refine z_getR hG hd hw rfl rfl rfl (fun ho => ?_) K
  have hb := zb_1 ho
  exact zv_19 (by omega) (by omega) (by omega) (by omega)
theorem z_get_7_6 (hG : zGood X l g own cc h nL) {idx : Nat} {s i : Int} (hd : decode cc pc = .ok (.getfield idx, 3)) (hw : zFL own idx 7 6) (K : zZ X (pc + 3) ls (zr 15 s 0 :: st) mem) : zZ X pc ls (zr 2 s i :: st) mem := by
  refine z_getR hG hd hw rfl rfl rfl (fun ho => ?_) K
  have hb := zb_2 ho
  exact zv_15 (by omega) (by omega) (by omega) (by omega)
theorem z_get_7_7 (hG : zGood X l g own cc h nL) {idx : Nat} {s i : Int} (hd : decode cc pc = .ok (.getfield idx, 3)) (hw : zFL own idx 7 7) (K : zZ X (pc + 3) ls (zr 16 s 0 :: st) mem) : zZ X pc ls (zr 2 s i :: st) mem := by
  refine z_getR hG hd hw rfl rfl rfl (fun ho => ?_) K
  have hb := zb_2 ho
  exact zv_16 (by omega) (by omega) (by omega) (by omega)
theorem z_get_1_3 (hG : zGood X l g own cc h nL) {idx : Nat} {s i : Int} (hd : decode cc pc = .ok (.getfield idx, 3)) (hw : zFL own idx 1 3) (K : zZ X (pc + 3) ls (zr 12 s i :: st) mem) : zZ X pc ls (zr 3 s i :: st) mem := by
  refine z_getR hG hd hw rfl rfl rfl (fun ho => ?_) K
  have hb := zb_3 ho
  exact zv_12 (by omega) (by omega) (by omega) (by omega)
theorem z_get_1_4 (hG : zGood X l g own cc h nL) {idx : Nat} {s i : Int} (hd : decode cc pc = .ok (.getfield idx, 3)) (hw : zFL own idx 1 4) (K : zZ X (pc + 3) ls (zr 13 s i :: st) mem) : zZ X pc ls (zr 3 s i :: st) mem := by
  refine z_getR hG hd hw rfl rfl rfl (fun ho => ?_) K
  have hb := zb_3 ho
  exact zv_13 (by omega) (by omega) (by omega) (by omega)
theorem z_get_1_7 (hG : zGood X l g own cc h nL) {idx : Nat} {s i : Int} (hd : decode cc pc = .ok (.getfield idx, 3)) (hw : zFL own idx 1 7) (K : zZ X (pc + 3) ls (zr 14 s i :: st) mem) : zZ X pc ls (zr 3 s i :: st) mem := by
  refine z_getR hG hd hw rfl rfl rfl (fun ho => ?_) K
  have hb := zb_3 ho
  exact zv_14 (by omega) (by omega) (by omega) (by omega)
theorem z_get_4_3 (hG : zGood X l g own cc h nL) {idx : Nat} {s i : Int} (hd : decode cc pc = .ok (.getfield idx, 3)) (hw : zFL own idx 4 3) (K : zZ X (pc + 3) ls (zr 17 s i :: st) mem) : zZ X pc ls (zr 4 s i :: st) mem := by
  refine z_getR hG hd hw rfl rfl rfl (fun ho => ?_) K
  have hb := zb_4 ho
  rcases hb with hb | hb
  · exact zv_17 (by omega) (by omega) (by omega) (by omega)
  · exact zv_17b (by omega) (by omega) (by omega) (by omega)
theorem z_get_4_4 (hG : zGood X l g own cc h nL) {idx : Nat} {s i : Int} (hd : decode cc pc = .ok (.getfield idx, 3)) (hw : zFL own idx 4 4) (K : zZ X (pc + 3) ls (zr 18 s i :: st) mem) : zZ X pc ls (zr 4 s i :: st) mem := by
  refine z_getR hG hd hw rfl rfl rfl (fun ho => ?_) K
  have hb := zb_4 ho
  rcases hb with hb | hb
  · exact zv_18 (by omega) (by omega) (by omega) (by omega)
  · exact zv_18b (by omega) (by omega) (by omega) (by omega)
theorem z_get_2_1 (hG : zGood X l g own cc h nL) {idx : Nat} {s i : Int} (hd : decode cc pc = .ok (.getfield idx, 3)) (hw : zFL own idx 2 1) (K : zZ X (pc + 3) ls (zr 22 0 0 :: st) mem) : zZ X pc ls (zr 6 s i :: st) mem := by
  refine z_getR hG hd hw rfl rfl rfl (fun ho => ?_) K
  have hb := zb_6 ho
  exact zv_22 (by omega) (by omega) (by omega) (by omega)
theorem z_get_3_0 (hG : zGood X l g own cc h nL) {idx : Nat} {s i : Int} (hd : decode cc pc = .ok (.getfield idx, 3)) (hw : zFL own idx 3 0) (K : zZ X (pc + 3) ls (zr 4 9 0 :: st) mem) : zZ X pc ls (zr 7 s i :: st) mem := by
  refine z_getR hG hd hw rfl rfl rfl (fun ho => ?_) K
  have hb := zb_7 ho
  exact zv_4b (by omega) (by omega) (by omega) (by omega)
theorem z_get_3_1 (hG : zGood X l g own cc h nL) {idx : Nat} {s i : Int} (hd : decode cc pc = .ok (.getfield idx, 3)) (hw : zFL own idx 3 1) (K : zZ X (pc + 3) ls (zr 6 0 0 :: st) mem) : zZ X pc ls (zr 7 s i :: st) mem := by
  refine z_getR hG hd hw rfl rfl rfl (fun ho => ?_) K
  have hb := zb_7 ho
  exact zv_6 (by omega) (by omega) (by omega) (by omega)
theorem z_get_6_0 (hG : zGood X l g own cc h nL) {idx : Nat} {s i : Int} (hd : decode cc pc = .ok (.getfield idx, 3)) (hw : zFL own idx 6 0) (K : zZ X (pc + 3) ls (zr 23 0 0 :: st) mem) : zZ X pc ls (zr 8 s i :: st) mem := by
  refine z_getR hG hd hw rfl rfl rfl (fun ho => ?_) K
  have hb := zb_8 ho
  exact zv_23 (by omega) (by omega) (by omega) (by omega)
theorem z_get_6_1 (hG : zGood X l g own cc h nL) {idx : Nat} {s i : Int} (hd : decode cc pc = .ok (.getfield idx, 3)) (hw : zFL own idx 6 1) (K : zZ X (pc + 3) ls (zr 24 0 0 :: st) mem) : zZ X pc ls (zr 8 s i :: st) mem := by
  refine z_getR hG hd hw rfl rfl rfl (fun ho => ?_) K
  have hb := zb_8 ho
  exact zv_24 (by omega) (by omega) (by omega) (by omega)
theorem z_get_6_2 (hG : zGood X l g own cc h nL) {idx : Nat} {s i : Int} (hd : decode cc pc = .ok (.getfield idx, 3)) (hw : zFL own idx 6 2) (K : zZ X (pc + 3) ls (zr 25 0 0 :: st) mem) : zZ X pc ls (zr 8 s i :: st) mem := by
  refine z_getR hG hd hw rfl rfl rfl (fun ho => ?_) K
  have hb := zb_8 ho
  exact zv_25 (by omega) (by omega) (by omega) (by omega)
theorem z_get_6_3 (hG : zGood X l g own cc h nL) {idx : Nat} {s i : Int} (hd : decode cc pc = .ok (.getfield idx, 3)) (hw : zFL own idx 6 3) (K : zZ X (pc + 3) ls (zr 26 0 0 :: st) mem) : zZ X pc ls (zr 8 s i :: st) mem := by
  refine z_getR hG hd hw rfl rfl rfl (fun ho => ?_) K
  have hb := zb_8 ho
  exact zv_26 (by omega) (by omega) (by omega) (by omega)
theorem z_get_6_4 (hG : zGood X l g own cc h nL) {idx : Nat} {s i : Int} (hd : decode cc pc = .ok (.getfield idx, 3)) (hw : zFL own idx 6 4) (K : zZ X (pc + 3) ls (zr 27 0 0 :: st) mem) : zZ X pc ls (zr 8 s i :: st) mem := by
  refine z_getR hG hd hw rfl rfl rfl (fun ho => ?_) K
  have hb := zb_8 ho
  exact zv_27 (by omega) (by omega) (by omega) (by omega)
theorem z_get_6_5 (hG : zGood X l g own cc h nL) {idx : Nat} {s i : Int} (hd : decode cc pc = .ok (.getfield idx, 3)) (hw : zFL own idx 6 5) (K : zZ X (pc + 3) ls (zr 28 0 0 :: st) mem) : zZ X pc ls (zr 8 s i :: st) mem := by
  refine z_getR hG hd hw rfl rfl rfl (fun ho => ?_) K
  have hb := zb_8 ho
  exact zv_28 (by omega) (by omega) (by omega) (by omega)
theorem z_get_6_6 (hG : zGood X l g own cc h nL) {idx : Nat} {s i : Int} (hd : decode cc pc = .ok (.getfield idx, 3)) (hw : zFL own idx 6 6) (K : zZ X (pc + 3) ls (zr 29 0 0 :: st) mem) : zZ X pc ls (zr 8 s i :: st) mem := by
  refine z_getR hG hd hw rfl rfl rfl (fun ho => ?_) K
  have hb := zb_8 ho
  exact zv_29 (by omega) (by omega) (by omega) (by omega)
theorem z_get_6_7 (hG : zGood X l g own cc h nL) {idx : Nat} {s i : Int} (hd : decode cc pc = .ok (.getfield idx, 3)) (hw : zFL own idx 6 7) (K : zZ X (pc + 3) ls (zr 30 0 0 :: st) mem) : zZ X pc ls (zr 8 s i :: st) mem := by
  refine z_getR hG hd hw rfl rfl rfl (fun ho => ?_) K
  have hb := zb_8 ho
  exact zv_30 (by omega) (by omega) (by omega) (by omega)
theorem z_get_6_8 (hG : zGood X l g own cc h nL) {idx : Nat} {s i : Int} (hd : decode cc pc = .ok (.getfield idx, 3)) (hw : zFL own idx 6 8) (K : zZ X (pc + 3) ls (zr 31 0 0 :: st) mem) : zZ X pc ls (zr 8 s i :: st) mem := by
  refine z_getR hG hd hw rfl rfl rfl (fun ho => ?_) K
  have hb := zb_8 ho
  exact zv_31 (by omega) (by omega) (by omega) (by omega)
theorem z_get_6_9 (hG : zGood X l g own cc h nL) {idx : Nat} {s i : Int} (hd : decode cc pc = .ok (.getfield idx, 3)) (hw : zFL own idx 6 9) (K : zZ X (pc + 3) ls (zr 9 0 0 :: st) mem) : zZ X pc ls (zr 8 s i :: st) mem := by
  refine z_getR hG hd hw rfl rfl rfl (fun ho => ?_) K
  have hb := zb_8 ho
  exact zv_9 (by omega) (by omega) (by omega) (by omega)
theorem z_get_9_2 (hG : zGood X l g own cc h nL) {idx : Nat} {s i : Int} (hd : decode cc pc = .ok (.getfield idx, 3)) (hw : zFL own idx 9 2) (K : zZ X (pc + 3) ls (zr 33 0 0 :: st) mem) : zZ X pc ls (zr 9 s i :: st) mem := by
  refine z_getR hG hd hw rfl rfl rfl (fun ho => ?_) K
  have hb := zb_9 ho
  exact zv_33 (by omega) (by omega) (by omega) (by omega)
theorem z_get_9_5 (hG : zGood X l g own cc h nL) {idx : Nat} {s i : Int} (hd : decode cc pc = .ok (.getfield idx, 3)) (hw : zFL own idx 9 5) (K : zZ X (pc + 3) ls (zr 34 0 0 :: st) mem) : zZ X pc ls (zr 9 s i :: st) mem := by
  refine z_getR hG hd hw rfl rfl rfl (fun ho => ?_) K
  have hb := zb_9 ho
  exact zv_34 (by omega) (by omega) (by omega) (by omega)
theorem z_get_9_6 (hG : zGood X l g own cc h nL) {idx : Nat} {s i : Int} (hd : decode cc pc = .ok (.getfield idx, 3)) (hw : zFL own idx 9 6) (K : zZ X (pc + 3) ls (zr 35 0 0 :: st) mem) : zZ X pc ls (zr 9 s i :: st) mem := by
  refine z_getR hG hd hw rfl rfl rfl (fun ho => ?_) K
  have hb := zb_9 ho
  exact zv_35 (by omega) (by omega) (by omega) (by omega)
theorem z_get_9_7 (hG : zGood X l g own cc h nL) {idx : Nat} {s i : Int} (hd : decode cc pc = .ok (.getfield idx, 3)) (hw : zFL own idx 9 7) (K : zZ X (pc + 3) ls (zr 36 0 0 :: st) mem) : zZ X pc ls (zr 9 s i :: st) mem := by
  refine z_getR hG hd hw rfl rfl rfl (fun ho => ?_) K
  have hb := zb_9 ho
  exact zv_36 (by omega) (by omega) (by omega) (by omega)
theorem z_get_9_8 (hG : zGood X l g own cc h nL) {idx : Nat} {s i : Int} (hd : decode cc pc = .ok (.getfield idx, 3)) (hw : zFL own idx 9 8) (K : zZ X (pc + 3) ls (zr 37 0 0 :: st) mem) : zZ X pc ls (zr 9 s i :: st) mem := by
  refine z_getR hG hd hw rfl rfl rfl (fun ho => ?_) K
  have hb := zb_9 ho
  exact zv_37 (by omega) (by omega) (by omega) (by omega)
theorem z_get_9_9 (hG : zGood X l g own cc h nL) {idx : Nat} {s i : Int} (hd : decode cc pc = .ok (.getfield idx, 3)) (hw : zFL own idx 9 9) (K : zZ X (pc + 3) ls (zr 38 0 0 :: st) mem) : zZ X pc ls (zr 9 s i :: st) mem := by
  refine z_getR hG hd hw rfl rfl rfl (fun ho => ?_) K
  have hb := zb_9 ho
  exact zv_38 (by omega) (by omega) (by omega) (by omega)
theorem z_get_5_0 (hG : zGood X l g own cc h nL) {idx : Nat} {s i : Int} (hd : decode cc pc = .ok (.getfield idx, 3)) (hw : zFL own idx 5 0) (K : zZ X (pc + 3) ls (zr 39 0 0 :: st) mem) : zZ X pc ls (zr 10 s i :: st) mem := by
  refine z_getR hG hd hw rfl rfl rfl (fun ho => ?_) K
  have hb := zb_10 ho
  exact zv_39 (by omega) (by omega) (by omega) (by omega)
theorem z_get_5_1 (hG : zGood X l g own cc h nL) {idx : Nat} {s i : Int} (hd : decode cc pc = .ok (.getfield idx, 3)) (hw : zFL own idx 5 1) (K : zZ X (pc + 3) ls (zr 40 0 0 :: st) mem) : zZ X pc ls (zr 10 s i :: st) mem := by
  refine z_getR hG hd hw rfl rfl rfl (fun ho => ?_) K
  have hb := zb_10 ho
  exact zv_40 (by omega) (by omega) (by omega) (by omega)
theorem z_get_5_3 (hG : zGood X l g own cc h nL) {idx : Nat} {s i : Int} (hd : decode cc pc = .ok (.getfield idx, 3)) (hw : zFL own idx 5 3) (K : zZ X (pc + 3) ls (zr 41 0 0 :: st) mem) : zZ X pc ls (zr 10 s i :: st) mem := by
  refine z_getR hG hd hw rfl rfl rfl (fun ho => ?_) K
  have hb := zb_10 ho
  exact zv_41 (by omega) (by omega) (by omega) (by omega)
theorem z_get_5_4 (hG : zGood X l g own cc h nL) {idx : Nat} {s i : Int} (hd : decode cc pc = .ok (.getfield idx, 3)) (hw : zFL own idx 5 4) (K : zZ X (pc + 3) ls (zr 42 0 0 :: st) mem) : zZ X pc ls (zr 10 s i :: st) mem := by
  refine z_getR hG hd hw rfl rfl rfl (fun ho => ?_) K
  have hb := zb_10 ho
  exact zv_42 (by omega) (by omega) (by omega) (by omega)
theorem z_get_5_5 (hG : zGood X l g own cc h nL) {idx : Nat} {s i : Int} (hd : decode cc pc = .ok (.getfield idx, 3)) (hw : zFL own idx 5 5) (K : zZ X (pc + 3) ls (zr 43 0 0 :: st) mem) : zZ X pc ls (zr 10 s i :: st) mem := by
  refine z_getR hG hd hw rfl rfl rfl (fun ho => ?_) K
  have hb := zb_10 ho
  exact zv_43 (by omega) (by omega) (by omega) (by omega)
theorem z_get_5_6 (hG : zGood X l g own cc h nL) {idx : Nat} {s i : Int} (hd : decode cc pc = .ok (.getfield idx, 3)) (hw : zFL own idx 5 6) (K : zZ X (pc + 3) ls (zr 44 0 0 :: st) mem) : zZ X pc ls (zr 10 s i :: st) mem := by
  refine z_getR hG hd hw rfl rfl rfl (fun ho => ?_) K
  have hb := zb_10 ho
  exact zv_44 (by omega) (by omega) (by omega) (by omega)
theorem z_aa_15 (hG : zGood X l g own cc h nL) {s i j : Int} (hd : decode cc pc = .ok (.aaload, 1)) (h0 : 0 ≤ j) (h1 : j < 8) (K : zZ X (pc + 1) ls (zr 3 s j :: st) mem) : zZ X pc ls (zi j :: zr 15 s i :: st) mem := by
  refine z_aald hG hd (q := (4, 8)) rfl rfl rfl (by decide) rfl h0 (by simpa using h1) rfl (fun ho => ?_) K
  have hb := zb_15 ho
  exact zv_3 (by omega) (by omega) (by omega) (by omega)
theorem z_aa_16 (hG : zGood X l g own cc h nL) {s i j : Int} (hd : decode cc pc = .ok (.aaload, 1)) (h0 : 0 ≤ j) (h1 : j < 4) (K : zZ X (pc + 1) ls (zr 4 s j :: st) mem) : zZ X pc ls (zi j :: zr 16 s i :: st) mem := by
  refine z_aald hG hd (q := (5, 4)) rfl rfl rfl (by decide) rfl h0 (by simpa using h1) rfl (fun ho => ?_) K
  have hb := zb_16 ho
  exact zv_4 (by omega) (by omega) (by omega) (by omega)
theorem z_aa_18 (hG : zGood X l g own cc h nL) {s i j : Int} (hd : decode cc pc = .ok (.aaload, 1)) (h0 : 0 ≤ j) (h1 : j < 8) (K : zZ X (pc + 1) ls (zr 5 s (8 * i + j) :: st) mem) : zZ X pc ls (zi j :: zr 18 s i :: st) mem := by
  refine z_aald hG hd (q := (6, 8)) rfl rfl rfl (by decide) rfl h0 (by simpa using h1) rfl (fun ho => ?_) K
  have hb := zb_18 ho
  rcases hb with hb | hb
  · exact zv_5 (by omega) (by omega) (by omega) (by omega)
  · exact zv_5b (by omega) (by omega) (by omega) (by omega)
theorem z_aa_19 (hG : zGood X l g own cc h nL) {s i j : Int} (hd : decode cc pc = .ok (.aaload, 1)) (h0 : 0 ≤ j) (h1 : j < 6) (K : zZ X (pc + 1) ls (zr 2 (1 + j) 0 :: st) mem) : zZ X pc ls (zi j :: zr 19 s i :: st) mem := by
  refine z_aald hG hd (q := (3, 6)) rfl rfl rfl (by decide) rfl h0 (by simpa using h1) rfl (fun ho => ?_) K
  have hb := zb_19 ho
  exact zv_2 (by omega) (by omega) (by omega) (by omega)
theorem z_aa_20 (hG : zGood X l g own cc h nL) {s i j : Int} (hd : decode cc pc = .ok (.aaload, 1)) (h0 : 0 ≤ j) (h1 : j < 2) (K : zZ X (pc + 1) ls (zr 2 (7 + j) 0 :: st) mem) : zZ X pc ls (zi j :: zr 20 s i :: st) mem := by
  refine z_aald hG hd (q := (3, 2)) rfl rfl rfl (by decide) rfl h0 (by simpa using h1) rfl (fun ho => ?_) K
  have hb := zb_20 ho
  exact zv_2 (by omega) (by omega) (by omega) (by omega)
theorem z_aa_31 (hG : zGood X l g own cc h nL) {s i j : Int} (hd : decode cc pc = .ok (.aaload, 1)) (h0 : 0 ≤ j) (h1 : j < 8) (K : zZ X (pc + 1) ls (zr 32 0 j :: st) mem) : zZ X pc ls (zi j :: zr 31 s i :: st) mem := by
  refine z_aald hG hd (q := (7, 8)) rfl rfl rfl (by decide) rfl h0 (by simpa using h1) rfl (fun ho => ?_) K
  have hb := zb_31 ho
  exact zv_32 (by omega) (by omega) (by omega) (by omega)
end ZPTR
