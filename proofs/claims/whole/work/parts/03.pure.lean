theorem sg_shift : ∀ d, d < 10 → ∀ e, e < 4 → nI d <<< ((nI (e + 1) - 1) &&& 31) = nI d * ((1 : Int32) <<< ((nI (e + 1) - 1) &&& 31)) := by decide +kernel
theorem sg_x4 (i p : Nat) : nI i * 4 + nI p = nI (4 * i + p) := by
  rw [show (4 : Int32) = nI 4 from rfl, pk_mul, nI_add, Nat.mul_comm]
theorem sg_y4 (i p : Nat) : 4 * nI i + nI p = nI (4 * i + p) := by
  rw [show (4 : Int32) = nI 4 from rfl, pk_mul, nI_add]
theorem sg_x3 (i p : Nat) : nI i * 3 + nI p = nI (3 * i + p) := by
  rw [show (3 : Int32) = nI 3 from rfl, pk_mul, nI_add, Nat.mul_comm]
theorem sg_y3 (i p : Nat) : 3 * nI i + nI p = nI (3 * i + p) := by
  rw [show (3 : Int32) = nI 3 from rfl, pk_mul, nI_add]
theorem sg_x6 (i p : Nat) : nI i * 6 + nI p = nI (6 * i + p) := by
  rw [show (6 : Int32) = nI 6 from rfl, pk_mul, nI_add, Nat.mul_comm]
theorem sg_y6 (i p : Nat) : 6 * nI i + nI p = nI (6 * i + p) := by
  rw [show (6 : Int32) = nI 6 from rfl, pk_mul, nI_add]
theorem sg_x7 (i p : Nat) : nI i * 7 + nI p = nI (7 * i + p) := by
  rw [show (7 : Int32) = nI 7 from rfl, pk_mul, nI_add, Nat.mul_comm]
theorem sg_y7 (i p : Nat) : 7 * nI i + nI p = nI (7 * i + p) := by
  rw [show (7 : Int32) = nI 7 from rfl, pk_mul, nI_add]
theorem sg_x200 (i p : Nat) : nI i * 200 + nI p = nI (200 * i + p) := by
  rw [show (200 : Int32) = nI 200 from rfl, pk_mul, nI_add, Nat.mul_comm]
theorem sg_y200 (i p : Nat) : 200 * nI i + nI p = nI (200 * i + p) := by
  rw [show (200 : Int32) = nI 200 from rfl, pk_mul, nI_add]
theorem sg_m4 (i : Nat) : nI i * 4 = nI (4 * i) := by
  rw [show (4 : Int32) = nI 4 from rfl, pk_mul, Nat.mul_comm]
theorem sg_m4' (i : Nat) : 4 * nI i = nI (4 * i) := by
  rw [show (4 : Int32) = nI 4 from rfl, pk_mul]
theorem sg_m3 (i : Nat) : nI i * 3 = nI (3 * i) := by
  rw [show (3 : Int32) = nI 3 from rfl, pk_mul, Nat.mul_comm]
theorem sg_m3' (i : Nat) : 3 * nI i = nI (3 * i) := by
  rw [show (3 : Int32) = nI 3 from rfl, pk_mul]
theorem sg_m6 (i : Nat) : nI i * 6 = nI (6 * i) := by
  rw [show (6 : Int32) = nI 6 from rfl, pk_mul, Nat.mul_comm]
theorem sg_m6' (i : Nat) : 6 * nI i = nI (6 * i) := by
  rw [show (6 : Int32) = nI 6 from rfl, pk_mul]
theorem sg_m7 (i : Nat) : nI i * 7 = nI (7 * i) := by
  rw [show (7 : Int32) = nI 7 from rfl, pk_mul, Nat.mul_comm]
theorem sg_m7' (i : Nat) : 7 * nI i = nI (7 * i) := by
  rw [show (7 : Int32) = nI 7 from rfl, pk_mul]
theorem sg_m200 (i : Nat) : nI i * 200 = nI (200 * i) := by
  rw [show (200 : Int32) = nI 200 from rfl, pk_mul, Nat.mul_comm]
theorem sg_m200' (i : Nat) : 200 * nI i = nI (200 * i) := by
  rw [show (200 : Int32) = nI 200 from rfl, pk_mul]
theorem sg_a1 (n : Nat) : nI n + 1 = nI (n + 1) := nI_add n 1
theorem sg_a2 (n : Nat) : nI n + 2 = nI (n + 2) := nI_add n 2
theorem sg_a3 (n : Nat) : nI n + 3 = nI (n + 3) := nI_add n 3
theorem sg_a4 (n : Nat) : nI n + 4 = nI (n + 4) := nI_add n 4
theorem sg_a5 (n : Nat) : nI n + 5 = nI (n + 5) := nI_add n 5
theorem sg_a6 (n : Nat) : nI n + 6 = nI (n + 6) := nI_add n 6
/-- a job is changed, the others stay -/
theorem sg_jobs_upd {t jc j : Nat} {se ac en ou uw ra ea ho wh en' ou' uw' ra' ea' ho' wh' : Nat → Int32} (h : sg_jobs t jc se ac en ou uw ra ea ho wh)
    (hne : ∀ m, m ≠ j → en' m = en m ∧ ou' m = ou m ∧ uw' m = uw m ∧ ra' m = ra m ∧ ea' m = ea m ∧ ho' m = ho m ∧ wh' m = wh m)
    (hj : ∀ a e, a < 4 → ac j = nI a → e ≤ 4 → en j = nI e → (ou j = -1 → nI e < se (7 * a + 2)) → ∃ e', e' ≤ 4 ∧ en' j = nI e' ∧ (ou' j = -1 → nI e' < se (7 * a + 2)) ∧ sg_how t (ou' j) (uw' j) (ra' j) (ea' j) (ho' j) (wh' j)) :
    sg_jobs t jc se ac en' ou' uw' ra' ea' ho' wh' := by
  intro m hm
  obtain ⟨a, e, h1, h2, h3, h4, h5, h6⟩ := h m hm
  by_cases c : m = j
  · subst c
    obtain ⟨e', g1, g2, g3, g4⟩ := hj a e h1 h2 h3 h4 h5
    exact ⟨a, e', h1, h2, g1, g2, g3, g4⟩
  · obtain ⟨k1, k2, k3, k4, k5, k6, k7⟩ := hne m c
    rw [k1, k2, k3, k4, k5, k6, k7]
    exact ⟨a, e, h1, h2, h3, h4, h5, h6⟩
theorem sg_how_up {t : Nat} {ou uw ra ea ho wh : Int32} (ht : t + 1 < 2 ^ 31) (h : sg_how t ou uw ra ea ho wh) : sg_how (t + 1) ou uw ra ea ho wh := by
  rcases h with h | ⟨h1, h2, h3, h4, h5⟩ | h
  · exact Or.inl h
  · exact Or.inr (Or.inl ⟨h1, h2, h3, h4, Int32.le_trans h5 (nI_le (by omega) ht)⟩)
  · exact Or.inr (Or.inr h)
theorem sg_jobs_up {t jc : Nat} {se ac en ou uw ra ea ho wh : Nat → Int32} (ht : t + 1 < 2 ^ 31) (h : sg_jobs t jc se ac en ou uw ra ea ho wh) : sg_jobs (t + 1) jc se ac en ou uw ra ea ho wh := by
  intro j hj
  obtain ⟨a, e, h1, h2, h3, h4, h5, h6⟩ := h j hj
  exact ⟨a, e, h1, h2, h3, h4, h5, sg_how_up ht h6⟩
theorem sg_inT {n N : Nat} (h : n < N) (hN : N < 2 ^ 31) : vp_in (nI n) N = True := eq_true (vp_in_nI h hN)
theorem sg_eqF {a b : Nat} (h : a ≠ b) (ha : a < 2 ^ 31) (hb : b < 2 ^ 31) : (nI a = nI b) = False := eq_false (fun z => h ((nI_eq ha hb).mp z))
theorem sg_ltT {a b : Nat} (h : a < b) (hb : b < 2 ^ 31) : (nI a < nI b) = True := eq_true (nI_lt h hb)
theorem sg_ltF {a b : Nat} (h : b ≤ a) (ha : a < 2 ^ 31) : (nI a < nI b) = False := eq_false (nI_nlt h ha)
theorem sg_leT {a b : Nat} (h : a ≤ b) (hb : b < 2 ^ 31) : (nI a ≤ nI b) = True := eq_true (nI_le h hb)
theorem sg_leF {a b : Nat} (h : b < a) (ha : a < 2 ^ 31) : (nI a ≤ nI b) = False := eq_false (nI_ge h ha)
theorem sg_z0 {a : Nat} (h : 0 < a) (ha : a < 2 ^ 31) : (nI a = 0) = False := eq_false (nI_ne0 h ha)
theorem sg_neg {a : Nat} (ha : a < 2 ^ 31) : (nI a < 0) = False := eq_false (nI_pos ha)
theorem sg_nn {a : Nat} (ha : a < 2 ^ 31) : (0 ≤ nI a) = True := eq_true (nI_pos' ha)
theorem sg_nm1 {a : Nat} (ha : a < 2 ^ 31) : (nI a = -1) = False := eq_false (sg_ne1 ha)
theorem sg_lt0 : ¬ (0 : Int32) = 1 ∧ ¬ (0 : Int32) = 2 ∧ ¬ (0 : Int32) = 3 ∧ ¬ (0 : Int32) = 4 ∧ ¬ (0 : Int32) = 5 ∧ ¬ (0 : Int32) = 6 ∧ ¬ (0 : Int32) = 7 ∧ ¬ (0 : Int32) = 8 ∧ ¬ (0 : Int32) = 9 ∧ ¬ (0 : Int32) = 10 ∧ ¬ (0 : Int32) = 11 ∧ ¬ (0 : Int32) = 12 := by
  refine ⟨?_, ?_, ?_, ?_, ?_, ?_, ?_, ?_, ?_, ?_, ?_, ?_⟩ <;> decide
theorem sg_lt1 : ¬ (1 : Int32) = 0 ∧ ¬ (1 : Int32) = 2 ∧ ¬ (1 : Int32) = 3 ∧ ¬ (1 : Int32) = 4 ∧ ¬ (1 : Int32) = 5 ∧ ¬ (1 : Int32) = 6 ∧ ¬ (1 : Int32) = 7 ∧ ¬ (1 : Int32) = 8 ∧ ¬ (1 : Int32) = 9 ∧ ¬ (1 : Int32) = 10 ∧ ¬ (1 : Int32) = 11 ∧ ¬ (1 : Int32) = 12 := by
  refine ⟨?_, ?_, ?_, ?_, ?_, ?_, ?_, ?_, ?_, ?_, ?_, ?_⟩ <;> decide
theorem sg_lt2 : ¬ (2 : Int32) = 0 ∧ ¬ (2 : Int32) = 1 ∧ ¬ (2 : Int32) = 3 ∧ ¬ (2 : Int32) = 4 ∧ ¬ (2 : Int32) = 5 ∧ ¬ (2 : Int32) = 6 ∧ ¬ (2 : Int32) = 7 ∧ ¬ (2 : Int32) = 8 ∧ ¬ (2 : Int32) = 9 ∧ ¬ (2 : Int32) = 10 ∧ ¬ (2 : Int32) = 11 ∧ ¬ (2 : Int32) = 12 := by
  refine ⟨?_, ?_, ?_, ?_, ?_, ?_, ?_, ?_, ?_, ?_, ?_, ?_⟩ <;> decide
theorem sg_lt3 : ¬ (3 : Int32) = 0 ∧ ¬ (3 : Int32) = 1 ∧ ¬ (3 : Int32) = 2 ∧ ¬ (3 : Int32) = 4 ∧ ¬ (3 : Int32) = 5 ∧ ¬ (3 : Int32) = 6 ∧ ¬ (3 : Int32) = 7 ∧ ¬ (3 : Int32) = 8 ∧ ¬ (3 : Int32) = 9 ∧ ¬ (3 : Int32) = 10 ∧ ¬ (3 : Int32) = 11 ∧ ¬ (3 : Int32) = 12 := by
  refine ⟨?_, ?_, ?_, ?_, ?_, ?_, ?_, ?_, ?_, ?_, ?_, ?_⟩ <;> decide
theorem sg_lt4 : ¬ (4 : Int32) = 0 ∧ ¬ (4 : Int32) = 1 ∧ ¬ (4 : Int32) = 2 ∧ ¬ (4 : Int32) = 3 ∧ ¬ (4 : Int32) = 5 ∧ ¬ (4 : Int32) = 6 ∧ ¬ (4 : Int32) = 7 ∧ ¬ (4 : Int32) = 8 ∧ ¬ (4 : Int32) = 9 ∧ ¬ (4 : Int32) = 10 ∧ ¬ (4 : Int32) = 11 ∧ ¬ (4 : Int32) = 12 := by
  refine ⟨?_, ?_, ?_, ?_, ?_, ?_, ?_, ?_, ?_, ?_, ?_, ?_⟩ <;> decide
theorem sg_lt5 : ¬ (5 : Int32) = 0 ∧ ¬ (5 : Int32) = 1 ∧ ¬ (5 : Int32) = 2 ∧ ¬ (5 : Int32) = 3 ∧ ¬ (5 : Int32) = 4 ∧ ¬ (5 : Int32) = 6 ∧ ¬ (5 : Int32) = 7 ∧ ¬ (5 : Int32) = 8 ∧ ¬ (5 : Int32) = 9 ∧ ¬ (5 : Int32) = 10 ∧ ¬ (5 : Int32) = 11 ∧ ¬ (5 : Int32) = 12 := by
  refine ⟨?_, ?_, ?_, ?_, ?_, ?_, ?_, ?_, ?_, ?_, ?_, ?_⟩ <;> decide
theorem sg_lt6 : ¬ (6 : Int32) = 0 ∧ ¬ (6 : Int32) = 1 ∧ ¬ (6 : Int32) = 2 ∧ ¬ (6 : Int32) = 3 ∧ ¬ (6 : Int32) = 4 ∧ ¬ (6 : Int32) = 5 ∧ ¬ (6 : Int32) = 7 ∧ ¬ (6 : Int32) = 8 ∧ ¬ (6 : Int32) = 9 ∧ ¬ (6 : Int32) = 10 ∧ ¬ (6 : Int32) = 11 ∧ ¬ (6 : Int32) = 12 := by
  refine ⟨?_, ?_, ?_, ?_, ?_, ?_, ?_, ?_, ?_, ?_, ?_, ?_⟩ <;> decide
theorem sg_lt7 : ¬ (7 : Int32) = 0 ∧ ¬ (7 : Int32) = 1 ∧ ¬ (7 : Int32) = 2 ∧ ¬ (7 : Int32) = 3 ∧ ¬ (7 : Int32) = 4 ∧ ¬ (7 : Int32) = 5 ∧ ¬ (7 : Int32) = 6 ∧ ¬ (7 : Int32) = 8 ∧ ¬ (7 : Int32) = 9 ∧ ¬ (7 : Int32) = 10 ∧ ¬ (7 : Int32) = 11 ∧ ¬ (7 : Int32) = 12 := by
  refine ⟨?_, ?_, ?_, ?_, ?_, ?_, ?_, ?_, ?_, ?_, ?_, ?_⟩ <;> decide
theorem sg_lt8 : ¬ (8 : Int32) = 0 ∧ ¬ (8 : Int32) = 1 ∧ ¬ (8 : Int32) = 2 ∧ ¬ (8 : Int32) = 3 ∧ ¬ (8 : Int32) = 4 ∧ ¬ (8 : Int32) = 5 ∧ ¬ (8 : Int32) = 6 ∧ ¬ (8 : Int32) = 7 ∧ ¬ (8 : Int32) = 9 ∧ ¬ (8 : Int32) = 10 ∧ ¬ (8 : Int32) = 11 ∧ ¬ (8 : Int32) = 12 := by
  refine ⟨?_, ?_, ?_, ?_, ?_, ?_, ?_, ?_, ?_, ?_, ?_, ?_⟩ <;> decide
theorem sg_lt9 : ¬ (9 : Int32) = 0 ∧ ¬ (9 : Int32) = 1 ∧ ¬ (9 : Int32) = 2 ∧ ¬ (9 : Int32) = 3 ∧ ¬ (9 : Int32) = 4 ∧ ¬ (9 : Int32) = 5 ∧ ¬ (9 : Int32) = 6 ∧ ¬ (9 : Int32) = 7 ∧ ¬ (9 : Int32) = 8 ∧ ¬ (9 : Int32) = 10 ∧ ¬ (9 : Int32) = 11 ∧ ¬ (9 : Int32) = 12 := by
  refine ⟨?_, ?_, ?_, ?_, ?_, ?_, ?_, ?_, ?_, ?_, ?_, ?_⟩ <;> decide
theorem sg_lt10 : ¬ (10 : Int32) = 0 ∧ ¬ (10 : Int32) = 1 ∧ ¬ (10 : Int32) = 2 ∧ ¬ (10 : Int32) = 3 ∧ ¬ (10 : Int32) = 4 ∧ ¬ (10 : Int32) = 5 ∧ ¬ (10 : Int32) = 6 ∧ ¬ (10 : Int32) = 7 ∧ ¬ (10 : Int32) = 8 ∧ ¬ (10 : Int32) = 9 ∧ ¬ (10 : Int32) = 11 ∧ ¬ (10 : Int32) = 12 := by
  refine ⟨?_, ?_, ?_, ?_, ?_, ?_, ?_, ?_, ?_, ?_, ?_, ?_⟩ <;> decide
theorem sg_lt11 : ¬ (11 : Int32) = 0 ∧ ¬ (11 : Int32) = 1 ∧ ¬ (11 : Int32) = 2 ∧ ¬ (11 : Int32) = 3 ∧ ¬ (11 : Int32) = 4 ∧ ¬ (11 : Int32) = 5 ∧ ¬ (11 : Int32) = 6 ∧ ¬ (11 : Int32) = 7 ∧ ¬ (11 : Int32) = 8 ∧ ¬ (11 : Int32) = 9 ∧ ¬ (11 : Int32) = 10 ∧ ¬ (11 : Int32) = 12 := by
  refine ⟨?_, ?_, ?_, ?_, ?_, ?_, ?_, ?_, ?_, ?_, ?_, ?_⟩ <;> decide
theorem sg_lt12 : ¬ (12 : Int32) = 0 ∧ ¬ (12 : Int32) = 1 ∧ ¬ (12 : Int32) = 2 ∧ ¬ (12 : Int32) = 3 ∧ ¬ (12 : Int32) = 4 ∧ ¬ (12 : Int32) = 5 ∧ ¬ (12 : Int32) = 6 ∧ ¬ (12 : Int32) = 7 ∧ ¬ (12 : Int32) = 8 ∧ ¬ (12 : Int32) = 9 ∧ ¬ (12 : Int32) = 10 ∧ ¬ (12 : Int32) = 11 := by
  refine ⟨?_, ?_, ?_, ?_, ?_, ?_, ?_, ?_, ?_, ?_, ?_, ?_⟩ <;> decide
theorem sg_lits : (¬ (0 : Int32) = 1 ∧ ¬ (0 : Int32) = 2 ∧ ¬ (0 : Int32) = 3 ∧ ¬ (0 : Int32) = 4 ∧ ¬ (0 : Int32) = 5 ∧ ¬ (0 : Int32) = 6 ∧ ¬ (0 : Int32) = 7 ∧ ¬ (0 : Int32) = 8 ∧ ¬ (0 : Int32) = 9 ∧ ¬ (0 : Int32) = 10 ∧ ¬ (0 : Int32) = 11 ∧ ¬ (0 : Int32) = 12) ∧ (¬ (1 : Int32) = 0 ∧ ¬ (1 : Int32) = 2 ∧ ¬ (1 : Int32) = 3 ∧ ¬ (1 : Int32) = 4 ∧ ¬ (1 : Int32) = 5 ∧ ¬ (1 : Int32) = 6 ∧ ¬ (1 : Int32) = 7 ∧ ¬ (1 : Int32) = 8 ∧ ¬ (1 : Int32) = 9 ∧ ¬ (1 : Int32) = 10 ∧ ¬ (1 : Int32) = 11 ∧ ¬ (1 : Int32) = 12) ∧ (¬ (2 : Int32) = 0 ∧ ¬ (2 : Int32) = 1 ∧ ¬ (2 : Int32) = 3 ∧ ¬ (2 : Int32) = 4 ∧ ¬ (2 : Int32) = 5 ∧ ¬ (2 : Int32) = 6 ∧ ¬ (2 : Int32) = 7 ∧ ¬ (2 : Int32) = 8 ∧ ¬ (2 : Int32) = 9 ∧ ¬ (2 : Int32) = 10 ∧ ¬ (2 : Int32) = 11 ∧ ¬ (2 : Int32) = 12) ∧ (¬ (3 : Int32) = 0 ∧ ¬ (3 : Int32) = 1 ∧ ¬ (3 : Int32) = 2 ∧ ¬ (3 : Int32) = 4 ∧ ¬ (3 : Int32) = 5 ∧ ¬ (3 : Int32) = 6 ∧ ¬ (3 : Int32) = 7 ∧ ¬ (3 : Int32) = 8 ∧ ¬ (3 : Int32) = 9 ∧ ¬ (3 : Int32) = 10 ∧ ¬ (3 : Int32) = 11 ∧ ¬ (3 : Int32) = 12) ∧ (¬ (4 : Int32) = 0 ∧ ¬ (4 : Int32) = 1 ∧ ¬ (4 : Int32) = 2 ∧ ¬ (4 : Int32) = 3 ∧ ¬ (4 : Int32) = 5 ∧ ¬ (4 : Int32) = 6 ∧ ¬ (4 : Int32) = 7 ∧ ¬ (4 : Int32) = 8 ∧ ¬ (4 : Int32) = 9 ∧ ¬ (4 : Int32) = 10 ∧ ¬ (4 : Int32) = 11 ∧ ¬ (4 : Int32) = 12) ∧ (¬ (5 : Int32) = 0 ∧ ¬ (5 : Int32) = 1 ∧ ¬ (5 : Int32) = 2 ∧ ¬ (5 : Int32) = 3 ∧ ¬ (5 : Int32) = 4 ∧ ¬ (5 : Int32) = 6 ∧ ¬ (5 : Int32) = 7 ∧ ¬ (5 : Int32) = 8 ∧ ¬ (5 : Int32) = 9 ∧ ¬ (5 : Int32) = 10 ∧ ¬ (5 : Int32) = 11 ∧ ¬ (5 : Int32) = 12) ∧ (¬ (6 : Int32) = 0 ∧ ¬ (6 : Int32) = 1 ∧ ¬ (6 : Int32) = 2 ∧ ¬ (6 : Int32) = 3 ∧ ¬ (6 : Int32) = 4 ∧ ¬ (6 : Int32) = 5 ∧ ¬ (6 : Int32) = 7 ∧ ¬ (6 : Int32) = 8 ∧ ¬ (6 : Int32) = 9 ∧ ¬ (6 : Int32) = 10 ∧ ¬ (6 : Int32) = 11 ∧ ¬ (6 : Int32) = 12) ∧ (¬ (7 : Int32) = 0 ∧ ¬ (7 : Int32) = 1 ∧ ¬ (7 : Int32) = 2 ∧ ¬ (7 : Int32) = 3 ∧ ¬ (7 : Int32) = 4 ∧ ¬ (7 : Int32) = 5 ∧ ¬ (7 : Int32) = 6 ∧ ¬ (7 : Int32) = 8 ∧ ¬ (7 : Int32) = 9 ∧ ¬ (7 : Int32) = 10 ∧ ¬ (7 : Int32) = 11 ∧ ¬ (7 : Int32) = 12) ∧ (¬ (8 : Int32) = 0 ∧ ¬ (8 : Int32) = 1 ∧ ¬ (8 : Int32) = 2 ∧ ¬ (8 : Int32) = 3 ∧ ¬ (8 : Int32) = 4 ∧ ¬ (8 : Int32) = 5 ∧ ¬ (8 : Int32) = 6 ∧ ¬ (8 : Int32) = 7 ∧ ¬ (8 : Int32) = 9 ∧ ¬ (8 : Int32) = 10 ∧ ¬ (8 : Int32) = 11 ∧ ¬ (8 : Int32) = 12) ∧ (¬ (9 : Int32) = 0 ∧ ¬ (9 : Int32) = 1 ∧ ¬ (9 : Int32) = 2 ∧ ¬ (9 : Int32) = 3 ∧ ¬ (9 : Int32) = 4 ∧ ¬ (9 : Int32) = 5 ∧ ¬ (9 : Int32) = 6 ∧ ¬ (9 : Int32) = 7 ∧ ¬ (9 : Int32) = 8 ∧ ¬ (9 : Int32) = 10 ∧ ¬ (9 : Int32) = 11 ∧ ¬ (9 : Int32) = 12) ∧ (¬ (10 : Int32) = 0 ∧ ¬ (10 : Int32) = 1 ∧ ¬ (10 : Int32) = 2 ∧ ¬ (10 : Int32) = 3 ∧ ¬ (10 : Int32) = 4 ∧ ¬ (10 : Int32) = 5 ∧ ¬ (10 : Int32) = 6 ∧ ¬ (10 : Int32) = 7 ∧ ¬ (10 : Int32) = 8 ∧ ¬ (10 : Int32) = 9 ∧ ¬ (10 : Int32) = 11 ∧ ¬ (10 : Int32) = 12) ∧ (¬ (11 : Int32) = 0 ∧ ¬ (11 : Int32) = 1 ∧ ¬ (11 : Int32) = 2 ∧ ¬ (11 : Int32) = 3 ∧ ¬ (11 : Int32) = 4 ∧ ¬ (11 : Int32) = 5 ∧ ¬ (11 : Int32) = 6 ∧ ¬ (11 : Int32) = 7 ∧ ¬ (11 : Int32) = 8 ∧ ¬ (11 : Int32) = 9 ∧ ¬ (11 : Int32) = 10 ∧ ¬ (11 : Int32) = 12) ∧ (¬ (12 : Int32) = 0 ∧ ¬ (12 : Int32) = 1 ∧ ¬ (12 : Int32) = 2 ∧ ¬ (12 : Int32) = 3 ∧ ¬ (12 : Int32) = 4 ∧ ¬ (12 : Int32) = 5 ∧ ¬ (12 : Int32) = 6 ∧ ¬ (12 : Int32) = 7 ∧ ¬ (12 : Int32) = 8 ∧ ¬ (12 : Int32) = 9 ∧ ¬ (12 : Int32) = 10 ∧ ¬ (12 : Int32) = 11) := ⟨sg_lt0, sg_lt1, sg_lt2, sg_lt3, sg_lt4, sg_lt5, sg_lt6, sg_lt7, sg_lt8, sg_lt9, sg_lt10, sg_lt11, sg_lt12⟩
theorem sg_mA : ((-1 : Int32) = 0) = False := eq_false (by decide)
theorem sg_mB : ((-1 : Int32) = 1) = False := eq_false (by decide)
theorem sg_mC : ((0 : Int32) = -1) = False := eq_false (by decide)
theorem sg_mD : ((1 : Int32) = -1) = False := eq_false (by decide)
theorem sg_mE : ((-1 : Int32) < 0) = True := eq_true (by decide)
theorem sg_mF : ((0 : Int32) ≤ -1) = False := eq_false (by decide)
