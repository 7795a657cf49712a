/-! a new object -/
def sg_se (n : Nat) : Nat → Int32 := fun j => if j < n ∧ (j % 7 = 0 ∨ j % 7 = 1 ∨ j % 7 = 2 ∨ j % 7 = 5) then 1 else 0
theorem sg_se0 : (fun _ => 0) = sg_se 0 := by
  funext j
  unfold sg_se
  rw [if_neg (by omega)]
theorem sg_seX (a : Nat) : upd (upd (upd (upd (sg_se (7 * a)) (7 * a) 1) (7 * a + 1) 1) (7 * a + 2) 1) (7 * a + 5) 1 = sg_se (7 * (a + 1)) := by
  funext j
  unfold upd sg_se
  by_cases c : j < 7 * (a + 1) ∧ (j % 7 = 0 ∨ j % 7 = 1 ∨ j % 7 = 2 ∨ j % 7 = 5)
  · rw [if_pos c]
    by_cases h5 : j = 7 * a + 5
    · rw [if_pos h5]
    · rw [if_neg h5]
      by_cases h2 : j = 7 * a + 2
      · rw [if_pos h2]
      · rw [if_neg h2]
        by_cases h1 : j = 7 * a + 1
        · rw [if_pos h1]
        · rw [if_neg h1]
          by_cases h0 : j = 7 * a
          · rw [if_pos h0]
          · rw [if_neg h0, if_pos (by omega)]
  · rw [if_neg c, if_neg (by omega), if_neg (by omega), if_neg (by omega), if_neg (by omega), if_neg (by omega)]
theorem sg_seY1 {a w : Nat} (h : w = 0 ∨ w = 1 ∨ w = 2 ∨ w = 5) : upd (sg_se (7 * a + w)) (7 * a + w) 1 = sg_se (7 * a + (w + 1)) := by
  funext j
  unfold upd sg_se
  by_cases c : j = 7 * a + w
  · rw [if_pos c, if_pos (by omega)]
  · rw [if_neg c]
    by_cases c2 : j < 7 * a + w ∧ (j % 7 = 0 ∨ j % 7 = 1 ∨ j % 7 = 2 ∨ j % 7 = 5)
    · rw [if_pos c2, if_pos (by omega)]
    · rw [if_neg c2, if_neg (by omega)]
theorem sg_seY0 {a w : Nat} (h : w = 3 ∨ w = 4) : upd (sg_se (7 * a + w)) (7 * a + w) 0 = sg_se (7 * a + (w + 1)) := by
  funext j
  unfold upd sg_se
  by_cases c : j = 7 * a + w
  · rw [if_pos c, if_neg (by omega)]
  · rw [if_neg c]
    by_cases c2 : j < 7 * a + w ∧ (j % 7 = 0 ∨ j % 7 = 1 ∨ j % 7 = 2 ∨ j % 7 = 5)
    · rw [if_pos c2, if_pos (by omega)]
    · rw [if_neg c2, if_neg (by omega)]
theorem sg_seY6 (a : Nat) : sg_se (7 * a + 6) = sg_se (7 * (a + 1)) := by
  funext j
  unfold sg_se
  by_cases c2 : j < 7 * a + 6 ∧ (j % 7 = 0 ∨ j % 7 = 1 ∨ j % 7 = 2 ∨ j % 7 = 5)
  · rw [if_pos c2, if_pos (by omega)]
  · rw [if_neg c2, if_neg (by omega)]
theorem sg_set0 : sg_set (sg_se 28) := by
  intro a ha
  refine ⟨1, 1, 0, 0, ⟨by omega, by omega, ?_⟩, ⟨by omega, by omega, ?_⟩, ⟨by omega, ?_⟩, ⟨by omega, ?_⟩⟩
  · exact if_pos (by omega)
  · exact if_pos (by omega)
  · exact if_neg (by omega)
  · exact if_neg (by omega)
theorem sg_initX : ∀ (k a N : Nat), a + k = 4 → k < N → ∀ post : SX → Prop, wpX_forgetRuns post (0, 0, 0, 0, sg_se 28, (fun _ => 0), (fun _ => 0), (fun _ => 0), (fun _ => 0), (fun _ => 0), (fun _ => 0), (fun _ => 0), (fun _ => 0), (fun _ => 0), (fun _ => 0), (fun _ => 0), (fun _ => 0), (fun _ => 0), (fun _ => 0), (fun _ => 0), (fun _ => 0), (fun _ => 0), (fun _ => 0), (fun _ => 0), (fun _ => 0), (fun _ => 0), (fun _ => 0), (fun _ => 0), (fun _ => 0), (fun _ => 0), (fun _ => 0), (fun _ => 0), (fun _ => 0), (fun _ => 0), (fun _ => 0), (fun _ => 0)) → wX_init_255 post 0 0 0 0 N (nI a) (sg_se (7 * a)) (fun _ => 0) (fun _ => 0) (fun _ => 0) (fun _ => 0) (fun _ => 0) (fun _ => 0) (fun _ => 0) (fun _ => 0) (fun _ => 0) (fun _ => 0) (fun _ => 0) (fun _ => 0) (fun _ => 0) (fun _ => 0) (fun _ => 0) (fun _ => 0) (fun _ => 0) (fun _ => 0) (fun _ => 0) (fun _ => 0) (fun _ => 0) (fun _ => 0) (fun _ => 0) (fun _ => 0) (fun _ => 0) (fun _ => 0) (fun _ => 0) (fun _ => 0) (fun _ => 0) (fun _ => 0) (fun _ => 0) := by
  intro k
  induction k with
  | zero =>
    intro a N ha hN post h
    obtain ⟨N, rfl⟩ : ∃ n, N = n + 1 := ⟨N - 1, by omega⟩
    have h4 : (4 : Int32) ≤ nI a := nI_le (a := 4) (by omega) (by omega)
    have e : a = 4 := by omega
    subst e
    simp only [wX_init_255, h4, forall_eq, true_and, and_true, true_implies, false_implies, not_true_eq_false, not_false_eq_true, implies_true]
    exact h
  | succ k ih =>
    intro a N ha hN post h
    obtain ⟨N, rfl⟩ : ∃ n, N = n + 1 := ⟨N - 1, by omega⟩
    have h4 : ¬ (4 : Int32) ≤ nI a := nI_ge (b := 4) (by omega) (by omega)
    have z := ih (a + 1) N (by omega) (by omega) post h
    simp (disch := omega) only [wX_init_255, h4, sg_seX, sg_m3, sg_m3', sg_m4, sg_m4', sg_m6, sg_m6', sg_m7, sg_m7', sg_m200, sg_m200', nI_add, sg_a1, sg_a2, sg_a3, sg_a4, sg_a5, sg_a6, Int32.add_zero, sg_inT, nI_clamp, forall_eq, true_and, and_true, true_implies, false_implies, not_true_eq_false, not_false_eq_true, implies_true]
    exact z
theorem sg_initI {a : Nat} (ha : a < 4) : ∀ (k w N : Nat), w + k = 6 → k < N → ∀ (post : SY → Prop) (J : Int32 → (Nat → Int32) → (Nat → Int32) → (Nat → Int32) → (Nat → Int32) → (Nat → Int32) → (Nat → Int32) → (Nat → Int32) → (Nat → Int32) → (Nat → Int32) → (Nat → Int32) → (Nat → Int32) → (Nat → Int32) → (Nat → Int32) → (Nat → Int32) → (Nat → Int32) → (Nat → Int32) → (Nat → Int32) → (Nat → Int32) → (Nat → Int32) → (Nat → Int32) → (Nat → Int32) → (Nat → Int32) → (Nat → Int32) → (Nat → Int32) → Prop), J (nI (a + 1)) (sg_se (7 * (a + 1))) (fun _ => 0) (fun _ => 0) (fun _ => 0) (fun _ => 0) (fun _ => 0) (fun _ => 0) (fun _ => 0) (fun _ => 0) (fun _ => 0) (fun _ => 0) (fun _ => 0) (fun _ => 0) (fun _ => 0) (fun _ => 0) (fun _ => 0) (fun _ => 0) (fun _ => 0) (fun _ => 0) (fun _ => 0) (fun _ => 0) (fun _ => 0) (fun _ => 0) (fun _ => 0) → wY_init_200 post J (nI a) 0 0 0 0 N (nI w) (sg_se (7 * a + w)) (fun _ => 0) (fun _ => 0) (fun _ => 0) (fun _ => 0) (fun _ => 0) (fun _ => 0) (fun _ => 0) (fun _ => 0) (fun _ => 0) (fun _ => 0) (fun _ => 0) (fun _ => 0) (fun _ => 0) (fun _ => 0) (fun _ => 0) (fun _ => 0) (fun _ => 0) (fun _ => 0) (fun _ => 0) (fun _ => 0) (fun _ => 0) (fun _ => 0) (fun _ => 0) := by
  intro k
  induction k with
  | zero =>
    intro w N hw hN post J h
    obtain ⟨N, rfl⟩ : ∃ n, N = n + 1 := ⟨N - 1, by omega⟩
    have h6 : (6 : Int32) ≤ nI w := nI_le (a := 6) (by omega) (by omega)
    have e : w = 6 := by omega
    subst e
    simp only [wY_init_200, h6, sg_a1, sg_seY6, forall_eq, true_and, and_true, true_implies, false_implies, not_true_eq_false, not_false_eq_true, implies_true]
    exact h
  | succ k ih =>
    intro w N hw hN post J h
    obtain ⟨N, rfl⟩ : ∃ n, N = n + 1 := ⟨N - 1, by omega⟩
    have h6 : ¬ (6 : Int32) ≤ nI w := nI_ge (b := 6) (by omega) (by omega)
    have z := ih (w + 1) N (by omega) (by omega) post J h
    by_cases c3 : w = 3
    · subst c3
      have n3 : nI 3 = (3 : Int32) := rfl
      have y := sg_seY0 (a := a) (w := 3) (Or.inl rfl)
      have x3 : (nI 3 = (3 : Int32)) = True := eq_true rfl
      simp (disch := omega) only [wY_init_200, h6, x3, y, sg_m3, sg_m3', sg_m4, sg_m4', sg_m6, sg_m6', sg_m7, sg_m7', sg_m200, sg_m200', nI_add, sg_a1, sg_a2, sg_a3, sg_a4, sg_a5, sg_a6, Int32.add_zero, sg_inT, nI_clamp, forall_eq, true_and, and_true, true_implies, false_implies, not_true_eq_false, not_false_eq_true, implies_true]
      exact z
    · have d3 : ¬ nI w = 3 := fun q => c3 ((nI_eq (b := 3) (by omega) (by omega)).mp q)
      by_cases c4 : w = 4
      · subst c4
        have y := sg_seY0 (a := a) (w := 4) (Or.inr rfl)
        have x4 : (nI 4 = (4 : Int32)) = True := eq_true rfl
        simp (disch := omega) only [wY_init_200, h6, d3, x4, y, sg_m3, sg_m3', sg_m4, sg_m4', sg_m6, sg_m6', sg_m7, sg_m7', sg_m200, sg_m200', nI_add, sg_a1, sg_a2, sg_a3, sg_a4, sg_a5, sg_a6, Int32.add_zero, sg_inT, nI_clamp, forall_eq, true_and, and_true, true_implies, false_implies, not_true_eq_false, not_false_eq_true, implies_true]
        exact z
      · have d4 : ¬ nI w = 4 := fun q => c4 ((nI_eq (b := 4) (by omega) (by omega)).mp q)
        have y := sg_seY1 (a := a) (w := w) (by omega)
        simp (disch := omega) only [wY_init_200, h6, d3, d4, y, sg_m3, sg_m3', sg_m4, sg_m4', sg_m6, sg_m6', sg_m7, sg_m7', sg_m200, sg_m200', nI_add, sg_a1, sg_a2, sg_a3, sg_a4, sg_a5, sg_a6, Int32.add_zero, sg_inT, nI_clamp, forall_eq, true_and, and_true, true_implies, false_implies, not_true_eq_false, not_false_eq_true, implies_true]
        exact z
theorem sg_initY : ∀ (k a N : Nat), a + k = 4 → k < N → ∀ post : SY → Prop, post (0, 0, 0, 0, sg_se 28, (fun _ => 0), (fun _ => 0), (fun _ => 0), (fun _ => 0), (fun _ => 0), (fun _ => 0), (fun _ => 0), (fun _ => 0), (fun _ => 0), (fun _ => 0), (fun _ => 0), (fun _ => 0), (fun _ => 0), (fun _ => 0), (fun _ => 0), (fun _ => 0), (fun _ => 0), (fun _ => 0), (fun _ => 0), (fun _ => 0), (fun _ => 0), (fun _ => 0), (fun _ => 0)) → wY_init_193 post 0 0 0 0 N (nI a) (sg_se (7 * a)) (fun _ => 0) (fun _ => 0) (fun _ => 0) (fun _ => 0) (fun _ => 0) (fun _ => 0) (fun _ => 0) (fun _ => 0) (fun _ => 0) (fun _ => 0) (fun _ => 0) (fun _ => 0) (fun _ => 0) (fun _ => 0) (fun _ => 0) (fun _ => 0) (fun _ => 0) (fun _ => 0) (fun _ => 0) (fun _ => 0) (fun _ => 0) (fun _ => 0) (fun _ => 0) := by
  intro k
  induction k with
  | zero =>
    intro a N ha hN post h
    obtain ⟨N, rfl⟩ : ∃ n, N = n + 1 := ⟨N - 1, by omega⟩
    have h4 : (4 : Int32) ≤ nI a := nI_le (a := 4) (by omega) (by omega)
    have e : a = 4 := by omega
    subst e
    simp only [wY_init_193, h4, forall_eq, true_and, and_true, true_implies, false_implies, not_true_eq_false, not_false_eq_true, implies_true]
    exact h
  | succ k ih =>
    intro a N ha hN post h
    obtain ⟨N, rfl⟩ : ∃ n, N = n + 1 := ⟨N - 1, by omega⟩
    have h4 : ¬ (4 : Int32) ≤ nI a := nI_ge (b := 4) (by omega) (by omega)
    have z := ih (a + 1) N (by omega) (by omega) post h
    simp only [wY_init_193, h4, forall_eq, true_and, and_true, true_implies, false_implies, not_true_eq_false, not_false_eq_true, implies_true]
    exact ⟨7, sg_initI (by omega) 6 0 7 (by omega) (by omega) post _ z⟩
theorem i_vc0 : wpX_init (fun u => wpY_init (fun v => i_Rel 0 u v)) := by
  have e0 : sg_r3 (fun _ => 0) 0 = fun _ => 0 := by
    unfold sg_r3
    rw [sg_self _ 0 0 rfl, sg_self _ 1 0 rfl, sg_self _ 2 0 rfl]
  obtain ⟨zva, zha, a1, a2, a3⟩ := sg_forget (xsc := 0) (xnow := 0) (xjc := 0) (xec := 0) (xse := sg_se 28) (xki := fun _ => 0) (xpp := fun _ => 0) (xqq := fun _ => 0) (xrr := fun _ => 0) (xst := fun _ => 0) (xfs := fun _ => 0) (xin := fun _ => 0) (xtb := fun _ => 0) (xaj := fun _ => 0) (xat := fun _ => 0) (xsd := fun _ => 0) (xja := fun _ => 0) (xev := fun _ => 0) (xva := fun _ => 0) (xha := fun _ => 0) (xps := fun _ => 0) (xpa := fun _ => 0) (xpi := fun _ => 0) (xct := fun _ => 0) (xsn := fun _ => 0) (xsv := fun _ => 0) (xtk := fun _ => 0) (xac := fun _ => 0) (xji := fun _ => 0) (xou := fun _ => 0) (xen := fun _ => 0) (xuw := fun _ => 0) (xra := fun _ => 0) (xea := fun _ => 0) (xtj := fun _ => 0) (xte := fun _ => 0)
  have R := sg_R0 (sc := 0) (xse := sg_se 28) (xki := fun _ => 0) (xpp := fun _ => 0) (xqq := fun _ => 0) (xrr := fun _ => 0) (xst := fun _ => 0) (xfs := fun _ => 0) (xin := fun _ => 0) (xtb := fun _ => 0) (xaj := fun _ => 0) (xat := fun _ => 0) (xsd := fun _ => 0) (xja := fun _ => 0) (xev := fun _ => 0) (xps := fun _ => 0) (xpa := fun _ => 0) (xpi := fun _ => 0) (xct := fun _ => 0) (xsn := fun _ => 0) (xsv := fun _ => 0) (xtk := fun _ => 0) (xac := fun _ => 0) (xji := fun _ => 0) (xou := fun _ => 0) (xen := fun _ => 0) (xuw := fun _ => 0) (xra := fun _ => 0) (xea := fun _ => 0) (xtj := fun _ => 0) (xte := fun _ => 0) (yss := fun _ => 0) (yho := fun _ => 0) (ywh := fun _ => 0) (ypl := fun _ => 0) (ydn := fun _ => 0) (yas := fun _ => 0) (ywt := fun _ => 0) (yun := fun _ => 0) (yrs := fun _ => 0) (yva := fun _ => 0) (yha := fun _ => 0) (yso := fun _ => 0) sg_set0 ⟨by omega, fun m hm => absurd hm (by omega)⟩ a1 a2
  rw [e0] at R
  have zz := sg_initY 4 0 5 (by omega) (by omega) (fun v => i_Rel 0 _ v) ⟨0, by omega, R, fun m hm => absurd hm (Nat.not_lt_zero m)⟩
  rw [show sg_se (7 * 0) = fun _ => 0 from sg_se0.symm] at zz
  rw [e0] at a3
  have zx := sg_initX 4 0 5 (by omega) (by omega) (fun u => wpY_init (fun v => i_Rel 0 u v)) (a3 _ ⟨5, zz⟩)
  rw [show sg_se (7 * 0) = fun _ => 0 from sg_se0.symm] at zx
  exact ⟨5, zx⟩
