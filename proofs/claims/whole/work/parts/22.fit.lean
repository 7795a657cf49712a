/-! is a workflow started -/
theorem sg_flow_st {i sc jc : Nat} {xki xpp xst xfs xin xtb xaj xat xsd xja xev xva xha xps xpa xct xsn xtk ypl ydn yas ywt yun yrs yva yha yso : Nat → Int32} (h : sg_flow i sc jc xki xpp xst xfs xin xtb xaj xat xsd xja xev xva xha xps xpa xct xsn xtk ypl ydn yas ywt yun yrs yva yha yso) : ∃ s, s ≤ 5 ∧ xst i = nI s := by
  rcases h with h | ⟨d, hb, h⟩
  · exact ⟨0, by omega, h.1⟩
  · rcases h with ⟨s, s1, s2, s3, _⟩ | ⟨md, f, hmd, ha⟩
    · exact ⟨s, s2, s3⟩
    · exact ⟨1, by omega, ha.1⟩
theorem sg_flow_id {i sc jc : Nat} {xki xpp xst xfs xin xtb xaj xat xsd xja xev xva xha xps xpa xct xsn xtk ypl ydn yas ywt yun yrs yva yha yso : Nat → Int32} (h : sg_flow i sc jc xki xpp xst xfs xin xtb xaj xat xsd xja xev xva xha xps xpa xct xsn xtk ypl ydn yas ywt yun yrs yva yha yso) (h0 : xst i = 0) : sg_idle i xst xfs xin xtb xsd xja xev xva xha xps xct := by
  rcases h with h | ⟨d, hb, h⟩
  · exact h
  · exfalso
    rcases h with ⟨s, s1, s2, s3, _⟩ | ⟨md, f, hmd, ha⟩
    · have z := (nI_eq (b := 0) (by omega) (by omega)).mp (s3.symm.trans h0)
      omega
    · exact absurd (ha.1.symm.trans h0) (by decide)
section
variable {xsc xnow xjc xec : Int32} {xse xki xpp xqq xrr xst xfs xin xtb xaj xat xsd xja xev xva xha xps xpa xpi xct xsn xsv xtk xac xji xou xen xuw xra xea xtj xte : Nat → Int32} {ysc ynow yjc yec : Int32} {yse yss yac yji yen yho ywh ytj yte yst ypl ydn yas ywt yun yrs yva yha ypa ypi yps yso ysv yct : Nat → Int32}
theorem sg_anyX {P : Int32 → Prop} : ((xst 0 = 0 ∧ xst 1 = 0 ∧ xst 2 = 0) → P 0 → wpX_isAnyStarted P (xsc, xnow, xjc, xec, xse, xki, xpp, xqq, xrr, xst, xfs, xin, xtb, xaj, xat, xsd, xja, xev, xva, xha, xps, xpa, xpi, xct, xsn, xsv, xtk, xac, xji, xou, xen, xuw, xra, xea, xtj, xte)) ∧ (¬ (xst 0 = 0 ∧ xst 1 = 0 ∧ xst 2 = 0) → P 1 → wpX_isAnyStarted P (xsc, xnow, xjc, xec, xse, xki, xpp, xqq, xrr, xst, xfs, xin, xtb, xaj, xat, xsd, xja, xev, xva, xha, xps, xpa, xpi, xct, xsn, xsv, xtk, xac, xji, xou, xen, xuw, xra, xea, xtj, xte)) := by
  constructor
  · intro ⟨c0, c1, c2⟩ h
    refine ⟨4, ?_⟩
    simp only [wX_isAnyStarted_4, sg_adds, sg_v03, sg_c03, sg_n0, c0, c1, c2, sg_lits, sg_mA, sg_mB, sg_mC, sg_mD, sg_mE, sg_mF, Int32.reduceLT, Int32.reduceLE, forall_eq, true_and, and_true, true_implies, false_implies, not_true_eq_false, not_false_eq_true, implies_true]
    exact h
  · intro hn h
    refine ⟨4, ?_⟩
    by_cases c0 : xst 0 = 0
    · by_cases c1 : xst 1 = 0
      · have c2 : ¬ xst 2 = 0 := fun z => hn ⟨c0, c1, z⟩
        simp only [wX_isAnyStarted_4, sg_adds, sg_v03, sg_c03, sg_n1, c0, c1, c2, sg_lits, sg_mA, sg_mB, sg_mC, sg_mD, sg_mE, sg_mF, Int32.reduceLT, Int32.reduceLE, forall_eq, true_and, and_true, true_implies, false_implies, not_true_eq_false, not_false_eq_true, implies_true]
        exact h
      · simp only [wX_isAnyStarted_4, sg_adds, sg_v03, sg_c03, sg_n1, c0, c1, sg_lits, sg_mA, sg_mB, sg_mC, sg_mD, sg_mE, sg_mF, Int32.reduceLT, Int32.reduceLE, forall_eq, true_and, and_true, true_implies, false_implies, not_true_eq_false, not_false_eq_true, implies_true]
        exact h
    · simp only [wX_isAnyStarted_4, sg_adds, sg_v03, sg_c03, sg_n1, c0, sg_lits, sg_mA, sg_mB, sg_mC, sg_mD, sg_mE, sg_mF, Int32.reduceLT, Int32.reduceLE, forall_eq, true_and, and_true, true_implies, false_implies, not_true_eq_false, not_false_eq_true, implies_true]
      exact h
theorem sg_busyY {s0 s1 s2 : Nat} {P : Int32 → Prop} (h0 : yst 0 = nI s0) (h1 : yst 1 = nI s1) (h2 : yst 2 = nI s2) (k0 : s0 ≤ 5) (k1 : s1 ≤ 5) (k2 : s2 ≤ 5) : ((yst 0 = 0 ∧ yst 1 = 0 ∧ yst 2 = 0) → P 0 → wpY_isBusy P (ysc, ynow, yjc, yec, yse, yss, yac, yji, yen, yho, ywh, ytj, yte, yst, ypl, ydn, yas, ywt, yun, yrs, yva, yha, ypa, ypi, yps, yso, ysv, yct)) ∧ (¬ (yst 0 = 0 ∧ yst 1 = 0 ∧ yst 2 = 0) → P 1 → wpY_isBusy P (ysc, ynow, yjc, yec, yse, yss, yac, yji, yen, yho, ywh, ytj, yte, yst, ypl, ydn, yas, ywt, yun, yrs, yva, yha, ypa, ypi, yps, yso, ysv, yct)) := by
  constructor
  · intro ⟨c0, c1, c2⟩ h
    have z : (0 : Int32) + 0 + 0 ≤ 0 := by decide
    simp only [wpY_isBusy, c0, c1, c2, z, forall_eq, true_and, and_true, true_implies, false_implies, not_true_eq_false, not_false_eq_true, implies_true]
    exact h
  · intro hn h
    have z : ¬ nI s0 + nI s1 + nI s2 ≤ 0 := by
      rw [nI_add, nI_add]
      refine nI_nle ?_ (by omega)
      refine Nat.pos_of_ne_zero fun e => hn ?_
      obtain ⟨rfl, rfl, rfl⟩ : s0 = 0 ∧ s1 = 0 ∧ s2 = 0 := by omega
      exact ⟨h0, h1, h2⟩
    simp only [wpY_isBusy, h0, h1, h2, z, forall_eq, true_and, and_true, true_implies, false_implies, not_true_eq_false, not_false_eq_true, implies_true]
    exact h
end
/-! one range -/
def sg_rg (x lo hi : Int32) : Prop := ¬ x < lo ∧ ¬ hi < x
theorem sg_xT {x lo hi : Int32} (h : sg_rg x lo hi) (P : Int32 → Prop) : wpX_isIn P x lo hi = P 1 := by
  obtain ⟨h1, h2⟩ := h
  simp only [wpX_isIn, h1, h2, forall_eq, true_and, and_true, true_implies, false_implies, not_true_eq_false, not_false_eq_true, implies_true]
theorem sg_xF {x lo hi : Int32} (h : ¬ sg_rg x lo hi) (P : Int32 → Prop) : wpX_isIn P x lo hi = P 0 := by
  by_cases h1 : x < lo
  · simp only [wpX_isIn, h1, forall_eq, true_and, and_true, true_implies, false_implies, not_true_eq_false, not_false_eq_true, implies_true]
  · have h2 : hi < x := Classical.byContradiction fun z => h ⟨h1, z⟩
    simp only [wpX_isIn, h1, h2, forall_eq, true_and, and_true, true_implies, false_implies, not_true_eq_false, not_false_eq_true, implies_true]
section
variable {xsc xnow xjc xec : Int32} {xse xki xpp xqq xrr xst xfs xin xtb xaj xat xsd xja xev xva xha xps xpa xpi xct xsn xsv xtk xac xji xou xen xuw xra xea xtj xte : Nat → Int32} {ysc ynow yjc yec : Int32} {yse yss yac yji yen yho ywh ytj yte yst ypl ydn yas ywt yun yrs yva yha ypa ypi yps yso ysv yct : Nat → Int32}
theorem sg_yT {x lo hi : Int32} (h : sg_rg x lo hi) (P : Int32 → Prop) : wpY_isIn P (ysc, ynow, yjc, yec, yse, yss, yac, yji, yen, yho, ywh, ytj, yte, yst, ypl, ydn, yas, ywt, yun, yrs, yva, yha, ypa, ypi, yps, yso, ysv, yct) x lo hi = P 1 := by
  obtain ⟨h1, h2⟩ := h
  simp only [wpY_isIn, h1, h2, forall_eq, true_and, and_true, true_implies, false_implies, not_true_eq_false, not_false_eq_true, implies_true]
theorem sg_yF {x lo hi : Int32} (h : ¬ sg_rg x lo hi) (P : Int32 → Prop) : wpY_isIn P (ysc, ynow, yjc, yec, yse, yss, yac, yji, yen, yho, ywh, ytj, yte, yst, ypl, ydn, yas, ywt, yun, yrs, yva, yha, ypa, ypi, yps, yso, ysv, yct) x lo hi = P 0 := by
  by_cases h1 : x < lo
  · simp only [wpY_isIn, h1, forall_eq, true_and, and_true, true_implies, false_implies, not_true_eq_false, not_false_eq_true, implies_true]
  · have h2 : hi < x := Classical.byContradiction fun z => h ⟨h1, z⟩
    simp only [wpY_isIn, h1, h2, forall_eq, true_and, and_true, true_implies, false_implies, not_true_eq_false, not_false_eq_true, implies_true]
end
theorem sg_rgN {x : Int32} (lo hi : Nat) (hl : lo < 2 ^ 31) (hh : hi < 2 ^ 31) (h : sg_rg x (nI lo) (nI hi)) : ∃ n, lo ≤ n ∧ n ≤ hi ∧ x = nI n := by
  obtain ⟨h1, h2⟩ := h
  have h0 : ¬ x < 0 := fun z => h1 (Int32.lt_of_lt_of_le z (nI_pos' hl))
  obtain ⟨n, hn, rfl⟩ := nI_of h0
  refine ⟨n, ?_, ?_, rfl⟩
  · exact Nat.le_of_not_lt fun z => h1 (nI_lt z hl)
  · exact Nat.le_of_not_lt fun z => h2 (nI_lt z hn)
/-! the steps that are taken -/
def sg_Fit (k p q r : Int32) (v : SY) : Prop := ∃ z, (∀ P : Int32 → Prop, P z → wpX_isStep P k p q r) ∧ (∀ P : Int32 → Prop, P z → wpY_fits P v k p q r) ∧ (z = 0 ∨ (z = 1 ∧ sg_ok k p q r))
theorem sg_fit0 {p q r : Int32} {v : SY} : sg_Fit 0 p q r v := by
  obtain ⟨ysc, ynow, yjc, yec, yse, yss, yac, yji, yen, yho, ywh, ytj, yte, yst, ypl, ydn, yas, ywt, yun, yrs, yva, yha, ypa, ypi, yps, yso, ysv, yct⟩ := v
  by_cases ha : sg_rg p 0 3
  · by_cases hb : sg_rg q 0 3
    · by_cases hc : sg_rg q (-99) 99
      · refine ⟨1, fun P h => ?_, fun P h => ?_, ?_⟩
        · simp only [wpX_isStep, wX_isStep_92, wX_isStep_216, wpX_isVariable, sg_n0, sg_n1, sg_xT ha, sg_xT hb, sg_xT hc, sg_lits, sg_mA, sg_mB, sg_mC, sg_mD, sg_mE, sg_mF, Int32.reduceLT, Int32.reduceLE, forall_eq, true_and, and_true, true_implies, false_implies, not_true_eq_false, not_false_eq_true, implies_true]
          exact h
        · simp only [wpY_fits, wY_fits_91, sg_n0, sg_n1, sg_yT ha, sg_yT hb, sg_yT hc, sg_lits, sg_mA, sg_mB, sg_mC, sg_mD, sg_mE, sg_mF, Int32.reduceLT, Int32.reduceLE, forall_eq, true_and, and_true, true_implies, false_implies, not_true_eq_false, not_false_eq_true, implies_true]
          exact h
        · refine Or.inr ⟨rfl, ?_⟩
          obtain ⟨na, la, ua, ea⟩ := sg_rgN 0 3 (by omega) (by omega) ha
          exact Or.inl ⟨rfl, na, by omega, ea⟩
      · refine ⟨0, fun P h => ?_, fun P h => ?_, ?_⟩
        · simp only [wpX_isStep, wX_isStep_92, wX_isStep_216, wpX_isVariable, sg_n0, sg_n1, sg_xT ha, sg_xT hb, sg_xF hc, sg_lits, sg_mA, sg_mB, sg_mC, sg_mD, sg_mE, sg_mF, Int32.reduceLT, Int32.reduceLE, forall_eq, true_and, and_true, true_implies, false_implies, not_true_eq_false, not_false_eq_true, implies_true]
          exact h
        · simp only [wpY_fits, wY_fits_91, sg_n0, sg_n1, sg_yT ha, sg_yT hb, sg_yF hc, sg_lits, sg_mA, sg_mB, sg_mC, sg_mD, sg_mE, sg_mF, Int32.reduceLT, Int32.reduceLE, forall_eq, true_and, and_true, true_implies, false_implies, not_true_eq_false, not_false_eq_true, implies_true]
          exact h
        · exact Or.inl rfl
    · by_cases hc : sg_rg q (-99) 99
      · refine ⟨1, fun P h => ?_, fun P h => ?_, ?_⟩
        · simp only [wpX_isStep, wX_isStep_92, wX_isStep_216, wpX_isVariable, sg_n0, sg_n1, sg_xT ha, sg_xF hb, sg_xT hc, sg_lits, sg_mA, sg_mB, sg_mC, sg_mD, sg_mE, sg_mF, Int32.reduceLT, Int32.reduceLE, forall_eq, true_and, and_true, true_implies, false_implies, not_true_eq_false, not_false_eq_true, implies_true]
          exact h
        · simp only [wpY_fits, wY_fits_91, sg_n0, sg_n1, sg_yT ha, sg_yF hb, sg_yT hc, sg_lits, sg_mA, sg_mB, sg_mC, sg_mD, sg_mE, sg_mF, Int32.reduceLT, Int32.reduceLE, forall_eq, true_and, and_true, true_implies, false_implies, not_true_eq_false, not_false_eq_true, implies_true]
          exact h
        · refine Or.inr ⟨rfl, ?_⟩
          obtain ⟨na, la, ua, ea⟩ := sg_rgN 0 3 (by omega) (by omega) ha
          exact Or.inl ⟨rfl, na, by omega, ea⟩
      · refine ⟨0, fun P h => ?_, fun P h => ?_, ?_⟩
        · simp only [wpX_isStep, wX_isStep_92, wX_isStep_216, wpX_isVariable, sg_n0, sg_n1, sg_xT ha, sg_xF hb, sg_xF hc, sg_lits, sg_mA, sg_mB, sg_mC, sg_mD, sg_mE, sg_mF, Int32.reduceLT, Int32.reduceLE, forall_eq, true_and, and_true, true_implies, false_implies, not_true_eq_false, not_false_eq_true, implies_true]
          exact h
        · simp only [wpY_fits, wY_fits_91, sg_n0, sg_n1, sg_yT ha, sg_yF hb, sg_yF hc, sg_lits, sg_mA, sg_mB, sg_mC, sg_mD, sg_mE, sg_mF, Int32.reduceLT, Int32.reduceLE, forall_eq, true_and, and_true, true_implies, false_implies, not_true_eq_false, not_false_eq_true, implies_true]
          exact h
        · exact Or.inl rfl
  · by_cases hb : sg_rg q 0 3
    · by_cases hc : sg_rg q (-99) 99
      · refine ⟨0, fun P h => ?_, fun P h => ?_, ?_⟩
        · simp only [wpX_isStep, wX_isStep_92, wX_isStep_216, wpX_isVariable, sg_n0, sg_n1, sg_xF ha, sg_xT hb, sg_xT hc, sg_lits, sg_mA, sg_mB, sg_mC, sg_mD, sg_mE, sg_mF, Int32.reduceLT, Int32.reduceLE, forall_eq, true_and, and_true, true_implies, false_implies, not_true_eq_false, not_false_eq_true, implies_true]
          exact h
        · simp only [wpY_fits, wY_fits_91, sg_n0, sg_n1, sg_yF ha, sg_yT hb, sg_yT hc, sg_lits, sg_mA, sg_mB, sg_mC, sg_mD, sg_mE, sg_mF, Int32.reduceLT, Int32.reduceLE, forall_eq, true_and, and_true, true_implies, false_implies, not_true_eq_false, not_false_eq_true, implies_true]
          exact h
        · exact Or.inl rfl
      · refine ⟨0, fun P h => ?_, fun P h => ?_, ?_⟩
        · simp only [wpX_isStep, wX_isStep_92, wX_isStep_216, wpX_isVariable, sg_n0, sg_n1, sg_xF ha, sg_xT hb, sg_xF hc, sg_lits, sg_mA, sg_mB, sg_mC, sg_mD, sg_mE, sg_mF, Int32.reduceLT, Int32.reduceLE, forall_eq, true_and, and_true, true_implies, false_implies, not_true_eq_false, not_false_eq_true, implies_true]
          exact h
        · simp only [wpY_fits, wY_fits_91, sg_n0, sg_n1, sg_yF ha, sg_yT hb, sg_yF hc, sg_lits, sg_mA, sg_mB, sg_mC, sg_mD, sg_mE, sg_mF, Int32.reduceLT, Int32.reduceLE, forall_eq, true_and, and_true, true_implies, false_implies, not_true_eq_false, not_false_eq_true, implies_true]
          exact h
        · exact Or.inl rfl
    · by_cases hc : sg_rg q (-99) 99
      · refine ⟨0, fun P h => ?_, fun P h => ?_, ?_⟩
        · simp only [wpX_isStep, wX_isStep_92, wX_isStep_216, wpX_isVariable, sg_n0, sg_n1, sg_xF ha, sg_xF hb, sg_xT hc, sg_lits, sg_mA, sg_mB, sg_mC, sg_mD, sg_mE, sg_mF, Int32.reduceLT, Int32.reduceLE, forall_eq, true_and, and_true, true_implies, false_implies, not_true_eq_false, not_false_eq_true, implies_true]
          exact h
        · simp only [wpY_fits, wY_fits_91, sg_n0, sg_n1, sg_yF ha, sg_yF hb, sg_yT hc, sg_lits, sg_mA, sg_mB, sg_mC, sg_mD, sg_mE, sg_mF, Int32.reduceLT, Int32.reduceLE, forall_eq, true_and, and_true, true_implies, false_implies, not_true_eq_false, not_false_eq_true, implies_true]
          exact h
        · exact Or.inl rfl
      · refine ⟨0, fun P h => ?_, fun P h => ?_, ?_⟩
        · simp only [wpX_isStep, wX_isStep_92, wX_isStep_216, wpX_isVariable, sg_n0, sg_n1, sg_xF ha, sg_xF hb, sg_xF hc, sg_lits, sg_mA, sg_mB, sg_mC, sg_mD, sg_mE, sg_mF, Int32.reduceLT, Int32.reduceLE, forall_eq, true_and, and_true, true_implies, false_implies, not_true_eq_false, not_false_eq_true, implies_true]
          exact h
        · simp only [wpY_fits, wY_fits_91, sg_n0, sg_n1, sg_yF ha, sg_yF hb, sg_yF hc, sg_lits, sg_mA, sg_mB, sg_mC, sg_mD, sg_mE, sg_mF, Int32.reduceLT, Int32.reduceLE, forall_eq, true_and, and_true, true_implies, false_implies, not_true_eq_false, not_false_eq_true, implies_true]
          exact h
        · exact Or.inl rfl
theorem sg_fit1 {p q r : Int32} {v : SY} : sg_Fit 1 p q r v := by
  obtain ⟨ysc, ynow, yjc, yec, yse, yss, yac, yji, yen, yho, ywh, ytj, yte, yst, ypl, ydn, yas, ywt, yun, yrs, yva, yha, ypa, ypi, yps, yso, ysv, yct⟩ := v
  by_cases ha : sg_rg p 0 3
  · by_cases hb : sg_rg q 0 3
    · refine ⟨1, fun P h => ?_, fun P h => ?_, ?_⟩
      · simp only [wpX_isStep, wX_isStep_92, wX_isStep_216, wpX_isVariable, sg_n0, sg_n1, sg_xT ha, sg_xT hb, sg_lits, sg_mA, sg_mB, sg_mC, sg_mD, sg_mE, sg_mF, Int32.reduceLT, Int32.reduceLE, forall_eq, true_and, and_true, true_implies, false_implies, not_true_eq_false, not_false_eq_true, implies_true]
        exact h
      · simp only [wpY_fits, wY_fits_91, sg_n0, sg_n1, sg_yT ha, sg_yT hb, sg_lits, sg_mA, sg_mB, sg_mC, sg_mD, sg_mE, sg_mF, Int32.reduceLT, Int32.reduceLE, forall_eq, true_and, and_true, true_implies, false_implies, not_true_eq_false, not_false_eq_true, implies_true]
        exact h
      · refine Or.inr ⟨rfl, ?_⟩
        obtain ⟨na, la, ua, ea⟩ := sg_rgN 0 3 (by omega) (by omega) ha
        obtain ⟨nb, lb, ub, eb⟩ := sg_rgN 0 3 (by omega) (by omega) hb
        exact Or.inr (Or.inl ⟨rfl, na, nb, by omega, by omega, ea, eb⟩)
    · refine ⟨0, fun P h => ?_, fun P h => ?_, ?_⟩
      · simp only [wpX_isStep, wX_isStep_92, wX_isStep_216, wpX_isVariable, sg_n0, sg_n1, sg_xT ha, sg_xF hb, sg_lits, sg_mA, sg_mB, sg_mC, sg_mD, sg_mE, sg_mF, Int32.reduceLT, Int32.reduceLE, forall_eq, true_and, and_true, true_implies, false_implies, not_true_eq_false, not_false_eq_true, implies_true]
        exact h
      · simp only [wpY_fits, wY_fits_91, sg_n0, sg_n1, sg_yT ha, sg_yF hb, sg_lits, sg_mA, sg_mB, sg_mC, sg_mD, sg_mE, sg_mF, Int32.reduceLT, Int32.reduceLE, forall_eq, true_and, and_true, true_implies, false_implies, not_true_eq_false, not_false_eq_true, implies_true]
        exact h
      · exact Or.inl rfl
  · by_cases hb : sg_rg q 0 3
    · refine ⟨0, fun P h => ?_, fun P h => ?_, ?_⟩
      · simp only [wpX_isStep, wX_isStep_92, wX_isStep_216, wpX_isVariable, sg_n0, sg_n1, sg_xF ha, sg_xT hb, sg_lits, sg_mA, sg_mB, sg_mC, sg_mD, sg_mE, sg_mF, Int32.reduceLT, Int32.reduceLE, forall_eq, true_and, and_true, true_implies, false_implies, not_true_eq_false, not_false_eq_true, implies_true]
        exact h
      · simp only [wpY_fits, wY_fits_91, sg_n0, sg_n1, sg_yF ha, sg_yT hb, sg_lits, sg_mA, sg_mB, sg_mC, sg_mD, sg_mE, sg_mF, Int32.reduceLT, Int32.reduceLE, forall_eq, true_and, and_true, true_implies, false_implies, not_true_eq_false, not_false_eq_true, implies_true]
        exact h
      · exact Or.inl rfl
    · refine ⟨0, fun P h => ?_, fun P h => ?_, ?_⟩
      · simp only [wpX_isStep, wX_isStep_92, wX_isStep_216, wpX_isVariable, sg_n0, sg_n1, sg_xF ha, sg_xF hb, sg_lits, sg_mA, sg_mB, sg_mC, sg_mD, sg_mE, sg_mF, Int32.reduceLT, Int32.reduceLE, forall_eq, true_and, and_true, true_implies, false_implies, not_true_eq_false, not_false_eq_true, implies_true]
        exact h
      · simp only [wpY_fits, wY_fits_91, sg_n0, sg_n1, sg_yF ha, sg_yF hb, sg_lits, sg_mA, sg_mB, sg_mC, sg_mD, sg_mE, sg_mF, Int32.reduceLT, Int32.reduceLE, forall_eq, true_and, and_true, true_implies, false_implies, not_true_eq_false, not_false_eq_true, implies_true]
        exact h
      · exact Or.inl rfl
theorem sg_fit2 {p q r : Int32} {v : SY} : sg_Fit 2 p q r v := by
  obtain ⟨ysc, ynow, yjc, yec, yse, yss, yac, yji, yen, yho, ywh, ytj, yte, yst, ypl, ydn, yas, ywt, yun, yrs, yva, yha, ypa, ypi, yps, yso, ysv, yct⟩ := v
  by_cases ha : sg_rg p 0 3
  · by_cases hb : sg_rg q 0 3
    · refine ⟨1, fun P h => ?_, fun P h => ?_, ?_⟩
      · simp only [wpX_isStep, wX_isStep_92, wX_isStep_216, wpX_isVariable, sg_n0, sg_n1, sg_xT ha, sg_xT hb, sg_lits, sg_mA, sg_mB, sg_mC, sg_mD, sg_mE, sg_mF, Int32.reduceLT, Int32.reduceLE, forall_eq, true_and, and_true, true_implies, false_implies, not_true_eq_false, not_false_eq_true, implies_true]
        exact h
      · simp only [wpY_fits, wY_fits_91, sg_n0, sg_n1, sg_yT ha, sg_yT hb, sg_lits, sg_mA, sg_mB, sg_mC, sg_mD, sg_mE, sg_mF, Int32.reduceLT, Int32.reduceLE, forall_eq, true_and, and_true, true_implies, false_implies, not_true_eq_false, not_false_eq_true, implies_true]
        exact h
      · refine Or.inr ⟨rfl, ?_⟩
        obtain ⟨na, la, ua, ea⟩ := sg_rgN 0 3 (by omega) (by omega) ha
        obtain ⟨nb, lb, ub, eb⟩ := sg_rgN 0 3 (by omega) (by omega) hb
        exact Or.inr (Or.inr (Or.inl ⟨rfl, na, nb, by omega, by omega, ea, eb⟩))
    · refine ⟨0, fun P h => ?_, fun P h => ?_, ?_⟩
      · simp only [wpX_isStep, wX_isStep_92, wX_isStep_216, wpX_isVariable, sg_n0, sg_n1, sg_xT ha, sg_xF hb, sg_lits, sg_mA, sg_mB, sg_mC, sg_mD, sg_mE, sg_mF, Int32.reduceLT, Int32.reduceLE, forall_eq, true_and, and_true, true_implies, false_implies, not_true_eq_false, not_false_eq_true, implies_true]
        exact h
      · simp only [wpY_fits, wY_fits_91, sg_n0, sg_n1, sg_yT ha, sg_yF hb, sg_lits, sg_mA, sg_mB, sg_mC, sg_mD, sg_mE, sg_mF, Int32.reduceLT, Int32.reduceLE, forall_eq, true_and, and_true, true_implies, false_implies, not_true_eq_false, not_false_eq_true, implies_true]
        exact h
      · exact Or.inl rfl
  · by_cases hb : sg_rg q 0 3
    · refine ⟨0, fun P h => ?_, fun P h => ?_, ?_⟩
      · simp only [wpX_isStep, wX_isStep_92, wX_isStep_216, wpX_isVariable, sg_n0, sg_n1, sg_xF ha, sg_xT hb, sg_lits, sg_mA, sg_mB, sg_mC, sg_mD, sg_mE, sg_mF, Int32.reduceLT, Int32.reduceLE, forall_eq, true_and, and_true, true_implies, false_implies, not_true_eq_false, not_false_eq_true, implies_true]
        exact h
      · simp only [wpY_fits, wY_fits_91, sg_n0, sg_n1, sg_yF ha, sg_yT hb, sg_lits, sg_mA, sg_mB, sg_mC, sg_mD, sg_mE, sg_mF, Int32.reduceLT, Int32.reduceLE, forall_eq, true_and, and_true, true_implies, false_implies, not_true_eq_false, not_false_eq_true, implies_true]
        exact h
      · exact Or.inl rfl
    · refine ⟨0, fun P h => ?_, fun P h => ?_, ?_⟩
      · simp only [wpX_isStep, wX_isStep_92, wX_isStep_216, wpX_isVariable, sg_n0, sg_n1, sg_xF ha, sg_xF hb, sg_lits, sg_mA, sg_mB, sg_mC, sg_mD, sg_mE, sg_mF, Int32.reduceLT, Int32.reduceLE, forall_eq, true_and, and_true, true_implies, false_implies, not_true_eq_false, not_false_eq_true, implies_true]
        exact h
      · simp only [wpY_fits, wY_fits_91, sg_n0, sg_n1, sg_yF ha, sg_yF hb, sg_lits, sg_mA, sg_mB, sg_mC, sg_mD, sg_mE, sg_mF, Int32.reduceLT, Int32.reduceLE, forall_eq, true_and, and_true, true_implies, false_implies, not_true_eq_false, not_false_eq_true, implies_true]
        exact h
      · exact Or.inl rfl
theorem sg_fit3 {p q r : Int32} {v : SY} : sg_Fit 3 p q r v := by
  obtain ⟨ysc, ynow, yjc, yec, yse, yss, yac, yji, yen, yho, ywh, ytj, yte, yst, ypl, ydn, yas, ywt, yun, yrs, yva, yha, ypa, ypi, yps, yso, ysv, yct⟩ := v
  by_cases ha : sg_rg p 0 3
  · by_cases hb : sg_rg q 0 3
    · by_cases hc : sg_rg r 0 3
      · refine ⟨1, fun P h => ?_, fun P h => ?_, ?_⟩
        · simp only [wpX_isStep, wX_isStep_92, wX_isStep_216, wpX_isVariable, sg_n0, sg_n1, sg_xT ha, sg_xT hb, sg_xT hc, sg_lits, sg_mA, sg_mB, sg_mC, sg_mD, sg_mE, sg_mF, Int32.reduceLT, Int32.reduceLE, forall_eq, true_and, and_true, true_implies, false_implies, not_true_eq_false, not_false_eq_true, implies_true]
          exact h
        · simp only [wpY_fits, wY_fits_91, sg_n0, sg_n1, sg_yT ha, sg_yT hb, sg_yT hc, sg_lits, sg_mA, sg_mB, sg_mC, sg_mD, sg_mE, sg_mF, Int32.reduceLT, Int32.reduceLE, forall_eq, true_and, and_true, true_implies, false_implies, not_true_eq_false, not_false_eq_true, implies_true]
          exact h
        · refine Or.inr ⟨rfl, ?_⟩
          obtain ⟨na, la, ua, ea⟩ := sg_rgN 0 3 (by omega) (by omega) ha
          obtain ⟨nb, lb, ub, eb⟩ := sg_rgN 0 3 (by omega) (by omega) hb
          obtain ⟨nc, lc, uc, ec⟩ := sg_rgN 0 3 (by omega) (by omega) hc
          exact Or.inr (Or.inr (Or.inr (Or.inl ⟨rfl, na, nb, nc, by omega, by omega, by omega, ea, eb, ec⟩)))
      · refine ⟨0, fun P h => ?_, fun P h => ?_, ?_⟩
        · simp only [wpX_isStep, wX_isStep_92, wX_isStep_216, wpX_isVariable, sg_n0, sg_n1, sg_xT ha, sg_xT hb, sg_xF hc, sg_lits, sg_mA, sg_mB, sg_mC, sg_mD, sg_mE, sg_mF, Int32.reduceLT, Int32.reduceLE, forall_eq, true_and, and_true, true_implies, false_implies, not_true_eq_false, not_false_eq_true, implies_true]
          exact h
        · simp only [wpY_fits, wY_fits_91, sg_n0, sg_n1, sg_yT ha, sg_yT hb, sg_yF hc, sg_lits, sg_mA, sg_mB, sg_mC, sg_mD, sg_mE, sg_mF, Int32.reduceLT, Int32.reduceLE, forall_eq, true_and, and_true, true_implies, false_implies, not_true_eq_false, not_false_eq_true, implies_true]
          exact h
        · exact Or.inl rfl
    · by_cases hc : sg_rg r 0 3
      · refine ⟨0, fun P h => ?_, fun P h => ?_, ?_⟩
        · simp only [wpX_isStep, wX_isStep_92, wX_isStep_216, wpX_isVariable, sg_n0, sg_n1, sg_xT ha, sg_xF hb, sg_xT hc, sg_lits, sg_mA, sg_mB, sg_mC, sg_mD, sg_mE, sg_mF, Int32.reduceLT, Int32.reduceLE, forall_eq, true_and, and_true, true_implies, false_implies, not_true_eq_false, not_false_eq_true, implies_true]
          exact h
        · simp only [wpY_fits, wY_fits_91, sg_n0, sg_n1, sg_yT ha, sg_yF hb, sg_yT hc, sg_lits, sg_mA, sg_mB, sg_mC, sg_mD, sg_mE, sg_mF, Int32.reduceLT, Int32.reduceLE, forall_eq, true_and, and_true, true_implies, false_implies, not_true_eq_false, not_false_eq_true, implies_true]
          exact h
        · exact Or.inl rfl
      · refine ⟨0, fun P h => ?_, fun P h => ?_, ?_⟩
        · simp only [wpX_isStep, wX_isStep_92, wX_isStep_216, wpX_isVariable, sg_n0, sg_n1, sg_xT ha, sg_xF hb, sg_xF hc, sg_lits, sg_mA, sg_mB, sg_mC, sg_mD, sg_mE, sg_mF, Int32.reduceLT, Int32.reduceLE, forall_eq, true_and, and_true, true_implies, false_implies, not_true_eq_false, not_false_eq_true, implies_true]
          exact h
        · simp only [wpY_fits, wY_fits_91, sg_n0, sg_n1, sg_yT ha, sg_yF hb, sg_yF hc, sg_lits, sg_mA, sg_mB, sg_mC, sg_mD, sg_mE, sg_mF, Int32.reduceLT, Int32.reduceLE, forall_eq, true_and, and_true, true_implies, false_implies, not_true_eq_false, not_false_eq_true, implies_true]
          exact h
        · exact Or.inl rfl
  · by_cases hb : sg_rg q 0 3
    · by_cases hc : sg_rg r 0 3
      · refine ⟨0, fun P h => ?_, fun P h => ?_, ?_⟩
        · simp only [wpX_isStep, wX_isStep_92, wX_isStep_216, wpX_isVariable, sg_n0, sg_n1, sg_xF ha, sg_xT hb, sg_xT hc, sg_lits, sg_mA, sg_mB, sg_mC, sg_mD, sg_mE, sg_mF, Int32.reduceLT, Int32.reduceLE, forall_eq, true_and, and_true, true_implies, false_implies, not_true_eq_false, not_false_eq_true, implies_true]
          exact h
        · simp only [wpY_fits, wY_fits_91, sg_n0, sg_n1, sg_yF ha, sg_yT hb, sg_yT hc, sg_lits, sg_mA, sg_mB, sg_mC, sg_mD, sg_mE, sg_mF, Int32.reduceLT, Int32.reduceLE, forall_eq, true_and, and_true, true_implies, false_implies, not_true_eq_false, not_false_eq_true, implies_true]
          exact h
        · exact Or.inl rfl
      · refine ⟨0, fun P h => ?_, fun P h => ?_, ?_⟩
        · simp only [wpX_isStep, wX_isStep_92, wX_isStep_216, wpX_isVariable, sg_n0, sg_n1, sg_xF ha, sg_xT hb, sg_xF hc, sg_lits, sg_mA, sg_mB, sg_mC, sg_mD, sg_mE, sg_mF, Int32.reduceLT, Int32.reduceLE, forall_eq, true_and, and_true, true_implies, false_implies, not_true_eq_false, not_false_eq_true, implies_true]
          exact h
        · simp only [wpY_fits, wY_fits_91, sg_n0, sg_n1, sg_yF ha, sg_yT hb, sg_yF hc, sg_lits, sg_mA, sg_mB, sg_mC, sg_mD, sg_mE, sg_mF, Int32.reduceLT, Int32.reduceLE, forall_eq, true_and, and_true, true_implies, false_implies, not_true_eq_false, not_false_eq_true, implies_true]
          exact h
        · exact Or.inl rfl
    · by_cases hc : sg_rg r 0 3
      · refine ⟨0, fun P h => ?_, fun P h => ?_, ?_⟩
        · simp only [wpX_isStep, wX_isStep_92, wX_isStep_216, wpX_isVariable, sg_n0, sg_n1, sg_xF ha, sg_xF hb, sg_xT hc, sg_lits, sg_mA, sg_mB, sg_mC, sg_mD, sg_mE, sg_mF, Int32.reduceLT, Int32.reduceLE, forall_eq, true_and, and_true, true_implies, false_implies, not_true_eq_false, not_false_eq_true, implies_true]
          exact h
        · simp only [wpY_fits, wY_fits_91, sg_n0, sg_n1, sg_yF ha, sg_yF hb, sg_yT hc, sg_lits, sg_mA, sg_mB, sg_mC, sg_mD, sg_mE, sg_mF, Int32.reduceLT, Int32.reduceLE, forall_eq, true_and, and_true, true_implies, false_implies, not_true_eq_false, not_false_eq_true, implies_true]
          exact h
        · exact Or.inl rfl
      · refine ⟨0, fun P h => ?_, fun P h => ?_, ?_⟩
        · simp only [wpX_isStep, wX_isStep_92, wX_isStep_216, wpX_isVariable, sg_n0, sg_n1, sg_xF ha, sg_xF hb, sg_xF hc, sg_lits, sg_mA, sg_mB, sg_mC, sg_mD, sg_mE, sg_mF, Int32.reduceLT, Int32.reduceLE, forall_eq, true_and, and_true, true_implies, false_implies, not_true_eq_false, not_false_eq_true, implies_true]
          exact h
        · simp only [wpY_fits, wY_fits_91, sg_n0, sg_n1, sg_yF ha, sg_yF hb, sg_yF hc, sg_lits, sg_mA, sg_mB, sg_mC, sg_mD, sg_mE, sg_mF, Int32.reduceLT, Int32.reduceLE, forall_eq, true_and, and_true, true_implies, false_implies, not_true_eq_false, not_false_eq_true, implies_true]
          exact h
        · exact Or.inl rfl
theorem sg_fit4 {p q r : Int32} {v : SY} : sg_Fit 4 p q r v := by
  obtain ⟨ysc, ynow, yjc, yec, yse, yss, yac, yji, yen, yho, ywh, ytj, yte, yst, ypl, ydn, yas, ywt, yun, yrs, yva, yha, ypa, ypi, yps, yso, ysv, yct⟩ := v
  by_cases ha : sg_rg p 0 3
  · by_cases hb : sg_rg q 0 3
    · by_cases hc : sg_rg r 0 2
      · refine ⟨1, fun P h => ?_, fun P h => ?_, ?_⟩
        · simp only [wpX_isStep, wX_isStep_92, wX_isStep_216, wpX_isVariable, sg_n0, sg_n1, sg_xT ha, sg_xT hb, sg_xT hc, sg_lits, sg_mA, sg_mB, sg_mC, sg_mD, sg_mE, sg_mF, Int32.reduceLT, Int32.reduceLE, forall_eq, true_and, and_true, true_implies, false_implies, not_true_eq_false, not_false_eq_true, implies_true]
          exact h
        · simp only [wpY_fits, wY_fits_91, sg_n0, sg_n1, sg_yT ha, sg_yT hb, sg_yT hc, sg_lits, sg_mA, sg_mB, sg_mC, sg_mD, sg_mE, sg_mF, Int32.reduceLT, Int32.reduceLE, forall_eq, true_and, and_true, true_implies, false_implies, not_true_eq_false, not_false_eq_true, implies_true]
          exact h
        · refine Or.inr ⟨rfl, ?_⟩
          obtain ⟨na, la, ua, ea⟩ := sg_rgN 0 3 (by omega) (by omega) ha
          obtain ⟨nb, lb, ub, eb⟩ := sg_rgN 0 3 (by omega) (by omega) hb
          obtain ⟨nc, lc, uc, ec⟩ := sg_rgN 0 2 (by omega) (by omega) hc
          exact Or.inr (Or.inr (Or.inr (Or.inr (Or.inl ⟨rfl, na, nb, nc, by omega, by omega, by omega, ea, eb, ec⟩))))
      · refine ⟨0, fun P h => ?_, fun P h => ?_, ?_⟩
        · simp only [wpX_isStep, wX_isStep_92, wX_isStep_216, wpX_isVariable, sg_n0, sg_n1, sg_xT ha, sg_xT hb, sg_xF hc, sg_lits, sg_mA, sg_mB, sg_mC, sg_mD, sg_mE, sg_mF, Int32.reduceLT, Int32.reduceLE, forall_eq, true_and, and_true, true_implies, false_implies, not_true_eq_false, not_false_eq_true, implies_true]
          exact h
        · simp only [wpY_fits, wY_fits_91, sg_n0, sg_n1, sg_yT ha, sg_yT hb, sg_yF hc, sg_lits, sg_mA, sg_mB, sg_mC, sg_mD, sg_mE, sg_mF, Int32.reduceLT, Int32.reduceLE, forall_eq, true_and, and_true, true_implies, false_implies, not_true_eq_false, not_false_eq_true, implies_true]
          exact h
        · exact Or.inl rfl
    · by_cases hc : sg_rg r 0 2
      · refine ⟨0, fun P h => ?_, fun P h => ?_, ?_⟩
        · simp only [wpX_isStep, wX_isStep_92, wX_isStep_216, wpX_isVariable, sg_n0, sg_n1, sg_xT ha, sg_xF hb, sg_xT hc, sg_lits, sg_mA, sg_mB, sg_mC, sg_mD, sg_mE, sg_mF, Int32.reduceLT, Int32.reduceLE, forall_eq, true_and, and_true, true_implies, false_implies, not_true_eq_false, not_false_eq_true, implies_true]
          exact h
        · simp only [wpY_fits, wY_fits_91, sg_n0, sg_n1, sg_yT ha, sg_yF hb, sg_yT hc, sg_lits, sg_mA, sg_mB, sg_mC, sg_mD, sg_mE, sg_mF, Int32.reduceLT, Int32.reduceLE, forall_eq, true_and, and_true, true_implies, false_implies, not_true_eq_false, not_false_eq_true, implies_true]
          exact h
        · exact Or.inl rfl
      · refine ⟨0, fun P h => ?_, fun P h => ?_, ?_⟩
        · simp only [wpX_isStep, wX_isStep_92, wX_isStep_216, wpX_isVariable, sg_n0, sg_n1, sg_xT ha, sg_xF hb, sg_xF hc, sg_lits, sg_mA, sg_mB, sg_mC, sg_mD, sg_mE, sg_mF, Int32.reduceLT, Int32.reduceLE, forall_eq, true_and, and_true, true_implies, false_implies, not_true_eq_false, not_false_eq_true, implies_true]
          exact h
        · simp only [wpY_fits, wY_fits_91, sg_n0, sg_n1, sg_yT ha, sg_yF hb, sg_yF hc, sg_lits, sg_mA, sg_mB, sg_mC, sg_mD, sg_mE, sg_mF, Int32.reduceLT, Int32.reduceLE, forall_eq, true_and, and_true, true_implies, false_implies, not_true_eq_false, not_false_eq_true, implies_true]
          exact h
        · exact Or.inl rfl
  · by_cases hb : sg_rg q 0 3
    · by_cases hc : sg_rg r 0 2
      · refine ⟨0, fun P h => ?_, fun P h => ?_, ?_⟩
        · simp only [wpX_isStep, wX_isStep_92, wX_isStep_216, wpX_isVariable, sg_n0, sg_n1, sg_xF ha, sg_xT hb, sg_xT hc, sg_lits, sg_mA, sg_mB, sg_mC, sg_mD, sg_mE, sg_mF, Int32.reduceLT, Int32.reduceLE, forall_eq, true_and, and_true, true_implies, false_implies, not_true_eq_false, not_false_eq_true, implies_true]
          exact h
        · simp only [wpY_fits, wY_fits_91, sg_n0, sg_n1, sg_yF ha, sg_yT hb, sg_yT hc, sg_lits, sg_mA, sg_mB, sg_mC, sg_mD, sg_mE, sg_mF, Int32.reduceLT, Int32.reduceLE, forall_eq, true_and, and_true, true_implies, false_implies, not_true_eq_false, not_false_eq_true, implies_true]
          exact h
        · exact Or.inl rfl
      · refine ⟨0, fun P h => ?_, fun P h => ?_, ?_⟩
        · simp only [wpX_isStep, wX_isStep_92, wX_isStep_216, wpX_isVariable, sg_n0, sg_n1, sg_xF ha, sg_xT hb, sg_xF hc, sg_lits, sg_mA, sg_mB, sg_mC, sg_mD, sg_mE, sg_mF, Int32.reduceLT, Int32.reduceLE, forall_eq, true_and, and_true, true_implies, false_implies, not_true_eq_false, not_false_eq_true, implies_true]
          exact h
        · simp only [wpY_fits, wY_fits_91, sg_n0, sg_n1, sg_yF ha, sg_yT hb, sg_yF hc, sg_lits, sg_mA, sg_mB, sg_mC, sg_mD, sg_mE, sg_mF, Int32.reduceLT, Int32.reduceLE, forall_eq, true_and, and_true, true_implies, false_implies, not_true_eq_false, not_false_eq_true, implies_true]
          exact h
        · exact Or.inl rfl
    · by_cases hc : sg_rg r 0 2
      · refine ⟨0, fun P h => ?_, fun P h => ?_, ?_⟩
        · simp only [wpX_isStep, wX_isStep_92, wX_isStep_216, wpX_isVariable, sg_n0, sg_n1, sg_xF ha, sg_xF hb, sg_xT hc, sg_lits, sg_mA, sg_mB, sg_mC, sg_mD, sg_mE, sg_mF, Int32.reduceLT, Int32.reduceLE, forall_eq, true_and, and_true, true_implies, false_implies, not_true_eq_false, not_false_eq_true, implies_true]
          exact h
        · simp only [wpY_fits, wY_fits_91, sg_n0, sg_n1, sg_yF ha, sg_yF hb, sg_yT hc, sg_lits, sg_mA, sg_mB, sg_mC, sg_mD, sg_mE, sg_mF, Int32.reduceLT, Int32.reduceLE, forall_eq, true_and, and_true, true_implies, false_implies, not_true_eq_false, not_false_eq_true, implies_true]
          exact h
        · exact Or.inl rfl
      · refine ⟨0, fun P h => ?_, fun P h => ?_, ?_⟩
        · simp only [wpX_isStep, wX_isStep_92, wX_isStep_216, wpX_isVariable, sg_n0, sg_n1, sg_xF ha, sg_xF hb, sg_xF hc, sg_lits, sg_mA, sg_mB, sg_mC, sg_mD, sg_mE, sg_mF, Int32.reduceLT, Int32.reduceLE, forall_eq, true_and, and_true, true_implies, false_implies, not_true_eq_false, not_false_eq_true, implies_true]
          exact h
        · simp only [wpY_fits, wY_fits_91, sg_n0, sg_n1, sg_yF ha, sg_yF hb, sg_yF hc, sg_lits, sg_mA, sg_mB, sg_mC, sg_mD, sg_mE, sg_mF, Int32.reduceLT, Int32.reduceLE, forall_eq, true_and, and_true, true_implies, false_implies, not_true_eq_false, not_false_eq_true, implies_true]
          exact h
        · exact Or.inl rfl
theorem sg_fit5 {p q r : Int32} {v : SY} : sg_Fit 5 p q r v := by
  obtain ⟨ysc, ynow, yjc, yec, yse, yss, yac, yji, yen, yho, ywh, ytj, yte, yst, ypl, ydn, yas, ywt, yun, yrs, yva, yha, ypa, ypi, yps, yso, ysv, yct⟩ := v
  by_cases ha : sg_rg p 0 3
  · by_cases hb : sg_rg q 0 3
    · by_cases hc : sg_rg p 0 2
      · refine ⟨1, fun P h => ?_, fun P h => ?_, ?_⟩
        · simp only [wpX_isStep, wX_isStep_92, wX_isStep_216, wpX_isVariable, sg_n0, sg_n1, sg_xT ha, sg_xT hb, sg_xT hc, sg_lits, sg_mA, sg_mB, sg_mC, sg_mD, sg_mE, sg_mF, Int32.reduceLT, Int32.reduceLE, forall_eq, true_and, and_true, true_implies, false_implies, not_true_eq_false, not_false_eq_true, implies_true]
          exact h
        · simp only [wpY_fits, wY_fits_91, sg_n0, sg_n1, sg_yT ha, sg_yT hb, sg_yT hc, sg_lits, sg_mA, sg_mB, sg_mC, sg_mD, sg_mE, sg_mF, Int32.reduceLT, Int32.reduceLE, forall_eq, true_and, and_true, true_implies, false_implies, not_true_eq_false, not_false_eq_true, implies_true]
          exact h
        · refine Or.inr ⟨rfl, ?_⟩
          obtain ⟨nc, lc, uc, ec⟩ := sg_rgN 0 2 (by omega) (by omega) hc
          obtain ⟨nb, lb, ub, eb⟩ := sg_rgN 0 3 (by omega) (by omega) hb
          exact Or.inr (Or.inr (Or.inr (Or.inr (Or.inr (Or.inl ⟨rfl, nc, nb, by omega, by omega, ec, eb⟩)))))
      · refine ⟨0, fun P h => ?_, fun P h => ?_, ?_⟩
        · simp only [wpX_isStep, wX_isStep_92, wX_isStep_216, wpX_isVariable, sg_n0, sg_n1, sg_xT ha, sg_xT hb, sg_xF hc, sg_lits, sg_mA, sg_mB, sg_mC, sg_mD, sg_mE, sg_mF, Int32.reduceLT, Int32.reduceLE, forall_eq, true_and, and_true, true_implies, false_implies, not_true_eq_false, not_false_eq_true, implies_true]
          exact h
        · simp only [wpY_fits, wY_fits_91, sg_n0, sg_n1, sg_yT ha, sg_yT hb, sg_yF hc, sg_lits, sg_mA, sg_mB, sg_mC, sg_mD, sg_mE, sg_mF, Int32.reduceLT, Int32.reduceLE, forall_eq, true_and, and_true, true_implies, false_implies, not_true_eq_false, not_false_eq_true, implies_true]
          exact h
        · exact Or.inl rfl
    · by_cases hc : sg_rg p 0 2
      · refine ⟨0, fun P h => ?_, fun P h => ?_, ?_⟩
        · simp only [wpX_isStep, wX_isStep_92, wX_isStep_216, wpX_isVariable, sg_n0, sg_n1, sg_xT ha, sg_xF hb, sg_xT hc, sg_lits, sg_mA, sg_mB, sg_mC, sg_mD, sg_mE, sg_mF, Int32.reduceLT, Int32.reduceLE, forall_eq, true_and, and_true, true_implies, false_implies, not_true_eq_false, not_false_eq_true, implies_true]
          exact h
        · simp only [wpY_fits, wY_fits_91, sg_n0, sg_n1, sg_yT ha, sg_yF hb, sg_yT hc, sg_lits, sg_mA, sg_mB, sg_mC, sg_mD, sg_mE, sg_mF, Int32.reduceLT, Int32.reduceLE, forall_eq, true_and, and_true, true_implies, false_implies, not_true_eq_false, not_false_eq_true, implies_true]
          exact h
        · exact Or.inl rfl
      · refine ⟨0, fun P h => ?_, fun P h => ?_, ?_⟩
        · simp only [wpX_isStep, wX_isStep_92, wX_isStep_216, wpX_isVariable, sg_n0, sg_n1, sg_xT ha, sg_xF hb, sg_xF hc, sg_lits, sg_mA, sg_mB, sg_mC, sg_mD, sg_mE, sg_mF, Int32.reduceLT, Int32.reduceLE, forall_eq, true_and, and_true, true_implies, false_implies, not_true_eq_false, not_false_eq_true, implies_true]
          exact h
        · simp only [wpY_fits, wY_fits_91, sg_n0, sg_n1, sg_yT ha, sg_yF hb, sg_yF hc, sg_lits, sg_mA, sg_mB, sg_mC, sg_mD, sg_mE, sg_mF, Int32.reduceLT, Int32.reduceLE, forall_eq, true_and, and_true, true_implies, false_implies, not_true_eq_false, not_false_eq_true, implies_true]
          exact h
        · exact Or.inl rfl
  · by_cases hb : sg_rg q 0 3
    · by_cases hc : sg_rg p 0 2
      · refine ⟨1, fun P h => ?_, fun P h => ?_, ?_⟩
        · simp only [wpX_isStep, wX_isStep_92, wX_isStep_216, wpX_isVariable, sg_n0, sg_n1, sg_xF ha, sg_xT hb, sg_xT hc, sg_lits, sg_mA, sg_mB, sg_mC, sg_mD, sg_mE, sg_mF, Int32.reduceLT, Int32.reduceLE, forall_eq, true_and, and_true, true_implies, false_implies, not_true_eq_false, not_false_eq_true, implies_true]
          exact h
        · simp only [wpY_fits, wY_fits_91, sg_n0, sg_n1, sg_yF ha, sg_yT hb, sg_yT hc, sg_lits, sg_mA, sg_mB, sg_mC, sg_mD, sg_mE, sg_mF, Int32.reduceLT, Int32.reduceLE, forall_eq, true_and, and_true, true_implies, false_implies, not_true_eq_false, not_false_eq_true, implies_true]
          exact h
        · refine Or.inr ⟨rfl, ?_⟩
          obtain ⟨nc, lc, uc, ec⟩ := sg_rgN 0 2 (by omega) (by omega) hc
          obtain ⟨nb, lb, ub, eb⟩ := sg_rgN 0 3 (by omega) (by omega) hb
          exact Or.inr (Or.inr (Or.inr (Or.inr (Or.inr (Or.inl ⟨rfl, nc, nb, by omega, by omega, ec, eb⟩)))))
      · refine ⟨0, fun P h => ?_, fun P h => ?_, ?_⟩
        · simp only [wpX_isStep, wX_isStep_92, wX_isStep_216, wpX_isVariable, sg_n0, sg_n1, sg_xF ha, sg_xT hb, sg_xF hc, sg_lits, sg_mA, sg_mB, sg_mC, sg_mD, sg_mE, sg_mF, Int32.reduceLT, Int32.reduceLE, forall_eq, true_and, and_true, true_implies, false_implies, not_true_eq_false, not_false_eq_true, implies_true]
          exact h
        · simp only [wpY_fits, wY_fits_91, sg_n0, sg_n1, sg_yF ha, sg_yT hb, sg_yF hc, sg_lits, sg_mA, sg_mB, sg_mC, sg_mD, sg_mE, sg_mF, Int32.reduceLT, Int32.reduceLE, forall_eq, true_and, and_true, true_implies, false_implies, not_true_eq_false, not_false_eq_true, implies_true]
          exact h
        · exact Or.inl rfl
    · by_cases hc : sg_rg p 0 2
      · refine ⟨0, fun P h => ?_, fun P h => ?_, ?_⟩
        · simp only [wpX_isStep, wX_isStep_92, wX_isStep_216, wpX_isVariable, sg_n0, sg_n1, sg_xF ha, sg_xF hb, sg_xT hc, sg_lits, sg_mA, sg_mB, sg_mC, sg_mD, sg_mE, sg_mF, Int32.reduceLT, Int32.reduceLE, forall_eq, true_and, and_true, true_implies, false_implies, not_true_eq_false, not_false_eq_true, implies_true]
          exact h
        · simp only [wpY_fits, wY_fits_91, sg_n0, sg_n1, sg_yF ha, sg_yF hb, sg_yT hc, sg_lits, sg_mA, sg_mB, sg_mC, sg_mD, sg_mE, sg_mF, Int32.reduceLT, Int32.reduceLE, forall_eq, true_and, and_true, true_implies, false_implies, not_true_eq_false, not_false_eq_true, implies_true]
          exact h
        · exact Or.inl rfl
      · refine ⟨0, fun P h => ?_, fun P h => ?_, ?_⟩
        · simp only [wpX_isStep, wX_isStep_92, wX_isStep_216, wpX_isVariable, sg_n0, sg_n1, sg_xF ha, sg_xF hb, sg_xF hc, sg_lits, sg_mA, sg_mB, sg_mC, sg_mD, sg_mE, sg_mF, Int32.reduceLT, Int32.reduceLE, forall_eq, true_and, and_true, true_implies, false_implies, not_true_eq_false, not_false_eq_true, implies_true]
          exact h
        · simp only [wpY_fits, wY_fits_91, sg_n0, sg_n1, sg_yF ha, sg_yF hb, sg_yF hc, sg_lits, sg_mA, sg_mB, sg_mC, sg_mD, sg_mE, sg_mF, Int32.reduceLT, Int32.reduceLE, forall_eq, true_and, and_true, true_implies, false_implies, not_true_eq_false, not_false_eq_true, implies_true]
          exact h
        · exact Or.inl rfl
theorem sg_fit6 {p q r : Int32} {v : SY} : sg_Fit 6 p q r v := by
  obtain ⟨ysc, ynow, yjc, yec, yse, yss, yac, yji, yen, yho, ywh, ytj, yte, yst, ypl, ydn, yas, ywt, yun, yrs, yva, yha, ypa, ypi, yps, yso, ysv, yct⟩ := v
  by_cases ha : sg_rg p 0 3
  · by_cases hb : sg_rg q 0 3
    · refine ⟨1, fun P h => ?_, fun P h => ?_, ?_⟩
      · simp only [wpX_isStep, wX_isStep_92, wX_isStep_216, wpX_isVariable, sg_n0, sg_n1, sg_xT ha, sg_xT hb, sg_lits, sg_mA, sg_mB, sg_mC, sg_mD, sg_mE, sg_mF, Int32.reduceLT, Int32.reduceLE, forall_eq, true_and, and_true, true_implies, false_implies, not_true_eq_false, not_false_eq_true, implies_true]
        exact h
      · simp only [wpY_fits, wY_fits_91, sg_n0, sg_n1, sg_yT ha, sg_yT hb, sg_lits, sg_mA, sg_mB, sg_mC, sg_mD, sg_mE, sg_mF, Int32.reduceLT, Int32.reduceLE, forall_eq, true_and, and_true, true_implies, false_implies, not_true_eq_false, not_false_eq_true, implies_true]
        exact h
      · refine Or.inr ⟨rfl, ?_⟩
        obtain ⟨na, la, ua, ea⟩ := sg_rgN 0 3 (by omega) (by omega) ha
        obtain ⟨nb, lb, ub, eb⟩ := sg_rgN 0 3 (by omega) (by omega) hb
        exact Or.inr (Or.inr (Or.inr (Or.inr (Or.inr (Or.inr (Or.inl ⟨rfl, na, nb, by omega, by omega, ea, eb⟩))))))
    · refine ⟨0, fun P h => ?_, fun P h => ?_, ?_⟩
      · simp only [wpX_isStep, wX_isStep_92, wX_isStep_216, wpX_isVariable, sg_n0, sg_n1, sg_xT ha, sg_xF hb, sg_lits, sg_mA, sg_mB, sg_mC, sg_mD, sg_mE, sg_mF, Int32.reduceLT, Int32.reduceLE, forall_eq, true_and, and_true, true_implies, false_implies, not_true_eq_false, not_false_eq_true, implies_true]
        exact h
      · simp only [wpY_fits, wY_fits_91, sg_n0, sg_n1, sg_yT ha, sg_yF hb, sg_lits, sg_mA, sg_mB, sg_mC, sg_mD, sg_mE, sg_mF, Int32.reduceLT, Int32.reduceLE, forall_eq, true_and, and_true, true_implies, false_implies, not_true_eq_false, not_false_eq_true, implies_true]
        exact h
      · exact Or.inl rfl
  · by_cases hb : sg_rg q 0 3
    · refine ⟨0, fun P h => ?_, fun P h => ?_, ?_⟩
      · simp only [wpX_isStep, wX_isStep_92, wX_isStep_216, wpX_isVariable, sg_n0, sg_n1, sg_xF ha, sg_xT hb, sg_lits, sg_mA, sg_mB, sg_mC, sg_mD, sg_mE, sg_mF, Int32.reduceLT, Int32.reduceLE, forall_eq, true_and, and_true, true_implies, false_implies, not_true_eq_false, not_false_eq_true, implies_true]
        exact h
      · simp only [wpY_fits, wY_fits_91, sg_n0, sg_n1, sg_yF ha, sg_yT hb, sg_lits, sg_mA, sg_mB, sg_mC, sg_mD, sg_mE, sg_mF, Int32.reduceLT, Int32.reduceLE, forall_eq, true_and, and_true, true_implies, false_implies, not_true_eq_false, not_false_eq_true, implies_true]
        exact h
      · exact Or.inl rfl
    · refine ⟨0, fun P h => ?_, fun P h => ?_, ?_⟩
      · simp only [wpX_isStep, wX_isStep_92, wX_isStep_216, wpX_isVariable, sg_n0, sg_n1, sg_xF ha, sg_xF hb, sg_lits, sg_mA, sg_mB, sg_mC, sg_mD, sg_mE, sg_mF, Int32.reduceLT, Int32.reduceLE, forall_eq, true_and, and_true, true_implies, false_implies, not_true_eq_false, not_false_eq_true, implies_true]
        exact h
      · simp only [wpY_fits, wY_fits_91, sg_n0, sg_n1, sg_yF ha, sg_yF hb, sg_lits, sg_mA, sg_mB, sg_mC, sg_mD, sg_mE, sg_mF, Int32.reduceLT, Int32.reduceLE, forall_eq, true_and, and_true, true_implies, false_implies, not_true_eq_false, not_false_eq_true, implies_true]
        exact h
      · exact Or.inl rfl
theorem sg_fit7 {p q r : Int32} {v : SY} : sg_Fit 7 p q r v := by
  obtain ⟨ysc, ynow, yjc, yec, yse, yss, yac, yji, yen, yho, ywh, ytj, yte, yst, ypl, ydn, yas, ywt, yun, yrs, yva, yha, ypa, ypi, yps, yso, ysv, yct⟩ := v
  by_cases ha : sg_rg p 0 3
  · by_cases hb : sg_rg q 0 3
    · refine ⟨1, fun P h => ?_, fun P h => ?_, ?_⟩
      · simp only [wpX_isStep, wX_isStep_92, wX_isStep_216, wpX_isVariable, sg_n0, sg_n1, sg_xT ha, sg_xT hb, sg_lits, sg_mA, sg_mB, sg_mC, sg_mD, sg_mE, sg_mF, Int32.reduceLT, Int32.reduceLE, forall_eq, true_and, and_true, true_implies, false_implies, not_true_eq_false, not_false_eq_true, implies_true]
        exact h
      · simp only [wpY_fits, wY_fits_91, sg_n0, sg_n1, sg_yT ha, sg_yT hb, sg_lits, sg_mA, sg_mB, sg_mC, sg_mD, sg_mE, sg_mF, Int32.reduceLT, Int32.reduceLE, forall_eq, true_and, and_true, true_implies, false_implies, not_true_eq_false, not_false_eq_true, implies_true]
        exact h
      · refine Or.inr ⟨rfl, ?_⟩
        obtain ⟨na, la, ua, ea⟩ := sg_rgN 0 3 (by omega) (by omega) ha
        exact Or.inr (Or.inr (Or.inr (Or.inr (Or.inr (Or.inr (Or.inr (Or.inl ⟨rfl, na, by omega, ea⟩)))))))
    · refine ⟨1, fun P h => ?_, fun P h => ?_, ?_⟩
      · simp only [wpX_isStep, wX_isStep_92, wX_isStep_216, wpX_isVariable, sg_n0, sg_n1, sg_xT ha, sg_xF hb, sg_lits, sg_mA, sg_mB, sg_mC, sg_mD, sg_mE, sg_mF, Int32.reduceLT, Int32.reduceLE, forall_eq, true_and, and_true, true_implies, false_implies, not_true_eq_false, not_false_eq_true, implies_true]
        exact h
      · simp only [wpY_fits, wY_fits_91, sg_n0, sg_n1, sg_yT ha, sg_yF hb, sg_lits, sg_mA, sg_mB, sg_mC, sg_mD, sg_mE, sg_mF, Int32.reduceLT, Int32.reduceLE, forall_eq, true_and, and_true, true_implies, false_implies, not_true_eq_false, not_false_eq_true, implies_true]
        exact h
      · refine Or.inr ⟨rfl, ?_⟩
        obtain ⟨na, la, ua, ea⟩ := sg_rgN 0 3 (by omega) (by omega) ha
        exact Or.inr (Or.inr (Or.inr (Or.inr (Or.inr (Or.inr (Or.inr (Or.inl ⟨rfl, na, by omega, ea⟩)))))))
  · by_cases hb : sg_rg q 0 3
    · refine ⟨0, fun P h => ?_, fun P h => ?_, ?_⟩
      · simp only [wpX_isStep, wX_isStep_92, wX_isStep_216, wpX_isVariable, sg_n0, sg_n1, sg_xF ha, sg_xT hb, sg_lits, sg_mA, sg_mB, sg_mC, sg_mD, sg_mE, sg_mF, Int32.reduceLT, Int32.reduceLE, forall_eq, true_and, and_true, true_implies, false_implies, not_true_eq_false, not_false_eq_true, implies_true]
        exact h
      · simp only [wpY_fits, wY_fits_91, sg_n0, sg_n1, sg_yF ha, sg_yT hb, sg_lits, sg_mA, sg_mB, sg_mC, sg_mD, sg_mE, sg_mF, Int32.reduceLT, Int32.reduceLE, forall_eq, true_and, and_true, true_implies, false_implies, not_true_eq_false, not_false_eq_true, implies_true]
        exact h
      · exact Or.inl rfl
    · refine ⟨0, fun P h => ?_, fun P h => ?_, ?_⟩
      · simp only [wpX_isStep, wX_isStep_92, wX_isStep_216, wpX_isVariable, sg_n0, sg_n1, sg_xF ha, sg_xF hb, sg_lits, sg_mA, sg_mB, sg_mC, sg_mD, sg_mE, sg_mF, Int32.reduceLT, Int32.reduceLE, forall_eq, true_and, and_true, true_implies, false_implies, not_true_eq_false, not_false_eq_true, implies_true]
        exact h
      · simp only [wpY_fits, wY_fits_91, sg_n0, sg_n1, sg_yF ha, sg_yF hb, sg_lits, sg_mA, sg_mB, sg_mC, sg_mD, sg_mE, sg_mF, Int32.reduceLT, Int32.reduceLE, forall_eq, true_and, and_true, true_implies, false_implies, not_true_eq_false, not_false_eq_true, implies_true]
        exact h
      · exact Or.inl rfl
theorem sg_fit8 {p q r : Int32} {v : SY} : sg_Fit 8 p q r v := by
  obtain ⟨ysc, ynow, yjc, yec, yse, yss, yac, yji, yen, yho, ywh, ytj, yte, yst, ypl, ydn, yas, ywt, yun, yrs, yva, yha, ypa, ypi, yps, yso, ysv, yct⟩ := v
  by_cases ha : sg_rg p 0 3
  · by_cases hb : sg_rg q 0 3
    · by_cases hc : sg_rg p 0 19
      · refine ⟨1, fun P h => ?_, fun P h => ?_, ?_⟩
        · simp only [wpX_isStep, wX_isStep_92, wX_isStep_216, wpX_isVariable, sg_n0, sg_n1, sg_xT ha, sg_xT hb, sg_xT hc, sg_lits, sg_mA, sg_mB, sg_mC, sg_mD, sg_mE, sg_mF, Int32.reduceLT, Int32.reduceLE, forall_eq, true_and, and_true, true_implies, false_implies, not_true_eq_false, not_false_eq_true, implies_true]
          exact h
        · simp only [wpY_fits, wY_fits_91, sg_n0, sg_n1, sg_yT ha, sg_yT hb, sg_yT hc, sg_lits, sg_mA, sg_mB, sg_mC, sg_mD, sg_mE, sg_mF, Int32.reduceLT, Int32.reduceLE, forall_eq, true_and, and_true, true_implies, false_implies, not_true_eq_false, not_false_eq_true, implies_true]
          exact h
        · refine Or.inr ⟨rfl, ?_⟩
          obtain ⟨nc, lc, uc, ec⟩ := sg_rgN 0 19 (by omega) (by omega) hc
          exact Or.inr (Or.inr (Or.inr (Or.inr (Or.inr (Or.inr (Or.inr (Or.inr (Or.inl ⟨rfl, nc, by omega, ec⟩))))))))
      · refine ⟨0, fun P h => ?_, fun P h => ?_, ?_⟩
        · simp only [wpX_isStep, wX_isStep_92, wX_isStep_216, wpX_isVariable, sg_n0, sg_n1, sg_xT ha, sg_xT hb, sg_xF hc, sg_lits, sg_mA, sg_mB, sg_mC, sg_mD, sg_mE, sg_mF, Int32.reduceLT, Int32.reduceLE, forall_eq, true_and, and_true, true_implies, false_implies, not_true_eq_false, not_false_eq_true, implies_true]
          exact h
        · simp only [wpY_fits, wY_fits_91, sg_n0, sg_n1, sg_yT ha, sg_yT hb, sg_yF hc, sg_lits, sg_mA, sg_mB, sg_mC, sg_mD, sg_mE, sg_mF, Int32.reduceLT, Int32.reduceLE, forall_eq, true_and, and_true, true_implies, false_implies, not_true_eq_false, not_false_eq_true, implies_true]
          exact h
        · exact Or.inl rfl
    · by_cases hc : sg_rg p 0 19
      · refine ⟨1, fun P h => ?_, fun P h => ?_, ?_⟩
        · simp only [wpX_isStep, wX_isStep_92, wX_isStep_216, wpX_isVariable, sg_n0, sg_n1, sg_xT ha, sg_xF hb, sg_xT hc, sg_lits, sg_mA, sg_mB, sg_mC, sg_mD, sg_mE, sg_mF, Int32.reduceLT, Int32.reduceLE, forall_eq, true_and, and_true, true_implies, false_implies, not_true_eq_false, not_false_eq_true, implies_true]
          exact h
        · simp only [wpY_fits, wY_fits_91, sg_n0, sg_n1, sg_yT ha, sg_yF hb, sg_yT hc, sg_lits, sg_mA, sg_mB, sg_mC, sg_mD, sg_mE, sg_mF, Int32.reduceLT, Int32.reduceLE, forall_eq, true_and, and_true, true_implies, false_implies, not_true_eq_false, not_false_eq_true, implies_true]
          exact h
        · refine Or.inr ⟨rfl, ?_⟩
          obtain ⟨nc, lc, uc, ec⟩ := sg_rgN 0 19 (by omega) (by omega) hc
          exact Or.inr (Or.inr (Or.inr (Or.inr (Or.inr (Or.inr (Or.inr (Or.inr (Or.inl ⟨rfl, nc, by omega, ec⟩))))))))
      · refine ⟨0, fun P h => ?_, fun P h => ?_, ?_⟩
        · simp only [wpX_isStep, wX_isStep_92, wX_isStep_216, wpX_isVariable, sg_n0, sg_n1, sg_xT ha, sg_xF hb, sg_xF hc, sg_lits, sg_mA, sg_mB, sg_mC, sg_mD, sg_mE, sg_mF, Int32.reduceLT, Int32.reduceLE, forall_eq, true_and, and_true, true_implies, false_implies, not_true_eq_false, not_false_eq_true, implies_true]
          exact h
        · simp only [wpY_fits, wY_fits_91, sg_n0, sg_n1, sg_yT ha, sg_yF hb, sg_yF hc, sg_lits, sg_mA, sg_mB, sg_mC, sg_mD, sg_mE, sg_mF, Int32.reduceLT, Int32.reduceLE, forall_eq, true_and, and_true, true_implies, false_implies, not_true_eq_false, not_false_eq_true, implies_true]
          exact h
        · exact Or.inl rfl
  · by_cases hb : sg_rg q 0 3
    · by_cases hc : sg_rg p 0 19
      · refine ⟨1, fun P h => ?_, fun P h => ?_, ?_⟩
        · simp only [wpX_isStep, wX_isStep_92, wX_isStep_216, wpX_isVariable, sg_n0, sg_n1, sg_xF ha, sg_xT hb, sg_xT hc, sg_lits, sg_mA, sg_mB, sg_mC, sg_mD, sg_mE, sg_mF, Int32.reduceLT, Int32.reduceLE, forall_eq, true_and, and_true, true_implies, false_implies, not_true_eq_false, not_false_eq_true, implies_true]
          exact h
        · simp only [wpY_fits, wY_fits_91, sg_n0, sg_n1, sg_yF ha, sg_yT hb, sg_yT hc, sg_lits, sg_mA, sg_mB, sg_mC, sg_mD, sg_mE, sg_mF, Int32.reduceLT, Int32.reduceLE, forall_eq, true_and, and_true, true_implies, false_implies, not_true_eq_false, not_false_eq_true, implies_true]
          exact h
        · refine Or.inr ⟨rfl, ?_⟩
          obtain ⟨nc, lc, uc, ec⟩ := sg_rgN 0 19 (by omega) (by omega) hc
          exact Or.inr (Or.inr (Or.inr (Or.inr (Or.inr (Or.inr (Or.inr (Or.inr (Or.inl ⟨rfl, nc, by omega, ec⟩))))))))
      · refine ⟨0, fun P h => ?_, fun P h => ?_, ?_⟩
        · simp only [wpX_isStep, wX_isStep_92, wX_isStep_216, wpX_isVariable, sg_n0, sg_n1, sg_xF ha, sg_xT hb, sg_xF hc, sg_lits, sg_mA, sg_mB, sg_mC, sg_mD, sg_mE, sg_mF, Int32.reduceLT, Int32.reduceLE, forall_eq, true_and, and_true, true_implies, false_implies, not_true_eq_false, not_false_eq_true, implies_true]
          exact h
        · simp only [wpY_fits, wY_fits_91, sg_n0, sg_n1, sg_yF ha, sg_yT hb, sg_yF hc, sg_lits, sg_mA, sg_mB, sg_mC, sg_mD, sg_mE, sg_mF, Int32.reduceLT, Int32.reduceLE, forall_eq, true_and, and_true, true_implies, false_implies, not_true_eq_false, not_false_eq_true, implies_true]
          exact h
        · exact Or.inl rfl
    · by_cases hc : sg_rg p 0 19
      · refine ⟨1, fun P h => ?_, fun P h => ?_, ?_⟩
        · simp only [wpX_isStep, wX_isStep_92, wX_isStep_216, wpX_isVariable, sg_n0, sg_n1, sg_xF ha, sg_xF hb, sg_xT hc, sg_lits, sg_mA, sg_mB, sg_mC, sg_mD, sg_mE, sg_mF, Int32.reduceLT, Int32.reduceLE, forall_eq, true_and, and_true, true_implies, false_implies, not_true_eq_false, not_false_eq_true, implies_true]
          exact h
        · simp only [wpY_fits, wY_fits_91, sg_n0, sg_n1, sg_yF ha, sg_yF hb, sg_yT hc, sg_lits, sg_mA, sg_mB, sg_mC, sg_mD, sg_mE, sg_mF, Int32.reduceLT, Int32.reduceLE, forall_eq, true_and, and_true, true_implies, false_implies, not_true_eq_false, not_false_eq_true, implies_true]
          exact h
        · refine Or.inr ⟨rfl, ?_⟩
          obtain ⟨nc, lc, uc, ec⟩ := sg_rgN 0 19 (by omega) (by omega) hc
          exact Or.inr (Or.inr (Or.inr (Or.inr (Or.inr (Or.inr (Or.inr (Or.inr (Or.inl ⟨rfl, nc, by omega, ec⟩))))))))
      · refine ⟨0, fun P h => ?_, fun P h => ?_, ?_⟩
        · simp only [wpX_isStep, wX_isStep_92, wX_isStep_216, wpX_isVariable, sg_n0, sg_n1, sg_xF ha, sg_xF hb, sg_xF hc, sg_lits, sg_mA, sg_mB, sg_mC, sg_mD, sg_mE, sg_mF, Int32.reduceLT, Int32.reduceLE, forall_eq, true_and, and_true, true_implies, false_implies, not_true_eq_false, not_false_eq_true, implies_true]
          exact h
        · simp only [wpY_fits, wY_fits_91, sg_n0, sg_n1, sg_yF ha, sg_yF hb, sg_yF hc, sg_lits, sg_mA, sg_mB, sg_mC, sg_mD, sg_mE, sg_mF, Int32.reduceLT, Int32.reduceLE, forall_eq, true_and, and_true, true_implies, false_implies, not_true_eq_false, not_false_eq_true, implies_true]
          exact h
        · exact Or.inl rfl
theorem sg_fit9 {p q r : Int32} {v : SY} : sg_Fit 9 p q r v := by
  obtain ⟨ysc, ynow, yjc, yec, yse, yss, yac, yji, yen, yho, ywh, ytj, yte, yst, ypl, ydn, yas, ywt, yun, yrs, yva, yha, ypa, ypi, yps, yso, ysv, yct⟩ := v
  by_cases ha : sg_rg p 0 3
  · by_cases hb : sg_rg q 0 3
    · by_cases hc : sg_rg r 0 19
      · refine ⟨1, fun P h => ?_, fun P h => ?_, ?_⟩
        · simp only [wpX_isStep, wX_isStep_92, wX_isStep_216, wpX_isVariable, sg_n0, sg_n1, sg_xT ha, sg_xT hb, sg_xT hc, sg_lits, sg_mA, sg_mB, sg_mC, sg_mD, sg_mE, sg_mF, Int32.reduceLT, Int32.reduceLE, forall_eq, true_and, and_true, true_implies, false_implies, not_true_eq_false, not_false_eq_true, implies_true]
          exact h
        · simp only [wpY_fits, wY_fits_91, sg_n0, sg_n1, sg_yT ha, sg_yT hb, sg_yT hc, sg_lits, sg_mA, sg_mB, sg_mC, sg_mD, sg_mE, sg_mF, Int32.reduceLT, Int32.reduceLE, forall_eq, true_and, and_true, true_implies, false_implies, not_true_eq_false, not_false_eq_true, implies_true]
          exact h
        · refine Or.inr ⟨rfl, ?_⟩
          obtain ⟨na, la, ua, ea⟩ := sg_rgN 0 3 (by omega) (by omega) ha
          obtain ⟨nb, lb, ub, eb⟩ := sg_rgN 0 3 (by omega) (by omega) hb
          obtain ⟨nc, lc, uc, ec⟩ := sg_rgN 0 19 (by omega) (by omega) hc
          exact Or.inr (Or.inr (Or.inr (Or.inr (Or.inr (Or.inr (Or.inr (Or.inr (Or.inr (Or.inl ⟨rfl, na, nb, nc, by omega, by omega, by omega, ea, eb, ec⟩)))))))))
      · refine ⟨0, fun P h => ?_, fun P h => ?_, ?_⟩
        · simp only [wpX_isStep, wX_isStep_92, wX_isStep_216, wpX_isVariable, sg_n0, sg_n1, sg_xT ha, sg_xT hb, sg_xF hc, sg_lits, sg_mA, sg_mB, sg_mC, sg_mD, sg_mE, sg_mF, Int32.reduceLT, Int32.reduceLE, forall_eq, true_and, and_true, true_implies, false_implies, not_true_eq_false, not_false_eq_true, implies_true]
          exact h
        · simp only [wpY_fits, wY_fits_91, sg_n0, sg_n1, sg_yT ha, sg_yT hb, sg_yF hc, sg_lits, sg_mA, sg_mB, sg_mC, sg_mD, sg_mE, sg_mF, Int32.reduceLT, Int32.reduceLE, forall_eq, true_and, and_true, true_implies, false_implies, not_true_eq_false, not_false_eq_true, implies_true]
          exact h
        · exact Or.inl rfl
    · by_cases hc : sg_rg r 0 19
      · refine ⟨0, fun P h => ?_, fun P h => ?_, ?_⟩
        · simp only [wpX_isStep, wX_isStep_92, wX_isStep_216, wpX_isVariable, sg_n0, sg_n1, sg_xT ha, sg_xF hb, sg_xT hc, sg_lits, sg_mA, sg_mB, sg_mC, sg_mD, sg_mE, sg_mF, Int32.reduceLT, Int32.reduceLE, forall_eq, true_and, and_true, true_implies, false_implies, not_true_eq_false, not_false_eq_true, implies_true]
          exact h
        · simp only [wpY_fits, wY_fits_91, sg_n0, sg_n1, sg_yT ha, sg_yF hb, sg_yT hc, sg_lits, sg_mA, sg_mB, sg_mC, sg_mD, sg_mE, sg_mF, Int32.reduceLT, Int32.reduceLE, forall_eq, true_and, and_true, true_implies, false_implies, not_true_eq_false, not_false_eq_true, implies_true]
          exact h
        · exact Or.inl rfl
      · refine ⟨0, fun P h => ?_, fun P h => ?_, ?_⟩
        · simp only [wpX_isStep, wX_isStep_92, wX_isStep_216, wpX_isVariable, sg_n0, sg_n1, sg_xT ha, sg_xF hb, sg_xF hc, sg_lits, sg_mA, sg_mB, sg_mC, sg_mD, sg_mE, sg_mF, Int32.reduceLT, Int32.reduceLE, forall_eq, true_and, and_true, true_implies, false_implies, not_true_eq_false, not_false_eq_true, implies_true]
          exact h
        · simp only [wpY_fits, wY_fits_91, sg_n0, sg_n1, sg_yT ha, sg_yF hb, sg_yF hc, sg_lits, sg_mA, sg_mB, sg_mC, sg_mD, sg_mE, sg_mF, Int32.reduceLT, Int32.reduceLE, forall_eq, true_and, and_true, true_implies, false_implies, not_true_eq_false, not_false_eq_true, implies_true]
          exact h
        · exact Or.inl rfl
  · by_cases hb : sg_rg q 0 3
    · by_cases hc : sg_rg r 0 19
      · refine ⟨0, fun P h => ?_, fun P h => ?_, ?_⟩
        · simp only [wpX_isStep, wX_isStep_92, wX_isStep_216, wpX_isVariable, sg_n0, sg_n1, sg_xF ha, sg_xT hb, sg_xT hc, sg_lits, sg_mA, sg_mB, sg_mC, sg_mD, sg_mE, sg_mF, Int32.reduceLT, Int32.reduceLE, forall_eq, true_and, and_true, true_implies, false_implies, not_true_eq_false, not_false_eq_true, implies_true]
          exact h
        · simp only [wpY_fits, wY_fits_91, sg_n0, sg_n1, sg_yF ha, sg_yT hb, sg_yT hc, sg_lits, sg_mA, sg_mB, sg_mC, sg_mD, sg_mE, sg_mF, Int32.reduceLT, Int32.reduceLE, forall_eq, true_and, and_true, true_implies, false_implies, not_true_eq_false, not_false_eq_true, implies_true]
          exact h
        · exact Or.inl rfl
      · refine ⟨0, fun P h => ?_, fun P h => ?_, ?_⟩
        · simp only [wpX_isStep, wX_isStep_92, wX_isStep_216, wpX_isVariable, sg_n0, sg_n1, sg_xF ha, sg_xT hb, sg_xF hc, sg_lits, sg_mA, sg_mB, sg_mC, sg_mD, sg_mE, sg_mF, Int32.reduceLT, Int32.reduceLE, forall_eq, true_and, and_true, true_implies, false_implies, not_true_eq_false, not_false_eq_true, implies_true]
          exact h
        · simp only [wpY_fits, wY_fits_91, sg_n0, sg_n1, sg_yF ha, sg_yT hb, sg_yF hc, sg_lits, sg_mA, sg_mB, sg_mC, sg_mD, sg_mE, sg_mF, Int32.reduceLT, Int32.reduceLE, forall_eq, true_and, and_true, true_implies, false_implies, not_true_eq_false, not_false_eq_true, implies_true]
          exact h
        · exact Or.inl rfl
    · by_cases hc : sg_rg r 0 19
      · refine ⟨0, fun P h => ?_, fun P h => ?_, ?_⟩
        · simp only [wpX_isStep, wX_isStep_92, wX_isStep_216, wpX_isVariable, sg_n0, sg_n1, sg_xF ha, sg_xF hb, sg_xT hc, sg_lits, sg_mA, sg_mB, sg_mC, sg_mD, sg_mE, sg_mF, Int32.reduceLT, Int32.reduceLE, forall_eq, true_and, and_true, true_implies, false_implies, not_true_eq_false, not_false_eq_true, implies_true]
          exact h
        · simp only [wpY_fits, wY_fits_91, sg_n0, sg_n1, sg_yF ha, sg_yF hb, sg_yT hc, sg_lits, sg_mA, sg_mB, sg_mC, sg_mD, sg_mE, sg_mF, Int32.reduceLT, Int32.reduceLE, forall_eq, true_and, and_true, true_implies, false_implies, not_true_eq_false, not_false_eq_true, implies_true]
          exact h
        · exact Or.inl rfl
      · refine ⟨0, fun P h => ?_, fun P h => ?_, ?_⟩
        · simp only [wpX_isStep, wX_isStep_92, wX_isStep_216, wpX_isVariable, sg_n0, sg_n1, sg_xF ha, sg_xF hb, sg_xF hc, sg_lits, sg_mA, sg_mB, sg_mC, sg_mD, sg_mE, sg_mF, Int32.reduceLT, Int32.reduceLE, forall_eq, true_and, and_true, true_implies, false_implies, not_true_eq_false, not_false_eq_true, implies_true]
          exact h
        · simp only [wpY_fits, wY_fits_91, sg_n0, sg_n1, sg_yF ha, sg_yF hb, sg_yF hc, sg_lits, sg_mA, sg_mB, sg_mC, sg_mD, sg_mE, sg_mF, Int32.reduceLT, Int32.reduceLE, forall_eq, true_and, and_true, true_implies, false_implies, not_true_eq_false, not_false_eq_true, implies_true]
          exact h
        · exact Or.inl rfl
theorem sg_fit10 {p q r : Int32} {v : SY} : sg_Fit 10 p q r v := by
  obtain ⟨ysc, ynow, yjc, yec, yse, yss, yac, yji, yen, yho, ywh, ytj, yte, yst, ypl, ydn, yas, ywt, yun, yrs, yva, yha, ypa, ypi, yps, yso, ysv, yct⟩ := v
  by_cases ha : sg_rg p 0 3
  · by_cases hb : sg_rg q 0 3
    · by_cases hc : sg_rg p 0 1
      · by_cases hd : sg_rg r 1 50
        · refine ⟨1, fun P h => ?_, fun P h => ?_, ?_⟩
          · simp only [wpX_isStep, wX_isStep_92, wX_isStep_216, wpX_isVariable, sg_n0, sg_n1, sg_xT ha, sg_xT hb, sg_xT hc, sg_xT hd, sg_lits, sg_mA, sg_mB, sg_mC, sg_mD, sg_mE, sg_mF, Int32.reduceLT, Int32.reduceLE, forall_eq, true_and, and_true, true_implies, false_implies, not_true_eq_false, not_false_eq_true, implies_true]
            exact h
          · simp only [wpY_fits, wY_fits_91, sg_n0, sg_n1, sg_yT ha, sg_yT hb, sg_yT hc, sg_yT hd, sg_lits, sg_mA, sg_mB, sg_mC, sg_mD, sg_mE, sg_mF, Int32.reduceLT, Int32.reduceLE, forall_eq, true_and, and_true, true_implies, false_implies, not_true_eq_false, not_false_eq_true, implies_true]
            exact h
          · refine Or.inr ⟨rfl, ?_⟩
            obtain ⟨nc, lc, uc, ec⟩ := sg_rgN 0 1 (by omega) (by omega) hc
            obtain ⟨nb, lb, ub, eb⟩ := sg_rgN 0 3 (by omega) (by omega) hb
            exact Or.inr (Or.inr (Or.inr (Or.inr (Or.inr (Or.inr (Or.inr (Or.inr (Or.inr (Or.inr (Or.inl ⟨rfl, nc, nb, by omega, by omega, ec, eb⟩))))))))))
        · refine ⟨0, fun P h => ?_, fun P h => ?_, ?_⟩
          · simp only [wpX_isStep, wX_isStep_92, wX_isStep_216, wpX_isVariable, sg_n0, sg_n1, sg_xT ha, sg_xT hb, sg_xT hc, sg_xF hd, sg_lits, sg_mA, sg_mB, sg_mC, sg_mD, sg_mE, sg_mF, Int32.reduceLT, Int32.reduceLE, forall_eq, true_and, and_true, true_implies, false_implies, not_true_eq_false, not_false_eq_true, implies_true]
            exact h
          · simp only [wpY_fits, wY_fits_91, sg_n0, sg_n1, sg_yT ha, sg_yT hb, sg_yT hc, sg_yF hd, sg_lits, sg_mA, sg_mB, sg_mC, sg_mD, sg_mE, sg_mF, Int32.reduceLT, Int32.reduceLE, forall_eq, true_and, and_true, true_implies, false_implies, not_true_eq_false, not_false_eq_true, implies_true]
            exact h
          · exact Or.inl rfl
      · by_cases hd : sg_rg r 1 50
        · refine ⟨0, fun P h => ?_, fun P h => ?_, ?_⟩
          · simp only [wpX_isStep, wX_isStep_92, wX_isStep_216, wpX_isVariable, sg_n0, sg_n1, sg_xT ha, sg_xT hb, sg_xF hc, sg_xT hd, sg_lits, sg_mA, sg_mB, sg_mC, sg_mD, sg_mE, sg_mF, Int32.reduceLT, Int32.reduceLE, forall_eq, true_and, and_true, true_implies, false_implies, not_true_eq_false, not_false_eq_true, implies_true]
            exact h
          · simp only [wpY_fits, wY_fits_91, sg_n0, sg_n1, sg_yT ha, sg_yT hb, sg_yF hc, sg_yT hd, sg_lits, sg_mA, sg_mB, sg_mC, sg_mD, sg_mE, sg_mF, Int32.reduceLT, Int32.reduceLE, forall_eq, true_and, and_true, true_implies, false_implies, not_true_eq_false, not_false_eq_true, implies_true]
            exact h
          · exact Or.inl rfl
        · refine ⟨0, fun P h => ?_, fun P h => ?_, ?_⟩
          · simp only [wpX_isStep, wX_isStep_92, wX_isStep_216, wpX_isVariable, sg_n0, sg_n1, sg_xT ha, sg_xT hb, sg_xF hc, sg_xF hd, sg_lits, sg_mA, sg_mB, sg_mC, sg_mD, sg_mE, sg_mF, Int32.reduceLT, Int32.reduceLE, forall_eq, true_and, and_true, true_implies, false_implies, not_true_eq_false, not_false_eq_true, implies_true]
            exact h
          · simp only [wpY_fits, wY_fits_91, sg_n0, sg_n1, sg_yT ha, sg_yT hb, sg_yF hc, sg_yF hd, sg_lits, sg_mA, sg_mB, sg_mC, sg_mD, sg_mE, sg_mF, Int32.reduceLT, Int32.reduceLE, forall_eq, true_and, and_true, true_implies, false_implies, not_true_eq_false, not_false_eq_true, implies_true]
            exact h
          · exact Or.inl rfl
    · by_cases hc : sg_rg p 0 1
      · by_cases hd : sg_rg r 1 50
        · refine ⟨0, fun P h => ?_, fun P h => ?_, ?_⟩
          · simp only [wpX_isStep, wX_isStep_92, wX_isStep_216, wpX_isVariable, sg_n0, sg_n1, sg_xT ha, sg_xF hb, sg_xT hc, sg_xT hd, sg_lits, sg_mA, sg_mB, sg_mC, sg_mD, sg_mE, sg_mF, Int32.reduceLT, Int32.reduceLE, forall_eq, true_and, and_true, true_implies, false_implies, not_true_eq_false, not_false_eq_true, implies_true]
            exact h
          · simp only [wpY_fits, wY_fits_91, sg_n0, sg_n1, sg_yT ha, sg_yF hb, sg_yT hc, sg_yT hd, sg_lits, sg_mA, sg_mB, sg_mC, sg_mD, sg_mE, sg_mF, Int32.reduceLT, Int32.reduceLE, forall_eq, true_and, and_true, true_implies, false_implies, not_true_eq_false, not_false_eq_true, implies_true]
            exact h
          · exact Or.inl rfl
        · refine ⟨0, fun P h => ?_, fun P h => ?_, ?_⟩
          · simp only [wpX_isStep, wX_isStep_92, wX_isStep_216, wpX_isVariable, sg_n0, sg_n1, sg_xT ha, sg_xF hb, sg_xT hc, sg_xF hd, sg_lits, sg_mA, sg_mB, sg_mC, sg_mD, sg_mE, sg_mF, Int32.reduceLT, Int32.reduceLE, forall_eq, true_and, and_true, true_implies, false_implies, not_true_eq_false, not_false_eq_true, implies_true]
            exact h
          · simp only [wpY_fits, wY_fits_91, sg_n0, sg_n1, sg_yT ha, sg_yF hb, sg_yT hc, sg_yF hd, sg_lits, sg_mA, sg_mB, sg_mC, sg_mD, sg_mE, sg_mF, Int32.reduceLT, Int32.reduceLE, forall_eq, true_and, and_true, true_implies, false_implies, not_true_eq_false, not_false_eq_true, implies_true]
            exact h
          · exact Or.inl rfl
      · by_cases hd : sg_rg r 1 50
        · refine ⟨0, fun P h => ?_, fun P h => ?_, ?_⟩
          · simp only [wpX_isStep, wX_isStep_92, wX_isStep_216, wpX_isVariable, sg_n0, sg_n1, sg_xT ha, sg_xF hb, sg_xF hc, sg_xT hd, sg_lits, sg_mA, sg_mB, sg_mC, sg_mD, sg_mE, sg_mF, Int32.reduceLT, Int32.reduceLE, forall_eq, true_and, and_true, true_implies, false_implies, not_true_eq_false, not_false_eq_true, implies_true]
            exact h
          · simp only [wpY_fits, wY_fits_91, sg_n0, sg_n1, sg_yT ha, sg_yF hb, sg_yF hc, sg_yT hd, sg_lits, sg_mA, sg_mB, sg_mC, sg_mD, sg_mE, sg_mF, Int32.reduceLT, Int32.reduceLE, forall_eq, true_and, and_true, true_implies, false_implies, not_true_eq_false, not_false_eq_true, implies_true]
            exact h
          · exact Or.inl rfl
        · refine ⟨0, fun P h => ?_, fun P h => ?_, ?_⟩
          · simp only [wpX_isStep, wX_isStep_92, wX_isStep_216, wpX_isVariable, sg_n0, sg_n1, sg_xT ha, sg_xF hb, sg_xF hc, sg_xF hd, sg_lits, sg_mA, sg_mB, sg_mC, sg_mD, sg_mE, sg_mF, Int32.reduceLT, Int32.reduceLE, forall_eq, true_and, and_true, true_implies, false_implies, not_true_eq_false, not_false_eq_true, implies_true]
            exact h
          · simp only [wpY_fits, wY_fits_91, sg_n0, sg_n1, sg_yT ha, sg_yF hb, sg_yF hc, sg_yF hd, sg_lits, sg_mA, sg_mB, sg_mC, sg_mD, sg_mE, sg_mF, Int32.reduceLT, Int32.reduceLE, forall_eq, true_and, and_true, true_implies, false_implies, not_true_eq_false, not_false_eq_true, implies_true]
            exact h
          · exact Or.inl rfl
  · by_cases hb : sg_rg q 0 3
    · by_cases hc : sg_rg p 0 1
      · by_cases hd : sg_rg r 1 50
        · refine ⟨1, fun P h => ?_, fun P h => ?_, ?_⟩
          · simp only [wpX_isStep, wX_isStep_92, wX_isStep_216, wpX_isVariable, sg_n0, sg_n1, sg_xF ha, sg_xT hb, sg_xT hc, sg_xT hd, sg_lits, sg_mA, sg_mB, sg_mC, sg_mD, sg_mE, sg_mF, Int32.reduceLT, Int32.reduceLE, forall_eq, true_and, and_true, true_implies, false_implies, not_true_eq_false, not_false_eq_true, implies_true]
            exact h
          · simp only [wpY_fits, wY_fits_91, sg_n0, sg_n1, sg_yF ha, sg_yT hb, sg_yT hc, sg_yT hd, sg_lits, sg_mA, sg_mB, sg_mC, sg_mD, sg_mE, sg_mF, Int32.reduceLT, Int32.reduceLE, forall_eq, true_and, and_true, true_implies, false_implies, not_true_eq_false, not_false_eq_true, implies_true]
            exact h
          · refine Or.inr ⟨rfl, ?_⟩
            obtain ⟨nc, lc, uc, ec⟩ := sg_rgN 0 1 (by omega) (by omega) hc
            obtain ⟨nb, lb, ub, eb⟩ := sg_rgN 0 3 (by omega) (by omega) hb
            exact Or.inr (Or.inr (Or.inr (Or.inr (Or.inr (Or.inr (Or.inr (Or.inr (Or.inr (Or.inr (Or.inl ⟨rfl, nc, nb, by omega, by omega, ec, eb⟩))))))))))
        · refine ⟨0, fun P h => ?_, fun P h => ?_, ?_⟩
          · simp only [wpX_isStep, wX_isStep_92, wX_isStep_216, wpX_isVariable, sg_n0, sg_n1, sg_xF ha, sg_xT hb, sg_xT hc, sg_xF hd, sg_lits, sg_mA, sg_mB, sg_mC, sg_mD, sg_mE, sg_mF, Int32.reduceLT, Int32.reduceLE, forall_eq, true_and, and_true, true_implies, false_implies, not_true_eq_false, not_false_eq_true, implies_true]
            exact h
          · simp only [wpY_fits, wY_fits_91, sg_n0, sg_n1, sg_yF ha, sg_yT hb, sg_yT hc, sg_yF hd, sg_lits, sg_mA, sg_mB, sg_mC, sg_mD, sg_mE, sg_mF, Int32.reduceLT, Int32.reduceLE, forall_eq, true_and, and_true, true_implies, false_implies, not_true_eq_false, not_false_eq_true, implies_true]
            exact h
          · exact Or.inl rfl
      · by_cases hd : sg_rg r 1 50
        · refine ⟨0, fun P h => ?_, fun P h => ?_, ?_⟩
          · simp only [wpX_isStep, wX_isStep_92, wX_isStep_216, wpX_isVariable, sg_n0, sg_n1, sg_xF ha, sg_xT hb, sg_xF hc, sg_xT hd, sg_lits, sg_mA, sg_mB, sg_mC, sg_mD, sg_mE, sg_mF, Int32.reduceLT, Int32.reduceLE, forall_eq, true_and, and_true, true_implies, false_implies, not_true_eq_false, not_false_eq_true, implies_true]
            exact h
          · simp only [wpY_fits, wY_fits_91, sg_n0, sg_n1, sg_yF ha, sg_yT hb, sg_yF hc, sg_yT hd, sg_lits, sg_mA, sg_mB, sg_mC, sg_mD, sg_mE, sg_mF, Int32.reduceLT, Int32.reduceLE, forall_eq, true_and, and_true, true_implies, false_implies, not_true_eq_false, not_false_eq_true, implies_true]
            exact h
          · exact Or.inl rfl
        · refine ⟨0, fun P h => ?_, fun P h => ?_, ?_⟩
          · simp only [wpX_isStep, wX_isStep_92, wX_isStep_216, wpX_isVariable, sg_n0, sg_n1, sg_xF ha, sg_xT hb, sg_xF hc, sg_xF hd, sg_lits, sg_mA, sg_mB, sg_mC, sg_mD, sg_mE, sg_mF, Int32.reduceLT, Int32.reduceLE, forall_eq, true_and, and_true, true_implies, false_implies, not_true_eq_false, not_false_eq_true, implies_true]
            exact h
          · simp only [wpY_fits, wY_fits_91, sg_n0, sg_n1, sg_yF ha, sg_yT hb, sg_yF hc, sg_yF hd, sg_lits, sg_mA, sg_mB, sg_mC, sg_mD, sg_mE, sg_mF, Int32.reduceLT, Int32.reduceLE, forall_eq, true_and, and_true, true_implies, false_implies, not_true_eq_false, not_false_eq_true, implies_true]
            exact h
          · exact Or.inl rfl
    · by_cases hc : sg_rg p 0 1
      · by_cases hd : sg_rg r 1 50
        · refine ⟨0, fun P h => ?_, fun P h => ?_, ?_⟩
          · simp only [wpX_isStep, wX_isStep_92, wX_isStep_216, wpX_isVariable, sg_n0, sg_n1, sg_xF ha, sg_xF hb, sg_xT hc, sg_xT hd, sg_lits, sg_mA, sg_mB, sg_mC, sg_mD, sg_mE, sg_mF, Int32.reduceLT, Int32.reduceLE, forall_eq, true_and, and_true, true_implies, false_implies, not_true_eq_false, not_false_eq_true, implies_true]
            exact h
          · simp only [wpY_fits, wY_fits_91, sg_n0, sg_n1, sg_yF ha, sg_yF hb, sg_yT hc, sg_yT hd, sg_lits, sg_mA, sg_mB, sg_mC, sg_mD, sg_mE, sg_mF, Int32.reduceLT, Int32.reduceLE, forall_eq, true_and, and_true, true_implies, false_implies, not_true_eq_false, not_false_eq_true, implies_true]
            exact h
          · exact Or.inl rfl
        · refine ⟨0, fun P h => ?_, fun P h => ?_, ?_⟩
          · simp only [wpX_isStep, wX_isStep_92, wX_isStep_216, wpX_isVariable, sg_n0, sg_n1, sg_xF ha, sg_xF hb, sg_xT hc, sg_xF hd, sg_lits, sg_mA, sg_mB, sg_mC, sg_mD, sg_mE, sg_mF, Int32.reduceLT, Int32.reduceLE, forall_eq, true_and, and_true, true_implies, false_implies, not_true_eq_false, not_false_eq_true, implies_true]
            exact h
          · simp only [wpY_fits, wY_fits_91, sg_n0, sg_n1, sg_yF ha, sg_yF hb, sg_yT hc, sg_yF hd, sg_lits, sg_mA, sg_mB, sg_mC, sg_mD, sg_mE, sg_mF, Int32.reduceLT, Int32.reduceLE, forall_eq, true_and, and_true, true_implies, false_implies, not_true_eq_false, not_false_eq_true, implies_true]
            exact h
          · exact Or.inl rfl
      · by_cases hd : sg_rg r 1 50
        · refine ⟨0, fun P h => ?_, fun P h => ?_, ?_⟩
          · simp only [wpX_isStep, wX_isStep_92, wX_isStep_216, wpX_isVariable, sg_n0, sg_n1, sg_xF ha, sg_xF hb, sg_xF hc, sg_xT hd, sg_lits, sg_mA, sg_mB, sg_mC, sg_mD, sg_mE, sg_mF, Int32.reduceLT, Int32.reduceLE, forall_eq, true_and, and_true, true_implies, false_implies, not_true_eq_false, not_false_eq_true, implies_true]
            exact h
          · simp only [wpY_fits, wY_fits_91, sg_n0, sg_n1, sg_yF ha, sg_yF hb, sg_yF hc, sg_yT hd, sg_lits, sg_mA, sg_mB, sg_mC, sg_mD, sg_mE, sg_mF, Int32.reduceLT, Int32.reduceLE, forall_eq, true_and, and_true, true_implies, false_implies, not_true_eq_false, not_false_eq_true, implies_true]
            exact h
          · exact Or.inl rfl
        · refine ⟨0, fun P h => ?_, fun P h => ?_, ?_⟩
          · simp only [wpX_isStep, wX_isStep_92, wX_isStep_216, wpX_isVariable, sg_n0, sg_n1, sg_xF ha, sg_xF hb, sg_xF hc, sg_xF hd, sg_lits, sg_mA, sg_mB, sg_mC, sg_mD, sg_mE, sg_mF, Int32.reduceLT, Int32.reduceLE, forall_eq, true_and, and_true, true_implies, false_implies, not_true_eq_false, not_false_eq_true, implies_true]
            exact h
          · simp only [wpY_fits, wY_fits_91, sg_n0, sg_n1, sg_yF ha, sg_yF hb, sg_yF hc, sg_yF hd, sg_lits, sg_mA, sg_mB, sg_mC, sg_mD, sg_mE, sg_mF, Int32.reduceLT, Int32.reduceLE, forall_eq, true_and, and_true, true_implies, false_implies, not_true_eq_false, not_false_eq_true, implies_true]
            exact h
          · exact Or.inl rfl
theorem sg_fit11 {p q r : Int32} {v : SY} : sg_Fit 11 p q r v := by
  obtain ⟨ysc, ynow, yjc, yec, yse, yss, yac, yji, yen, yho, ywh, ytj, yte, yst, ypl, ydn, yas, ywt, yun, yrs, yva, yha, ypa, ypi, yps, yso, ysv, yct⟩ := v
  by_cases ha : sg_rg p 0 3
  · by_cases hb : sg_rg q 0 3
    · refine ⟨1, fun P h => ?_, fun P h => ?_, ?_⟩
      · simp only [wpX_isStep, wX_isStep_92, wX_isStep_216, wpX_isVariable, sg_n0, sg_n1, sg_xT ha, sg_xT hb, sg_lits, sg_mA, sg_mB, sg_mC, sg_mD, sg_mE, sg_mF, Int32.reduceLT, Int32.reduceLE, forall_eq, true_and, and_true, true_implies, false_implies, not_true_eq_false, not_false_eq_true, implies_true]
        exact h
      · simp only [wpY_fits, wY_fits_91, sg_n0, sg_n1, sg_yT ha, sg_yT hb, sg_lits, sg_mA, sg_mB, sg_mC, sg_mD, sg_mE, sg_mF, Int32.reduceLT, Int32.reduceLE, forall_eq, true_and, and_true, true_implies, false_implies, not_true_eq_false, not_false_eq_true, implies_true]
        exact h
      · refine Or.inr ⟨rfl, ?_⟩
        obtain ⟨na, la, ua, ea⟩ := sg_rgN 0 3 (by omega) (by omega) ha
        exact Or.inr (Or.inr (Or.inr (Or.inr (Or.inr (Or.inr (Or.inr (Or.inr (Or.inr (Or.inr (Or.inr (Or.inl ⟨rfl, na, by omega, ea⟩)))))))))))
    · refine ⟨1, fun P h => ?_, fun P h => ?_, ?_⟩
      · simp only [wpX_isStep, wX_isStep_92, wX_isStep_216, wpX_isVariable, sg_n0, sg_n1, sg_xT ha, sg_xF hb, sg_lits, sg_mA, sg_mB, sg_mC, sg_mD, sg_mE, sg_mF, Int32.reduceLT, Int32.reduceLE, forall_eq, true_and, and_true, true_implies, false_implies, not_true_eq_false, not_false_eq_true, implies_true]
        exact h
      · simp only [wpY_fits, wY_fits_91, sg_n0, sg_n1, sg_yT ha, sg_yF hb, sg_lits, sg_mA, sg_mB, sg_mC, sg_mD, sg_mE, sg_mF, Int32.reduceLT, Int32.reduceLE, forall_eq, true_and, and_true, true_implies, false_implies, not_true_eq_false, not_false_eq_true, implies_true]
        exact h
      · refine Or.inr ⟨rfl, ?_⟩
        obtain ⟨na, la, ua, ea⟩ := sg_rgN 0 3 (by omega) (by omega) ha
        exact Or.inr (Or.inr (Or.inr (Or.inr (Or.inr (Or.inr (Or.inr (Or.inr (Or.inr (Or.inr (Or.inr (Or.inl ⟨rfl, na, by omega, ea⟩)))))))))))
  · by_cases hb : sg_rg q 0 3
    · refine ⟨0, fun P h => ?_, fun P h => ?_, ?_⟩
      · simp only [wpX_isStep, wX_isStep_92, wX_isStep_216, wpX_isVariable, sg_n0, sg_n1, sg_xF ha, sg_xT hb, sg_lits, sg_mA, sg_mB, sg_mC, sg_mD, sg_mE, sg_mF, Int32.reduceLT, Int32.reduceLE, forall_eq, true_and, and_true, true_implies, false_implies, not_true_eq_false, not_false_eq_true, implies_true]
        exact h
      · simp only [wpY_fits, wY_fits_91, sg_n0, sg_n1, sg_yF ha, sg_yT hb, sg_lits, sg_mA, sg_mB, sg_mC, sg_mD, sg_mE, sg_mF, Int32.reduceLT, Int32.reduceLE, forall_eq, true_and, and_true, true_implies, false_implies, not_true_eq_false, not_false_eq_true, implies_true]
        exact h
      · exact Or.inl rfl
    · refine ⟨0, fun P h => ?_, fun P h => ?_, ?_⟩
      · simp only [wpX_isStep, wX_isStep_92, wX_isStep_216, wpX_isVariable, sg_n0, sg_n1, sg_xF ha, sg_xF hb, sg_lits, sg_mA, sg_mB, sg_mC, sg_mD, sg_mE, sg_mF, Int32.reduceLT, Int32.reduceLE, forall_eq, true_and, and_true, true_implies, false_implies, not_true_eq_false, not_false_eq_true, implies_true]
        exact h
      · simp only [wpY_fits, wY_fits_91, sg_n0, sg_n1, sg_yF ha, sg_yF hb, sg_lits, sg_mA, sg_mB, sg_mC, sg_mD, sg_mE, sg_mF, Int32.reduceLT, Int32.reduceLE, forall_eq, true_and, and_true, true_implies, false_implies, not_true_eq_false, not_false_eq_true, implies_true]
        exact h
      · exact Or.inl rfl
theorem sg_fit12 {p q r : Int32} {v : SY} : sg_Fit 12 p q r v := by
  obtain ⟨ysc, ynow, yjc, yec, yse, yss, yac, yji, yen, yho, ywh, ytj, yte, yst, ypl, ydn, yas, ywt, yun, yrs, yva, yha, ypa, ypi, yps, yso, ysv, yct⟩ := v
  by_cases ha : sg_rg p 0 3
  · by_cases hb : sg_rg q 0 3
    · refine ⟨1, fun P h => ?_, fun P h => ?_, ?_⟩
      · simp only [wpX_isStep, wX_isStep_92, wX_isStep_216, wpX_isVariable, sg_n0, sg_n1, sg_xT ha, sg_xT hb, sg_lits, sg_mA, sg_mB, sg_mC, sg_mD, sg_mE, sg_mF, Int32.reduceLT, Int32.reduceLE, forall_eq, true_and, and_true, true_implies, false_implies, not_true_eq_false, not_false_eq_true, implies_true]
        exact h
      · simp only [wpY_fits, wY_fits_91, sg_n0, sg_n1, sg_yT ha, sg_yT hb, sg_lits, sg_mA, sg_mB, sg_mC, sg_mD, sg_mE, sg_mF, Int32.reduceLT, Int32.reduceLE, forall_eq, true_and, and_true, true_implies, false_implies, not_true_eq_false, not_false_eq_true, implies_true]
        exact h
      · refine Or.inr ⟨rfl, ?_⟩
        exact Or.inr (Or.inr (Or.inr (Or.inr (Or.inr (Or.inr (Or.inr (Or.inr (Or.inr (Or.inr (Or.inr (Or.inr rfl)))))))))))
    · refine ⟨1, fun P h => ?_, fun P h => ?_, ?_⟩
      · simp only [wpX_isStep, wX_isStep_92, wX_isStep_216, wpX_isVariable, sg_n0, sg_n1, sg_xT ha, sg_xF hb, sg_lits, sg_mA, sg_mB, sg_mC, sg_mD, sg_mE, sg_mF, Int32.reduceLT, Int32.reduceLE, forall_eq, true_and, and_true, true_implies, false_implies, not_true_eq_false, not_false_eq_true, implies_true]
        exact h
      · simp only [wpY_fits, wY_fits_91, sg_n0, sg_n1, sg_yT ha, sg_yF hb, sg_lits, sg_mA, sg_mB, sg_mC, sg_mD, sg_mE, sg_mF, Int32.reduceLT, Int32.reduceLE, forall_eq, true_and, and_true, true_implies, false_implies, not_true_eq_false, not_false_eq_true, implies_true]
        exact h
      · refine Or.inr ⟨rfl, ?_⟩
        exact Or.inr (Or.inr (Or.inr (Or.inr (Or.inr (Or.inr (Or.inr (Or.inr (Or.inr (Or.inr (Or.inr (Or.inr rfl)))))))))))
  · by_cases hb : sg_rg q 0 3
    · refine ⟨1, fun P h => ?_, fun P h => ?_, ?_⟩
      · simp only [wpX_isStep, wX_isStep_92, wX_isStep_216, wpX_isVariable, sg_n0, sg_n1, sg_xF ha, sg_xT hb, sg_lits, sg_mA, sg_mB, sg_mC, sg_mD, sg_mE, sg_mF, Int32.reduceLT, Int32.reduceLE, forall_eq, true_and, and_true, true_implies, false_implies, not_true_eq_false, not_false_eq_true, implies_true]
        exact h
      · simp only [wpY_fits, wY_fits_91, sg_n0, sg_n1, sg_yF ha, sg_yT hb, sg_lits, sg_mA, sg_mB, sg_mC, sg_mD, sg_mE, sg_mF, Int32.reduceLT, Int32.reduceLE, forall_eq, true_and, and_true, true_implies, false_implies, not_true_eq_false, not_false_eq_true, implies_true]
        exact h
      · refine Or.inr ⟨rfl, ?_⟩
        exact Or.inr (Or.inr (Or.inr (Or.inr (Or.inr (Or.inr (Or.inr (Or.inr (Or.inr (Or.inr (Or.inr (Or.inr rfl)))))))))))
    · refine ⟨1, fun P h => ?_, fun P h => ?_, ?_⟩
      · simp only [wpX_isStep, wX_isStep_92, wX_isStep_216, wpX_isVariable, sg_n0, sg_n1, sg_xF ha, sg_xF hb, sg_lits, sg_mA, sg_mB, sg_mC, sg_mD, sg_mE, sg_mF, Int32.reduceLT, Int32.reduceLE, forall_eq, true_and, and_true, true_implies, false_implies, not_true_eq_false, not_false_eq_true, implies_true]
        exact h
      · simp only [wpY_fits, wY_fits_91, sg_n0, sg_n1, sg_yF ha, sg_yF hb, sg_lits, sg_mA, sg_mB, sg_mC, sg_mD, sg_mE, sg_mF, Int32.reduceLT, Int32.reduceLE, forall_eq, true_and, and_true, true_implies, false_implies, not_true_eq_false, not_false_eq_true, implies_true]
        exact h
      · refine Or.inr ⟨rfl, ?_⟩
        exact Or.inr (Or.inr (Or.inr (Or.inr (Or.inr (Or.inr (Or.inr (Or.inr (Or.inr (Or.inr (Or.inr (Or.inr rfl)))))))))))
theorem sg_fitN {k p q r : Int32} {v : SY} (h0 : k < 0) : sg_Fit k p q r v := by
  obtain ⟨ysc, ynow, yjc, yec, yse, yss, yac, yji, yen, yho, ywh, ytj, yte, yst, ypl, ydn, yas, ywt, yun, yrs, yva, yha, ypa, ypi, yps, yso, ysv, yct⟩ := v
  have n3 : ¬ (3 : Int32) ≤ k := fun z => absurd (Int32.lt_of_le_of_lt z h0) (by decide)
  refine ⟨0, fun P h => ?_, fun P h => ?_, Or.inl rfl⟩
  · simp only [wpX_isStep, h0, forall_eq, true_and, and_true, true_implies, false_implies, not_true_eq_false, not_false_eq_true, implies_true]
    exact h
  · by_cases ha : sg_rg p 0 3
    · by_cases hb : sg_rg q 0 3
      · simp only [wpY_fits, sg_yT ha, sg_yT hb, h0, n3, sg_lits, sg_mA, sg_mB, sg_mC, sg_mD, sg_mE, sg_mF, Int32.reduceLT, Int32.reduceLE, forall_eq, true_and, and_true, true_implies, false_implies, not_true_eq_false, not_false_eq_true, implies_true]
        exact h
      · simp only [wpY_fits, sg_yT ha, sg_yF hb, h0, n3, sg_lits, sg_mA, sg_mB, sg_mC, sg_mD, sg_mE, sg_mF, Int32.reduceLT, Int32.reduceLE, forall_eq, true_and, and_true, true_implies, false_implies, not_true_eq_false, not_false_eq_true, implies_true]
        exact h
    · by_cases hb : sg_rg q 0 3
      · simp only [wpY_fits, sg_yF ha, sg_yT hb, h0, n3, sg_lits, sg_mA, sg_mB, sg_mC, sg_mD, sg_mE, sg_mF, Int32.reduceLT, Int32.reduceLE, forall_eq, true_and, and_true, true_implies, false_implies, not_true_eq_false, not_false_eq_true, implies_true]
        exact h
      · simp only [wpY_fits, sg_yF ha, sg_yF hb, h0, n3, sg_lits, sg_mA, sg_mB, sg_mC, sg_mD, sg_mE, sg_mF, Int32.reduceLT, Int32.reduceLE, forall_eq, true_and, and_true, true_implies, false_implies, not_true_eq_false, not_false_eq_true, implies_true]
        exact h
theorem sg_fitL {k p q r : Int32} {v : SY} (h0 : ¬ k < 0) (h1 : 12 < k) : sg_Fit k p q r v := by
  obtain ⟨ysc, ynow, yjc, yec, yse, yss, yac, yji, yen, yho, ywh, ytj, yte, yst, ypl, ydn, yas, ywt, yun, yrs, yva, yha, ypa, ypi, yps, yso, ysv, yct⟩ := v
  have m3 : (3 : Int32) ≤ k := Int32.le_of_lt (Int32.lt_of_le_of_lt (by decide) h1)
  have m5 : (5 : Int32) ≤ k := Int32.le_of_lt (Int32.lt_of_le_of_lt (by decide) h1)
  have m8 : (8 : Int32) ≤ k := Int32.le_of_lt (Int32.lt_of_le_of_lt (by decide) h1)
  have m11 : (11 : Int32) ≤ k := Int32.le_of_lt (Int32.lt_of_le_of_lt (by decide) h1)
  have m12 : ¬ k = 12 := fun z => absurd (z ▸ h1) (by decide)
  have m11' : ¬ k = 11 := fun z => absurd (z ▸ h1) (by decide)
  refine ⟨0, fun P h => ?_, fun P h => ?_, Or.inl rfl⟩
  · simp only [wpX_isStep, h0, h1, forall_eq, true_and, and_true, true_implies, false_implies, not_true_eq_false, not_false_eq_true, implies_true]
    exact h
  · by_cases ha : sg_rg p 0 3
    · by_cases hb : sg_rg q 0 3
      · simp only [wpY_fits, sg_yT ha, sg_yT hb, m3, m5, m8, m11, m12, m11', sg_lits, sg_mA, sg_mB, sg_mC, sg_mD, sg_mE, sg_mF, Int32.reduceLT, Int32.reduceLE, forall_eq, true_and, and_true, true_implies, false_implies, not_true_eq_false, not_false_eq_true, implies_true]
        exact h
      · simp only [wpY_fits, sg_yT ha, sg_yF hb, m3, m5, m8, m11, m12, m11', sg_lits, sg_mA, sg_mB, sg_mC, sg_mD, sg_mE, sg_mF, Int32.reduceLT, Int32.reduceLE, forall_eq, true_and, and_true, true_implies, false_implies, not_true_eq_false, not_false_eq_true, implies_true]
        exact h
    · by_cases hb : sg_rg q 0 3
      · simp only [wpY_fits, sg_yF ha, sg_yT hb, m3, m5, m8, m11, m12, m11', sg_lits, sg_mA, sg_mB, sg_mC, sg_mD, sg_mE, sg_mF, Int32.reduceLT, Int32.reduceLE, forall_eq, true_and, and_true, true_implies, false_implies, not_true_eq_false, not_false_eq_true, implies_true]
        exact h
      · simp only [wpY_fits, sg_yF ha, sg_yF hb, m3, m5, m8, m11, m12, m11', sg_lits, sg_mA, sg_mB, sg_mC, sg_mD, sg_mE, sg_mF, Int32.reduceLT, Int32.reduceLE, forall_eq, true_and, and_true, true_implies, false_implies, not_true_eq_false, not_false_eq_true, implies_true]
        exact h
theorem sg_fit (k p q r : Int32) (v : SY) : sg_Fit k p q r v := by
  rcases sg_rng k 12 (by decide) with h0 | ⟨h0, h2⟩ | ⟨j, hj, rfl⟩
  · exact sg_fitN h0
  · exact sg_fitL h0 h2
  · obtain rfl | rfl | rfl | rfl | rfl | rfl | rfl | rfl | rfl | rfl | rfl | rfl | rfl : j = 0 ∨ j = 1 ∨ j = 2 ∨ j = 3 ∨ j = 4 ∨ j = 5 ∨ j = 6 ∨ j = 7 ∨ j = 8 ∨ j = 9 ∨ j = 10 ∨ j = 11 ∨ j = 12 := by omega
    · exact sg_fit0
    · exact sg_fit1
    · exact sg_fit2
    · exact sg_fit3
    · exact sg_fit4
    · exact sg_fit5
    · exact sg_fit6
    · exact sg_fit7
    · exact sg_fit8
    · exact sg_fit9
    · exact sg_fit10
    · exact sg_fit11
    · exact sg_fit12
