theorem i_vc_time {k : Nat} {u : SX} {v : SY} (I : i_Rel k u v) (hk : k + 5 ≤ 2560) : wpX_time (fun r => wpY_time (fun r' => r' = r ∧ i_Rel (k + 5) u v) v) u := by
  have I5 := i_up I
  obtain ⟨t, ht, H, HL⟩ := I
  obtain ⟨xsc, xnow, xjc, xec, xse, xki, xpp, xqq, xrr, xst, xfs, xin, xtb, xaj, xat, xsd, xja, xev, xva, xha, xps, xpa, xpi, xct, xsn, xsv, xtk, xac, xji, xou, xen, xuw, xra, xea, xtj, xte⟩ := u
  obtain ⟨ysc, ynow, yjc, yec, yse, yss, yac, yji, yen, yho, ywh, ytj, yte, yst, ypl, ydn, yas, ywt, yun, yrs, yva, yha, ypa, ypi, yps, yso, ysv, yct⟩ := v
  obtain ⟨sc, jc, ⟨⟨⟨e1, e2, e3, e4⟩, e5, e6, e7, e8, e9, e10, e11, e12, e13, e14, e15, e16⟩, ⟨g1, g2, g3, g4⟩, hset, hprog, hjobs, hjas⟩, hf⟩ := H
  have hjc := sg_jas_le hjas
  subst e1 e2 e3 e4 e5 e6 e7 e8 e9 e10 e11 e12 e13 e14 e15 e16 g1 g2 g3 g4
  exact ⟨rfl, I5⟩
theorem i_vc_jobs {k : Nat} {u : SX} {v : SY} (I : i_Rel k u v) (hk : k + 5 ≤ 2560) : wpX_jobs (fun r => wpY_jobs (fun r' => r' = r ∧ i_Rel (k + 5) u v) v) u := by
  have I5 := i_up I
  obtain ⟨t, ht, H, HL⟩ := I
  obtain ⟨xsc, xnow, xjc, xec, xse, xki, xpp, xqq, xrr, xst, xfs, xin, xtb, xaj, xat, xsd, xja, xev, xva, xha, xps, xpa, xpi, xct, xsn, xsv, xtk, xac, xji, xou, xen, xuw, xra, xea, xtj, xte⟩ := u
  obtain ⟨ysc, ynow, yjc, yec, yse, yss, yac, yji, yen, yho, ywh, ytj, yte, yst, ypl, ydn, yas, ywt, yun, yrs, yva, yha, ypa, ypi, yps, yso, ysv, yct⟩ := v
  obtain ⟨sc, jc, ⟨⟨⟨e1, e2, e3, e4⟩, e5, e6, e7, e8, e9, e10, e11, e12, e13, e14, e15, e16⟩, ⟨g1, g2, g3, g4⟩, hset, hprog, hjobs, hjas⟩, hf⟩ := H
  have hjc := sg_jas_le hjas
  subst e1 e2 e3 e4 e5 e6 e7 e8 e9 e10 e11 e12 e13 e14 e15 e16 g1 g2 g3 g4
  exact ⟨rfl, I5⟩
theorem i_vc_attempts {k : Nat} {u : SX} {v : SY} (I : i_Rel k u v) (hk : k + 5 ≤ 2560) : wpX_attempts (fun r => wpY_attempts (fun r' => r' = r ∧ i_Rel (k + 5) u v) v) u := by
  have I5 := i_up I
  obtain ⟨t, ht, H, HL⟩ := I
  obtain ⟨xsc, xnow, xjc, xec, xse, xki, xpp, xqq, xrr, xst, xfs, xin, xtb, xaj, xat, xsd, xja, xev, xva, xha, xps, xpa, xpi, xct, xsn, xsv, xtk, xac, xji, xou, xen, xuw, xra, xea, xtj, xte⟩ := u
  obtain ⟨ysc, ynow, yjc, yec, yse, yss, yac, yji, yen, yho, ywh, ytj, yte, yst, ypl, ydn, yas, ywt, yun, yrs, yva, yha, ypa, ypi, yps, yso, ysv, yct⟩ := v
  obtain ⟨sc, jc, ⟨⟨⟨e1, e2, e3, e4⟩, e5, e6, e7, e8, e9, e10, e11, e12, e13, e14, e15, e16⟩, ⟨g1, g2, g3, g4⟩, hset, hprog, hjobs, hjas⟩, hf⟩ := H
  have hjc := sg_jas_le hjas
  subst e1 e2 e3 e4 e5 e6 e7 e8 e9 e10 e11 e12 e13 e14 e15 e16 g1 g2 g3 g4
  exact ⟨rfl, I5⟩
theorem i_vc_state {k : Nat} {u : SX} {v : SY} (I : i_Rel k u v) (hk : k + 5 ≤ 2560) (v1 : Int32) : wpX_state (fun r => wpY_state (fun r' => r' = r ∧ i_Rel (k + 5) u v) v v1) u v1 := by
  have I5 := i_up I
  obtain ⟨t, ht, H, HL⟩ := I
  obtain ⟨xsc, xnow, xjc, xec, xse, xki, xpp, xqq, xrr, xst, xfs, xin, xtb, xaj, xat, xsd, xja, xev, xva, xha, xps, xpa, xpi, xct, xsn, xsv, xtk, xac, xji, xou, xen, xuw, xra, xea, xtj, xte⟩ := u
  obtain ⟨ysc, ynow, yjc, yec, yse, yss, yac, yji, yen, yho, ywh, ytj, yte, yst, ypl, ydn, yas, ywt, yun, yrs, yva, yha, ypa, ypi, yps, yso, ysv, yct⟩ := v
  obtain ⟨sc, jc, ⟨⟨⟨e1, e2, e3, e4⟩, e5, e6, e7, e8, e9, e10, e11, e12, e13, e14, e15, e16⟩, ⟨g1, g2, g3, g4⟩, hset, hprog, hjobs, hjas⟩, hf⟩ := H
  have hjc := sg_jas_le hjas
  subst e1 e2 e3 e4 e5 e6 e7 e8 e9 e10 e11 e12 e13 e14 e15 e16 g1 g2 g3 g4
  rcases sg_rng v1 2 (by decide) with h0 | ⟨h0, h2⟩ | ⟨i, hi, rfl⟩
  · simp only [wpX_state, wpX_isWorkflow, wpX_isIn, wpY_state, wpY_isIn, h0, sg_n0, forall_eq, true_and, and_true, true_implies, false_implies, not_true_eq_false, not_false_eq_true, implies_true]
    exact I5
  · have h2 : (2 : Int32) < v1 := h2
    simp only [wpX_state, wpX_isWorkflow, wpX_isIn, wpY_state, wpY_isIn, h0, h2, sg_n0, forall_eq, true_and, and_true, true_implies, false_implies, not_true_eq_false, not_false_eq_true, implies_true]
    exact I5
  · have h2 := sg_2n hi
    simp (disch := omega) only [wpX_state, wpX_isWorkflow, wpX_isIn, wpY_state, wpY_isIn, sg_neg, h2, sg_n1, sg_m3, sg_m3', sg_m4, sg_m4', sg_m6, sg_m6', sg_m7, sg_m7', sg_m200, sg_m200', nI_add, sg_a1, sg_a2, sg_a3, sg_a4, sg_a5, sg_a6, Int32.add_zero, sg_inT, nI_clamp, sg_lits, sg_mA, sg_mB, sg_mC, sg_mD, sg_mE, sg_mF, Int32.reduceLT, Int32.reduceLE, forall_eq, true_and, and_true, true_implies, false_implies, not_true_eq_false, not_false_eq_true, implies_true]
    exact I5
theorem i_vc_pile {k : Nat} {u : SX} {v : SY} (I : i_Rel k u v) (hk : k + 5 ≤ 2560) (v1 : Int32) : wpX_pile (fun r => wpY_pile (fun r' => r' = r ∧ i_Rel (k + 5) u v) v v1) u v1 := by
  have I5 := i_up I
  obtain ⟨t, ht, H, HL⟩ := I
  obtain ⟨xsc, xnow, xjc, xec, xse, xki, xpp, xqq, xrr, xst, xfs, xin, xtb, xaj, xat, xsd, xja, xev, xva, xha, xps, xpa, xpi, xct, xsn, xsv, xtk, xac, xji, xou, xen, xuw, xra, xea, xtj, xte⟩ := u
  obtain ⟨ysc, ynow, yjc, yec, yse, yss, yac, yji, yen, yho, ywh, ytj, yte, yst, ypl, ydn, yas, ywt, yun, yrs, yva, yha, ypa, ypi, yps, yso, ysv, yct⟩ := v
  obtain ⟨sc, jc, ⟨⟨⟨e1, e2, e3, e4⟩, e5, e6, e7, e8, e9, e10, e11, e12, e13, e14, e15, e16⟩, ⟨g1, g2, g3, g4⟩, hset, hprog, hjobs, hjas⟩, hf⟩ := H
  have hjc := sg_jas_le hjas
  subst e1 e2 e3 e4 e5 e6 e7 e8 e9 e10 e11 e12 e13 e14 e15 e16 g1 g2 g3 g4
  rcases sg_rng v1 2 (by decide) with h0 | ⟨h0, h2⟩ | ⟨i, hi, rfl⟩
  · simp only [wpX_pile, wpX_isWorkflow, wpX_isIn, wpY_pile, wpY_isIn, h0, sg_n0, forall_eq, true_and, and_true, true_implies, false_implies, not_true_eq_false, not_false_eq_true, implies_true]
    exact I5
  · have h2 : (2 : Int32) < v1 := h2
    simp only [wpX_pile, wpX_isWorkflow, wpX_isIn, wpY_pile, wpY_isIn, h0, h2, sg_n0, forall_eq, true_and, and_true, true_implies, false_implies, not_true_eq_false, not_false_eq_true, implies_true]
    exact I5
  · have h2 := sg_2n hi
    simp (disch := omega) only [wpX_pile, wpX_isWorkflow, wpX_isIn, wpY_pile, wpY_isIn, sg_neg, h2, sg_n1, sg_m3, sg_m3', sg_m4, sg_m4', sg_m6, sg_m6', sg_m7, sg_m7', sg_m200, sg_m200', nI_add, sg_a1, sg_a2, sg_a3, sg_a4, sg_a5, sg_a6, Int32.add_zero, sg_inT, nI_clamp, sg_lits, sg_mA, sg_mB, sg_mC, sg_mD, sg_mE, sg_mF, Int32.reduceLT, Int32.reduceLE, forall_eq, true_and, and_true, true_implies, false_implies, not_true_eq_false, not_false_eq_true, implies_true]
    exact I5
theorem i_vc_result {k : Nat} {u : SX} {v : SY} (I : i_Rel k u v) (hk : k + 5 ≤ 2560) (v1 : Int32) : wpX_result (fun r => wpY_result (fun r' => r' = r ∧ i_Rel (k + 5) u v) v v1) u v1 := by
  have I5 := i_up I
  obtain ⟨t, ht, H, HL⟩ := I
  obtain ⟨xsc, xnow, xjc, xec, xse, xki, xpp, xqq, xrr, xst, xfs, xin, xtb, xaj, xat, xsd, xja, xev, xva, xha, xps, xpa, xpi, xct, xsn, xsv, xtk, xac, xji, xou, xen, xuw, xra, xea, xtj, xte⟩ := u
  obtain ⟨ysc, ynow, yjc, yec, yse, yss, yac, yji, yen, yho, ywh, ytj, yte, yst, ypl, ydn, yas, ywt, yun, yrs, yva, yha, ypa, ypi, yps, yso, ysv, yct⟩ := v
  obtain ⟨sc, jc, ⟨⟨⟨e1, e2, e3, e4⟩, e5, e6, e7, e8, e9, e10, e11, e12, e13, e14, e15, e16⟩, ⟨g1, g2, g3, g4⟩, hset, hprog, hjobs, hjas⟩, hf⟩ := H
  have hjc := sg_jas_le hjas
  subst e1 e2 e3 e4 e5 e6 e7 e8 e9 e10 e11 e12 e13 e14 e15 e16 g1 g2 g3 g4
  rcases sg_rng v1 2 (by decide) with h0 | ⟨h0, h2⟩ | ⟨i, hi, rfl⟩
  · simp only [wpX_result, wpX_isWorkflow, wpX_isIn, wpY_result, wpY_isIn, h0, sg_n0, forall_eq, true_and, and_true, true_implies, false_implies, not_true_eq_false, not_false_eq_true, implies_true]
    exact I5
  · have h2 : (2 : Int32) < v1 := h2
    simp only [wpX_result, wpX_isWorkflow, wpX_isIn, wpY_result, wpY_isIn, h0, h2, sg_n0, forall_eq, true_and, and_true, true_implies, false_implies, not_true_eq_false, not_false_eq_true, implies_true]
    exact I5
  · have h2 := sg_2n hi
    have hev : (xst i = 2 ∧ xev i = yrs i) ∨ (¬ xst i = 2 ∧ xev i = 0) := by
      rcases hf i (by omega) with h | ⟨d, hb, h⟩
      · exact Or.inr ⟨by rw [h.1]; decide, h.2.2.2.2.2.2.1⟩
      · rcases h with ⟨s, s1, s2, s3, s4⟩ | ⟨md, f, hmd, ha⟩
        · by_cases c : s = 2
          · subst c
            rw [if_pos rfl] at s4
            exact Or.inl ⟨s3, s4⟩
          · rw [if_neg c] at s4
            refine Or.inr ⟨?_, s4⟩
            rw [s3]
            intro z
            exact c ((nI_eq (b := 2) (by omega) (by omega)).mp z)
        · exact Or.inr ⟨by rw [ha.1]; decide, ha.2.1⟩
    rcases hev with ⟨c, e⟩ | ⟨c, e⟩
    · simp (disch := omega) only [wpX_result, wpX_isWorkflow, wpX_isIn, wpY_result, wpY_isIn, sg_neg, h2, sg_n1, c, e, sg_m3, sg_m3', sg_m4, sg_m4', sg_m6, sg_m6', sg_m7, sg_m7', sg_m200, sg_m200', nI_add, sg_a1, sg_a2, sg_a3, sg_a4, sg_a5, sg_a6, Int32.add_zero, sg_inT, nI_clamp, sg_lits, sg_mA, sg_mB, sg_mC, sg_mD, sg_mE, sg_mF, Int32.reduceLT, Int32.reduceLE, forall_eq, true_and, and_true, true_implies, false_implies, not_true_eq_false, not_false_eq_true, implies_true]
      exact I5
    · simp (disch := omega) only [wpX_result, wpX_isWorkflow, wpX_isIn, wpY_result, wpY_isIn, sg_neg, h2, sg_n1, c, e, sg_m3, sg_m3', sg_m4, sg_m4', sg_m6, sg_m6', sg_m7, sg_m7', sg_m200, sg_m200', nI_add, sg_a1, sg_a2, sg_a3, sg_a4, sg_a5, sg_a6, Int32.add_zero, sg_inT, nI_clamp, sg_lits, sg_mA, sg_mB, sg_mC, sg_mD, sg_mE, sg_mF, Int32.reduceLT, Int32.reduceLE, forall_eq, true_and, and_true, true_implies, false_implies, not_true_eq_false, not_false_eq_true, implies_true]
      exact I5
theorem i_vc_waitsAt {k : Nat} {u : SX} {v : SY} (I : i_Rel k u v) (hk : k + 5 ≤ 2560) (v1 : Int32) : wpX_waitsAt (fun r => wpY_waitsAt (fun r' => r' = r ∧ i_Rel (k + 5) u v) v v1) u v1 := by
  have I5 := i_up I
  obtain ⟨t, ht, H, HL⟩ := I
  obtain ⟨xsc, xnow, xjc, xec, xse, xki, xpp, xqq, xrr, xst, xfs, xin, xtb, xaj, xat, xsd, xja, xev, xva, xha, xps, xpa, xpi, xct, xsn, xsv, xtk, xac, xji, xou, xen, xuw, xra, xea, xtj, xte⟩ := u
  obtain ⟨ysc, ynow, yjc, yec, yse, yss, yac, yji, yen, yho, ywh, ytj, yte, yst, ypl, ydn, yas, ywt, yun, yrs, yva, yha, ypa, ypi, yps, yso, ysv, yct⟩ := v
  obtain ⟨sc, jc, ⟨⟨⟨e1, e2, e3, e4⟩, e5, e6, e7, e8, e9, e10, e11, e12, e13, e14, e15, e16⟩, ⟨g1, g2, g3, g4⟩, hset, hprog, hjobs, hjas⟩, hf⟩ := H
  have hjc := sg_jas_le hjas
  subst e1 e2 e3 e4 e5 e6 e7 e8 e9 e10 e11 e12 e13 e14 e15 e16 g1 g2 g3 g4
  rcases sg_rng v1 2 (by decide) with h0 | ⟨h0, h2⟩ | ⟨i, hi, rfl⟩
  · simp only [wpX_waitsAt, wpX_isWorkflow, wpX_isIn, wpY_waitsAt, wpY_isIn, h0, sg_n0, forall_eq, true_and, and_true, true_implies, false_implies, not_true_eq_false, not_false_eq_true, implies_true]
    exact I5
  · have h2 : (2 : Int32) < v1 := h2
    simp only [wpX_waitsAt, wpX_isWorkflow, wpX_isIn, wpY_waitsAt, wpY_isIn, h0, h2, sg_n0, forall_eq, true_and, and_true, true_implies, false_implies, not_true_eq_false, not_false_eq_true, implies_true]
    exact I5
  · have h2 := sg_2n hi
    have hev : (xst i = 1 ∧ ypl i = xfs i) ∨ ¬ xst i = 1 := by
      rcases hf i (by omega) with h | ⟨d, hb, h⟩
      · exact Or.inr (by rw [h.1]; decide)
      · rcases h with ⟨s, s1, s2, s3, s4⟩ | ⟨md, f, hmd, ha⟩
        · refine Or.inr ?_
          rw [s3]
          intro z
          have := (nI_eq (b := 1) (by omega) (by omega)).mp z
          omega
        · exact Or.inl ⟨ha.1, ha.2.2.2.2.1.trans ha.2.2.2.1.symm⟩
    rcases hev with ⟨c, e⟩ | c
    · simp (disch := omega) only [wpX_waitsAt, wpX_isWorkflow, wpX_isIn, wpY_waitsAt, wpY_isIn, sg_neg, h2, sg_n1, c, e, sg_m3, sg_m3', sg_m4, sg_m4', sg_m6, sg_m6', sg_m7, sg_m7', sg_m200, sg_m200', nI_add, sg_a1, sg_a2, sg_a3, sg_a4, sg_a5, sg_a6, Int32.add_zero, sg_inT, nI_clamp, sg_lits, sg_mA, sg_mB, sg_mC, sg_mD, sg_mE, sg_mF, Int32.reduceLT, Int32.reduceLE, forall_eq, true_and, and_true, true_implies, false_implies, not_true_eq_false, not_false_eq_true, implies_true]
      exact I5
    · simp (disch := omega) only [wpX_waitsAt, wpX_isWorkflow, wpX_isIn, wpY_waitsAt, wpY_isIn, sg_neg, h2, sg_n1, c, sg_m3, sg_m3', sg_m4, sg_m4', sg_m6, sg_m6', sg_m7, sg_m7', sg_m200, sg_m200', nI_add, sg_a1, sg_a2, sg_a3, sg_a4, sg_a5, sg_a6, Int32.add_zero, sg_inT, nI_clamp, sg_lits, sg_mA, sg_mB, sg_mC, sg_mD, sg_mE, sg_mF, Int32.reduceLT, Int32.reduceLE, forall_eq, true_and, and_true, true_implies, false_implies, not_true_eq_false, not_false_eq_true, implies_true]
      exact I5
theorem i_vc_variable {k : Nat} {u : SX} {v : SY} (I : i_Rel k u v) (hk : k + 5 ≤ 2560) (v1 : Int32) (v2 : Int32) : wpX_variable (fun r => wpY_variable (fun r' => r' = r ∧ i_Rel (k + 5) u v) v v1 v2) u v1 v2 := by
  have I5 := i_up I
  obtain ⟨t, ht, H, HL⟩ := I
  obtain ⟨xsc, xnow, xjc, xec, xse, xki, xpp, xqq, xrr, xst, xfs, xin, xtb, xaj, xat, xsd, xja, xev, xva, xha, xps, xpa, xpi, xct, xsn, xsv, xtk, xac, xji, xou, xen, xuw, xra, xea, xtj, xte⟩ := u
  obtain ⟨ysc, ynow, yjc, yec, yse, yss, yac, yji, yen, yho, ywh, ytj, yte, yst, ypl, ydn, yas, ywt, yun, yrs, yva, yha, ypa, ypi, yps, yso, ysv, yct⟩ := v
  obtain ⟨sc, jc, ⟨⟨⟨e1, e2, e3, e4⟩, e5, e6, e7, e8, e9, e10, e11, e12, e13, e14, e15, e16⟩, ⟨g1, g2, g3, g4⟩, hset, hprog, hjobs, hjas⟩, hf⟩ := H
  have hjc := sg_jas_le hjas
  subst e1 e2 e3 e4 e5 e6 e7 e8 e9 e10 e11 e12 e13 e14 e15 e16 g1 g2 g3 g4
  rcases sg_rng v1 2 (by decide) with h0 | ⟨h0, h2⟩ | ⟨i, hi, rfl⟩
  · simp only [wpX_variable, wpX_isWorkflow, wpX_isIn, wpY_variable, wpY_isIn, h0, sg_n0, forall_eq, true_and, and_true, true_implies, false_implies, not_true_eq_false, not_false_eq_true, implies_true]
    exact I5
  · have h2 : (2 : Int32) < v1 := h2
    simp only [wpX_variable, wpX_isWorkflow, wpX_isIn, wpY_variable, wpY_isIn, h0, h2, sg_n0, forall_eq, true_and, and_true, true_implies, false_implies, not_true_eq_false, not_false_eq_true, implies_true]
    exact I5
  · have h2 := sg_2n hi
    rcases sg_rng v2 3 (by decide) with g0 | ⟨g0, g3⟩ | ⟨j, hj, rfl⟩
    · simp (disch := omega) only [wpX_variable, wpX_isWorkflow, wpX_isVariable, wpX_isIn, wpY_variable, wpY_isIn, sg_neg, h2, g0, sg_n0, sg_n1, sg_m3, sg_m3', sg_m4, sg_m4', sg_m6, sg_m6', sg_m7, sg_m7', sg_m200, sg_m200', nI_add, sg_a1, sg_a2, sg_a3, sg_a4, sg_a5, sg_a6, Int32.add_zero, sg_inT, nI_clamp, sg_lits, sg_mA, sg_mB, sg_mC, sg_mD, sg_mE, sg_mF, Int32.reduceLT, Int32.reduceLE, forall_eq, true_and, and_true, true_implies, false_implies, not_true_eq_false, not_false_eq_true, implies_true]
      exact I5
    · have g3 : (3 : Int32) < v2 := g3
      simp (disch := omega) only [wpX_variable, wpX_isWorkflow, wpX_isVariable, wpX_isIn, wpY_variable, wpY_isIn, sg_neg, h2, g0, g3, sg_n0, sg_n1, sg_m3, sg_m3', sg_m4, sg_m4', sg_m6, sg_m6', sg_m7, sg_m7', sg_m200, sg_m200', nI_add, sg_a1, sg_a2, sg_a3, sg_a4, sg_a5, sg_a6, Int32.add_zero, sg_inT, nI_clamp, sg_lits, sg_mA, sg_mB, sg_mC, sg_mD, sg_mE, sg_mF, Int32.reduceLT, Int32.reduceLE, forall_eq, true_and, and_true, true_implies, false_implies, not_true_eq_false, not_false_eq_true, implies_true]
      exact I5
    · have g3 := sg_3n (a := j) (by omega)
      have hev : (xst i = 0 ∧ xva (4 * i + j) = 0) ∨ (¬ xst i = 0 ∧ yva (4 * i + j) = xva (4 * i + j)) := by
        rcases hf i (by omega) with h | ⟨d, hb, h⟩
        · exact Or.inl ⟨h.1, h.2.2.2.2.2.2.2.2.2.1 j (by omega)⟩
        · refine Or.inr ⟨?_, hb.2.2.1 j (by omega)⟩
          rcases h with ⟨s, s1, s2, s3, s4⟩ | ⟨md, f, hmd, ha⟩
          · rw [s3]
            intro z
            have := (nI_eq (b := 0) (by omega) (by omega)).mp z
            omega
          · rw [ha.1]; decide
      rcases hev with ⟨c, e⟩ | ⟨c, e⟩
      · simp (disch := omega) only [wpX_variable, wpX_isWorkflow, wpX_isVariable, wpX_isIn, wpY_variable, wpY_isIn, sg_neg, h2, g3, sg_n0, sg_n1, c, e, sg_m3, sg_m3', sg_m4, sg_m4', sg_m6, sg_m6', sg_m7, sg_m7', sg_m200, sg_m200', nI_add, sg_a1, sg_a2, sg_a3, sg_a4, sg_a5, sg_a6, Int32.add_zero, sg_inT, nI_clamp, sg_lits, sg_mA, sg_mB, sg_mC, sg_mD, sg_mE, sg_mF, Int32.reduceLT, Int32.reduceLE, forall_eq, true_and, and_true, true_implies, false_implies, not_true_eq_false, not_false_eq_true, implies_true]
        exact I5
      · simp (disch := omega) only [wpX_variable, wpX_isWorkflow, wpX_isVariable, wpX_isIn, wpY_variable, wpY_isIn, sg_neg, h2, g3, sg_n0, sg_n1, c, e, sg_m3, sg_m3', sg_m4, sg_m4', sg_m6, sg_m6', sg_m7, sg_m7', sg_m200, sg_m200', nI_add, sg_a1, sg_a2, sg_a3, sg_a4, sg_a5, sg_a6, Int32.add_zero, sg_inT, nI_clamp, sg_lits, sg_mA, sg_mB, sg_mC, sg_mD, sg_mE, sg_mF, Int32.reduceLT, Int32.reduceLE, forall_eq, true_and, and_true, true_implies, false_implies, not_true_eq_false, not_false_eq_true, implies_true]
        exact I5
theorem sg_pred_lt {c j : Nat} (hc : c < 2 ^ 31) (hj : j < 2 ^ 31) : nI c - 1 < nI j ↔ c ≤ j := by
  cases c with
  | zero =>
    refine ⟨fun _ => by omega, fun _ => ?_⟩
    have e : nI 0 - 1 = -1 := by decide
    rw [e]
    exact Int32.lt_of_lt_of_le (by decide : (-1 : Int32) < 0) (nI_pos' hj)
  | succ c =>
    rw [nI_pred, nI_ltI (by omega) hj]
    omega
theorem i_vc_job {k : Nat} {u : SX} {v : SY} (I : i_Rel k u v) (hk : k + 5 ≤ 2560) (v1 : Int32) (v2 : Int32) : wpX_job (fun r => wpY_job (fun r' => r' = r ∧ i_Rel (k + 5) u v) v v1 v2) u v1 v2 := by
  have I5 := i_up I
  obtain ⟨t, ht, H, HL⟩ := I
  obtain ⟨xsc, xnow, xjc, xec, xse, xki, xpp, xqq, xrr, xst, xfs, xin, xtb, xaj, xat, xsd, xja, xev, xva, xha, xps, xpa, xpi, xct, xsn, xsv, xtk, xac, xji, xou, xen, xuw, xra, xea, xtj, xte⟩ := u
  obtain ⟨ysc, ynow, yjc, yec, yse, yss, yac, yji, yen, yho, ywh, ytj, yte, yst, ypl, ydn, yas, ywt, yun, yrs, yva, yha, ypa, ypi, yps, yso, ysv, yct⟩ := v
  obtain ⟨sc, jc, ⟨⟨⟨e1, e2, e3, e4⟩, e5, e6, e7, e8, e9, e10, e11, e12, e13, e14, e15, e16⟩, ⟨g1, g2, g3, g4⟩, hset, hprog, hjobs, hjas⟩, hf⟩ := H
  have hjc := sg_jas_le hjas
  subst e1 e2 e3 e4 e5 e6 e7 e8 e9 e10 e11 e12 e13 e14 e15 e16 g1 g2 g3 g4
  rcases sg_rng v2 3 (by decide) with h0 | ⟨h0, h2⟩ | ⟨w, hw, rfl⟩
  · simp only [wpX_job, wpX_isIn, wpY_job, wpY_isIn, h0, forall_eq, true_and, and_true, true_implies, false_implies, not_true_eq_false, not_false_eq_true, implies_true]
    exact I5
  · have h2 : (3 : Int32) < v2 := h2
    simp only [wpX_job, wpX_isIn, wpY_job, wpY_isIn, h0, h2, forall_eq, true_and, and_true, true_implies, false_implies, not_true_eq_false, not_false_eq_true, implies_true]
    exact I5
  · have h3 := sg_3n (a := w) (by omega)
    by_cases g0 : v1 < 0
    · simp (disch := omega) only [wpX_job, wpX_isIn, wpY_job, wpY_isIn, sg_neg, h3, g0, sg_m3, sg_m3', sg_m4, sg_m4', sg_m6, sg_m6', sg_m7, sg_m7', sg_m200, sg_m200', nI_add, sg_a1, sg_a2, sg_a3, sg_a4, sg_a5, sg_a6, Int32.add_zero, sg_inT, nI_clamp, sg_lits, sg_mA, sg_mB, sg_mC, sg_mD, sg_mE, sg_mF, Int32.reduceLT, Int32.reduceLE, forall_eq, true_and, and_true, true_implies, false_implies, not_true_eq_false, not_false_eq_true, implies_true]
      exact I5
    · obtain ⟨j, hj, rfl⟩ := nI_of g0
      by_cases c : jc ≤ j
      · have c1 : nI jc - 1 < nI j := (sg_pred_lt (by omega) hj).mpr c
        simp (disch := omega) only [wpX_job, wpX_isIn, wpY_job, wpY_isIn, sg_neg, h3, c1, sg_ltF, sg_m3, sg_m3', sg_m4, sg_m4', sg_m6, sg_m6', sg_m7, sg_m7', sg_m200, sg_m200', nI_add, sg_a1, sg_a2, sg_a3, sg_a4, sg_a5, sg_a6, Int32.add_zero, sg_inT, nI_clamp, sg_lits, sg_mA, sg_mB, sg_mC, sg_mD, sg_mE, sg_mF, Int32.reduceLT, Int32.reduceLE, forall_eq, true_and, and_true, true_implies, false_implies, not_true_eq_false, not_false_eq_true, implies_true]
        exact I5
      · have c1 : ¬ nI jc - 1 < nI j := fun z => c ((sg_pred_lt (by omega) hj).mp z)
        obtain ⟨a, e, ha4, hac, he, hen, hlt, hhow⟩ := hjobs j (by omega)
        have ho : (yho j = 3 ∧ xou j = 1) ∨ (¬ yho j = 3 ∧ yho j = 4 ∧ xou j = 0) ∨ (¬ yho j = 3 ∧ ¬ yho j = 4 ∧ xou j = -1) := by
          rcases hhow with ⟨k1, k2, k3, k4⟩ | ⟨k1, k2, k3, k4, k5⟩ | ⟨k1, k2, k3, k4⟩ | ⟨k1, k2, k3⟩ | ⟨k1, k2, k3⟩
          · exact Or.inr (Or.inr ⟨by rw [k3]; decide, by rw [k3]; decide, k1⟩)
          · exact Or.inr (Or.inr ⟨by rw [k3]; decide, by rw [k3]; decide, k1⟩)
          · exact Or.inr (Or.inr ⟨by rw [k3]; decide, by rw [k3]; decide, k1⟩)
          · exact Or.inl ⟨k3, k1⟩
          · exact Or.inr (Or.inl ⟨by rw [k3]; decide, k3, k1⟩)
        have n0 : nI 0 = 0 := rfl
        have n1 : nI 1 = 1 := rfl
        have n2 : nI 2 = 2 := rfl
        have n3 : nI 3 = 3 := rfl
        obtain rfl | rfl | rfl | rfl : w = 0 ∨ w = 1 ∨ w = 2 ∨ w = 3 := by omega
        · rcases ho with ⟨q1, q2⟩ | ⟨q0, q1, q2⟩ | ⟨q0, q1, q2⟩
          · simp (disch := omega) only [wpX_job, wpX_isIn, wpY_job, wY_job_56, wpY_isIn, n0, sg_neg, c1, sg_ltT, q1, q2, sg_m3, sg_m3', sg_m4, sg_m4', sg_m6, sg_m6', sg_m7, sg_m7', sg_m200, sg_m200', nI_add, sg_a1, sg_a2, sg_a3, sg_a4, sg_a5, sg_a6, Int32.add_zero, sg_inT, nI_clamp, sg_lits, sg_mA, sg_mB, sg_mC, sg_mD, sg_mE, sg_mF, Int32.reduceLT, Int32.reduceLE, forall_eq, true_and, and_true, true_implies, false_implies, not_true_eq_false, not_false_eq_true, implies_true]
            exact I5
          · simp (disch := omega) only [wpX_job, wpX_isIn, wpY_job, wY_job_56, wpY_isIn, n0, sg_neg, c1, sg_ltT, q0, q1, q2, sg_m3, sg_m3', sg_m4, sg_m4', sg_m6, sg_m6', sg_m7, sg_m7', sg_m200, sg_m200', nI_add, sg_a1, sg_a2, sg_a3, sg_a4, sg_a5, sg_a6, Int32.add_zero, sg_inT, nI_clamp, sg_lits, sg_mA, sg_mB, sg_mC, sg_mD, sg_mE, sg_mF, Int32.reduceLT, Int32.reduceLE, forall_eq, true_and, and_true, true_implies, false_implies, not_true_eq_false, not_false_eq_true, implies_true]
            exact I5
          · simp (disch := omega) only [wpX_job, wpX_isIn, wpY_job, wY_job_56, wpY_isIn, n0, sg_neg, c1, sg_ltT, q0, q1, q2, sg_m3, sg_m3', sg_m4, sg_m4', sg_m6, sg_m6', sg_m7, sg_m7', sg_m200, sg_m200', nI_add, sg_a1, sg_a2, sg_a3, sg_a4, sg_a5, sg_a6, Int32.add_zero, sg_inT, nI_clamp, sg_lits, sg_mA, sg_mB, sg_mC, sg_mD, sg_mE, sg_mF, Int32.reduceLT, Int32.reduceLE, forall_eq, true_and, and_true, true_implies, false_implies, not_true_eq_false, not_false_eq_true, implies_true]
            exact I5
        · rcases ho with ⟨q1, q2⟩ | ⟨q0, q1, q2⟩ | ⟨q0, q1, q2⟩
          · simp (disch := omega) only [wpX_job, wpX_isIn, wpY_job, wY_job_56, wpY_isIn, n1, sg_neg, c1, sg_ltT, q1, q2, sg_m3, sg_m3', sg_m4, sg_m4', sg_m6, sg_m6', sg_m7, sg_m7', sg_m200, sg_m200', nI_add, sg_a1, sg_a2, sg_a3, sg_a4, sg_a5, sg_a6, Int32.add_zero, sg_inT, nI_clamp, sg_lits, sg_mA, sg_mB, sg_mC, sg_mD, sg_mE, sg_mF, Int32.reduceLT, Int32.reduceLE, forall_eq, true_and, and_true, true_implies, false_implies, not_true_eq_false, not_false_eq_true, implies_true]
            exact I5
          · simp (disch := omega) only [wpX_job, wpX_isIn, wpY_job, wY_job_56, wpY_isIn, n1, sg_neg, c1, sg_ltT, q0, q1, q2, sg_m3, sg_m3', sg_m4, sg_m4', sg_m6, sg_m6', sg_m7, sg_m7', sg_m200, sg_m200', nI_add, sg_a1, sg_a2, sg_a3, sg_a4, sg_a5, sg_a6, Int32.add_zero, sg_inT, nI_clamp, sg_lits, sg_mA, sg_mB, sg_mC, sg_mD, sg_mE, sg_mF, Int32.reduceLT, Int32.reduceLE, forall_eq, true_and, and_true, true_implies, false_implies, not_true_eq_false, not_false_eq_true, implies_true]
            exact I5
          · simp (disch := omega) only [wpX_job, wpX_isIn, wpY_job, wY_job_56, wpY_isIn, n1, sg_neg, c1, sg_ltT, q0, q1, q2, sg_m3, sg_m3', sg_m4, sg_m4', sg_m6, sg_m6', sg_m7, sg_m7', sg_m200, sg_m200', nI_add, sg_a1, sg_a2, sg_a3, sg_a4, sg_a5, sg_a6, Int32.add_zero, sg_inT, nI_clamp, sg_lits, sg_mA, sg_mB, sg_mC, sg_mD, sg_mE, sg_mF, Int32.reduceLT, Int32.reduceLE, forall_eq, true_and, and_true, true_implies, false_implies, not_true_eq_false, not_false_eq_true, implies_true]
            exact I5
        · rcases ho with ⟨q1, q2⟩ | ⟨q0, q1, q2⟩ | ⟨q0, q1, q2⟩
          · simp (disch := omega) only [wpX_job, wpX_isIn, wpY_job, wY_job_56, wpY_isIn, n2, sg_neg, c1, sg_ltT, q1, q2, sg_m3, sg_m3', sg_m4, sg_m4', sg_m6, sg_m6', sg_m7, sg_m7', sg_m200, sg_m200', nI_add, sg_a1, sg_a2, sg_a3, sg_a4, sg_a5, sg_a6, Int32.add_zero, sg_inT, nI_clamp, sg_lits, sg_mA, sg_mB, sg_mC, sg_mD, sg_mE, sg_mF, Int32.reduceLT, Int32.reduceLE, forall_eq, true_and, and_true, true_implies, false_implies, not_true_eq_false, not_false_eq_true, implies_true]
            exact I5
          · simp (disch := omega) only [wpX_job, wpX_isIn, wpY_job, wY_job_56, wpY_isIn, n2, sg_neg, c1, sg_ltT, q0, q1, q2, sg_m3, sg_m3', sg_m4, sg_m4', sg_m6, sg_m6', sg_m7, sg_m7', sg_m200, sg_m200', nI_add, sg_a1, sg_a2, sg_a3, sg_a4, sg_a5, sg_a6, Int32.add_zero, sg_inT, nI_clamp, sg_lits, sg_mA, sg_mB, sg_mC, sg_mD, sg_mE, sg_mF, Int32.reduceLT, Int32.reduceLE, forall_eq, true_and, and_true, true_implies, false_implies, not_true_eq_false, not_false_eq_true, implies_true]
            exact I5
          · simp (disch := omega) only [wpX_job, wpX_isIn, wpY_job, wY_job_56, wpY_isIn, n2, sg_neg, c1, sg_ltT, q0, q1, q2, sg_m3, sg_m3', sg_m4, sg_m4', sg_m6, sg_m6', sg_m7, sg_m7', sg_m200, sg_m200', nI_add, sg_a1, sg_a2, sg_a3, sg_a4, sg_a5, sg_a6, Int32.add_zero, sg_inT, nI_clamp, sg_lits, sg_mA, sg_mB, sg_mC, sg_mD, sg_mE, sg_mF, Int32.reduceLT, Int32.reduceLE, forall_eq, true_and, and_true, true_implies, false_implies, not_true_eq_false, not_false_eq_true, implies_true]
            exact I5
        · rcases ho with ⟨q1, q2⟩ | ⟨q0, q1, q2⟩ | ⟨q0, q1, q2⟩
          · simp (disch := omega) only [wpX_job, wpX_isIn, wpY_job, wY_job_56, wpY_isIn, n3, sg_neg, c1, sg_ltT, q1, q2, sg_m3, sg_m3', sg_m4, sg_m4', sg_m6, sg_m6', sg_m7, sg_m7', sg_m200, sg_m200', nI_add, sg_a1, sg_a2, sg_a3, sg_a4, sg_a5, sg_a6, Int32.add_zero, sg_inT, nI_clamp, sg_lits, sg_mA, sg_mB, sg_mC, sg_mD, sg_mE, sg_mF, Int32.reduceLT, Int32.reduceLE, forall_eq, true_and, and_true, true_implies, false_implies, not_true_eq_false, not_false_eq_true, implies_true]
            exact I5
          · simp (disch := omega) only [wpX_job, wpX_isIn, wpY_job, wY_job_56, wpY_isIn, n3, sg_neg, c1, sg_ltT, q0, q1, q2, sg_m3, sg_m3', sg_m4, sg_m4', sg_m6, sg_m6', sg_m7, sg_m7', sg_m200, sg_m200', nI_add, sg_a1, sg_a2, sg_a3, sg_a4, sg_a5, sg_a6, Int32.add_zero, sg_inT, nI_clamp, sg_lits, sg_mA, sg_mB, sg_mC, sg_mD, sg_mE, sg_mF, Int32.reduceLT, Int32.reduceLE, forall_eq, true_and, and_true, true_implies, false_implies, not_true_eq_false, not_false_eq_true, implies_true]
            exact I5
          · simp (disch := omega) only [wpX_job, wpX_isIn, wpY_job, wY_job_56, wpY_isIn, n3, sg_neg, c1, sg_ltT, q0, q1, q2, sg_m3, sg_m3', sg_m4, sg_m4', sg_m6, sg_m6', sg_m7, sg_m7', sg_m200, sg_m200', nI_add, sg_a1, sg_a2, sg_a3, sg_a4, sg_a5, sg_a6, Int32.add_zero, sg_inT, nI_clamp, sg_lits, sg_mA, sg_mB, sg_mC, sg_mD, sg_mE, sg_mF, Int32.reduceLT, Int32.reduceLE, forall_eq, true_and, and_true, true_implies, false_implies, not_true_eq_false, not_false_eq_true, implies_true]
            exact I5
theorem i_vc_attempt {k : Nat} {u : SX} {v : SY} (I : i_Rel k u v) (hk : k + 5 ≤ 2560) (v1 : Int32) (v2 : Int32) : wpX_attempt (fun r => wpY_attempt (fun r' => r' = r ∧ i_Rel (k + 5) u v) v v1 v2) u v1 v2 := by
  have I5 := i_up I
  obtain ⟨t, ht, H, HL⟩ := I
  obtain ⟨xsc, xnow, xjc, xec, xse, xki, xpp, xqq, xrr, xst, xfs, xin, xtb, xaj, xat, xsd, xja, xev, xva, xha, xps, xpa, xpi, xct, xsn, xsv, xtk, xac, xji, xou, xen, xuw, xra, xea, xtj, xte⟩ := u
  obtain ⟨ysc, ynow, yjc, yec, yse, yss, yac, yji, yen, yho, ywh, ytj, yte, yst, ypl, ydn, yas, ywt, yun, yrs, yva, yha, ypa, ypi, yps, yso, ysv, yct⟩ := v
  obtain ⟨sc, jc, ⟨⟨⟨e1, e2, e3, e4⟩, e5, e6, e7, e8, e9, e10, e11, e12, e13, e14, e15, e16⟩, ⟨g1, g2, g3, g4⟩, hset, hprog, hjobs, hjas⟩, hf⟩ := H
  have hjc := sg_jas_le hjas
  subst e1 e2 e3 e4 e5 e6 e7 e8 e9 e10 e11 e12 e13 e14 e15 e16 g1 g2 g3 g4
  have hec := sg_cnt_le xen jc (sg_jobs_en hjobs)
  rcases sg_rng v2 1 (by decide) with h0 | ⟨h0, h2⟩ | ⟨w, hw, rfl⟩
  · simp only [wpX_attempt, wpX_isIn, wpY_attempt, wpY_isIn, h0, forall_eq, true_and, and_true, true_implies, false_implies, not_true_eq_false, not_false_eq_true, implies_true]
    exact I5
  · have h2 : (1 : Int32) < v2 := h2
    simp only [wpX_attempt, wpX_isIn, wpY_attempt, wpY_isIn, h0, h2, forall_eq, true_and, and_true, true_implies, false_implies, not_true_eq_false, not_false_eq_true, implies_true]
    exact I5
  · have h1 := sg_1n hw
    by_cases g0 : v1 < 0
    · simp (disch := omega) only [wpX_attempt, wpX_isIn, wpY_attempt, wpY_isIn, sg_neg, h1, g0, sg_m3, sg_m3', sg_m4, sg_m4', sg_m6, sg_m6', sg_m7, sg_m7', sg_m200, sg_m200', nI_add, sg_a1, sg_a2, sg_a3, sg_a4, sg_a5, sg_a6, Int32.add_zero, sg_inT, nI_clamp, sg_lits, sg_mA, sg_mB, sg_mC, sg_mD, sg_mE, sg_mF, Int32.reduceLT, Int32.reduceLE, forall_eq, true_and, and_true, true_implies, false_implies, not_true_eq_false, not_false_eq_true, implies_true]
      exact I5
    · obtain ⟨j, hj, rfl⟩ := nI_of g0
      by_cases c : sg_cnt xen jc ≤ j
      · have c1 : nI (sg_cnt xen jc) - 1 < nI j := (sg_pred_lt (by omega) hj).mpr c
        simp (disch := omega) only [wpX_attempt, wpX_isIn, wpY_attempt, wpY_isIn, sg_neg, h1, c1, sg_ltF, sg_m3, sg_m3', sg_m4, sg_m4', sg_m6, sg_m6', sg_m7, sg_m7', sg_m200, sg_m200', nI_add, sg_a1, sg_a2, sg_a3, sg_a4, sg_a5, sg_a6, Int32.add_zero, sg_inT, nI_clamp, sg_lits, sg_mA, sg_mB, sg_mC, sg_mD, sg_mE, sg_mF, Int32.reduceLT, Int32.reduceLE, forall_eq, true_and, and_true, true_implies, false_implies, not_true_eq_false, not_false_eq_true, implies_true]
        exact I5
      · have c1 : ¬ nI (sg_cnt xen jc) - 1 < nI j := fun z => c ((sg_pred_lt (by omega) hj).mp z)
        by_cases cw : nI w = 0
        · simp (disch := omega) only [wpX_attempt, wpX_isIn, wpY_attempt, wpY_isIn, sg_neg, h1, c1, sg_ltT, cw, sg_m3, sg_m3', sg_m4, sg_m4', sg_m6, sg_m6', sg_m7, sg_m7', sg_m200, sg_m200', nI_add, sg_a1, sg_a2, sg_a3, sg_a4, sg_a5, sg_a6, Int32.add_zero, sg_inT, nI_clamp, sg_lits, sg_mA, sg_mB, sg_mC, sg_mD, sg_mE, sg_mF, Int32.reduceLT, Int32.reduceLE, forall_eq, true_and, and_true, true_implies, false_implies, not_true_eq_false, not_false_eq_true, implies_true]
          exact I5
        · simp (disch := omega) only [wpX_attempt, wpX_isIn, wpY_attempt, wpY_isIn, sg_neg, h1, c1, sg_ltT, cw, sg_m3, sg_m3', sg_m4, sg_m4', sg_m6, sg_m6', sg_m7, sg_m7', sg_m200, sg_m200', nI_add, sg_a1, sg_a2, sg_a3, sg_a4, sg_a5, sg_a6, Int32.add_zero, sg_inT, nI_clamp, sg_lits, sg_mA, sg_mB, sg_mC, sg_mD, sg_mE, sg_mF, Int32.reduceLT, Int32.reduceLE, forall_eq, true_and, and_true, true_implies, false_implies, not_true_eq_false, not_false_eq_true, implies_true]
          exact I5
