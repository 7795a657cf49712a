theorem sg_set_upd {a w : Nat} {x : Int32} {se : Nat → Int32} (H : sg_set se) (ha : a < 4) (hw : w < 7) (h1 : w = 1 → ∃ n, 1 ≤ n ∧ n ≤ 3 ∧ x = nI n) (h2 : w = 2 → ∃ n, 1 ≤ n ∧ n ≤ 4 ∧ x = nI n) (h3 : w = 3 → ∃ n, 0 ≤ n ∧ n ≤ 9 ∧ x = nI n) (h4 : w = 4 → ∃ n, 0 ≤ n ∧ n ≤ 4 ∧ x = nI n) : sg_set (upd se (7 * a + w) x) := by
  intro b hb
  obtain ⟨n1, n2, n3, n4, ⟨p1, p2, p3⟩, ⟨q1, q2, q3⟩, ⟨r2, r3⟩, ⟨s2, s3⟩⟩ := H b hb
  have g1 : ∃ n, 1 ≤ n ∧ n ≤ 3 ∧ upd se (7 * a + w) x (7 * b + 1) = nI n := by
    by_cases c : 7 * b + 1 = 7 * a + w
    · obtain ⟨n, z1, z2, z3⟩ := h1 (by omega)
      rw [c, pk_us]
      exact ⟨n, z1, z2, z3⟩
    · rw [pk_un c]
      exact ⟨n1, p1, p2, p3⟩
  have g2 : ∃ n, 1 ≤ n ∧ n ≤ 4 ∧ upd se (7 * a + w) x (7 * b + 2) = nI n := by
    by_cases c : 7 * b + 2 = 7 * a + w
    · obtain ⟨n, z1, z2, z3⟩ := h2 (by omega)
      rw [c, pk_us]
      exact ⟨n, z1, z2, z3⟩
    · rw [pk_un c]
      exact ⟨n2, q1, q2, q3⟩
  have g3 : ∃ n, n ≤ 9 ∧ upd se (7 * a + w) x (7 * b + 3) = nI n := by
    by_cases c : 7 * b + 3 = 7 * a + w
    · obtain ⟨n, z1, z2, z3⟩ := h3 (by omega)
      rw [c, pk_us]
      exact ⟨n, z2, z3⟩
    · rw [pk_un c]
      exact ⟨n3, r2, r3⟩
  have g4 : ∃ n, n ≤ 4 ∧ upd se (7 * a + w) x (7 * b + 4) = nI n := by
    by_cases c : 7 * b + 4 = 7 * a + w
    · obtain ⟨n, z1, z2, z3⟩ := h4 (by omega)
      rw [c, pk_us]
      exact ⟨n, z2, z3⟩
    · rw [pk_un c]
      exact ⟨n4, s2, s3⟩
  obtain ⟨m1, a1, a2, a3⟩ := g1
  obtain ⟨m2, b1, b2, b3⟩ := g2
  obtain ⟨m3, c2, c3⟩ := g3
  obtain ⟨m4, d2, d3⟩ := g4
  exact ⟨m1, m2, m3, m4, ⟨a1, a2, a3⟩, ⟨b1, b2, b3⟩, ⟨c2, c3⟩, ⟨d2, d3⟩⟩
def sg_Act (k : Nat) (a b c : Int32) (u : SX) (v : SY) : Prop := ∃ r u' v', (∀ P : Int32 → SX → Prop, P r u' → wpX_activity P u a b c) ∧ (∀ P : Int32 → SY → Prop, P r v' → wpY_activity P v a b c) ∧ i_Rel (k + 5) u' v'
theorem sg_act0 {k a : Nat} {u : SX} {v : SY} (I : i_Rel k u v) (ha : a < 4) (x : Int32) : sg_Act k (nI a) 0 x u v := by
  have I5 := i_up I
  obtain ⟨t, ht, H, HL⟩ := I
  have HB := sg_busy H
  have ga : sg_rg (nI a) 0 3 := ⟨nI_pos (by omega), sg_3n ha⟩
  have gw : sg_rg (0 : Int32) 0 6 := ⟨by decide, by decide⟩
  obtain ⟨xsc, xnow, xjc, xec, xse, xki, xpp, xqq, xrr, xst, xfs, xin, xtb, xaj, xat, xsd, xja, xev, xva, xha, xps, xpa, xpi, xct, xsn, xsv, xtk, xac, xji, xou, xen, xuw, xra, xea, xtj, xte⟩ := u
  obtain ⟨ysc, ynow, yjc, yec, yse, yss, yac, yji, yen, yho, ywh, ytj, yte, yst, ypl, ydn, yas, ywt, yun, yrs, yva, yha, ypa, ypi, yps, yso, ysv, yct⟩ := v
  obtain ⟨sc, jc, ⟨⟨⟨e1, e2, e3, e4⟩, e5, e6, e7, e8, e9, e10, e11, e12, e13, e14, e15, e16⟩, ⟨g1, g2, g3, g4⟩, hset, hprog, hjobs, hjas⟩, hf⟩ := H
  subst e1 e2 e3 e4 e5 e6 e7 e8 e9 e10 e11 e12 e13 e14 e15 e16 g1 g2 g3 g4
  by_cases hx : sg_rg x 1 9
  · rcases HB with ⟨b1, b2⟩ | ⟨b1, b2, ej, hid⟩
    · refine ⟨-3, _, _, fun P h => ?_, fun P h => ?_, I5⟩
      · simp only [wpX_activity, wpX_isSetting, sg_xT ga, sg_xT hx, sg_n1, sg_lits, sg_mA, sg_mB, sg_mC, sg_mD, sg_mE, sg_mF, Int32.reduceLT, Int32.reduceLE, forall_eq, true_and, and_true, true_implies, false_implies, not_true_eq_false, not_false_eq_true, implies_true]
        refine b1 _ ?_
        simp only [sg_lits, sg_mA, sg_mB, sg_mC, sg_mD, sg_mE, sg_mF, Int32.reduceLT, Int32.reduceLE, forall_eq, true_and, and_true, true_implies, false_implies, not_true_eq_false, not_false_eq_true, implies_true]
        exact h
      · simp only [wpY_activity, wY_activity_53, wY_activity_74, wY_activity_91, sg_yT ga, sg_yT gw, sg_yT hx, sg_lits, sg_mA, sg_mB, sg_mC, sg_mD, sg_mE, sg_mF, Int32.reduceLT, Int32.reduceLE, forall_eq, true_and, and_true, true_implies, false_implies, not_true_eq_false, not_false_eq_true, implies_true]
        refine b2 _ ?_
        simp only [sg_lits, sg_mA, sg_mB, sg_mC, sg_mD, sg_mE, sg_mF, Int32.reduceLT, Int32.reduceLE, forall_eq, true_and, and_true, true_implies, false_implies, not_true_eq_false, not_false_eq_true, implies_true]
        exact h
    · have hset1 : sg_set (upd xse (7 * a + 0) x) := sg_set_upd hset ha (by omega) (fun z => absurd z (by decide)) (fun z => absurd z (by decide)) (fun z => absurd z (by decide)) (fun z => absurd z (by decide))
      have ej0 : jc = 0 := (nI_eq (b := 0) (by have := sg_jas_le hjas; omega) (by omega)).mp ej
      subst ej0
      refine ⟨xse (7 * a + 0), (nI sc, nI t, nI 0, nI (sg_cnt xen 0), upd xse (7 * a + 0) x, xki, xpp, xqq, xrr, xst, xfs, xin, xtb, xaj, xat, xsd, xja, xev, xva, xha, xps, xpa, xpi, xct, xsn, xsv, xtk, xac, xji, xou, xen, xuw, xra, xea, xtj, xte), (nI sc, nI t, nI 0, nI (sg_cnt xen 0), upd xse (7 * a + 0) x, yss, xac, xji, xen, yho, ywh, xtj, xte, xst, ypl, ydn, yas, ywt, yun, yrs, yva, yha, xpa, xpi, xps, yso, xsv, xct), fun P h => ?_, fun P h => ?_, ⟨t, by omega, ⟨sc, 0, ⟨⟨⟨rfl, rfl, rfl, rfl⟩, rfl, rfl, rfl, rfl, rfl, rfl, rfl, rfl, rfl, rfl, rfl, rfl⟩, ⟨rfl, rfl, rfl, rfl⟩, hset1, hprog, fun j hj => absurd hj (by omega), hjas⟩, fun m hm => Or.inl (hid m hm)⟩, HL⟩⟩
      · simp only [wpX_activity, wpX_isSetting, sg_xT ga, sg_xT hx, sg_n1, sg_lits, sg_mA, sg_mB, sg_mC, sg_mD, sg_mE, sg_mF, Int32.reduceLT, Int32.reduceLE, forall_eq, true_and, and_true, true_implies, false_implies, not_true_eq_false, not_false_eq_true, implies_true]
        refine b1 _ ?_
        simp (disch := omega) only [sg_m3, sg_m3', sg_m4, sg_m4', sg_m6, sg_m6', sg_m7, sg_m7', sg_m200, sg_m200', nI_add, sg_a1, sg_a2, sg_a3, sg_a4, sg_a5, sg_a6, Int32.add_zero, sg_inT, nI_clamp, sg_lits, sg_mA, sg_mB, sg_mC, sg_mD, sg_mE, sg_mF, Int32.reduceLT, Int32.reduceLE, forall_eq, true_and, and_true, true_implies, false_implies, not_true_eq_false, not_false_eq_true, implies_true]
        exact h
      · simp only [wpY_activity, wY_activity_53, wY_activity_74, wY_activity_91, sg_yT ga, sg_yT gw, sg_yT hx, sg_lits, sg_mA, sg_mB, sg_mC, sg_mD, sg_mE, sg_mF, Int32.reduceLT, Int32.reduceLE, forall_eq, true_and, and_true, true_implies, false_implies, not_true_eq_false, not_false_eq_true, implies_true]
        refine b2 _ ?_
        simp (disch := omega) only [sg_m3, sg_m3', sg_m4, sg_m4', sg_m6, sg_m6', sg_m7, sg_m7', sg_m200, sg_m200', nI_add, sg_a1, sg_a2, sg_a3, sg_a4, sg_a5, sg_a6, Int32.add_zero, sg_inT, nI_clamp, sg_lits, sg_mA, sg_mB, sg_mC, sg_mD, sg_mE, sg_mF, Int32.reduceLT, Int32.reduceLE, forall_eq, true_and, and_true, true_implies, false_implies, not_true_eq_false, not_false_eq_true, implies_true]
        exact h
  · refine ⟨-1, _, _, fun P h => ?_, fun P h => ?_, I5⟩
    · simp only [wpX_activity, wpX_isSetting, sg_xT ga, sg_xF hx, sg_n0, sg_lits, sg_mA, sg_mB, sg_mC, sg_mD, sg_mE, sg_mF, Int32.reduceLT, Int32.reduceLE, forall_eq, true_and, and_true, true_implies, false_implies, not_true_eq_false, not_false_eq_true, implies_true]
      exact h
    · simp only [wpY_activity, wY_activity_53, wY_activity_74, wY_activity_91, sg_yT ga, sg_yT gw, sg_yF hx, sg_lits, sg_mA, sg_mB, sg_mC, sg_mD, sg_mE, sg_mF, Int32.reduceLT, Int32.reduceLE, forall_eq, true_and, and_true, true_implies, false_implies, not_true_eq_false, not_false_eq_true, implies_true]
      exact h
theorem sg_act1 {k a : Nat} {u : SX} {v : SY} (I : i_Rel k u v) (ha : a < 4) (x : Int32) : sg_Act k (nI a) 1 x u v := by
  have I5 := i_up I
  obtain ⟨t, ht, H, HL⟩ := I
  have HB := sg_busy H
  have ga : sg_rg (nI a) 0 3 := ⟨nI_pos (by omega), sg_3n ha⟩
  have gw : sg_rg (1 : Int32) 0 6 := ⟨by decide, by decide⟩
  obtain ⟨xsc, xnow, xjc, xec, xse, xki, xpp, xqq, xrr, xst, xfs, xin, xtb, xaj, xat, xsd, xja, xev, xva, xha, xps, xpa, xpi, xct, xsn, xsv, xtk, xac, xji, xou, xen, xuw, xra, xea, xtj, xte⟩ := u
  obtain ⟨ysc, ynow, yjc, yec, yse, yss, yac, yji, yen, yho, ywh, ytj, yte, yst, ypl, ydn, yas, ywt, yun, yrs, yva, yha, ypa, ypi, yps, yso, ysv, yct⟩ := v
  obtain ⟨sc, jc, ⟨⟨⟨e1, e2, e3, e4⟩, e5, e6, e7, e8, e9, e10, e11, e12, e13, e14, e15, e16⟩, ⟨g1, g2, g3, g4⟩, hset, hprog, hjobs, hjas⟩, hf⟩ := H
  subst e1 e2 e3 e4 e5 e6 e7 e8 e9 e10 e11 e12 e13 e14 e15 e16 g1 g2 g3 g4
  by_cases hx : sg_rg x 1 3
  · rcases HB with ⟨b1, b2⟩ | ⟨b1, b2, ej, hid⟩
    · refine ⟨-3, _, _, fun P h => ?_, fun P h => ?_, I5⟩
      · simp only [wpX_activity, wpX_isSetting, sg_xT ga, sg_xT hx, sg_n1, sg_lits, sg_mA, sg_mB, sg_mC, sg_mD, sg_mE, sg_mF, Int32.reduceLT, Int32.reduceLE, forall_eq, true_and, and_true, true_implies, false_implies, not_true_eq_false, not_false_eq_true, implies_true]
        refine b1 _ ?_
        simp only [sg_lits, sg_mA, sg_mB, sg_mC, sg_mD, sg_mE, sg_mF, Int32.reduceLT, Int32.reduceLE, forall_eq, true_and, and_true, true_implies, false_implies, not_true_eq_false, not_false_eq_true, implies_true]
        exact h
      · simp only [wpY_activity, wY_activity_53, wY_activity_74, wY_activity_91, sg_yT ga, sg_yT gw, sg_yT hx, sg_lits, sg_mA, sg_mB, sg_mC, sg_mD, sg_mE, sg_mF, Int32.reduceLT, Int32.reduceLE, forall_eq, true_and, and_true, true_implies, false_implies, not_true_eq_false, not_false_eq_true, implies_true]
        refine b2 _ ?_
        simp only [sg_lits, sg_mA, sg_mB, sg_mC, sg_mD, sg_mE, sg_mF, Int32.reduceLT, Int32.reduceLE, forall_eq, true_and, and_true, true_implies, false_implies, not_true_eq_false, not_false_eq_true, implies_true]
        exact h
    · have hset1 : sg_set (upd xse (7 * a + 1) x) := sg_set_upd hset ha (by omega) (fun _ => sg_rgN 1 3 (by omega) (by omega) hx) (fun z => absurd z (by decide)) (fun z => absurd z (by decide)) (fun z => absurd z (by decide))
      have ej0 : jc = 0 := (nI_eq (b := 0) (by have := sg_jas_le hjas; omega) (by omega)).mp ej
      subst ej0
      refine ⟨xse (7 * a + 1), (nI sc, nI t, nI 0, nI (sg_cnt xen 0), upd xse (7 * a + 1) x, xki, xpp, xqq, xrr, xst, xfs, xin, xtb, xaj, xat, xsd, xja, xev, xva, xha, xps, xpa, xpi, xct, xsn, xsv, xtk, xac, xji, xou, xen, xuw, xra, xea, xtj, xte), (nI sc, nI t, nI 0, nI (sg_cnt xen 0), upd xse (7 * a + 1) x, yss, xac, xji, xen, yho, ywh, xtj, xte, xst, ypl, ydn, yas, ywt, yun, yrs, yva, yha, xpa, xpi, xps, yso, xsv, xct), fun P h => ?_, fun P h => ?_, ⟨t, by omega, ⟨sc, 0, ⟨⟨⟨rfl, rfl, rfl, rfl⟩, rfl, rfl, rfl, rfl, rfl, rfl, rfl, rfl, rfl, rfl, rfl, rfl⟩, ⟨rfl, rfl, rfl, rfl⟩, hset1, hprog, fun j hj => absurd hj (by omega), hjas⟩, fun m hm => Or.inl (hid m hm)⟩, HL⟩⟩
      · simp only [wpX_activity, wpX_isSetting, sg_xT ga, sg_xT hx, sg_n1, sg_lits, sg_mA, sg_mB, sg_mC, sg_mD, sg_mE, sg_mF, Int32.reduceLT, Int32.reduceLE, forall_eq, true_and, and_true, true_implies, false_implies, not_true_eq_false, not_false_eq_true, implies_true]
        refine b1 _ ?_
        simp (disch := omega) only [sg_m3, sg_m3', sg_m4, sg_m4', sg_m6, sg_m6', sg_m7, sg_m7', sg_m200, sg_m200', nI_add, sg_a1, sg_a2, sg_a3, sg_a4, sg_a5, sg_a6, Int32.add_zero, sg_inT, nI_clamp, sg_lits, sg_mA, sg_mB, sg_mC, sg_mD, sg_mE, sg_mF, Int32.reduceLT, Int32.reduceLE, forall_eq, true_and, and_true, true_implies, false_implies, not_true_eq_false, not_false_eq_true, implies_true]
        exact h
      · simp only [wpY_activity, wY_activity_53, wY_activity_74, wY_activity_91, sg_yT ga, sg_yT gw, sg_yT hx, sg_lits, sg_mA, sg_mB, sg_mC, sg_mD, sg_mE, sg_mF, Int32.reduceLT, Int32.reduceLE, forall_eq, true_and, and_true, true_implies, false_implies, not_true_eq_false, not_false_eq_true, implies_true]
        refine b2 _ ?_
        simp (disch := omega) only [sg_m3, sg_m3', sg_m4, sg_m4', sg_m6, sg_m6', sg_m7, sg_m7', sg_m200, sg_m200', nI_add, sg_a1, sg_a2, sg_a3, sg_a4, sg_a5, sg_a6, Int32.add_zero, sg_inT, nI_clamp, sg_lits, sg_mA, sg_mB, sg_mC, sg_mD, sg_mE, sg_mF, Int32.reduceLT, Int32.reduceLE, forall_eq, true_and, and_true, true_implies, false_implies, not_true_eq_false, not_false_eq_true, implies_true]
        exact h
  · refine ⟨-1, _, _, fun P h => ?_, fun P h => ?_, I5⟩
    · simp only [wpX_activity, wpX_isSetting, sg_xT ga, sg_xF hx, sg_n0, sg_lits, sg_mA, sg_mB, sg_mC, sg_mD, sg_mE, sg_mF, Int32.reduceLT, Int32.reduceLE, forall_eq, true_and, and_true, true_implies, false_implies, not_true_eq_false, not_false_eq_true, implies_true]
      exact h
    · simp only [wpY_activity, wY_activity_53, wY_activity_74, wY_activity_91, sg_yT ga, sg_yT gw, sg_yF hx, sg_lits, sg_mA, sg_mB, sg_mC, sg_mD, sg_mE, sg_mF, Int32.reduceLT, Int32.reduceLE, forall_eq, true_and, and_true, true_implies, false_implies, not_true_eq_false, not_false_eq_true, implies_true]
      exact h
theorem sg_act2 {k a : Nat} {u : SX} {v : SY} (I : i_Rel k u v) (ha : a < 4) (x : Int32) : sg_Act k (nI a) 2 x u v := by
  have I5 := i_up I
  obtain ⟨t, ht, H, HL⟩ := I
  have HB := sg_busy H
  have ga : sg_rg (nI a) 0 3 := ⟨nI_pos (by omega), sg_3n ha⟩
  have gw : sg_rg (2 : Int32) 0 6 := ⟨by decide, by decide⟩
  obtain ⟨xsc, xnow, xjc, xec, xse, xki, xpp, xqq, xrr, xst, xfs, xin, xtb, xaj, xat, xsd, xja, xev, xva, xha, xps, xpa, xpi, xct, xsn, xsv, xtk, xac, xji, xou, xen, xuw, xra, xea, xtj, xte⟩ := u
  obtain ⟨ysc, ynow, yjc, yec, yse, yss, yac, yji, yen, yho, ywh, ytj, yte, yst, ypl, ydn, yas, ywt, yun, yrs, yva, yha, ypa, ypi, yps, yso, ysv, yct⟩ := v
  obtain ⟨sc, jc, ⟨⟨⟨e1, e2, e3, e4⟩, e5, e6, e7, e8, e9, e10, e11, e12, e13, e14, e15, e16⟩, ⟨g1, g2, g3, g4⟩, hset, hprog, hjobs, hjas⟩, hf⟩ := H
  subst e1 e2 e3 e4 e5 e6 e7 e8 e9 e10 e11 e12 e13 e14 e15 e16 g1 g2 g3 g4
  by_cases hx : sg_rg x 1 4
  · rcases HB with ⟨b1, b2⟩ | ⟨b1, b2, ej, hid⟩
    · refine ⟨-3, _, _, fun P h => ?_, fun P h => ?_, I5⟩
      · simp only [wpX_activity, wpX_isSetting, sg_xT ga, sg_xT hx, sg_n1, sg_lits, sg_mA, sg_mB, sg_mC, sg_mD, sg_mE, sg_mF, Int32.reduceLT, Int32.reduceLE, forall_eq, true_and, and_true, true_implies, false_implies, not_true_eq_false, not_false_eq_true, implies_true]
        refine b1 _ ?_
        simp only [sg_lits, sg_mA, sg_mB, sg_mC, sg_mD, sg_mE, sg_mF, Int32.reduceLT, Int32.reduceLE, forall_eq, true_and, and_true, true_implies, false_implies, not_true_eq_false, not_false_eq_true, implies_true]
        exact h
      · simp only [wpY_activity, wY_activity_53, wY_activity_74, wY_activity_91, sg_yT ga, sg_yT gw, sg_yT hx, sg_lits, sg_mA, sg_mB, sg_mC, sg_mD, sg_mE, sg_mF, Int32.reduceLT, Int32.reduceLE, forall_eq, true_and, and_true, true_implies, false_implies, not_true_eq_false, not_false_eq_true, implies_true]
        refine b2 _ ?_
        simp only [sg_lits, sg_mA, sg_mB, sg_mC, sg_mD, sg_mE, sg_mF, Int32.reduceLT, Int32.reduceLE, forall_eq, true_and, and_true, true_implies, false_implies, not_true_eq_false, not_false_eq_true, implies_true]
        exact h
    · have hset1 : sg_set (upd xse (7 * a + 2) x) := sg_set_upd hset ha (by omega) (fun z => absurd z (by decide)) (fun _ => sg_rgN 1 4 (by omega) (by omega) hx) (fun z => absurd z (by decide)) (fun z => absurd z (by decide))
      have ej0 : jc = 0 := (nI_eq (b := 0) (by have := sg_jas_le hjas; omega) (by omega)).mp ej
      subst ej0
      refine ⟨xse (7 * a + 2), (nI sc, nI t, nI 0, nI (sg_cnt xen 0), upd xse (7 * a + 2) x, xki, xpp, xqq, xrr, xst, xfs, xin, xtb, xaj, xat, xsd, xja, xev, xva, xha, xps, xpa, xpi, xct, xsn, xsv, xtk, xac, xji, xou, xen, xuw, xra, xea, xtj, xte), (nI sc, nI t, nI 0, nI (sg_cnt xen 0), upd xse (7 * a + 2) x, yss, xac, xji, xen, yho, ywh, xtj, xte, xst, ypl, ydn, yas, ywt, yun, yrs, yva, yha, xpa, xpi, xps, yso, xsv, xct), fun P h => ?_, fun P h => ?_, ⟨t, by omega, ⟨sc, 0, ⟨⟨⟨rfl, rfl, rfl, rfl⟩, rfl, rfl, rfl, rfl, rfl, rfl, rfl, rfl, rfl, rfl, rfl, rfl⟩, ⟨rfl, rfl, rfl, rfl⟩, hset1, hprog, fun j hj => absurd hj (by omega), hjas⟩, fun m hm => Or.inl (hid m hm)⟩, HL⟩⟩
      · simp only [wpX_activity, wpX_isSetting, sg_xT ga, sg_xT hx, sg_n1, sg_lits, sg_mA, sg_mB, sg_mC, sg_mD, sg_mE, sg_mF, Int32.reduceLT, Int32.reduceLE, forall_eq, true_and, and_true, true_implies, false_implies, not_true_eq_false, not_false_eq_true, implies_true]
        refine b1 _ ?_
        simp (disch := omega) only [sg_m3, sg_m3', sg_m4, sg_m4', sg_m6, sg_m6', sg_m7, sg_m7', sg_m200, sg_m200', nI_add, sg_a1, sg_a2, sg_a3, sg_a4, sg_a5, sg_a6, Int32.add_zero, sg_inT, nI_clamp, sg_lits, sg_mA, sg_mB, sg_mC, sg_mD, sg_mE, sg_mF, Int32.reduceLT, Int32.reduceLE, forall_eq, true_and, and_true, true_implies, false_implies, not_true_eq_false, not_false_eq_true, implies_true]
        exact h
      · simp only [wpY_activity, wY_activity_53, wY_activity_74, wY_activity_91, sg_yT ga, sg_yT gw, sg_yT hx, sg_lits, sg_mA, sg_mB, sg_mC, sg_mD, sg_mE, sg_mF, Int32.reduceLT, Int32.reduceLE, forall_eq, true_and, and_true, true_implies, false_implies, not_true_eq_false, not_false_eq_true, implies_true]
        refine b2 _ ?_
        simp (disch := omega) only [sg_m3, sg_m3', sg_m4, sg_m4', sg_m6, sg_m6', sg_m7, sg_m7', sg_m200, sg_m200', nI_add, sg_a1, sg_a2, sg_a3, sg_a4, sg_a5, sg_a6, Int32.add_zero, sg_inT, nI_clamp, sg_lits, sg_mA, sg_mB, sg_mC, sg_mD, sg_mE, sg_mF, Int32.reduceLT, Int32.reduceLE, forall_eq, true_and, and_true, true_implies, false_implies, not_true_eq_false, not_false_eq_true, implies_true]
        exact h
  · refine ⟨-1, _, _, fun P h => ?_, fun P h => ?_, I5⟩
    · simp only [wpX_activity, wpX_isSetting, sg_xT ga, sg_xF hx, sg_n0, sg_lits, sg_mA, sg_mB, sg_mC, sg_mD, sg_mE, sg_mF, Int32.reduceLT, Int32.reduceLE, forall_eq, true_and, and_true, true_implies, false_implies, not_true_eq_false, not_false_eq_true, implies_true]
      exact h
    · simp only [wpY_activity, wY_activity_53, wY_activity_74, wY_activity_91, sg_yT ga, sg_yT gw, sg_yF hx, sg_lits, sg_mA, sg_mB, sg_mC, sg_mD, sg_mE, sg_mF, Int32.reduceLT, Int32.reduceLE, forall_eq, true_and, and_true, true_implies, false_implies, not_true_eq_false, not_false_eq_true, implies_true]
      exact h
theorem sg_act3 {k a : Nat} {u : SX} {v : SY} (I : i_Rel k u v) (ha : a < 4) (x : Int32) : sg_Act k (nI a) 3 x u v := by
  have I5 := i_up I
  obtain ⟨t, ht, H, HL⟩ := I
  have HB := sg_busy H
  have ga : sg_rg (nI a) 0 3 := ⟨nI_pos (by omega), sg_3n ha⟩
  have gw : sg_rg (3 : Int32) 0 6 := ⟨by decide, by decide⟩
  obtain ⟨xsc, xnow, xjc, xec, xse, xki, xpp, xqq, xrr, xst, xfs, xin, xtb, xaj, xat, xsd, xja, xev, xva, xha, xps, xpa, xpi, xct, xsn, xsv, xtk, xac, xji, xou, xen, xuw, xra, xea, xtj, xte⟩ := u
  obtain ⟨ysc, ynow, yjc, yec, yse, yss, yac, yji, yen, yho, ywh, ytj, yte, yst, ypl, ydn, yas, ywt, yun, yrs, yva, yha, ypa, ypi, yps, yso, ysv, yct⟩ := v
  obtain ⟨sc, jc, ⟨⟨⟨e1, e2, e3, e4⟩, e5, e6, e7, e8, e9, e10, e11, e12, e13, e14, e15, e16⟩, ⟨g1, g2, g3, g4⟩, hset, hprog, hjobs, hjas⟩, hf⟩ := H
  subst e1 e2 e3 e4 e5 e6 e7 e8 e9 e10 e11 e12 e13 e14 e15 e16 g1 g2 g3 g4
  by_cases hx : sg_rg x 0 9
  · rcases HB with ⟨b1, b2⟩ | ⟨b1, b2, ej, hid⟩
    · refine ⟨-3, _, _, fun P h => ?_, fun P h => ?_, I5⟩
      · simp only [wpX_activity, wpX_isSetting, sg_xT ga, sg_xT hx, sg_n1, sg_lits, sg_mA, sg_mB, sg_mC, sg_mD, sg_mE, sg_mF, Int32.reduceLT, Int32.reduceLE, forall_eq, true_and, and_true, true_implies, false_implies, not_true_eq_false, not_false_eq_true, implies_true]
        refine b1 _ ?_
        simp only [sg_lits, sg_mA, sg_mB, sg_mC, sg_mD, sg_mE, sg_mF, Int32.reduceLT, Int32.reduceLE, forall_eq, true_and, and_true, true_implies, false_implies, not_true_eq_false, not_false_eq_true, implies_true]
        exact h
      · simp only [wpY_activity, wY_activity_53, wY_activity_74, wY_activity_91, sg_yT ga, sg_yT gw, sg_yT hx, sg_lits, sg_mA, sg_mB, sg_mC, sg_mD, sg_mE, sg_mF, Int32.reduceLT, Int32.reduceLE, forall_eq, true_and, and_true, true_implies, false_implies, not_true_eq_false, not_false_eq_true, implies_true]
        refine b2 _ ?_
        simp only [sg_lits, sg_mA, sg_mB, sg_mC, sg_mD, sg_mE, sg_mF, Int32.reduceLT, Int32.reduceLE, forall_eq, true_and, and_true, true_implies, false_implies, not_true_eq_false, not_false_eq_true, implies_true]
        exact h
    · have hset1 : sg_set (upd xse (7 * a + 3) x) := sg_set_upd hset ha (by omega) (fun z => absurd z (by decide)) (fun z => absurd z (by decide)) (fun _ => sg_rgN 0 9 (by omega) (by omega) hx) (fun z => absurd z (by decide))
      have ej0 : jc = 0 := (nI_eq (b := 0) (by have := sg_jas_le hjas; omega) (by omega)).mp ej
      subst ej0
      refine ⟨xse (7 * a + 3), (nI sc, nI t, nI 0, nI (sg_cnt xen 0), upd xse (7 * a + 3) x, xki, xpp, xqq, xrr, xst, xfs, xin, xtb, xaj, xat, xsd, xja, xev, xva, xha, xps, xpa, xpi, xct, xsn, xsv, xtk, xac, xji, xou, xen, xuw, xra, xea, xtj, xte), (nI sc, nI t, nI 0, nI (sg_cnt xen 0), upd xse (7 * a + 3) x, yss, xac, xji, xen, yho, ywh, xtj, xte, xst, ypl, ydn, yas, ywt, yun, yrs, yva, yha, xpa, xpi, xps, yso, xsv, xct), fun P h => ?_, fun P h => ?_, ⟨t, by omega, ⟨sc, 0, ⟨⟨⟨rfl, rfl, rfl, rfl⟩, rfl, rfl, rfl, rfl, rfl, rfl, rfl, rfl, rfl, rfl, rfl, rfl⟩, ⟨rfl, rfl, rfl, rfl⟩, hset1, hprog, fun j hj => absurd hj (by omega), hjas⟩, fun m hm => Or.inl (hid m hm)⟩, HL⟩⟩
      · simp only [wpX_activity, wpX_isSetting, sg_xT ga, sg_xT hx, sg_n1, sg_lits, sg_mA, sg_mB, sg_mC, sg_mD, sg_mE, sg_mF, Int32.reduceLT, Int32.reduceLE, forall_eq, true_and, and_true, true_implies, false_implies, not_true_eq_false, not_false_eq_true, implies_true]
        refine b1 _ ?_
        simp (disch := omega) only [sg_m3, sg_m3', sg_m4, sg_m4', sg_m6, sg_m6', sg_m7, sg_m7', sg_m200, sg_m200', nI_add, sg_a1, sg_a2, sg_a3, sg_a4, sg_a5, sg_a6, Int32.add_zero, sg_inT, nI_clamp, sg_lits, sg_mA, sg_mB, sg_mC, sg_mD, sg_mE, sg_mF, Int32.reduceLT, Int32.reduceLE, forall_eq, true_and, and_true, true_implies, false_implies, not_true_eq_false, not_false_eq_true, implies_true]
        exact h
      · simp only [wpY_activity, wY_activity_53, wY_activity_74, wY_activity_91, sg_yT ga, sg_yT gw, sg_yT hx, sg_lits, sg_mA, sg_mB, sg_mC, sg_mD, sg_mE, sg_mF, Int32.reduceLT, Int32.reduceLE, forall_eq, true_and, and_true, true_implies, false_implies, not_true_eq_false, not_false_eq_true, implies_true]
        refine b2 _ ?_
        simp (disch := omega) only [sg_m3, sg_m3', sg_m4, sg_m4', sg_m6, sg_m6', sg_m7, sg_m7', sg_m200, sg_m200', nI_add, sg_a1, sg_a2, sg_a3, sg_a4, sg_a5, sg_a6, Int32.add_zero, sg_inT, nI_clamp, sg_lits, sg_mA, sg_mB, sg_mC, sg_mD, sg_mE, sg_mF, Int32.reduceLT, Int32.reduceLE, forall_eq, true_and, and_true, true_implies, false_implies, not_true_eq_false, not_false_eq_true, implies_true]
        exact h
  · refine ⟨-1, _, _, fun P h => ?_, fun P h => ?_, I5⟩
    · simp only [wpX_activity, wpX_isSetting, sg_xT ga, sg_xF hx, sg_n0, sg_lits, sg_mA, sg_mB, sg_mC, sg_mD, sg_mE, sg_mF, Int32.reduceLT, Int32.reduceLE, forall_eq, true_and, and_true, true_implies, false_implies, not_true_eq_false, not_false_eq_true, implies_true]
      exact h
    · simp only [wpY_activity, wY_activity_53, wY_activity_74, wY_activity_91, sg_yT ga, sg_yT gw, sg_yF hx, sg_lits, sg_mA, sg_mB, sg_mC, sg_mD, sg_mE, sg_mF, Int32.reduceLT, Int32.reduceLE, forall_eq, true_and, and_true, true_implies, false_implies, not_true_eq_false, not_false_eq_true, implies_true]
      exact h
theorem sg_act4 {k a : Nat} {u : SX} {v : SY} (I : i_Rel k u v) (ha : a < 4) (x : Int32) : sg_Act k (nI a) 4 x u v := by
  have I5 := i_up I
  obtain ⟨t, ht, H, HL⟩ := I
  have HB := sg_busy H
  have ga : sg_rg (nI a) 0 3 := ⟨nI_pos (by omega), sg_3n ha⟩
  have gw : sg_rg (4 : Int32) 0 6 := ⟨by decide, by decide⟩
  obtain ⟨xsc, xnow, xjc, xec, xse, xki, xpp, xqq, xrr, xst, xfs, xin, xtb, xaj, xat, xsd, xja, xev, xva, xha, xps, xpa, xpi, xct, xsn, xsv, xtk, xac, xji, xou, xen, xuw, xra, xea, xtj, xte⟩ := u
  obtain ⟨ysc, ynow, yjc, yec, yse, yss, yac, yji, yen, yho, ywh, ytj, yte, yst, ypl, ydn, yas, ywt, yun, yrs, yva, yha, ypa, ypi, yps, yso, ysv, yct⟩ := v
  obtain ⟨sc, jc, ⟨⟨⟨e1, e2, e3, e4⟩, e5, e6, e7, e8, e9, e10, e11, e12, e13, e14, e15, e16⟩, ⟨g1, g2, g3, g4⟩, hset, hprog, hjobs, hjas⟩, hf⟩ := H
  subst e1 e2 e3 e4 e5 e6 e7 e8 e9 e10 e11 e12 e13 e14 e15 e16 g1 g2 g3 g4
  by_cases hx : sg_rg x 0 4
  · rcases HB with ⟨b1, b2⟩ | ⟨b1, b2, ej, hid⟩
    · refine ⟨-3, _, _, fun P h => ?_, fun P h => ?_, I5⟩
      · simp only [wpX_activity, wpX_isSetting, sg_xT ga, sg_xT hx, sg_n1, sg_lits, sg_mA, sg_mB, sg_mC, sg_mD, sg_mE, sg_mF, Int32.reduceLT, Int32.reduceLE, forall_eq, true_and, and_true, true_implies, false_implies, not_true_eq_false, not_false_eq_true, implies_true]
        refine b1 _ ?_
        simp only [sg_lits, sg_mA, sg_mB, sg_mC, sg_mD, sg_mE, sg_mF, Int32.reduceLT, Int32.reduceLE, forall_eq, true_and, and_true, true_implies, false_implies, not_true_eq_false, not_false_eq_true, implies_true]
        exact h
      · simp only [wpY_activity, wY_activity_53, wY_activity_74, wY_activity_91, sg_yT ga, sg_yT gw, sg_yT hx, sg_lits, sg_mA, sg_mB, sg_mC, sg_mD, sg_mE, sg_mF, Int32.reduceLT, Int32.reduceLE, forall_eq, true_and, and_true, true_implies, false_implies, not_true_eq_false, not_false_eq_true, implies_true]
        refine b2 _ ?_
        simp only [sg_lits, sg_mA, sg_mB, sg_mC, sg_mD, sg_mE, sg_mF, Int32.reduceLT, Int32.reduceLE, forall_eq, true_and, and_true, true_implies, false_implies, not_true_eq_false, not_false_eq_true, implies_true]
        exact h
    · have hset1 : sg_set (upd xse (7 * a + 4) x) := sg_set_upd hset ha (by omega) (fun z => absurd z (by decide)) (fun z => absurd z (by decide)) (fun z => absurd z (by decide)) (fun _ => sg_rgN 0 4 (by omega) (by omega) hx)
      have ej0 : jc = 0 := (nI_eq (b := 0) (by have := sg_jas_le hjas; omega) (by omega)).mp ej
      subst ej0
      refine ⟨xse (7 * a + 4), (nI sc, nI t, nI 0, nI (sg_cnt xen 0), upd xse (7 * a + 4) x, xki, xpp, xqq, xrr, xst, xfs, xin, xtb, xaj, xat, xsd, xja, xev, xva, xha, xps, xpa, xpi, xct, xsn, xsv, xtk, xac, xji, xou, xen, xuw, xra, xea, xtj, xte), (nI sc, nI t, nI 0, nI (sg_cnt xen 0), upd xse (7 * a + 4) x, yss, xac, xji, xen, yho, ywh, xtj, xte, xst, ypl, ydn, yas, ywt, yun, yrs, yva, yha, xpa, xpi, xps, yso, xsv, xct), fun P h => ?_, fun P h => ?_, ⟨t, by omega, ⟨sc, 0, ⟨⟨⟨rfl, rfl, rfl, rfl⟩, rfl, rfl, rfl, rfl, rfl, rfl, rfl, rfl, rfl, rfl, rfl, rfl⟩, ⟨rfl, rfl, rfl, rfl⟩, hset1, hprog, fun j hj => absurd hj (by omega), hjas⟩, fun m hm => Or.inl (hid m hm)⟩, HL⟩⟩
      · simp only [wpX_activity, wpX_isSetting, sg_xT ga, sg_xT hx, sg_n1, sg_lits, sg_mA, sg_mB, sg_mC, sg_mD, sg_mE, sg_mF, Int32.reduceLT, Int32.reduceLE, forall_eq, true_and, and_true, true_implies, false_implies, not_true_eq_false, not_false_eq_true, implies_true]
        refine b1 _ ?_
        simp (disch := omega) only [sg_m3, sg_m3', sg_m4, sg_m4', sg_m6, sg_m6', sg_m7, sg_m7', sg_m200, sg_m200', nI_add, sg_a1, sg_a2, sg_a3, sg_a4, sg_a5, sg_a6, Int32.add_zero, sg_inT, nI_clamp, sg_lits, sg_mA, sg_mB, sg_mC, sg_mD, sg_mE, sg_mF, Int32.reduceLT, Int32.reduceLE, forall_eq, true_and, and_true, true_implies, false_implies, not_true_eq_false, not_false_eq_true, implies_true]
        exact h
      · simp only [wpY_activity, wY_activity_53, wY_activity_74, wY_activity_91, sg_yT ga, sg_yT gw, sg_yT hx, sg_lits, sg_mA, sg_mB, sg_mC, sg_mD, sg_mE, sg_mF, Int32.reduceLT, Int32.reduceLE, forall_eq, true_and, and_true, true_implies, false_implies, not_true_eq_false, not_false_eq_true, implies_true]
        refine b2 _ ?_
        simp (disch := omega) only [sg_m3, sg_m3', sg_m4, sg_m4', sg_m6, sg_m6', sg_m7, sg_m7', sg_m200, sg_m200', nI_add, sg_a1, sg_a2, sg_a3, sg_a4, sg_a5, sg_a6, Int32.add_zero, sg_inT, nI_clamp, sg_lits, sg_mA, sg_mB, sg_mC, sg_mD, sg_mE, sg_mF, Int32.reduceLT, Int32.reduceLE, forall_eq, true_and, and_true, true_implies, false_implies, not_true_eq_false, not_false_eq_true, implies_true]
        exact h
  · refine ⟨-1, _, _, fun P h => ?_, fun P h => ?_, I5⟩
    · simp only [wpX_activity, wpX_isSetting, sg_xT ga, sg_xF hx, sg_n0, sg_lits, sg_mA, sg_mB, sg_mC, sg_mD, sg_mE, sg_mF, Int32.reduceLT, Int32.reduceLE, forall_eq, true_and, and_true, true_implies, false_implies, not_true_eq_false, not_false_eq_true, implies_true]
      exact h
    · simp only [wpY_activity, wY_activity_53, wY_activity_74, wY_activity_91, sg_yT ga, sg_yT gw, sg_yF hx, sg_lits, sg_mA, sg_mB, sg_mC, sg_mD, sg_mE, sg_mF, Int32.reduceLT, Int32.reduceLE, forall_eq, true_and, and_true, true_implies, false_implies, not_true_eq_false, not_false_eq_true, implies_true]
      exact h
theorem sg_act5 {k a : Nat} {u : SX} {v : SY} (I : i_Rel k u v) (ha : a < 4) (x : Int32) : sg_Act k (nI a) 5 x u v := by
  have I5 := i_up I
  obtain ⟨t, ht, H, HL⟩ := I
  have HB := sg_busy H
  have ga : sg_rg (nI a) 0 3 := ⟨nI_pos (by omega), sg_3n ha⟩
  have gw : sg_rg (5 : Int32) 0 6 := ⟨by decide, by decide⟩
  obtain ⟨xsc, xnow, xjc, xec, xse, xki, xpp, xqq, xrr, xst, xfs, xin, xtb, xaj, xat, xsd, xja, xev, xva, xha, xps, xpa, xpi, xct, xsn, xsv, xtk, xac, xji, xou, xen, xuw, xra, xea, xtj, xte⟩ := u
  obtain ⟨ysc, ynow, yjc, yec, yse, yss, yac, yji, yen, yho, ywh, ytj, yte, yst, ypl, ydn, yas, ywt, yun, yrs, yva, yha, ypa, ypi, yps, yso, ysv, yct⟩ := v
  obtain ⟨sc, jc, ⟨⟨⟨e1, e2, e3, e4⟩, e5, e6, e7, e8, e9, e10, e11, e12, e13, e14, e15, e16⟩, ⟨g1, g2, g3, g4⟩, hset, hprog, hjobs, hjas⟩, hf⟩ := H
  subst e1 e2 e3 e4 e5 e6 e7 e8 e9 e10 e11 e12 e13 e14 e15 e16 g1 g2 g3 g4
  by_cases hx : sg_rg x (-9) 9
  · rcases HB with ⟨b1, b2⟩ | ⟨b1, b2, ej, hid⟩
    · refine ⟨-3, _, _, fun P h => ?_, fun P h => ?_, I5⟩
      · simp only [wpX_activity, wpX_isSetting, sg_xT ga, sg_xT hx, sg_n1, sg_lits, sg_mA, sg_mB, sg_mC, sg_mD, sg_mE, sg_mF, Int32.reduceLT, Int32.reduceLE, forall_eq, true_and, and_true, true_implies, false_implies, not_true_eq_false, not_false_eq_true, implies_true]
        refine b1 _ ?_
        simp only [sg_lits, sg_mA, sg_mB, sg_mC, sg_mD, sg_mE, sg_mF, Int32.reduceLT, Int32.reduceLE, forall_eq, true_and, and_true, true_implies, false_implies, not_true_eq_false, not_false_eq_true, implies_true]
        exact h
      · simp only [wpY_activity, wY_activity_53, wY_activity_74, wY_activity_91, sg_yT ga, sg_yT gw, sg_yT hx, sg_lits, sg_mA, sg_mB, sg_mC, sg_mD, sg_mE, sg_mF, Int32.reduceLT, Int32.reduceLE, forall_eq, true_and, and_true, true_implies, false_implies, not_true_eq_false, not_false_eq_true, implies_true]
        refine b2 _ ?_
        simp only [sg_lits, sg_mA, sg_mB, sg_mC, sg_mD, sg_mE, sg_mF, Int32.reduceLT, Int32.reduceLE, forall_eq, true_and, and_true, true_implies, false_implies, not_true_eq_false, not_false_eq_true, implies_true]
        exact h
    · have hset1 : sg_set (upd xse (7 * a + 5) x) := sg_set_upd hset ha (by omega) (fun z => absurd z (by decide)) (fun z => absurd z (by decide)) (fun z => absurd z (by decide)) (fun z => absurd z (by decide))
      have ej0 : jc = 0 := (nI_eq (b := 0) (by have := sg_jas_le hjas; omega) (by omega)).mp ej
      subst ej0
      refine ⟨xse (7 * a + 5), (nI sc, nI t, nI 0, nI (sg_cnt xen 0), upd xse (7 * a + 5) x, xki, xpp, xqq, xrr, xst, xfs, xin, xtb, xaj, xat, xsd, xja, xev, xva, xha, xps, xpa, xpi, xct, xsn, xsv, xtk, xac, xji, xou, xen, xuw, xra, xea, xtj, xte), (nI sc, nI t, nI 0, nI (sg_cnt xen 0), upd xse (7 * a + 5) x, yss, xac, xji, xen, yho, ywh, xtj, xte, xst, ypl, ydn, yas, ywt, yun, yrs, yva, yha, xpa, xpi, xps, yso, xsv, xct), fun P h => ?_, fun P h => ?_, ⟨t, by omega, ⟨sc, 0, ⟨⟨⟨rfl, rfl, rfl, rfl⟩, rfl, rfl, rfl, rfl, rfl, rfl, rfl, rfl, rfl, rfl, rfl, rfl⟩, ⟨rfl, rfl, rfl, rfl⟩, hset1, hprog, fun j hj => absurd hj (by omega), hjas⟩, fun m hm => Or.inl (hid m hm)⟩, HL⟩⟩
      · simp only [wpX_activity, wpX_isSetting, sg_xT ga, sg_xT hx, sg_n1, sg_lits, sg_mA, sg_mB, sg_mC, sg_mD, sg_mE, sg_mF, Int32.reduceLT, Int32.reduceLE, forall_eq, true_and, and_true, true_implies, false_implies, not_true_eq_false, not_false_eq_true, implies_true]
        refine b1 _ ?_
        simp (disch := omega) only [sg_m3, sg_m3', sg_m4, sg_m4', sg_m6, sg_m6', sg_m7, sg_m7', sg_m200, sg_m200', nI_add, sg_a1, sg_a2, sg_a3, sg_a4, sg_a5, sg_a6, Int32.add_zero, sg_inT, nI_clamp, sg_lits, sg_mA, sg_mB, sg_mC, sg_mD, sg_mE, sg_mF, Int32.reduceLT, Int32.reduceLE, forall_eq, true_and, and_true, true_implies, false_implies, not_true_eq_false, not_false_eq_true, implies_true]
        exact h
      · simp only [wpY_activity, wY_activity_53, wY_activity_74, wY_activity_91, sg_yT ga, sg_yT gw, sg_yT hx, sg_lits, sg_mA, sg_mB, sg_mC, sg_mD, sg_mE, sg_mF, Int32.reduceLT, Int32.reduceLE, forall_eq, true_and, and_true, true_implies, false_implies, not_true_eq_false, not_false_eq_true, implies_true]
        refine b2 _ ?_
        simp (disch := omega) only [sg_m3, sg_m3', sg_m4, sg_m4', sg_m6, sg_m6', sg_m7, sg_m7', sg_m200, sg_m200', nI_add, sg_a1, sg_a2, sg_a3, sg_a4, sg_a5, sg_a6, Int32.add_zero, sg_inT, nI_clamp, sg_lits, sg_mA, sg_mB, sg_mC, sg_mD, sg_mE, sg_mF, Int32.reduceLT, Int32.reduceLE, forall_eq, true_and, and_true, true_implies, false_implies, not_true_eq_false, not_false_eq_true, implies_true]
        exact h
  · refine ⟨-1, _, _, fun P h => ?_, fun P h => ?_, I5⟩
    · simp only [wpX_activity, wpX_isSetting, sg_xT ga, sg_xF hx, sg_n0, sg_lits, sg_mA, sg_mB, sg_mC, sg_mD, sg_mE, sg_mF, Int32.reduceLT, Int32.reduceLE, forall_eq, true_and, and_true, true_implies, false_implies, not_true_eq_false, not_false_eq_true, implies_true]
      exact h
    · simp only [wpY_activity, wY_activity_53, wY_activity_74, wY_activity_91, sg_yT ga, sg_yT gw, sg_yF hx, sg_lits, sg_mA, sg_mB, sg_mC, sg_mD, sg_mE, sg_mF, Int32.reduceLT, Int32.reduceLE, forall_eq, true_and, and_true, true_implies, false_implies, not_true_eq_false, not_false_eq_true, implies_true]
      exact h
theorem sg_act6 {k a : Nat} {u : SX} {v : SY} (I : i_Rel k u v) (ha : a < 4) (x : Int32) : sg_Act k (nI a) 6 x u v := by
  have I5 := i_up I
  obtain ⟨t, ht, H, HL⟩ := I
  have HB := sg_busy H
  have ga : sg_rg (nI a) 0 3 := ⟨nI_pos (by omega), sg_3n ha⟩
  have gw : sg_rg (6 : Int32) 0 6 := ⟨by decide, by decide⟩
  obtain ⟨xsc, xnow, xjc, xec, xse, xki, xpp, xqq, xrr, xst, xfs, xin, xtb, xaj, xat, xsd, xja, xev, xva, xha, xps, xpa, xpi, xct, xsn, xsv, xtk, xac, xji, xou, xen, xuw, xra, xea, xtj, xte⟩ := u
  obtain ⟨ysc, ynow, yjc, yec, yse, yss, yac, yji, yen, yho, ywh, ytj, yte, yst, ypl, ydn, yas, ywt, yun, yrs, yva, yha, ypa, ypi, yps, yso, ysv, yct⟩ := v
  obtain ⟨sc, jc, ⟨⟨⟨e1, e2, e3, e4⟩, e5, e6, e7, e8, e9, e10, e11, e12, e13, e14, e15, e16⟩, ⟨g1, g2, g3, g4⟩, hset, hprog, hjobs, hjas⟩, hf⟩ := H
  subst e1 e2 e3 e4 e5 e6 e7 e8 e9 e10 e11 e12 e13 e14 e15 e16 g1 g2 g3 g4
  by_cases hx : sg_rg x (-99) 99
  · rcases HB with ⟨b1, b2⟩ | ⟨b1, b2, ej, hid⟩
    · refine ⟨-3, _, _, fun P h => ?_, fun P h => ?_, I5⟩
      · simp only [wpX_activity, wpX_isSetting, sg_xT ga, sg_xT hx, sg_n1, sg_lits, sg_mA, sg_mB, sg_mC, sg_mD, sg_mE, sg_mF, Int32.reduceLT, Int32.reduceLE, forall_eq, true_and, and_true, true_implies, false_implies, not_true_eq_false, not_false_eq_true, implies_true]
        refine b1 _ ?_
        simp only [sg_lits, sg_mA, sg_mB, sg_mC, sg_mD, sg_mE, sg_mF, Int32.reduceLT, Int32.reduceLE, forall_eq, true_and, and_true, true_implies, false_implies, not_true_eq_false, not_false_eq_true, implies_true]
        exact h
      · simp only [wpY_activity, wY_activity_53, wY_activity_74, wY_activity_91, sg_yT ga, sg_yT gw, sg_yT hx, sg_lits, sg_mA, sg_mB, sg_mC, sg_mD, sg_mE, sg_mF, Int32.reduceLT, Int32.reduceLE, forall_eq, true_and, and_true, true_implies, false_implies, not_true_eq_false, not_false_eq_true, implies_true]
        refine b2 _ ?_
        simp only [sg_lits, sg_mA, sg_mB, sg_mC, sg_mD, sg_mE, sg_mF, Int32.reduceLT, Int32.reduceLE, forall_eq, true_and, and_true, true_implies, false_implies, not_true_eq_false, not_false_eq_true, implies_true]
        exact h
    · have hset1 : sg_set (upd xse (7 * a + 6) x) := sg_set_upd hset ha (by omega) (fun z => absurd z (by decide)) (fun z => absurd z (by decide)) (fun z => absurd z (by decide)) (fun z => absurd z (by decide))
      have ej0 : jc = 0 := (nI_eq (b := 0) (by have := sg_jas_le hjas; omega) (by omega)).mp ej
      subst ej0
      refine ⟨xse (7 * a + 6), (nI sc, nI t, nI 0, nI (sg_cnt xen 0), upd xse (7 * a + 6) x, xki, xpp, xqq, xrr, xst, xfs, xin, xtb, xaj, xat, xsd, xja, xev, xva, xha, xps, xpa, xpi, xct, xsn, xsv, xtk, xac, xji, xou, xen, xuw, xra, xea, xtj, xte), (nI sc, nI t, nI 0, nI (sg_cnt xen 0), upd xse (7 * a + 6) x, yss, xac, xji, xen, yho, ywh, xtj, xte, xst, ypl, ydn, yas, ywt, yun, yrs, yva, yha, xpa, xpi, xps, yso, xsv, xct), fun P h => ?_, fun P h => ?_, ⟨t, by omega, ⟨sc, 0, ⟨⟨⟨rfl, rfl, rfl, rfl⟩, rfl, rfl, rfl, rfl, rfl, rfl, rfl, rfl, rfl, rfl, rfl, rfl⟩, ⟨rfl, rfl, rfl, rfl⟩, hset1, hprog, fun j hj => absurd hj (by omega), hjas⟩, fun m hm => Or.inl (hid m hm)⟩, HL⟩⟩
      · simp only [wpX_activity, wpX_isSetting, sg_xT ga, sg_xT hx, sg_n1, sg_lits, sg_mA, sg_mB, sg_mC, sg_mD, sg_mE, sg_mF, Int32.reduceLT, Int32.reduceLE, forall_eq, true_and, and_true, true_implies, false_implies, not_true_eq_false, not_false_eq_true, implies_true]
        refine b1 _ ?_
        simp (disch := omega) only [sg_m3, sg_m3', sg_m4, sg_m4', sg_m6, sg_m6', sg_m7, sg_m7', sg_m200, sg_m200', nI_add, sg_a1, sg_a2, sg_a3, sg_a4, sg_a5, sg_a6, Int32.add_zero, sg_inT, nI_clamp, sg_lits, sg_mA, sg_mB, sg_mC, sg_mD, sg_mE, sg_mF, Int32.reduceLT, Int32.reduceLE, forall_eq, true_and, and_true, true_implies, false_implies, not_true_eq_false, not_false_eq_true, implies_true]
        exact h
      · simp only [wpY_activity, wY_activity_53, wY_activity_74, wY_activity_91, sg_yT ga, sg_yT gw, sg_yT hx, sg_lits, sg_mA, sg_mB, sg_mC, sg_mD, sg_mE, sg_mF, Int32.reduceLT, Int32.reduceLE, forall_eq, true_and, and_true, true_implies, false_implies, not_true_eq_false, not_false_eq_true, implies_true]
        refine b2 _ ?_
        simp (disch := omega) only [sg_m3, sg_m3', sg_m4, sg_m4', sg_m6, sg_m6', sg_m7, sg_m7', sg_m200, sg_m200', nI_add, sg_a1, sg_a2, sg_a3, sg_a4, sg_a5, sg_a6, Int32.add_zero, sg_inT, nI_clamp, sg_lits, sg_mA, sg_mB, sg_mC, sg_mD, sg_mE, sg_mF, Int32.reduceLT, Int32.reduceLE, forall_eq, true_and, and_true, true_implies, false_implies, not_true_eq_false, not_false_eq_true, implies_true]
        exact h
  · refine ⟨-1, _, _, fun P h => ?_, fun P h => ?_, I5⟩
    · simp only [wpX_activity, wpX_isSetting, sg_xT ga, sg_xF hx, sg_n0, sg_lits, sg_mA, sg_mB, sg_mC, sg_mD, sg_mE, sg_mF, Int32.reduceLT, Int32.reduceLE, forall_eq, true_and, and_true, true_implies, false_implies, not_true_eq_false, not_false_eq_true, implies_true]
      exact h
    · simp only [wpY_activity, wY_activity_53, wY_activity_74, wY_activity_91, sg_yT ga, sg_yT gw, sg_yF hx, sg_lits, sg_mA, sg_mB, sg_mC, sg_mD, sg_mE, sg_mF, Int32.reduceLT, Int32.reduceLE, forall_eq, true_and, and_true, true_implies, false_implies, not_true_eq_false, not_false_eq_true, implies_true]
      exact h
theorem sg_activity {k : Nat} {u : SX} {v : SY} (I : i_Rel k u v) (x y z : Int32) : sg_Act k x y z u v := by
  by_cases ga : sg_rg x 0 3
  · obtain ⟨a, _, ha, rfl⟩ := sg_rgN 0 3 (by omega) (by omega) ga
    rcases sg_rng y 6 (by decide) with h0 | ⟨h0, h2⟩ | ⟨j, hj, rfl⟩
    · have gw : ¬ sg_rg y 0 6 := fun q => q.1 h0
      refine ⟨-1, u, v, fun P h => ?_, fun P h => ?_, i_up I⟩
      · obtain ⟨xsc, xnow, xjc, xec, xse, xki, xpp, xqq, xrr, xst, xfs, xin, xtb, xaj, xat, xsd, xja, xev, xva, xha, xps, xpa, xpi, xct, xsn, xsv, xtk, xac, xji, xou, xen, xuw, xra, xea, xtj, xte⟩ := u
        simp only [wpX_activity, wpX_isSetting, sg_xT ga, h0, sg_lits, sg_mA, sg_mB, sg_mC, sg_mD, sg_mE, sg_mF, Int32.reduceLT, Int32.reduceLE, forall_eq, true_and, and_true, true_implies, false_implies, not_true_eq_false, not_false_eq_true, implies_true]
        exact h
      · obtain ⟨ysc, ynow, yjc, yec, yse, yss, yac, yji, yen, yho, ywh, ytj, yte, yst, ypl, ydn, yas, ywt, yun, yrs, yva, yha, ypa, ypi, yps, yso, ysv, yct⟩ := v
        simp only [wpY_activity, sg_yT ga, sg_yF gw, sg_lits, sg_mA, sg_mB, sg_mC, sg_mD, sg_mE, sg_mF, Int32.reduceLT, Int32.reduceLE, forall_eq, true_and, and_true, true_implies, false_implies, not_true_eq_false, not_false_eq_true, implies_true]
        exact h
    · have h2 : (6 : Int32) < y := h2
      have gw : ¬ sg_rg y 0 6 := fun q => q.2 h2
      refine ⟨-1, u, v, fun P h => ?_, fun P h => ?_, i_up I⟩
      · obtain ⟨xsc, xnow, xjc, xec, xse, xki, xpp, xqq, xrr, xst, xfs, xin, xtb, xaj, xat, xsd, xja, xev, xva, xha, xps, xpa, xpi, xct, xsn, xsv, xtk, xac, xji, xou, xen, xuw, xra, xea, xtj, xte⟩ := u
        simp only [wpX_activity, wpX_isSetting, sg_xT ga, h0, h2, sg_lits, sg_mA, sg_mB, sg_mC, sg_mD, sg_mE, sg_mF, Int32.reduceLT, Int32.reduceLE, forall_eq, true_and, and_true, true_implies, false_implies, not_true_eq_false, not_false_eq_true, implies_true]
        exact h
      · obtain ⟨ysc, ynow, yjc, yec, yse, yss, yac, yji, yen, yho, ywh, ytj, yte, yst, ypl, ydn, yas, ywt, yun, yrs, yva, yha, ypa, ypi, yps, yso, ysv, yct⟩ := v
        simp only [wpY_activity, sg_yT ga, sg_yF gw, sg_lits, sg_mA, sg_mB, sg_mC, sg_mD, sg_mE, sg_mF, Int32.reduceLT, Int32.reduceLE, forall_eq, true_and, and_true, true_implies, false_implies, not_true_eq_false, not_false_eq_true, implies_true]
        exact h
    · obtain rfl | rfl | rfl | rfl | rfl | rfl | rfl : j = 0 ∨ j = 1 ∨ j = 2 ∨ j = 3 ∨ j = 4 ∨ j = 5 ∨ j = 6 := by omega
      · exact sg_act0 I (by omega) z
      · exact sg_act1 I (by omega) z
      · exact sg_act2 I (by omega) z
      · exact sg_act3 I (by omega) z
      · exact sg_act4 I (by omega) z
      · exact sg_act5 I (by omega) z
      · exact sg_act6 I (by omega) z
  · refine ⟨-1, u, v, fun P h => ?_, fun P h => ?_, i_up I⟩
    · obtain ⟨xsc, xnow, xjc, xec, xse, xki, xpp, xqq, xrr, xst, xfs, xin, xtb, xaj, xat, xsd, xja, xev, xva, xha, xps, xpa, xpi, xct, xsn, xsv, xtk, xac, xji, xou, xen, xuw, xra, xea, xtj, xte⟩ := u
      simp only [wpX_activity, sg_xF ga, forall_eq, true_and, and_true, true_implies, false_implies, not_true_eq_false, not_false_eq_true, implies_true]
      exact h
    · obtain ⟨ysc, ynow, yjc, yec, yse, yss, yac, yji, yen, yho, ywh, ytj, yte, yst, ypl, ydn, yas, ywt, yun, yrs, yva, yha, ypa, ypi, yps, yso, ysv, yct⟩ := v
      simp only [wpY_activity, sg_yF ga, forall_eq, true_and, and_true, true_implies, false_implies, not_true_eq_false, not_false_eq_true, implies_true]
      exact h
theorem i_vc_activity {k : Nat} {u : SX} {v : SY} (I : i_Rel k u v) (hk : k + 5 ≤ 2560) (v1 : Int32) (v2 : Int32) (v3 : Int32) : wpX_activity (fun r u' => wpY_activity (fun r' v' => r' = r ∧ i_Rel (k + 5) u' v') v v1 v2 v3) u v1 v2 v3 := by
  obtain ⟨r, u', v', h1, h2, h3⟩ := sg_activity I v1 v2 v3
  exact h1 _ (h2 _ ⟨rfl, h3⟩)
