/-- all idle: no job, and the program and the settings may change -/
theorem sg_busy {t : Nat} {u : SX} {v : SY} (H : sg_R t u v) : ((∀ P : Int32 → Prop, P 1 → wpX_isAnyStarted P u) ∧ (∀ P : Int32 → Prop, P 1 → wpY_isBusy P v)) ∨ ((∀ P : Int32 → Prop, P 0 → wpX_isAnyStarted P u) ∧ (∀ P : Int32 → Prop, P 0 → wpY_isBusy P v) ∧ (match u with | (xsc, xnow, xjc, xec, xse, xki, xpp, xqq, xrr, xst, xfs, xin, xtb, xaj, xat, xsd, xja, xev, xva, xha, xps, xpa, xpi, xct, xsn, xsv, xtk, xac, xji, xou, xen, xuw, xra, xea, xtj, xte) => xjc = 0 ∧ ∀ m, m < 3 → sg_idle m xst xfs xin xtb xsd xja xev xva xha xps xct)) := by
  obtain ⟨xsc, xnow, xjc, xec, xse, xki, xpp, xqq, xrr, xst, xfs, xin, xtb, xaj, xat, xsd, xja, xev, xva, xha, xps, xpa, xpi, xct, xsn, xsv, xtk, xac, xji, xou, xen, xuw, xra, xea, xtj, xte⟩ := u
  obtain ⟨ysc, ynow, yjc, yec, yse, yss, yac, yji, yen, yho, ywh, ytj, yte, yst, ypl, ydn, yas, ywt, yun, yrs, yva, yha, ypa, ypi, yps, yso, ysv, yct⟩ := v
  obtain ⟨sc, jc, ⟨⟨⟨e1, e2, e3, e4⟩, e5, e6, e7, e8, e9, e10, e11, e12, e13, e14, e15, e16⟩, ⟨g1, g2, g3, g4⟩, hset, hprog, hjobs, hjas⟩, hf⟩ := H
  subst e1 e2 e3 e4 e5 e6 e7 e8 e9 e10 e11 e12 e13 e14 e15 e16 g1 g2 g3 g4
  obtain ⟨s0, k0, h0⟩ := sg_flow_st (hf 0 (by omega))
  obtain ⟨s1, k1, h1⟩ := sg_flow_st (hf 1 (by omega))
  obtain ⟨s2, k2, h2⟩ := sg_flow_st (hf 2 (by omega))
  by_cases c : xst 0 = 0 ∧ xst 1 = 0 ∧ xst 2 = 0
  · refine Or.inr ⟨fun P h => sg_anyX.1 c h, fun P h => (sg_busyY h0 h1 h2 k0 k1 k2).1 c h, ?_, fun m hm => ?_⟩
    · have i0 := sg_flow_id (hf 0 (by omega)) c.1
      have i1 := sg_flow_id (hf 1 (by omega)) c.2.1
      have i2 := sg_flow_id (hf 2 (by omega)) c.2.2
      have e := hjas.2
      rw [i0.2.2.2.2.2.1, i1.2.2.2.2.2.1, i2.2.2.2.2.2.1] at e
      have e : jc = 0 := e
      rw [e]
      rfl
    · refine sg_flow_id (hf m hm) ?_
      obtain rfl | rfl | rfl : m = 0 ∨ m = 1 ∨ m = 2 := by omega
      · exact c.1
      · exact c.2.1
      · exact c.2.2
  · exact Or.inl ⟨fun P h => sg_anyX.2 c h, fun P h => (sg_busyY h0 h1 h2 k0 k1 k2).2 c h⟩
theorem sg_prog_app {sc : Nat} {ki pp qq rr ss : Nat → Int32} {k p q r : Int32} (h : sg_prog sc ki pp qq rr ss) (hs : sc < 20) (hok : sg_ok k p q r) : sg_prog (sc + 1) (upd ki sc k) (upd pp sc p) (upd qq sc q) (upd rr sc r) (upd (upd (upd (upd ss (4 * sc) k) (4 * sc + 1) p) (4 * sc + 2) q) (4 * sc + 3) r) := by
  refine ⟨by omega, fun m hm => ?_⟩
  by_cases c : m = sc
  · subst c
    simp only [pk_us]
    refine ⟨?_, ?_, ?_, trivial, hok⟩
    · rw [pk_un (by omega), pk_un (by omega), pk_un (by omega), pk_us]
    · rw [pk_un (by omega), pk_un (by omega), pk_us]
    · rw [pk_un (by omega), pk_us]
  · rw [pk_un c, pk_un c, pk_un c, pk_un c, pk_un (by omega), pk_un (by omega), pk_un (by omega), pk_un (by omega), pk_un (by omega), pk_un (by omega), pk_un (by omega), pk_un (by omega), pk_un (by omega), pk_un (by omega), pk_un (by omega), pk_un (by omega), pk_un (by omega), pk_un (by omega), pk_un (by omega), pk_un (by omega)]
    exact h.2 m (by omega)
theorem sg_stepC {k : Nat} {u : SX} {v : SY} (I : i_Rel k u v) (a b c d : Int32) : ∃ r u' v', (∀ P : Int32 → SX → Prop, P r u' → wpX_step P u a b c d) ∧ (∀ P : Int32 → SY → Prop, P r v' → wpY_step P v a b c d) ∧ i_Rel (k + 5) u' v' := by
  have I5 := i_up I
  obtain ⟨t, ht, H, HL⟩ := I
  obtain ⟨z, f1, f2, f3⟩ := sg_fit a b c d v
  have HB := sg_busy H
  obtain ⟨xsc, xnow, xjc, xec, xse, xki, xpp, xqq, xrr, xst, xfs, xin, xtb, xaj, xat, xsd, xja, xev, xva, xha, xps, xpa, xpi, xct, xsn, xsv, xtk, xac, xji, xou, xen, xuw, xra, xea, xtj, xte⟩ := u
  obtain ⟨ysc, ynow, yjc, yec, yse, yss, yac, yji, yen, yho, ywh, ytj, yte, yst, ypl, ydn, yas, ywt, yun, yrs, yva, yha, ypa, ypi, yps, yso, ysv, yct⟩ := v
  obtain ⟨sc, jc, ⟨⟨⟨e1, e2, e3, e4⟩, e5, e6, e7, e8, e9, e10, e11, e12, e13, e14, e15, e16⟩, ⟨g1, g2, g3, g4⟩, hset, hprog, hjobs, hjas⟩, hf⟩ := H
  subst e1 e2 e3 e4 e5 e6 e7 e8 e9 e10 e11 e12 e13 e14 e15 e16 g1 g2 g3 g4
  have hsc := hprog.1
  rcases f3 with f3 | ⟨f3, hok⟩
  · subst f3
    refine ⟨-1, _, _, fun P h => ?_, fun P h => ?_, I5⟩
    · simp only [wpX_step]
      refine f1 _ ?_
      simp only [forall_eq, true_and, and_true, true_implies, false_implies, not_true_eq_false, not_false_eq_true, implies_true]
      exact h
    · simp only [wpY_step]
      refine f2 _ ?_
      simp only [forall_eq, true_and, and_true, true_implies, false_implies, not_true_eq_false, not_false_eq_true, implies_true]
      exact h
  · subst f3
    rcases HB with ⟨b1, b2⟩ | ⟨b1, b2, ej, hid⟩
    · refine ⟨-3, _, _, fun P h => ?_, fun P h => ?_, I5⟩
      · simp only [wpX_step]
        refine f1 _ ?_
        simp only [sg_lits, sg_mA, sg_mB, sg_mC, sg_mD, sg_mE, sg_mF, Int32.reduceLT, Int32.reduceLE, forall_eq, true_and, and_true, true_implies, false_implies, not_true_eq_false, not_false_eq_true, implies_true]
        refine b1 _ ?_
        simp only [sg_lits, sg_mA, sg_mB, sg_mC, sg_mD, sg_mE, sg_mF, Int32.reduceLT, Int32.reduceLE, forall_eq, true_and, and_true, true_implies, false_implies, not_true_eq_false, not_false_eq_true, implies_true]
        exact h
      · simp only [wpY_step]
        refine f2 _ ?_
        simp only [sg_lits, sg_mA, sg_mB, sg_mC, sg_mD, sg_mE, sg_mF, Int32.reduceLT, Int32.reduceLE, forall_eq, true_and, and_true, true_implies, false_implies, not_true_eq_false, not_false_eq_true, implies_true]
        refine b2 _ ?_
        simp only [sg_lits, sg_mA, sg_mB, sg_mC, sg_mD, sg_mE, sg_mF, Int32.reduceLT, Int32.reduceLE, forall_eq, true_and, and_true, true_implies, false_implies, not_true_eq_false, not_false_eq_true, implies_true]
        exact h
    · by_cases c20 : sc < 20
      · have c1 : nI sc < 20 := nI_lt (b := 20) c20 (by decide)
        have c2 : ¬ nI sc = 20 := fun z => by
          have := (nI_eq (b := 20) (by omega) (by omega)).mp z
          omega
        refine ⟨nI sc, (nI (sc + 1), nI t, nI jc, nI (sg_cnt xen jc), xse, upd xki sc a, upd xpp sc b, upd xqq sc c, upd xrr sc d, xst, xfs, xin, xtb, xaj, xat, xsd, xja, xev, xva, xha, xps, xpa, xpi, xct, xsn, xsv, xtk, xac, xji, xou, xen, xuw, xra, xea, xtj, xte), (nI (sc + 1), nI t, nI jc, nI (sg_cnt xen jc), xse, upd (upd (upd (upd yss (4 * sc) a) (4 * sc + 1) b) (4 * sc + 2) c) (4 * sc + 3) d, xac, xji, xen, yho, ywh, xtj, xte, xst, ypl, ydn, yas, ywt, yun, yrs, yva, yha, xpa, xpi, xps, yso, xsv, xct), fun P h => ?_, fun P h => ?_, ⟨t, by omega, ⟨sc + 1, jc, ⟨⟨⟨rfl, rfl, rfl, rfl⟩, rfl, rfl, rfl, rfl, rfl, rfl, rfl, rfl, rfl, rfl, rfl, rfl⟩, ⟨rfl, rfl, rfl, rfl⟩, hset, sg_prog_app hprog c20 hok, hjobs, hjas⟩, fun m hm => Or.inl (hid m hm)⟩, HL⟩⟩
        · simp only [wpX_step]
          refine f1 _ ?_
          simp only [sg_lits, sg_mA, sg_mB, sg_mC, sg_mD, sg_mE, sg_mF, Int32.reduceLT, Int32.reduceLE, forall_eq, true_and, and_true, true_implies, false_implies, not_true_eq_false, not_false_eq_true, implies_true]
          refine b1 _ ?_
          simp (disch := omega) only [c1, sg_m3, sg_m3', sg_m4, sg_m4', sg_m6, sg_m6', sg_m7, sg_m7', sg_m200, sg_m200', nI_add, sg_a1, sg_a2, sg_a3, sg_a4, sg_a5, sg_a6, Int32.add_zero, sg_inT, nI_clamp, sg_lits, sg_mA, sg_mB, sg_mC, sg_mD, sg_mE, sg_mF, Int32.reduceLT, Int32.reduceLE, forall_eq, true_and, and_true, true_implies, false_implies, not_true_eq_false, not_false_eq_true, implies_true]
          exact h
        · simp only [wpY_step]
          refine f2 _ ?_
          simp only [sg_lits, sg_mA, sg_mB, sg_mC, sg_mD, sg_mE, sg_mF, Int32.reduceLT, Int32.reduceLE, forall_eq, true_and, and_true, true_implies, false_implies, not_true_eq_false, not_false_eq_true, implies_true]
          refine b2 _ ?_
          simp (disch := omega) only [c2, nI_pred, sg_m3, sg_m3', sg_m4, sg_m4', sg_m6, sg_m6', sg_m7, sg_m7', sg_m200, sg_m200', nI_add, sg_a1, sg_a2, sg_a3, sg_a4, sg_a5, sg_a6, Int32.add_zero, sg_inT, nI_clamp, sg_lits, sg_mA, sg_mB, sg_mC, sg_mD, sg_mE, sg_mF, Int32.reduceLT, Int32.reduceLE, forall_eq, true_and, and_true, true_implies, false_implies, not_true_eq_false, not_false_eq_true, implies_true]
          exact h
      · have e : sc = 20 := by omega
        subst e
        have c1 : ¬ nI 20 < 20 := by decide
        have c2 : nI 20 = 20 := rfl
        refine ⟨-2, _, _, fun P h => ?_, fun P h => ?_, I5⟩
        · simp only [wpX_step]
          refine f1 _ ?_
          simp only [sg_lits, sg_mA, sg_mB, sg_mC, sg_mD, sg_mE, sg_mF, Int32.reduceLT, Int32.reduceLE, forall_eq, true_and, and_true, true_implies, false_implies, not_true_eq_false, not_false_eq_true, implies_true]
          refine b1 _ ?_
          simp (disch := omega) only [c1, sg_m3, sg_m3', sg_m4, sg_m4', sg_m6, sg_m6', sg_m7, sg_m7', sg_m200, sg_m200', nI_add, sg_a1, sg_a2, sg_a3, sg_a4, sg_a5, sg_a6, Int32.add_zero, sg_inT, nI_clamp, sg_lits, sg_mA, sg_mB, sg_mC, sg_mD, sg_mE, sg_mF, Int32.reduceLT, Int32.reduceLE, forall_eq, true_and, and_true, true_implies, false_implies, not_true_eq_false, not_false_eq_true, implies_true]
          exact h
        · simp only [wpY_step]
          refine f2 _ ?_
          simp only [sg_lits, sg_mA, sg_mB, sg_mC, sg_mD, sg_mE, sg_mF, Int32.reduceLT, Int32.reduceLE, forall_eq, true_and, and_true, true_implies, false_implies, not_true_eq_false, not_false_eq_true, implies_true]
          refine b2 _ ?_
          simp (disch := omega) only [show (nI 20 = 20) = True from eq_true c2, sg_m3, sg_m3', sg_m4, sg_m4', sg_m6, sg_m6', sg_m7, sg_m7', sg_m200, sg_m200', nI_add, sg_a1, sg_a2, sg_a3, sg_a4, sg_a5, sg_a6, Int32.add_zero, sg_inT, nI_clamp, sg_lits, sg_mA, sg_mB, sg_mC, sg_mD, sg_mE, sg_mF, Int32.reduceLT, Int32.reduceLE, forall_eq, true_and, and_true, true_implies, false_implies, not_true_eq_false, not_false_eq_true, implies_true]
          exact h
theorem i_vc_step {k : Nat} {u : SX} {v : SY} (I : i_Rel k u v) (hk : k + 5 ≤ 2560) (v1 : Int32) (v2 : Int32) (v3 : Int32) (v4 : Int32) : wpX_step (fun r u' => wpY_step (fun r' v' => r' = r ∧ i_Rel (k + 5) u' v') v v1 v2 v3 v4) u v1 v2 v3 v4 := by
  obtain ⟨r, u', v', h1, h2, h3⟩ := sg_stepC I v1 v2 v3 v4
  exact h1 _ (h2 _ ⟨rfl, h3⟩)
theorem sg_unstep {k : Nat} {u : SX} {v : SY} (I : i_Rel k u v) : ∃ r u' v', (∀ P : Int32 → SX → Prop, P r u' → wpX_unstep P u) ∧ (∀ P : Int32 → SY → Prop, P r v' → wpY_unstep P v) ∧ i_Rel (k + 5) u' v' := by
  have I5 := i_up I
  obtain ⟨t, ht, H, HL⟩ := I
  have HB := sg_busy H
  obtain ⟨xsc, xnow, xjc, xec, xse, xki, xpp, xqq, xrr, xst, xfs, xin, xtb, xaj, xat, xsd, xja, xev, xva, xha, xps, xpa, xpi, xct, xsn, xsv, xtk, xac, xji, xou, xen, xuw, xra, xea, xtj, xte⟩ := u
  obtain ⟨ysc, ynow, yjc, yec, yse, yss, yac, yji, yen, yho, ywh, ytj, yte, yst, ypl, ydn, yas, ywt, yun, yrs, yva, yha, ypa, ypi, yps, yso, ysv, yct⟩ := v
  obtain ⟨sc, jc, ⟨⟨⟨e1, e2, e3, e4⟩, e5, e6, e7, e8, e9, e10, e11, e12, e13, e14, e15, e16⟩, ⟨g1, g2, g3, g4⟩, hset, hprog, hjobs, hjas⟩, hf⟩ := H
  subst e1 e2 e3 e4 e5 e6 e7 e8 e9 e10 e11 e12 e13 e14 e15 e16 g1 g2 g3 g4
  have hsc := hprog.1
  rcases HB with ⟨b1, b2⟩ | ⟨b1, b2, ej, hid⟩
  · refine ⟨-3, _, _, fun P h => ?_, fun P h => ?_, I5⟩
    · simp only [wpX_unstep]
      refine b1 _ ?_
      simp only [sg_lits, sg_mA, sg_mB, sg_mC, sg_mD, sg_mE, sg_mF, Int32.reduceLT, Int32.reduceLE, forall_eq, true_and, and_true, true_implies, false_implies, not_true_eq_false, not_false_eq_true, implies_true]
      exact h
    · simp only [wpY_unstep]
      refine b2 _ ?_
      simp only [sg_lits, sg_mA, sg_mB, sg_mC, sg_mD, sg_mE, sg_mF, Int32.reduceLT, Int32.reduceLE, forall_eq, true_and, and_true, true_implies, false_implies, not_true_eq_false, not_false_eq_true, implies_true]
      exact h
  · by_cases c : sc = 0
    · subst c
      have c1 : (nI 0 = 0) = True := eq_true rfl
      refine ⟨-4, _, _, fun P h => ?_, fun P h => ?_, I5⟩
      · simp only [wpX_unstep]
        refine b1 _ ?_
        simp only [c1, sg_lits, sg_mA, sg_mB, sg_mC, sg_mD, sg_mE, sg_mF, Int32.reduceLT, Int32.reduceLE, forall_eq, true_and, and_true, true_implies, false_implies, not_true_eq_false, not_false_eq_true, implies_true]
        exact h
      · simp only [wpY_unstep]
        refine b2 _ ?_
        simp only [c1, sg_lits, sg_mA, sg_mB, sg_mC, sg_mD, sg_mE, sg_mF, Int32.reduceLT, Int32.reduceLE, forall_eq, true_and, and_true, true_implies, false_implies, not_true_eq_false, not_false_eq_true, implies_true]
        exact h
    · obtain ⟨s, rfl⟩ : ∃ s, sc = s + 1 := ⟨sc - 1, by omega⟩
      refine ⟨nI s, (nI s, nI t, nI jc, nI (sg_cnt xen jc), xse, xki, xpp, xqq, xrr, xst, xfs, xin, xtb, xaj, xat, xsd, xja, xev, xva, xha, xps, xpa, xpi, xct, xsn, xsv, xtk, xac, xji, xou, xen, xuw, xra, xea, xtj, xte), (nI s, nI t, nI jc, nI (sg_cnt xen jc), xse, yss, xac, xji, xen, yho, ywh, xtj, xte, xst, ypl, ydn, yas, ywt, yun, yrs, yva, yha, xpa, xpi, xps, yso, xsv, xct), fun P h => ?_, fun P h => ?_, ⟨t, by omega, ⟨s, jc, ⟨⟨⟨rfl, rfl, rfl, rfl⟩, rfl, rfl, rfl, rfl, rfl, rfl, rfl, rfl, rfl, rfl, rfl, rfl⟩, ⟨rfl, rfl, rfl, rfl⟩, hset, ⟨by omega, fun m hm => hprog.2 m (by omega)⟩, hjobs, hjas⟩, fun m hm => Or.inl (hid m hm)⟩, HL⟩⟩
      · simp only [wpX_unstep]
        refine b1 _ ?_
        simp (disch := omega) only [sg_z0, nI_pred, sg_lits, sg_mA, sg_mB, sg_mC, sg_mD, sg_mE, sg_mF, Int32.reduceLT, Int32.reduceLE, forall_eq, true_and, and_true, true_implies, false_implies, not_true_eq_false, not_false_eq_true, implies_true]
        exact h
      · simp only [wpY_unstep]
        refine b2 _ ?_
        simp (disch := omega) only [sg_z0, nI_pred, sg_lits, sg_mA, sg_mB, sg_mC, sg_mD, sg_mE, sg_mF, Int32.reduceLT, Int32.reduceLE, forall_eq, true_and, and_true, true_implies, false_implies, not_true_eq_false, not_false_eq_true, implies_true]
        exact h
theorem i_vc_unstep {k : Nat} {u : SX} {v : SY} (I : i_Rel k u v) (hk : k + 5 ≤ 2560) : wpX_unstep (fun r u' => wpY_unstep (fun r' v' => r' = r ∧ i_Rel (k + 5) u' v') v) u := by
  obtain ⟨r, u', v', h1, h2, h3⟩ := sg_unstep I
  exact h1 _ (h2 _ ⟨rfl, h3⟩)
