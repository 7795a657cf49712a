section
variable {xsc xnow xjc xec : Int32} {xse xki xpp xqq xrr xst xfs xin xtb xaj xat xsd xja xev xva xha xps xpa xpi xct xsn xsv xtk xac xji xou xen xuw xra xea xtj xte : Nat → Int32} {ysc ynow yjc yec : Int32} {yse yss yac yji yen yho ywh ytj yte yst ypl ydn yas ywt yun yrs yva yha ypa ypi yps yso ysv yct : Nat → Int32} {t jc : Nat}
theorem sg_rdy1 {j : Nat} (hj : j < 90) (h1 : xou j = -1) (h2 : xuw j = 0) (h3 : xra j ≤ nI t) {P : Int32 → Prop} (hp : P 1) : wpX_isReady P (xsc, nI t, xjc, xec, xse, xki, xpp, xqq, xrr, xst, xfs, xin, xtb, xaj, xat, xsd, xja, xev, xva, xha, xps, xpa, xpi, xct, xsn, xsv, xtk, xac, xji, xou, xen, xuw, xra, xea, xtj, xte) (nI j) := by
  have h4 : ¬ nI t < xra j := Int32.not_lt.mpr h3
  simp (disch := omega) only [wpX_isReady, h1, h2, h4, sg_m3, sg_m3', sg_m4, sg_m4', sg_m6, sg_m6', sg_m7, sg_m7', sg_m200, sg_m200', nI_add, sg_a1, sg_a2, sg_a3, sg_a4, sg_a5, sg_a6, Int32.add_zero, sg_inT, nI_clamp, sg_lits, sg_mA, sg_mB, sg_mC, sg_mD, sg_mE, sg_mF, Int32.reduceLT, Int32.reduceLE, forall_eq, true_and, and_true, true_implies, false_implies, not_true_eq_false, not_false_eq_true, implies_true]
  exact hp
theorem sg_rdy0 {j : Nat} {ea ho wh : Int32} (hj : j < 90) (hh : sg_how t (xou j) (xuw j) (xra j) ea ho wh) (h1 : ¬ ho = 1) (hl : ho = 0 → ¬ xra j ≤ nI t) {P : Int32 → Prop} (hp : P 0) : wpX_isReady P (xsc, nI t, xjc, xec, xse, xki, xpp, xqq, xrr, xst, xfs, xin, xtb, xaj, xat, xsd, xja, xev, xva, xha, xps, xpa, xpi, xct, xsn, xsv, xtk, xac, xji, xou, xen, xuw, xra, xea, xtj, xte) (nI j) := by
  rcases hh with ⟨k1, k2, k3, k4⟩ | ⟨k1, k2, k3, k4, k5⟩ | ⟨k1, k2, k3, k4⟩ | ⟨k1, k2, k3⟩ | ⟨k1, k2, k3⟩
  · have h4 : nI t < xra j := Int32.not_le.mp (hl k3)
    simp (disch := omega) only [wpX_isReady, k1, k2, h4, sg_m3, sg_m3', sg_m4, sg_m4', sg_m6, sg_m6', sg_m7, sg_m7', sg_m200, sg_m200', nI_add, sg_a1, sg_a2, sg_a3, sg_a4, sg_a5, sg_a6, Int32.add_zero, sg_inT, nI_clamp, sg_lits, sg_mA, sg_mB, sg_mC, sg_mD, sg_mE, sg_mF, Int32.reduceLT, Int32.reduceLE, forall_eq, true_and, and_true, true_implies, false_implies, not_true_eq_false, not_false_eq_true, implies_true]
    exact hp
  · exact absurd k3 h1
  · simp (disch := omega) only [wpX_isReady, k1, k2, sg_m3, sg_m3', sg_m4, sg_m4', sg_m6, sg_m6', sg_m7, sg_m7', sg_m200, sg_m200', nI_add, sg_a1, sg_a2, sg_a3, sg_a4, sg_a5, sg_a6, Int32.add_zero, sg_inT, nI_clamp, sg_lits, sg_mA, sg_mB, sg_mC, sg_mD, sg_mE, sg_mF, Int32.reduceLT, Int32.reduceLE, forall_eq, true_and, and_true, true_implies, false_implies, not_true_eq_false, not_false_eq_true, implies_true]
    exact hp
  · simp (disch := omega) only [wpX_isReady, k1, k2, sg_m3, sg_m3', sg_m4, sg_m4', sg_m6, sg_m6', sg_m7, sg_m7', sg_m200, sg_m200', nI_add, sg_a1, sg_a2, sg_a3, sg_a4, sg_a5, sg_a6, Int32.add_zero, sg_inT, nI_clamp, sg_lits, sg_mA, sg_mB, sg_mC, sg_mD, sg_mE, sg_mF, Int32.reduceLT, Int32.reduceLE, forall_eq, true_and, and_true, true_implies, false_implies, not_true_eq_false, not_false_eq_true, implies_true]
    exact hp
  · simp (disch := omega) only [wpX_isReady, k1, k2, sg_m3, sg_m3', sg_m4, sg_m4', sg_m6, sg_m6', sg_m7, sg_m7', sg_m200, sg_m200', nI_add, sg_a1, sg_a2, sg_a3, sg_a4, sg_a5, sg_a6, Int32.add_zero, sg_inT, nI_clamp, sg_lits, sg_mA, sg_mB, sg_mC, sg_mD, sg_mE, sg_mF, Int32.reduceLT, Int32.reduceLE, forall_eq, true_and, and_true, true_implies, false_implies, not_true_eq_false, not_false_eq_true, implies_true]
    exact hp
theorem sg_frl {a : Nat} (ha : a < 4) (hc : jc ≤ 90) (hjobs : sg_jobs t jc xse xac xen xou xuw xra xea yho ywh) (hl : ∀ m, m < jc → yho m = 0 → ¬ xra m ≤ nI t) : ∀ (k j N : Nat) (bs : Int32), j + k = jc → k < N → (bs = -1 ∨ ∃ b, b < jc ∧ bs = nI b ∧ xac b = nI a ∧ yho b = 1) → ∃ r, (r = -1 ∨ ∃ b, b < jc ∧ r = nI b ∧ xac b = nI a ∧ yho b = 1) ∧ (∀ P : Int32 → Prop, P r → wX_firstReady_4 P (nI a) xsc (nI t) (nI jc) xec xse xki xpp xqq xrr xst xfs xin xtb xaj xat xsd xja xev xva xha xps xpa xpi xct xsn xsv xtk xac xji xou xen xuw xra xea xtj xte N bs (nI j)) ∧ (∀ P : Int32 → Prop, P r → wY_firstReady_4 P (nI a) xsc (nI t) (nI jc) xec xse yss xac xji xen yho ywh xtj xte xst ypl ydn yas ywt yun yrs yva yha xpa xpi xps yso xsv xct N bs (nI j)) := by
  intro k
  induction k with
  | zero =>
    intro j N bs hj hN hbs
    obtain ⟨N, rfl⟩ : ∃ n, N = n + 1 := ⟨N - 1, by omega⟩
    refine ⟨bs, hbs, fun P h => ?_, fun P h => ?_⟩
    · simp (disch := omega) only [wX_firstReady_4, sg_leT, forall_eq, true_and, and_true, true_implies, false_implies, not_true_eq_false, not_false_eq_true, implies_true]
      exact h
    · simp (disch := omega) only [wY_firstReady_4, sg_leT, forall_eq, true_and, and_true, true_implies, false_implies, not_true_eq_false, not_false_eq_true, implies_true]
      exact h
  | succ k ih =>
    intro j N bs hj hN hbs
    obtain ⟨N, rfl⟩ : ∃ n, N = n + 1 := ⟨N - 1, by omega⟩
    obtain ⟨a', e, ha4, hac, he, hen, hlt, hhow⟩ := hjobs j (by omega)
    by_cases c1 : xac j = nI a
    · by_cases c2 : yho j = 1
      · obtain ⟨k1, k2, k4, k5⟩ : xou j = -1 ∧ xuw j = 0 ∧ ywh j = xra j ∧ xra j ≤ nI t := by
          rcases hhow with ⟨k1, k2, k3, k4⟩ | ⟨k1, k2, k3, k4, k5⟩ | ⟨k1, k2, k3, k4⟩ | ⟨k1, k2, k3⟩ | ⟨k1, k2, k3⟩
          · exact absurd (k3.symm.trans c2) (by decide)
          · exact ⟨k1, k2, k4, k5⟩
          · exact absurd (k3.symm.trans c2) (by decide)
          · exact absurd (k3.symm.trans c2) (by decide)
          · exact absurd (k3.symm.trans c2) (by decide)
        rcases hbs with hbs | ⟨b, hb, hbs, hba, hbh⟩
        · obtain ⟨r, r1, r2, r3⟩ := ih (j + 1) N (nI j) (by omega) (by omega) (Or.inr ⟨j, by omega, rfl, c1, c2⟩)
          refine ⟨r, r1, fun P h => ?_, fun P h => ?_⟩
          · simp (disch := omega) only [wX_firstReady_4, sg_leF, c1, hbs, sg_m3, sg_m3', sg_m4, sg_m4', sg_m6, sg_m6', sg_m7, sg_m7', sg_m200, sg_m200', nI_add, sg_a1, sg_a2, sg_a3, sg_a4, sg_a5, sg_a6, Int32.add_zero, sg_inT, nI_clamp, sg_lits, sg_mA, sg_mB, sg_mC, sg_mD, sg_mE, sg_mF, Int32.reduceLT, Int32.reduceLE, forall_eq, true_and, and_true, true_implies, false_implies, not_true_eq_false, not_false_eq_true, implies_true]
            refine sg_rdy1 (by omega) k1 k2 k5 ?_
            simp only [sg_lits, sg_mA, sg_mB, sg_mC, sg_mD, sg_mE, sg_mF, Int32.reduceLT, Int32.reduceLE, forall_eq, true_and, and_true, true_implies, false_implies, not_true_eq_false, not_false_eq_true, implies_true]
            exact r2 P h
          · simp (disch := omega) only [wY_firstReady_4, wY_firstReady_37, sg_leF, c1, c2, hbs, sg_m3, sg_m3', sg_m4, sg_m4', sg_m6, sg_m6', sg_m7, sg_m7', sg_m200, sg_m200', nI_add, sg_a1, sg_a2, sg_a3, sg_a4, sg_a5, sg_a6, Int32.add_zero, sg_inT, nI_clamp, sg_lits, sg_mA, sg_mB, sg_mC, sg_mD, sg_mE, sg_mF, Int32.reduceLT, Int32.reduceLE, forall_eq, true_and, and_true, true_implies, false_implies, not_true_eq_false, not_false_eq_true, implies_true]
            exact r3 P h
        · obtain ⟨_, _, _, _, _, _, _, bhow⟩ := hjobs b hb
          have bw : ywh b = xra b := by
            rcases bhow with ⟨k1, k2, k3, k4⟩ | ⟨k1, k2, k3, k4, k5⟩ | ⟨k1, k2, k3, k4⟩ | ⟨k1, k2, k3⟩ | ⟨k1, k2, k3⟩
            · exact k4
            · exact k4
            · exact absurd (k3.symm.trans hbh) (by decide)
            · exact absurd (k3.symm.trans hbh) (by decide)
            · exact absurd (k3.symm.trans hbh) (by decide)
          by_cases c3 : xra b ≤ xra j
          · obtain ⟨r, r1, r2, r3⟩ := ih (j + 1) N bs (by omega) (by omega) (Or.inr ⟨b, hb, hbs, hba, hbh⟩)
            rw [hbs] at r2 r3
            refine ⟨r, r1, fun P h => ?_, fun P h => ?_⟩
            · simp (disch := omega) only [wX_firstReady_4, sg_leF, c1, hbs, sg_nm1, c3, sg_m3, sg_m3', sg_m4, sg_m4', sg_m6, sg_m6', sg_m7, sg_m7', sg_m200, sg_m200', nI_add, sg_a1, sg_a2, sg_a3, sg_a4, sg_a5, sg_a6, Int32.add_zero, sg_inT, nI_clamp, sg_lits, sg_mA, sg_mB, sg_mC, sg_mD, sg_mE, sg_mF, Int32.reduceLT, Int32.reduceLE, forall_eq, true_and, and_true, true_implies, false_implies, not_true_eq_false, not_false_eq_true, implies_true]
              refine sg_rdy1 (by omega) k1 k2 k5 ?_
              simp only [sg_lits, sg_mA, sg_mB, sg_mC, sg_mD, sg_mE, sg_mF, Int32.reduceLT, Int32.reduceLE, forall_eq, true_and, and_true, true_implies, false_implies, not_true_eq_false, not_false_eq_true, implies_true]
              exact r2 P h
            · simp (disch := omega) only [wY_firstReady_4, wY_firstReady_37, sg_leF, c1, c2, hbs, sg_neg, bw, k4, c3, sg_m3, sg_m3', sg_m4, sg_m4', sg_m6, sg_m6', sg_m7, sg_m7', sg_m200, sg_m200', nI_add, sg_a1, sg_a2, sg_a3, sg_a4, sg_a5, sg_a6, Int32.add_zero, sg_inT, nI_clamp, sg_lits, sg_mA, sg_mB, sg_mC, sg_mD, sg_mE, sg_mF, Int32.reduceLT, Int32.reduceLE, forall_eq, true_and, and_true, true_implies, false_implies, not_true_eq_false, not_false_eq_true, implies_true]
              exact r3 P h
          · obtain ⟨r, r1, r2, r3⟩ := ih (j + 1) N (nI j) (by omega) (by omega) (Or.inr ⟨j, by omega, rfl, c1, c2⟩)
            refine ⟨r, r1, fun P h => ?_, fun P h => ?_⟩
            · simp (disch := omega) only [wX_firstReady_4, sg_leF, c1, hbs, sg_nm1, c3, sg_m3, sg_m3', sg_m4, sg_m4', sg_m6, sg_m6', sg_m7, sg_m7', sg_m200, sg_m200', nI_add, sg_a1, sg_a2, sg_a3, sg_a4, sg_a5, sg_a6, Int32.add_zero, sg_inT, nI_clamp, sg_lits, sg_mA, sg_mB, sg_mC, sg_mD, sg_mE, sg_mF, Int32.reduceLT, Int32.reduceLE, forall_eq, true_and, and_true, true_implies, false_implies, not_true_eq_false, not_false_eq_true, implies_true]
              refine sg_rdy1 (by omega) k1 k2 k5 ?_
              simp only [sg_lits, sg_mA, sg_mB, sg_mC, sg_mD, sg_mE, sg_mF, Int32.reduceLT, Int32.reduceLE, forall_eq, true_and, and_true, true_implies, false_implies, not_true_eq_false, not_false_eq_true, implies_true]
              exact r2 P h
            · simp (disch := omega) only [wY_firstReady_4, wY_firstReady_37, sg_leF, c1, c2, hbs, sg_neg, bw, k4, c3, sg_m3, sg_m3', sg_m4, sg_m4', sg_m6, sg_m6', sg_m7, sg_m7', sg_m200, sg_m200', nI_add, sg_a1, sg_a2, sg_a3, sg_a4, sg_a5, sg_a6, Int32.add_zero, sg_inT, nI_clamp, sg_lits, sg_mA, sg_mB, sg_mC, sg_mD, sg_mE, sg_mF, Int32.reduceLT, Int32.reduceLE, forall_eq, true_and, and_true, true_implies, false_implies, not_true_eq_false, not_false_eq_true, implies_true]
              exact r3 P h
      · obtain ⟨r, r1, r2, r3⟩ := ih (j + 1) N bs (by omega) (by omega) hbs
        refine ⟨r, r1, fun P h => ?_, fun P h => ?_⟩
        · simp (disch := omega) only [wX_firstReady_4, sg_leF, c1, sg_m3, sg_m3', sg_m4, sg_m4', sg_m6, sg_m6', sg_m7, sg_m7', sg_m200, sg_m200', nI_add, sg_a1, sg_a2, sg_a3, sg_a4, sg_a5, sg_a6, Int32.add_zero, sg_inT, nI_clamp, sg_lits, sg_mA, sg_mB, sg_mC, sg_mD, sg_mE, sg_mF, Int32.reduceLT, Int32.reduceLE, forall_eq, true_and, and_true, true_implies, false_implies, not_true_eq_false, not_false_eq_true, implies_true]
          refine sg_rdy0 (by omega) hhow c2 (hl j (by omega)) ?_
          simp only [sg_lits, sg_mA, sg_mB, sg_mC, sg_mD, sg_mE, sg_mF, Int32.reduceLT, Int32.reduceLE, forall_eq, true_and, and_true, true_implies, false_implies, not_true_eq_false, not_false_eq_true, implies_true]
          exact r2 P h
        · simp (disch := omega) only [wY_firstReady_4, wY_firstReady_37, wY_firstReady_36, sg_leF, c1, c2, sg_m3, sg_m3', sg_m4, sg_m4', sg_m6, sg_m6', sg_m7, sg_m7', sg_m200, sg_m200', nI_add, sg_a1, sg_a2, sg_a3, sg_a4, sg_a5, sg_a6, Int32.add_zero, sg_inT, nI_clamp, sg_lits, sg_mA, sg_mB, sg_mC, sg_mD, sg_mE, sg_mF, Int32.reduceLT, Int32.reduceLE, forall_eq, true_and, and_true, true_implies, false_implies, not_true_eq_false, not_false_eq_true, implies_true]
          exact r3 P h
    · obtain ⟨r, r1, r2, r3⟩ := ih (j + 1) N bs (by omega) (by omega) hbs
      refine ⟨r, r1, fun P h => ?_, fun P h => ?_⟩
      · simp (disch := omega) only [wX_firstReady_4, sg_leF, c1, sg_m3, sg_m3', sg_m4, sg_m4', sg_m6, sg_m6', sg_m7, sg_m7', sg_m200, sg_m200', nI_add, sg_a1, sg_a2, sg_a3, sg_a4, sg_a5, sg_a6, Int32.add_zero, sg_inT, nI_clamp, sg_lits, sg_mA, sg_mB, sg_mC, sg_mD, sg_mE, sg_mF, Int32.reduceLT, Int32.reduceLE, forall_eq, true_and, and_true, true_implies, false_implies, not_true_eq_false, not_false_eq_true, implies_true]
        exact r2 P h
      · simp (disch := omega) only [wY_firstReady_4, wY_firstReady_37, wY_firstReady_36, sg_leF, c1, sg_m3, sg_m3', sg_m4, sg_m4', sg_m6, sg_m6', sg_m7, sg_m7', sg_m200, sg_m200', nI_add, sg_a1, sg_a2, sg_a3, sg_a4, sg_a5, sg_a6, Int32.add_zero, sg_inT, nI_clamp, sg_lits, sg_mA, sg_mB, sg_mC, sg_mD, sg_mE, sg_mF, Int32.reduceLT, Int32.reduceLE, forall_eq, true_and, and_true, true_implies, false_implies, not_true_eq_false, not_false_eq_true, implies_true]
        exact r3 P h
theorem sg_fr {a : Nat} (ha : a < 4) (hc : jc ≤ 90) (hjobs : sg_jobs t jc xse xac xen xou xuw xra xea yho ywh) (hl : ∀ m, m < jc → yho m = 0 → ¬ xra m ≤ nI t) : ∃ r, (r = -1 ∨ ∃ b, b < jc ∧ r = nI b ∧ xac b = nI a ∧ yho b = 1) ∧ (∀ P : Int32 → Prop, P r → wpX_firstReady P (xsc, nI t, nI jc, xec, xse, xki, xpp, xqq, xrr, xst, xfs, xin, xtb, xaj, xat, xsd, xja, xev, xva, xha, xps, xpa, xpi, xct, xsn, xsv, xtk, xac, xji, xou, xen, xuw, xra, xea, xtj, xte) (nI a)) ∧ (∀ P : Int32 → Prop, P r → wpY_firstReady P (xsc, nI t, nI jc, xec, xse, yss, xac, xji, xen, yho, ywh, xtj, xte, xst, ypl, ydn, yas, ywt, yun, yrs, yva, yha, xpa, xpi, xps, yso, xsv, xct) (nI a)) := by
  obtain ⟨r, r1, r2, r3⟩ := sg_frl (xsc := xsc) (xec := xec) (xki := xki) (xpp := xpp) (xqq := xqq) (xrr := xrr) (xst := xst) (xfs := xfs) (xin := xin) (xtb := xtb) (xaj := xaj) (xat := xat) (xsd := xsd) (xja := xja) (xev := xev) (xva := xva) (xha := xha) (xps := xps) (xpa := xpa) (xpi := xpi) (xct := xct) (xsn := xsn) (xsv := xsv) (xtk := xtk) (xji := xji) (xtj := xtj) (xte := xte) (yss := yss) (ypl := ypl) (ydn := ydn) (yas := yas) (ywt := ywt) (yun := yun) (yrs := yrs) (yva := yva) (yha := yha) (yso := yso) ha hc hjobs hl jc 0 (jc + 1) (-1) (by omega) (by omega) (Or.inl rfl)
  exact ⟨r, r1, fun P h => ⟨jc + 1, r2 P h⟩, fun P h => ⟨jc + 1, r3 P h⟩⟩
theorem sg_freel {a : Nat} (ha : a < 4) (hc : jc ≤ 90) (hjobs : sg_jobs t jc xse xac xen xou xuw xra xea yho ywh) : ∀ (k j N : Nat) (ac : Int32), j + k = jc → k < N → ∃ r, (∀ P : Int32 → Prop, P r → wX_freeWorkers_14 P (nI a) xsc (nI t) (nI jc) xec xse xki xpp xqq xrr xst xfs xin xtb xaj xat xsd xja xev xva xha xps xpa xpi xct xsn xsv xtk xac xji xou xen xuw xra xea xtj xte N ac (nI j)) ∧ (∀ P : Int32 → Prop, P r → wY_free_9 P (nI a) xsc (nI t) (nI jc) xec xse yss xac xji xen yho ywh xtj xte xst ypl ydn yas ywt yun yrs yva yha xpa xpi xps yso xsv xct N ac (nI j)) := by
  intro k
  induction k with
  | zero =>
    intro j N ac hj hN
    obtain ⟨N, rfl⟩ : ∃ n, N = n + 1 := ⟨N - 1, by omega⟩
    refine ⟨ac, fun P h => ?_, fun P h => ?_⟩
    · simp (disch := omega) only [wX_freeWorkers_14, sg_leT, forall_eq, true_and, and_true, true_implies, false_implies, not_true_eq_false, not_false_eq_true, implies_true]
      exact h
    · simp (disch := omega) only [wY_free_9, sg_leT, forall_eq, true_and, and_true, true_implies, false_implies, not_true_eq_false, not_false_eq_true, implies_true]
      exact h
  | succ k ih =>
    intro j N ac hj hN
    obtain ⟨N, rfl⟩ : ∃ n, N = n + 1 := ⟨N - 1, by omega⟩
    obtain ⟨a', e, ha4, hac, he, hen, hlt, hhow⟩ := hjobs j (by omega)
    by_cases c1 : xac j = nI a
    · rcases (show (xuw j = 1 ∧ yho j = 2) ∨ (xuw j = 0 ∧ ¬ yho j = 2) by
        rcases hhow with ⟨k1, k2, k3, k4⟩ | ⟨k1, k2, k3, k4, k5⟩ | ⟨k1, k2, k3, k4⟩ | ⟨k1, k2, k3⟩ | ⟨k1, k2, k3⟩
        · exact Or.inr ⟨k2, by rw [k3]; decide⟩
        · exact Or.inr ⟨k2, by rw [k3]; decide⟩
        · exact Or.inl ⟨k2, k3⟩
        · exact Or.inr ⟨k2, by rw [k3]; decide⟩
        · exact Or.inr ⟨k2, by rw [k3]; decide⟩) with ⟨k1, k2⟩ | ⟨k1, k2⟩
      · obtain ⟨r, r2, r3⟩ := ih (j + 1) N (ac + (-1)) (by omega) (by omega)
        refine ⟨r, fun P h => ?_, fun P h => ?_⟩
        · simp (disch := omega) only [wX_freeWorkers_14, sg_leF, c1, k1, sg_m3, sg_m3', sg_m4, sg_m4', sg_m6, sg_m6', sg_m7, sg_m7', sg_m200, sg_m200', nI_add, sg_a1, sg_a2, sg_a3, sg_a4, sg_a5, sg_a6, Int32.add_zero, sg_inT, nI_clamp, sg_lits, sg_mA, sg_mB, sg_mC, sg_mD, sg_mE, sg_mF, Int32.reduceLT, Int32.reduceLE, forall_eq, true_and, and_true, true_implies, false_implies, not_true_eq_false, not_false_eq_true, implies_true]
          exact r2 P h
        · simp (disch := omega) only [wY_free_9, sg_leF, c1, k2, Int32.sub_eq_add_neg, sg_m3, sg_m3', sg_m4, sg_m4', sg_m6, sg_m6', sg_m7, sg_m7', sg_m200, sg_m200', nI_add, sg_a1, sg_a2, sg_a3, sg_a4, sg_a5, sg_a6, Int32.add_zero, sg_inT, nI_clamp, sg_lits, sg_mA, sg_mB, sg_mC, sg_mD, sg_mE, sg_mF, Int32.reduceLT, Int32.reduceLE, forall_eq, true_and, and_true, true_implies, false_implies, not_true_eq_false, not_false_eq_true, implies_true]
          exact r3 P h
      · obtain ⟨r, r2, r3⟩ := ih (j + 1) N ac (by omega) (by omega)
        refine ⟨r, fun P h => ?_, fun P h => ?_⟩
        · simp (disch := omega) only [wX_freeWorkers_14, sg_leF, c1, k1, sg_m3, sg_m3', sg_m4, sg_m4', sg_m6, sg_m6', sg_m7, sg_m7', sg_m200, sg_m200', nI_add, sg_a1, sg_a2, sg_a3, sg_a4, sg_a5, sg_a6, Int32.add_zero, sg_inT, nI_clamp, sg_lits, sg_mA, sg_mB, sg_mC, sg_mD, sg_mE, sg_mF, Int32.reduceLT, Int32.reduceLE, forall_eq, true_and, and_true, true_implies, false_implies, not_true_eq_false, not_false_eq_true, implies_true]
          exact r2 P h
        · simp (disch := omega) only [wY_free_9, sg_leF, c1, k2, sg_m3, sg_m3', sg_m4, sg_m4', sg_m6, sg_m6', sg_m7, sg_m7', sg_m200, sg_m200', nI_add, sg_a1, sg_a2, sg_a3, sg_a4, sg_a5, sg_a6, Int32.add_zero, sg_inT, nI_clamp, sg_lits, sg_mA, sg_mB, sg_mC, sg_mD, sg_mE, sg_mF, Int32.reduceLT, Int32.reduceLE, forall_eq, true_and, and_true, true_implies, false_implies, not_true_eq_false, not_false_eq_true, implies_true]
          exact r3 P h
    · obtain ⟨r, r2, r3⟩ := ih (j + 1) N ac (by omega) (by omega)
      refine ⟨r, fun P h => ?_, fun P h => ?_⟩
      · simp (disch := omega) only [wX_freeWorkers_14, sg_leF, c1, sg_m3, sg_m3', sg_m4, sg_m4', sg_m6, sg_m6', sg_m7, sg_m7', sg_m200, sg_m200', nI_add, sg_a1, sg_a2, sg_a3, sg_a4, sg_a5, sg_a6, Int32.add_zero, sg_inT, nI_clamp, sg_lits, sg_mA, sg_mB, sg_mC, sg_mD, sg_mE, sg_mF, Int32.reduceLT, Int32.reduceLE, forall_eq, true_and, and_true, true_implies, false_implies, not_true_eq_false, not_false_eq_true, implies_true]
        exact r2 P h
      · simp (disch := omega) only [wY_free_9, sg_leF, c1, sg_m3, sg_m3', sg_m4, sg_m4', sg_m6, sg_m6', sg_m7, sg_m7', sg_m200, sg_m200', nI_add, sg_a1, sg_a2, sg_a3, sg_a4, sg_a5, sg_a6, Int32.add_zero, sg_inT, nI_clamp, sg_lits, sg_mA, sg_mB, sg_mC, sg_mD, sg_mE, sg_mF, Int32.reduceLT, Int32.reduceLE, forall_eq, true_and, and_true, true_implies, false_implies, not_true_eq_false, not_false_eq_true, implies_true]
        exact r3 P h
theorem sg_free {a : Nat} (ha : a < 4) (hc : jc ≤ 90) (hjobs : sg_jobs t jc xse xac xen xou xuw xra xea yho ywh) : ∃ r, (∀ P : Int32 → Prop, P r → wpX_freeWorkers P (xsc, nI t, nI jc, xec, xse, xki, xpp, xqq, xrr, xst, xfs, xin, xtb, xaj, xat, xsd, xja, xev, xva, xha, xps, xpa, xpi, xct, xsn, xsv, xtk, xac, xji, xou, xen, xuw, xra, xea, xtj, xte) (nI a)) ∧ (∀ P : Int32 → Prop, P r → wpY_free P (xsc, nI t, nI jc, xec, xse, yss, xac, xji, xen, yho, ywh, xtj, xte, xst, ypl, ydn, yas, ywt, yun, yrs, yva, yha, xpa, xpi, xps, yso, xsv, xct) (nI a)) := by
  obtain ⟨r, r2, r3⟩ := sg_freel (xsc := xsc) (xec := xec) (xki := xki) (xpp := xpp) (xqq := xqq) (xrr := xrr) (xst := xst) (xfs := xfs) (xin := xin) (xtb := xtb) (xaj := xaj) (xat := xat) (xsd := xsd) (xja := xja) (xev := xev) (xva := xva) (xha := xha) (xps := xps) (xpa := xpa) (xpi := xpi) (xct := xct) (xsn := xsn) (xsv := xsv) (xtk := xtk) (xji := xji) (xtj := xtj) (xte := xte) (yss := yss) (ypl := ypl) (ydn := ydn) (yas := yas) (ywt := ywt) (yun := yun) (yrs := yrs) (yva := yva) (yha := yha) (yso := yso) ha hc hjobs jc 0 (jc + 1) (xse (7 * a + 1)) (by omega) (by omega)
  refine ⟨r, fun P h => ?_, fun P h => ?_⟩
  · simp (disch := omega) only [wpX_freeWorkers, sg_m3, sg_m3', sg_m4, sg_m4', sg_m6, sg_m6', sg_m7, sg_m7', sg_m200, sg_m200', nI_add, sg_a1, sg_a2, sg_a3, sg_a4, sg_a5, sg_a6, Int32.add_zero, sg_inT, nI_clamp, forall_eq, true_and, and_true, true_implies, false_implies, not_true_eq_false, not_false_eq_true, implies_true]
    exact ⟨jc + 1, r2 P h⟩
  · simp (disch := omega) only [wpY_free, wpY_setting, sg_m3, sg_m3', sg_m4, sg_m4', sg_m6, sg_m6', sg_m7, sg_m7', sg_m200, sg_m200', nI_add, sg_a1, sg_a2, sg_a3, sg_a4, sg_a5, sg_a6, Int32.add_zero, sg_inT, nI_clamp, forall_eq, true_and, and_true, true_implies, false_implies, not_true_eq_false, not_false_eq_true, implies_true]
    exact ⟨jc + 1, r3 P h⟩
end
