section
variable {xsc xnow xjc xec : Int32} {xse xki xpp xqq xrr xst xfs xin xtb xaj xat xsd xja xev xva xha xps xpa xpi xct xsn xsv xtk xac xji xou xen xuw xra xea xtj xte : Nat → Int32} {ysc ynow yjc yec : Int32} {yse yss yac yji yen yho ywh ytj yte yst ypl ydn yas ywt yun yrs yva yha ypa ypi yps yso ysv yct : Nat → Int32} {t jc : Nat}
theorem sg_loadl {a : Nat} (ha : a < 4) (hc : jc ≤ 90) (hjobs : sg_jobs t jc xse xac xen xou xuw xra xea yho ywh) (hl : ∀ m, m < jc → yho m = 0 → ¬ xra m ≤ nI t) : ∀ (k j N : Nat) (ac : Int32), j + k = jc → k < N → ∃ r, (∀ P : Int32 → Prop, P r → wX_load_15 P (nI a) xsc (nI t) (nI jc) xec xse xki xpp xqq xrr xst xfs xin xtb xaj xat xsd xja xev xva xha xps xpa xpi xct xsn xsv xtk xac xji xou xen xuw xra xea xtj xte N ac (nI j)) ∧ (∀ P : Int32 → Prop, P r → wY_load_16 P (nI a) xsc (nI t) (nI jc) xec xse yss xac xji xen yho ywh xtj xte xst ypl ydn yas ywt yun yrs yva yha xpa xpi xps yso xsv xct N ac (nI j)) := by
  intro k
  induction k with
  | zero =>
    intro j N ac hj hN
    obtain ⟨N, rfl⟩ : ∃ n, N = n + 1 := ⟨N - 1, by omega⟩
    refine ⟨ac, fun P h => ?_, fun P h => ?_⟩
    · simp (disch := omega) only [wX_load_15, sg_leT, forall_eq, true_and, and_true, true_implies, false_implies, not_true_eq_false, not_false_eq_true, implies_true]
      exact h
    · simp (disch := omega) only [wY_load_16, sg_leT, forall_eq, true_and, and_true, true_implies, false_implies, not_true_eq_false, not_false_eq_true, implies_true]
      exact h
  | succ k ih =>
    intro j N ac hj hN
    obtain ⟨N, rfl⟩ : ∃ n, N = n + 1 := ⟨N - 1, by omega⟩
    obtain ⟨a', e, ha4, hac, he, hen, hlt, hhow⟩ := hjobs j (by omega)
    by_cases c1 : xac j = nI a
    · by_cases c2 : yho j = 2
      · have k1 : xuw j = 1 := by
          rcases hhow with ⟨k1, k2, k3, k4⟩ | ⟨k1, k2, k3, k4, k5⟩ | ⟨k1, k2, k3, k4⟩ | ⟨k1, k2, k3⟩ | ⟨k1, k2, k3⟩
          · exact absurd (k3.symm.trans c2) (by decide)
          · exact absurd (k3.symm.trans c2) (by decide)
          · exact k2
          · exact absurd (k3.symm.trans c2) (by decide)
          · exact absurd (k3.symm.trans c2) (by decide)
        obtain ⟨r, r2, r3⟩ := ih (j + 1) N (ac + 1) (by omega) (by omega)
        refine ⟨r, fun P h => ?_, fun P h => ?_⟩
        · simp (disch := omega) only [wX_load_15, sg_leF, c1, k1, sg_m3, sg_m3', sg_m4, sg_m4', sg_m6, sg_m6', sg_m7, sg_m7', sg_m200, sg_m200', nI_add, sg_a1, sg_a2, sg_a3, sg_a4, sg_a5, sg_a6, Int32.add_zero, sg_inT, nI_clamp, sg_lits, sg_mA, sg_mB, sg_mC, sg_mD, sg_mE, sg_mF, Int32.reduceLT, Int32.reduceLE, forall_eq, true_and, and_true, true_implies, false_implies, not_true_eq_false, not_false_eq_true, implies_true]
          exact r2 P h
        · simp (disch := omega) only [wY_load_16, sg_leF, c1, c2, sg_m3, sg_m3', sg_m4, sg_m4', sg_m6, sg_m6', sg_m7, sg_m7', sg_m200, sg_m200', nI_add, sg_a1, sg_a2, sg_a3, sg_a4, sg_a5, sg_a6, Int32.add_zero, sg_inT, nI_clamp, sg_lits, sg_mA, sg_mB, sg_mC, sg_mD, sg_mE, sg_mF, Int32.reduceLT, Int32.reduceLE, forall_eq, true_and, and_true, true_implies, false_implies, not_true_eq_false, not_false_eq_true, implies_true]
          exact r3 P h
      · have k1 : xuw j = 0 := by
          rcases hhow with ⟨k1, k2, k3, k4⟩ | ⟨k1, k2, k3, k4, k5⟩ | ⟨k1, k2, k3, k4⟩ | ⟨k1, k2, k3⟩ | ⟨k1, k2, k3⟩
          · exact k2
          · exact k2
          · exact absurd k3 c2
          · exact k2
          · exact k2
        by_cases c3 : yho j = 1
        · obtain ⟨k2, k5⟩ : xou j = -1 ∧ xra j ≤ nI t := by
            rcases hhow with ⟨k1, k2, k3, k4⟩ | ⟨k1, k2, k3, k4, k5⟩ | ⟨k1, k2, k3, k4⟩ | ⟨k1, k2, k3⟩ | ⟨k1, k2, k3⟩
            · exact absurd (k3.symm.trans c3) (by decide)
            · exact ⟨k1, k5⟩
            · exact absurd (k3.symm.trans c3) (by decide)
            · exact absurd (k3.symm.trans c3) (by decide)
            · exact absurd (k3.symm.trans c3) (by decide)
          obtain ⟨r, r2, r3⟩ := ih (j + 1) N (ac + 1) (by omega) (by omega)
          refine ⟨r, fun P h => ?_, fun P h => ?_⟩
          · simp (disch := omega) only [wX_load_15, sg_leF, c1, k1, sg_m3, sg_m3', sg_m4, sg_m4', sg_m6, sg_m6', sg_m7, sg_m7', sg_m200, sg_m200', nI_add, sg_a1, sg_a2, sg_a3, sg_a4, sg_a5, sg_a6, Int32.add_zero, sg_inT, nI_clamp, sg_lits, sg_mA, sg_mB, sg_mC, sg_mD, sg_mE, sg_mF, Int32.reduceLT, Int32.reduceLE, forall_eq, true_and, and_true, true_implies, false_implies, not_true_eq_false, not_false_eq_true, implies_true]
            refine sg_rdy1 (by omega) k2 k1 k5 ?_
            simp only [sg_lits, sg_mA, sg_mB, sg_mC, sg_mD, sg_mE, sg_mF, Int32.reduceLT, Int32.reduceLE, forall_eq, true_and, and_true, true_implies, false_implies, not_true_eq_false, not_false_eq_true, implies_true]
            exact r2 P h
          · simp (disch := omega) only [wY_load_16, sg_leF, c1, c3, sg_m3, sg_m3', sg_m4, sg_m4', sg_m6, sg_m6', sg_m7, sg_m7', sg_m200, sg_m200', nI_add, sg_a1, sg_a2, sg_a3, sg_a4, sg_a5, sg_a6, Int32.add_zero, sg_inT, nI_clamp, sg_lits, sg_mA, sg_mB, sg_mC, sg_mD, sg_mE, sg_mF, Int32.reduceLT, Int32.reduceLE, forall_eq, true_and, and_true, true_implies, false_implies, not_true_eq_false, not_false_eq_true, implies_true]
            exact r3 P h
        · obtain ⟨r, r2, r3⟩ := ih (j + 1) N ac (by omega) (by omega)
          refine ⟨r, fun P h => ?_, fun P h => ?_⟩
          · simp (disch := omega) only [wX_load_15, sg_leF, c1, k1, sg_m3, sg_m3', sg_m4, sg_m4', sg_m6, sg_m6', sg_m7, sg_m7', sg_m200, sg_m200', nI_add, sg_a1, sg_a2, sg_a3, sg_a4, sg_a5, sg_a6, Int32.add_zero, sg_inT, nI_clamp, sg_lits, sg_mA, sg_mB, sg_mC, sg_mD, sg_mE, sg_mF, Int32.reduceLT, Int32.reduceLE, forall_eq, true_and, and_true, true_implies, false_implies, not_true_eq_false, not_false_eq_true, implies_true]
            refine sg_rdy0 (by omega) hhow c3 (hl j (by omega)) ?_
            simp only [sg_lits, sg_mA, sg_mB, sg_mC, sg_mD, sg_mE, sg_mF, Int32.reduceLT, Int32.reduceLE, forall_eq, true_and, and_true, true_implies, false_implies, not_true_eq_false, not_false_eq_true, implies_true]
            exact r2 P h
          · simp (disch := omega) only [wY_load_16, sg_leF, c1, c2, c3, sg_m3, sg_m3', sg_m4, sg_m4', sg_m6, sg_m6', sg_m7, sg_m7', sg_m200, sg_m200', nI_add, sg_a1, sg_a2, sg_a3, sg_a4, sg_a5, sg_a6, Int32.add_zero, sg_inT, nI_clamp, sg_lits, sg_mA, sg_mB, sg_mC, sg_mD, sg_mE, sg_mF, Int32.reduceLT, Int32.reduceLE, forall_eq, true_and, and_true, true_implies, false_implies, not_true_eq_false, not_false_eq_true, implies_true]
            exact r3 P h
    · obtain ⟨r, r2, r3⟩ := ih (j + 1) N ac (by omega) (by omega)
      refine ⟨r, fun P h => ?_, fun P h => ?_⟩
      · simp (disch := omega) only [wX_load_15, sg_leF, c1, sg_m3, sg_m3', sg_m4, sg_m4', sg_m6, sg_m6', sg_m7, sg_m7', sg_m200, sg_m200', nI_add, sg_a1, sg_a2, sg_a3, sg_a4, sg_a5, sg_a6, Int32.add_zero, sg_inT, nI_clamp, sg_lits, sg_mA, sg_mB, sg_mC, sg_mD, sg_mE, sg_mF, Int32.reduceLT, Int32.reduceLE, forall_eq, true_and, and_true, true_implies, false_implies, not_true_eq_false, not_false_eq_true, implies_true]
        exact r2 P h
      · simp (disch := omega) only [wY_load_16, sg_leF, c1, sg_m3, sg_m3', sg_m4, sg_m4', sg_m6, sg_m6', sg_m7, sg_m7', sg_m200, sg_m200', nI_add, sg_a1, sg_a2, sg_a3, sg_a4, sg_a5, sg_a6, Int32.add_zero, sg_inT, nI_clamp, sg_lits, sg_mA, sg_mB, sg_mC, sg_mD, sg_mE, sg_mF, Int32.reduceLT, Int32.reduceLE, forall_eq, true_and, and_true, true_implies, false_implies, not_true_eq_false, not_false_eq_true, implies_true]
        exact r3 P h
theorem sg_sigl {i n : Nat} (hi : i < 3) (hn : n ≤ 6) (hct : xct i = nI n) (H : ∀ m, m < n → (xsn (6 * i + m) = 0 ∨ xsn (6 * i + m) = 1) ∧ ((xtk (6 * i + m) = 0 ∧ yso (6 * i + m) = xsn (6 * i + m)) ∨ (xtk (6 * i + m) = 1 ∧ yso (6 * i + m) = -1))) : ∀ (k m N : Nat) (ac : Int32), m + k = n → k < N → ∃ r, (∀ P : Int32 → Prop, P r → wX_signals_13 P (nI i) xsc xnow xjc xec xse xki xpp xqq xrr xst xfs xin xtb xaj xat xsd xja xev xva xha xps xpa xpi xct xsn xsv xtk xac xji xou xen xuw xra xea xtj xte N ac (nI m)) ∧ (∀ P : Int32 → Prop, P r → wY_signals_4 P (nI i) xsc xnow xjc xec xse yss xac xji xen yho ywh xtj xte xst ypl ydn yas ywt yun yrs yva yha xpa xpi xps yso xsv xct N ac (nI m)) := by
  have b3 : vp_in (nI i) 3 := vp_in_nI hi (by omega)
  have ci : (nI i).toNatClampNeg = i := nI_clamp (by omega)
  have h2 := sg_2n (a := i) (by omega)
  intro k
  induction k with
  | zero =>
    intro m N ac hm hN
    obtain ⟨N, rfl⟩ : ∃ n, N = n + 1 := ⟨N - 1, by omega⟩
    refine ⟨ac, fun P h => ?_, fun P h => ?_⟩
    · simp (disch := omega) only [wX_signals_13, ci, b3, hct, sg_leT, forall_eq, true_and, and_true, true_implies, false_implies, not_true_eq_false, not_false_eq_true, implies_true]
      exact h
    · simp (disch := omega) only [wY_signals_4, wpY_isIn, sg_neg, h2, ci, b3, hct, sg_leT, sg_lits, sg_mA, sg_mB, sg_mC, sg_mD, sg_mE, sg_mF, Int32.reduceLT, Int32.reduceLE, forall_eq, true_and, and_true, true_implies, false_implies, not_true_eq_false, not_false_eq_true, implies_true]
      exact h
  | succ k ih =>
    intro m N ac hm hN
    obtain ⟨N, rfl⟩ : ∃ n, N = n + 1 := ⟨N - 1, by omega⟩
    obtain ⟨h4, h5⟩ := H m (by omega)
    rcases h5 with ⟨h5, h6⟩ | ⟨h5, h6⟩
    · obtain ⟨r, r2, r3⟩ := ih (m + 1) N (ac + 1) (by omega) (by omega)
      refine ⟨r, fun P h => ?_, fun P h => ?_⟩
      · simp (disch := omega) only [wX_signals_13, ci, b3, hct, sg_leF, h5, sg_m3, sg_m3', sg_m4, sg_m4', sg_m6, sg_m6', sg_m7, sg_m7', sg_m200, sg_m200', nI_add, sg_a1, sg_a2, sg_a3, sg_a4, sg_a5, sg_a6, Int32.add_zero, sg_inT, nI_clamp, sg_lits, sg_mA, sg_mB, sg_mC, sg_mD, sg_mE, sg_mF, Int32.reduceLT, Int32.reduceLE, forall_eq, true_and, and_true, true_implies, false_implies, not_true_eq_false, not_false_eq_true, implies_true]
        exact r2 P h
      · rcases h4 with h4 | h4
        · simp (disch := omega) only [wY_signals_4, wpY_isIn, sg_neg, h2, ci, b3, hct, sg_leF, h6, h4, sg_m3, sg_m3', sg_m4, sg_m4', sg_m6, sg_m6', sg_m7, sg_m7', sg_m200, sg_m200', nI_add, sg_a1, sg_a2, sg_a3, sg_a4, sg_a5, sg_a6, Int32.add_zero, sg_inT, nI_clamp, sg_lits, sg_mA, sg_mB, sg_mC, sg_mD, sg_mE, sg_mF, Int32.reduceLT, Int32.reduceLE, forall_eq, true_and, and_true, true_implies, false_implies, not_true_eq_false, not_false_eq_true, implies_true]
          exact r3 P h
        · simp (disch := omega) only [wY_signals_4, wpY_isIn, sg_neg, h2, ci, b3, hct, sg_leF, h6, h4, sg_m3, sg_m3', sg_m4, sg_m4', sg_m6, sg_m6', sg_m7, sg_m7', sg_m200, sg_m200', nI_add, sg_a1, sg_a2, sg_a3, sg_a4, sg_a5, sg_a6, Int32.add_zero, sg_inT, nI_clamp, sg_lits, sg_mA, sg_mB, sg_mC, sg_mD, sg_mE, sg_mF, Int32.reduceLT, Int32.reduceLE, forall_eq, true_and, and_true, true_implies, false_implies, not_true_eq_false, not_false_eq_true, implies_true]
          exact r3 P h
    · obtain ⟨r, r2, r3⟩ := ih (m + 1) N ac (by omega) (by omega)
      refine ⟨r, fun P h => ?_, fun P h => ?_⟩
      · simp (disch := omega) only [wX_signals_13, ci, b3, hct, sg_leF, h5, sg_m3, sg_m3', sg_m4, sg_m4', sg_m6, sg_m6', sg_m7, sg_m7', sg_m200, sg_m200', nI_add, sg_a1, sg_a2, sg_a3, sg_a4, sg_a5, sg_a6, Int32.add_zero, sg_inT, nI_clamp, sg_lits, sg_mA, sg_mB, sg_mC, sg_mD, sg_mE, sg_mF, Int32.reduceLT, Int32.reduceLE, forall_eq, true_and, and_true, true_implies, false_implies, not_true_eq_false, not_false_eq_true, implies_true]
        exact r2 P h
      · simp (disch := omega) only [wY_signals_4, wpY_isIn, sg_neg, h2, ci, b3, hct, sg_leF, h6, sg_m3, sg_m3', sg_m4, sg_m4', sg_m6, sg_m6', sg_m7, sg_m7', sg_m200, sg_m200', nI_add, sg_a1, sg_a2, sg_a3, sg_a4, sg_a5, sg_a6, Int32.add_zero, sg_inT, nI_clamp, sg_lits, sg_mA, sg_mB, sg_mC, sg_mD, sg_mE, sg_mF, Int32.reduceLT, Int32.reduceLE, forall_eq, true_and, and_true, true_implies, false_implies, not_true_eq_false, not_false_eq_true, implies_true]
        exact r3 P h
end
theorem i_vc_load {k : Nat} {u : SX} {v : SY} (I : i_Rel k u v) (hk : k + 5 ≤ 2560) (v1 : Int32) : wpX_load (fun r => wpY_load (fun r' => r' = r ∧ i_Rel (k + 5) u v) v v1) u v1 := by
  have I5 := i_up I
  obtain ⟨t, ht, H, HL⟩ := I
  obtain ⟨xsc, xnow, xjc, xec, xse, xki, xpp, xqq, xrr, xst, xfs, xin, xtb, xaj, xat, xsd, xja, xev, xva, xha, xps, xpa, xpi, xct, xsn, xsv, xtk, xac, xji, xou, xen, xuw, xra, xea, xtj, xte⟩ := u
  obtain ⟨ysc, ynow, yjc, yec, yse, yss, yac, yji, yen, yho, ywh, ytj, yte, yst, ypl, ydn, yas, ywt, yun, yrs, yva, yha, ypa, ypi, yps, yso, ysv, yct⟩ := v
  obtain ⟨sc, jc, ⟨⟨⟨e1, e2, e3, e4⟩, e5, e6, e7, e8, e9, e10, e11, e12, e13, e14, e15, e16⟩, ⟨g1, g2, g3, g4⟩, hset, hprog, hjobs, hjas⟩, hf⟩ := H
  have hjc := sg_jas_le hjas
  subst e1 e2 e3 e4 e5 e6 e7 e8 e9 e10 e11 e12 e13 e14 e15 e16 g1 g2 g3 g4
  rcases sg_rng v1 3 (by decide) with h0 | ⟨h0, h2⟩ | ⟨a, ha, rfl⟩
  · simp only [wpX_load, wpX_isIn, wpY_load, wpY_isIn, h0, forall_eq, true_and, and_true, true_implies, false_implies, not_true_eq_false, not_false_eq_true, implies_true]
    exact I5
  · have h2 : (3 : Int32) < v1 := h2
    simp only [wpX_load, wpX_isIn, wpY_load, wpY_isIn, h0, h2, forall_eq, true_and, and_true, true_implies, false_implies, not_true_eq_false, not_false_eq_true, implies_true]
    exact I5
  · have h3 := sg_3n (a := a) (by omega)
    have e : (nI jc).toNatClampNeg = jc := nI_clamp (by omega)
    have hl : ∀ m, m < jc → yho m = 0 → ¬ xra m ≤ nI t := fun m hm => HL m (Nat.lt_of_lt_of_eq hm e.symm)
    obtain ⟨r, r2, r3⟩ := sg_loadl (xsc := nI sc) (xec := nI (sg_cnt xen jc)) (xki := xki) (xpp := xpp) (xqq := xqq) (xrr := xrr) (xst := xst) (xfs := xfs) (xin := xin) (xtb := xtb) (xaj := xaj) (xat := xat) (xsd := xsd) (xja := xja) (xev := xev) (xva := xva) (xha := xha) (xps := xps) (xpa := xpa) (xpi := xpi) (xct := xct) (xsn := xsn) (xsv := xsv) (xtk := xtk) (xji := xji) (xtj := xtj) (xte := xte) (yss := yss) (ypl := ypl) (ydn := ydn) (yas := yas) (ywt := ywt) (yun := yun) (yrs := yrs) (yva := yva) (yha := yha) (yso := yso) (a := a) (by omega) hjc hjobs hl jc 0 (jc + 1) 0 (by omega) (by omega)
    simp (disch := omega) only [wpX_load, wpX_isIn, sg_neg, h3, sg_lits, sg_mA, sg_mB, sg_mC, sg_mD, sg_mE, sg_mF, Int32.reduceLT, Int32.reduceLE, forall_eq, true_and, and_true, true_implies, false_implies, not_true_eq_false, not_false_eq_true, implies_true]
    refine ⟨jc + 1, r2 _ ?_⟩
    simp (disch := omega) only [wpY_load, wpY_isIn, sg_neg, h3, sg_lits, sg_mA, sg_mB, sg_mC, sg_mD, sg_mE, sg_mF, Int32.reduceLT, Int32.reduceLE, forall_eq, true_and, and_true, true_implies, false_implies, not_true_eq_false, not_false_eq_true, implies_true]
    exact ⟨jc + 1, r3 _ ⟨rfl, I5⟩⟩
theorem i_vc_signals {k : Nat} {u : SX} {v : SY} (I : i_Rel k u v) (hk : k + 5 ≤ 2560) (v1 : Int32) : wpX_signals (fun r => wpY_signals (fun r' => r' = r ∧ i_Rel (k + 5) u v) v v1) u v1 := by
  have I5 := i_up I
  obtain ⟨t, ht, H, HL⟩ := I
  obtain ⟨xsc, xnow, xjc, xec, xse, xki, xpp, xqq, xrr, xst, xfs, xin, xtb, xaj, xat, xsd, xja, xev, xva, xha, xps, xpa, xpi, xct, xsn, xsv, xtk, xac, xji, xou, xen, xuw, xra, xea, xtj, xte⟩ := u
  obtain ⟨ysc, ynow, yjc, yec, yse, yss, yac, yji, yen, yho, ywh, ytj, yte, yst, ypl, ydn, yas, ywt, yun, yrs, yva, yha, ypa, ypi, yps, yso, ysv, yct⟩ := v
  obtain ⟨sc, jc, ⟨⟨⟨e1, e2, e3, e4⟩, e5, e6, e7, e8, e9, e10, e11, e12, e13, e14, e15, e16⟩, ⟨g1, g2, g3, g4⟩, hset, hprog, hjobs, hjas⟩, hf⟩ := H
  have hjc := sg_jas_le hjas
  subst e1 e2 e3 e4 e5 e6 e7 e8 e9 e10 e11 e12 e13 e14 e15 e16 g1 g2 g3 g4
  rcases sg_rng v1 2 (by decide) with h0 | ⟨h0, h2⟩ | ⟨i, hi, rfl⟩
  · simp only [wpX_signals, wpX_isWorkflow, wpX_isIn, wpY_signals, h0, sg_n0, forall_eq, true_and, and_true, true_implies, false_implies, not_true_eq_false, not_false_eq_true, implies_true]
    refine ⟨1, ?_⟩
    simp only [wY_signals_4, wpY_isIn, h0, forall_eq, true_and, and_true, true_implies, false_implies, not_true_eq_false, not_false_eq_true, implies_true]
    exact I5
  · have h2 : (2 : Int32) < v1 := h2
    simp only [wpX_signals, wpX_isWorkflow, wpX_isIn, wpY_signals, h0, h2, sg_n0, forall_eq, true_and, and_true, true_implies, false_implies, not_true_eq_false, not_false_eq_true, implies_true]
    refine ⟨1, ?_⟩
    simp only [wY_signals_4, wpY_isIn, h0, h2, forall_eq, true_and, and_true, true_implies, false_implies, not_true_eq_false, not_false_eq_true, implies_true]
    exact I5
  · have h2 := sg_2n hi
    obtain ⟨n, hn, hct, hsig⟩ : sg_sig i xct xsn xtk yso := by
      rcases hf i (by omega) with h | ⟨d, hb, h⟩
      · exact ⟨0, by omega, h.2.2.2.2.2.2.2.2.1, fun m hm => absurd hm (by omega)⟩
      · exact hb.2.2.2.2
    obtain ⟨r, r2, r3⟩ := sg_sigl (xsc := nI sc) (xnow := nI t) (xjc := nI jc) (xec := nI (sg_cnt xen jc)) (xse := xse) (xki := xki) (xpp := xpp) (xqq := xqq) (xrr := xrr) (xst := xst) (xfs := xfs) (xin := xin) (xtb := xtb) (xaj := xaj) (xat := xat) (xsd := xsd) (xja := xja) (xev := xev) (xva := xva) (xha := xha) (xps := xps) (xpa := xpa) (xpi := xpi) (xsv := xsv) (xac := xac) (xji := xji) (xou := xou) (xen := xen) (xuw := xuw) (xra := xra) (xea := xea) (xtj := xtj) (xte := xte) (yss := yss) (yho := yho) (ywh := ywh) (ypl := ypl) (ydn := ydn) (yas := yas) (ywt := ywt) (yun := yun) (yrs := yrs) (yva := yva) (yha := yha) (i := i) (by omega) hn hct hsig n 0 (n + 1) 0 (by omega) (by omega)
    simp (disch := omega) only [wpX_signals, wpX_isWorkflow, wpX_isIn, sg_neg, h2, sg_n1, sg_lits, sg_mA, sg_mB, sg_mC, sg_mD, sg_mE, sg_mF, Int32.reduceLT, Int32.reduceLE, forall_eq, true_and, and_true, true_implies, false_implies, not_true_eq_false, not_false_eq_true, implies_true]
    refine ⟨n + 1, r2 _ ?_⟩
    exact ⟨n + 1, r3 _ ⟨rfl, I5⟩⟩
/-! reset -/
def sg_r3 (f : Nat → Int32) (c : Int32) : Nat → Int32 := upd (upd (upd f 0 c) 1 c) 2 c
theorem sg_r3_at {f : Nat → Int32} {c : Int32} {m : Nat} (hm : m < 3) : sg_r3 f c m = c := by
  unfold sg_r3
  obtain rfl | rfl | rfl : m = 0 ∨ m = 1 ∨ m = 2 := by omega
  · rw [pk_un (by omega), pk_un (by omega), pk_us]
  · rw [pk_un (by omega), pk_us]
  · rw [pk_us]
section
variable {xsc xnow xjc xec : Int32} {xse xki xpp xqq xrr xst xfs xin xtb xaj xat xsd xja xev xva xha xps xpa xpi xct xsn xsv xtk xac xji xou xen xuw xra xea xtj xte : Nat → Int32} {ysc ynow yjc yec : Int32} {yse yss yac yji yen yho ywh ytj yte yst ypl ydn yas ywt yun yrs yva yha ypa ypi yps yso ysv yct : Nat → Int32}
theorem sg_fgh : ∀ (k n N : Nat) (xha : Nat → Int32), n + k = 9 → k < N → (∀ m, m < n → xha m = -1) → ∃ zha : Nat → Int32, (∀ m, m < 9 → zha m = -1) ∧ ∀ post : SX → Prop, post (xsc, xnow, xjc, xec, xse, xki, xpp, xqq, xrr, xst, xfs, xin, xtb, xaj, xat, xsd, xja, xev, xva, zha, xps, xpa, xpi, xct, xsn, xsv, xtk, xac, xji, xou, xen, xuw, xra, xea, xtj, xte) → wX_forgetRuns_128 post xsc xnow xjc xec N (nI n) xse xki xpp xqq xrr xst xfs xin xtb xaj xat xsd xja xev xva xha xps xpa xpi xct xsn xsv xtk xac xji xou xen xuw xra xea xtj xte := by
  intro k
  induction k with
  | zero =>
    intro n N xha hn hN h
    obtain ⟨N, rfl⟩ : ∃ n, N = n + 1 := ⟨N - 1, by omega⟩
    have h9 : (9 : Int32) ≤ nI n := nI_le (a := 9) (by omega) (by omega)
    refine ⟨xha, fun m hm => h m (by omega), fun post hp => ?_⟩
    simp only [wX_forgetRuns_128, h9, forall_eq, true_and, and_true, true_implies, false_implies, not_true_eq_false, not_false_eq_true, implies_true]
    exact hp
  | succ k ih =>
    intro n N xha hn hN h
    obtain ⟨N, rfl⟩ : ∃ n, N = n + 1 := ⟨N - 1, by omega⟩
    have h9 : ¬ (9 : Int32) ≤ nI n := nI_ge (b := 9) (by omega) (by omega)
    obtain ⟨zha, z1, z2⟩ := ih (n + 1) N (upd xha n (-1)) (by omega) (by omega) (fun m hm => by
      by_cases c : m = n
      · subst c; exact pk_us
      · rw [pk_un c]; exact h m (by omega))
    refine ⟨zha, z1, fun post hp => ?_⟩
    simp (disch := omega) only [wX_forgetRuns_128, h9, sg_m3, sg_m3', sg_m4, sg_m4', sg_m6, sg_m6', sg_m7, sg_m7', sg_m200, sg_m200', nI_add, sg_a1, sg_a2, sg_a3, sg_a4, sg_a5, sg_a6, Int32.add_zero, sg_inT, nI_clamp, forall_eq, true_and, and_true, true_implies, false_implies, not_true_eq_false, not_false_eq_true, implies_true]
    exact z2 post hp
theorem sg_fgv : ∀ (k n N : Nat) (xva : Nat → Int32), n + k = 12 → k < N → (∀ m, m < n → xva m = 0) → ∃ zva : Nat → Int32, (∀ m, m < 12 → zva m = 0) ∧ ∀ post : SX → Prop, (∃ n, wX_forgetRuns_128 post xsc xnow xjc xec n 0 xse xki xpp xqq xrr xst xfs xin xtb xaj xat xsd xja xev zva xha xps xpa xpi xct xsn xsv xtk xac xji xou xen xuw xra xea xtj xte) → wX_forgetRuns_107 post xsc xnow xjc xec N (nI n) xse xki xpp xqq xrr xst xfs xin xtb xaj xat xsd xja xev xva xha xps xpa xpi xct xsn xsv xtk xac xji xou xen xuw xra xea xtj xte := by
  intro k
  induction k with
  | zero =>
    intro n N xva hn hN h
    obtain ⟨N, rfl⟩ : ∃ n, N = n + 1 := ⟨N - 1, by omega⟩
    have h9 : (12 : Int32) ≤ nI n := nI_le (a := 12) (by omega) (by omega)
    refine ⟨xva, fun m hm => h m (by omega), fun post hp => ?_⟩
    simp only [wX_forgetRuns_107, h9, forall_eq, true_and, and_true, true_implies, false_implies, not_true_eq_false, not_false_eq_true, implies_true]
    exact hp
  | succ k ih =>
    intro n N xva hn hN h
    obtain ⟨N, rfl⟩ : ∃ n, N = n + 1 := ⟨N - 1, by omega⟩
    have h9 : ¬ (12 : Int32) ≤ nI n := nI_ge (b := 12) (by omega) (by omega)
    obtain ⟨zva, z1, z2⟩ := ih (n + 1) N (upd xva n 0) (by omega) (by omega) (fun m hm => by
      by_cases c : m = n
      · subst c; exact pk_us
      · rw [pk_un c]; exact h m (by omega))
    refine ⟨zva, z1, fun post hp => ?_⟩
    simp (disch := omega) only [wX_forgetRuns_107, h9, sg_m3, sg_m3', sg_m4, sg_m4', sg_m6, sg_m6', sg_m7, sg_m7', sg_m200, sg_m200', nI_add, sg_a1, sg_a2, sg_a3, sg_a4, sg_a5, sg_a6, Int32.add_zero, sg_inT, nI_clamp, forall_eq, true_and, and_true, true_implies, false_implies, not_true_eq_false, not_false_eq_true, implies_true]
    exact z2 post hp
theorem sg_v03 : vp_in (0 : Int32) 3 ∧ vp_in (1 : Int32) 3 ∧ vp_in (2 : Int32) 3 := ⟨vp_in_nI (n := 0) (by omega) (by omega), vp_in_nI (n := 1) (by omega) (by omega), vp_in_nI (n := 2) (by omega) (by omega)⟩
theorem sg_c03 : (0 : Int32).toNatClampNeg = 0 ∧ (1 : Int32).toNatClampNeg = 1 ∧ (2 : Int32).toNatClampNeg = 2 := ⟨nI_clamp (n := 0) (by omega), nI_clamp (n := 1) (by omega), nI_clamp (n := 2) (by omega)⟩
theorem sg_forget : ∃ zva zha : Nat → Int32, (∀ m, m < 12 → zva m = 0) ∧ (∀ m, m < 9 → zha m = -1) ∧ ∀ post : SX → Prop, post (xsc, 0, 0, 0, xse, xki, xpp, xqq, xrr, sg_r3 xst 0, sg_r3 xfs 0, sg_r3 xin 0, sg_r3 xtb 0, sg_r3 xaj (-1), sg_r3 xat 0, sg_r3 xsd 0, sg_r3 xja 0, sg_r3 xev 0, zva, zha, sg_r3 xps 0, xpa, xpi, sg_r3 xct 0, xsn, xsv, xtk, xac, xji, xou, xen, xuw, xra, xea, xtj, xte) → wpX_forgetRuns post (xsc, xnow, xjc, xec, xse, xki, xpp, xqq, xrr, xst, xfs, xin, xtb, xaj, xat, xsd, xja, xev, xva, xha, xps, xpa, xpi, xct, xsn, xsv, xtk, xac, xji, xou, xen, xuw, xra, xea, xtj, xte) := by
  obtain ⟨zva, a1, a2⟩ := sg_fgv (xsc := xsc) (xnow := 0) (xjc := 0) (xec := 0) (xse := xse) (xki := xki) (xpp := xpp) (xqq := xqq) (xrr := xrr) (xst := sg_r3 xst 0) (xfs := sg_r3 xfs 0) (xin := sg_r3 xin 0) (xtb := sg_r3 xtb 0) (xaj := sg_r3 xaj (-1)) (xat := sg_r3 xat 0) (xsd := sg_r3 xsd 0) (xja := sg_r3 xja 0) (xev := sg_r3 xev 0) (xha := xha) (xps := sg_r3 xps 0) (xpa := xpa) (xpi := xpi) (xct := sg_r3 xct 0) (xsn := xsn) (xsv := xsv) (xtk := xtk) (xac := xac) (xji := xji) (xou := xou) (xen := xen) (xuw := xuw) (xra := xra) (xea := xea) (xtj := xtj) (xte := xte) 12 0 13 xva (by omega) (by omega) (fun m hm => absurd hm (by omega))
  obtain ⟨zha, b1, b2⟩ := sg_fgh (xsc := xsc) (xnow := 0) (xjc := 0) (xec := 0) (xse := xse) (xki := xki) (xpp := xpp) (xqq := xqq) (xrr := xrr) (xst := sg_r3 xst 0) (xfs := sg_r3 xfs 0) (xin := sg_r3 xin 0) (xtb := sg_r3 xtb 0) (xaj := sg_r3 xaj (-1)) (xat := sg_r3 xat 0) (xsd := sg_r3 xsd 0) (xja := sg_r3 xja 0) (xev := sg_r3 xev 0) (xva := zva) (xps := sg_r3 xps 0) (xpa := xpa) (xpi := xpi) (xct := sg_r3 xct 0) (xsn := xsn) (xsv := xsv) (xtk := xtk) (xac := xac) (xji := xji) (xou := xou) (xen := xen) (xuw := xuw) (xra := xra) (xea := xea) (xtj := xtj) (xte := xte) 9 0 10 xha (by omega) (by omega) (fun m hm => absurd hm (by omega))
  refine ⟨zva, zha, a1, b1, fun post h => ?_⟩
  have z := a2 post ⟨10, b2 post h⟩
  refine ⟨4, ?_⟩
  simp only [wX_forgetRuns_17, sg_adds, sg_v03, sg_c03, sg_b0, sg_lits, sg_mA, sg_mB, sg_mC, sg_mD, sg_mE, sg_mF, Int32.reduceLT, Int32.reduceLE, forall_eq, true_and, and_true, true_implies, false_implies, not_true_eq_false, not_false_eq_true, implies_true]
  exact ⟨13, z⟩
/-- what both sides are after a reset is related -/
theorem sg_R0 {sc : Nat} {zva zha : Nat → Int32} (hset : sg_set xse) (hprog : sg_prog sc xki xpp xqq xrr yss) (hv : ∀ m, m < 12 → zva m = 0) (hh : ∀ m, m < 9 → zha m = -1) : sg_R 0 (nI sc, 0, 0, 0, xse, xki, xpp, xqq, xrr, sg_r3 xst 0, sg_r3 xfs 0, sg_r3 xin 0, sg_r3 xtb 0, sg_r3 xaj (-1), sg_r3 xat 0, sg_r3 xsd 0, sg_r3 xja 0, sg_r3 xev 0, zva, zha, sg_r3 xps 0, xpa, xpi, sg_r3 xct 0, xsn, xsv, xtk, xac, xji, xou, xen, xuw, xra, xea, xtj, xte) (nI sc, 0, 0, 0, xse, yss, xac, xji, xen, yho, ywh, xtj, xte, sg_r3 xst 0, ypl, ydn, yas, ywt, yun, yrs, yva, yha, xpa, xpi, sg_r3 xps 0, yso, xsv, sg_r3 xct 0) := by
  refine ⟨sc, 0, ⟨⟨⟨rfl, rfl, rfl, rfl⟩, rfl, rfl, rfl, rfl, rfl, rfl, rfl, rfl, rfl, rfl, rfl, rfl⟩, ⟨rfl, rfl, rfl, rfl⟩, hset, hprog, fun j hj => absurd hj (by omega), ⟨fun m hm => ⟨0, by omega, sg_r3_at hm⟩, ?_⟩⟩, fun m hm => Or.inl ⟨sg_r3_at hm, sg_r3_at hm, sg_r3_at hm, sg_r3_at hm, sg_r3_at hm, sg_r3_at hm, sg_r3_at hm, sg_r3_at hm, sg_r3_at hm, fun w hw => hv _ (by omega), fun w hw => hh _ (by omega)⟩⟩
  rw [sg_r3_at (by omega), sg_r3_at (by omega), sg_r3_at (by omega)]
  rfl
end
theorem i_vc_reset {k : Nat} {u : SX} {v : SY} (I : i_Rel k u v) (hk : k + 5 ≤ 2560) : wpX_reset (fun u' => wpY_reset (fun v' => i_Rel (k + 5) u' v') v) u := by
  obtain ⟨t, ht, H, HL⟩ := I
  obtain ⟨xsc, xnow, xjc, xec, xse, xki, xpp, xqq, xrr, xst, xfs, xin, xtb, xaj, xat, xsd, xja, xev, xva, xha, xps, xpa, xpi, xct, xsn, xsv, xtk, xac, xji, xou, xen, xuw, xra, xea, xtj, xte⟩ := u
  obtain ⟨ysc, ynow, yjc, yec, yse, yss, yac, yji, yen, yho, ywh, ytj, yte, yst, ypl, ydn, yas, ywt, yun, yrs, yva, yha, ypa, ypi, yps, yso, ysv, yct⟩ := v
  obtain ⟨sc, jc, ⟨⟨⟨e1, e2, e3, e4⟩, e5, e6, e7, e8, e9, e10, e11, e12, e13, e14, e15, e16⟩, ⟨g1, g2, g3, g4⟩, hset, hprog, hjobs, hjas⟩, hf⟩ := H
  subst e1 e2 e3 e4 e5 e6 e7 e8 e9 e10 e11 e12 e13 e14 e15 e16 g1 g2 g3 g4
  obtain ⟨zva, zha, a1, a2, a3⟩ := sg_forget (xsc := nI sc) (xnow := nI t) (xjc := nI jc) (xec := nI (sg_cnt xen jc)) (xse := xse) (xki := xki) (xpp := xpp) (xqq := xqq) (xrr := xrr) (xst := xst) (xfs := xfs) (xin := xin) (xtb := xtb) (xaj := xaj) (xat := xat) (xsd := xsd) (xja := xja) (xev := xev) (xva := xva) (xha := xha) (xps := xps) (xpa := xpa) (xpi := xpi) (xct := xct) (xsn := xsn) (xsv := xsv) (xtk := xtk) (xac := xac) (xji := xji) (xou := xou) (xen := xen) (xuw := xuw) (xra := xra) (xea := xea) (xtj := xtj) (xte := xte)
  refine a3 _ ⟨4, ?_⟩
  simp only [wY_reset_17, sg_adds, sg_v03, sg_c03, sg_lits, sg_mA, sg_mB, sg_mC, sg_mD, sg_mE, sg_mF, Int32.reduceLT, Int32.reduceLE, forall_eq, true_and, and_true, true_implies, false_implies, not_true_eq_false, not_false_eq_true, implies_true]
  refine ⟨0, by omega, sg_R0 hset hprog a1 a2, fun m hm => ?_⟩
  exact absurd hm (Nat.not_lt_zero m)
