def sg_XE (n : Nat) (x : Int32) (P : SX → Prop) (u : SX) : Prop := match u with
  | (xsc, xnow, xjc, xec, xse, xki, xpp, xqq, xrr, xst, xfs, xin, xtb, xaj, xat, xsd, xja, xev, xva, xha, xps, xpa, xpi, xct, xsn, xsv, xtk, xac, xji, xou, xen, xuw, xra, xea, xtj, xte) => wX_endDueAttempts_2 P n x xsc xnow xjc xec xse xki xpp xqq xrr xst xfs xin xtb xaj xat xsd xja xev xva xha xps xpa xpi xct xsn xsv xtk xac xji xou xen xuw xra xea xtj xte
def sg_YE (n : Nat) (x : Int32) (P : SY → Prop) (v : SY) : Prop := match v with
  | (ysc, ynow, yjc, yec, yse, yss, yac, yji, yen, yho, ywh, ytj, yte, yst, ypl, ydn, yas, ywt, yun, yrs, yva, yha, ypa, ypi, yps, yso, ysv, yct) => wY_endAttempts_2 P ysc ynow yjc n x yec yse yss yac yji yen yho ywh ytj yte yst ypl ydn yas ywt yun yrs yva yha ypa ypi yps yso ysv yct
def sg_J (jc : Nat) (u : SX) (v : SY) : Prop := match u with
  | (xsc, xnow, xjc, xec, xse, xki, xpp, xqq, xrr, xst, xfs, xin, xtb, xaj, xat, xsd, xja, xev, xva, xha, xps, xpa, xpi, xct, xsn, xsv, xtk, xac, xji, xou, xen, xuw, xra, xea, xtj, xte) => match v with
    | (ysc, ynow, yjc, yec, yse, yss, yac, yji, yen, yho, ywh, ytj, yte, yst, ypl, ydn, yas, ywt, yun, yrs, yva, yha, ypa, ypi, yps, yso, ysv, yct) => xjc = nI jc ∧ yjc = nI jc
theorem sg_endone {t jc j : Nat} {u : SX} {v : SY} (H : sg_R t u v) (hJ : sg_J jc u v) (hc9 : jc < 2 ^ 31) (hj : j < jc) : ∃ u1 v1, (∀ (n : Nat) (P : SX → Prop), sg_XE n (nI (j + 1)) P u1 → sg_XE (n + 1) (nI j) P u) ∧ (∀ (n : Nat) (P : SY → Prop), sg_YE n (nI (j + 1)) P v1 → sg_YE (n + 1) (nI j) P v) ∧ sg_R t u1 v1 ∧ sg_J jc u1 v1 := by
  have H0 := H
  have J0 := hJ
  obtain ⟨xsc, xnow, xjc, xec, xse, xki, xpp, xqq, xrr, xst, xfs, xin, xtb, xaj, xat, xsd, xja, xev, xva, xha, xps, xpa, xpi, xct, xsn, xsv, xtk, xac, xji, xou, xen, xuw, xra, xea, xtj, xte⟩ := u
  obtain ⟨ysc, ynow, yjc, yec, yse, yss, yac, yji, yen, yho, ywh, ytj, yte, yst, ypl, ydn, yas, ywt, yun, yrs, yva, yha, ypa, ypi, yps, yso, ysv, yct⟩ := v
  obtain ⟨sc, jc', ⟨⟨⟨e1, e2, e3, e4⟩, e5, e6, e7, e8, e9, e10, e11, e12, e13, e14, e15, e16⟩, ⟨g1, g2, g3, g4⟩, hset, hprog, hjobs, hjas⟩, hf⟩ := H
  have hle := sg_jas_le hjas
  have ejc : jc = jc' := (nI_eq hc9 (by omega)).mp (hJ.1.symm.trans g3)
  subst ejc
  subst e1 e2 e3 e4 e5 e6 e7 e8 e9 e10 e11 e12 e13 e14 e15 e16 g1 g2 g3 g4
  obtain ⟨a, e, ha4, hac, he, hen, hlt, hhow⟩ := hjobs j hj
  obtain ⟨w, y, dl, fl, _, ⟨y1, y2, hy⟩, ⟨d1, hdl⟩, ⟨f1, hfl⟩⟩ := hset a ha4
  have skip : ¬ (xuw j = 1 ∧ xea j = nI t) → (xuw j = 0 ∨ xuw j = 1) → (yho j = 2 ∧ ywh j = nI t ↔ xuw j = 1 ∧ xea j = nI t) → ∃ u1 v1, (∀ (n : Nat) (P : SX → Prop), sg_XE n (nI (j + 1)) P u1 → sg_XE (n + 1) (nI j) P (nI sc, nI t, nI jc, nI (sg_cnt xen jc), xse, xki, xpp, xqq, xrr, xst, xfs, xin, xtb, xaj, xat, xsd, xja, xev, xva, xha, xps, xpa, xpi, xct, xsn, xsv, xtk, xac, xji, xou, xen, xuw, xra, xea, xtj, xte)) ∧ (∀ (n : Nat) (P : SY → Prop), sg_YE n (nI (j + 1)) P v1 → sg_YE (n + 1) (nI j) P (nI sc, nI t, nI jc, nI (sg_cnt xen jc), xse, yss, xac, xji, xen, yho, ywh, xtj, xte, xst, ypl, ydn, yas, ywt, yun, yrs, yva, yha, xpa, xpi, xps, yso, xsv, xct)) ∧ sg_R t u1 v1 ∧ sg_J jc u1 v1 := fun k1 k0 k2 => by
    refine ⟨_, _, fun n P h => ?_, fun n P h => ?_, H0, J0⟩
    · rcases k0 with k0 | k0
      · simp (disch := omega) only [sg_XE, wX_endDueAttempts_2, sg_leF, k0, sg_m3, sg_m3', sg_m4, sg_m4', sg_m6, sg_m6', sg_m7, sg_m7', sg_m200, sg_m200', nI_add, sg_a1, sg_a2, sg_a3, sg_a4, sg_a5, sg_a6, Int32.add_zero, sg_inT, nI_clamp, sg_lits, sg_mA, sg_mB, sg_mC, sg_mD, sg_mE, sg_mF, Int32.reduceLT, Int32.reduceLE, forall_eq, true_and, and_true, true_implies, false_implies, not_true_eq_false, not_false_eq_true, implies_true]
        exact h
      · have k3 : ¬ xea j = nI t := fun z => k1 ⟨k0, z⟩
        simp (disch := omega) only [sg_XE, wX_endDueAttempts_2, sg_leF, k0, k3, sg_m3, sg_m3', sg_m4, sg_m4', sg_m6, sg_m6', sg_m7, sg_m7', sg_m200, sg_m200', nI_add, sg_a1, sg_a2, sg_a3, sg_a4, sg_a5, sg_a6, Int32.add_zero, sg_inT, nI_clamp, sg_lits, sg_mA, sg_mB, sg_mC, sg_mD, sg_mE, sg_mF, Int32.reduceLT, Int32.reduceLE, forall_eq, true_and, and_true, true_implies, false_implies, not_true_eq_false, not_false_eq_true, implies_true]
        exact h
    · by_cases k4 : yho j = 2
      · have k3 : ¬ ywh j = nI t := fun z => k1 (k2.mp ⟨k4, z⟩)
        simp (disch := omega) only [sg_YE, wY_endAttempts_2, sg_leF, k4, k3, sg_m3, sg_m3', sg_m4, sg_m4', sg_m6, sg_m6', sg_m7, sg_m7', sg_m200, sg_m200', nI_add, sg_a1, sg_a2, sg_a3, sg_a4, sg_a5, sg_a6, Int32.add_zero, sg_inT, nI_clamp, sg_lits, sg_mA, sg_mB, sg_mC, sg_mD, sg_mE, sg_mF, Int32.reduceLT, Int32.reduceLE, forall_eq, true_and, and_true, true_implies, false_implies, not_true_eq_false, not_false_eq_true, implies_true]
        exact h
      · simp (disch := omega) only [sg_YE, wY_endAttempts_2, sg_leF, k4, sg_m3, sg_m3', sg_m4, sg_m4', sg_m6, sg_m6', sg_m7, sg_m7', sg_m200, sg_m200', nI_add, sg_a1, sg_a2, sg_a3, sg_a4, sg_a5, sg_a6, Int32.add_zero, sg_inT, nI_clamp, sg_lits, sg_mA, sg_mB, sg_mC, sg_mD, sg_mE, sg_mF, Int32.reduceLT, Int32.reduceLE, forall_eq, true_and, and_true, true_implies, false_implies, not_true_eq_false, not_false_eq_true, implies_true]
        exact h
  have c21 : ¬ (0 : Int32) = 2 := by decide
  have c22 : ¬ (1 : Int32) = 2 := by decide
  have c23 : ¬ (3 : Int32) = 2 := by decide
  have c24 : ¬ (4 : Int32) = 2 := by decide
  have c01 : ¬ (0 : Int32) = 1 := by decide
  rcases hhow with ⟨h1, h2, h3, h4⟩ | ⟨h1, h2, h3, h4, h5⟩ | ⟨h1, h2, h3, h4⟩ | ⟨h1, h2, h3⟩ | ⟨h1, h2, h3⟩
  · exact skip (by rw [h2]; exact fun z => c01 z.1) (Or.inl h2) (by rw [h2, h3]; exact ⟨fun z => absurd z.1 c21, fun z => absurd z.1 c01⟩)
  · exact skip (by rw [h2]; exact fun z => c01 z.1) (Or.inl h2) (by rw [h2, h3]; exact ⟨fun z => absurd z.1 c22, fun z => absurd z.1 c01⟩)
  · by_cases hea : xea j = nI t
    · have hwh : ywh j = nI t := h4.trans hea
      have hey : e < y := by
        have z := hlt h1
        rw [hy] at z
        exact (nI_ltI (by omega) (by omega)).mp z
      have hec := sg_cnt_lt xen jc j e hj hen (by omega) (sg_jobs_en hjobs)
      have hinc := sg_cnt_inc xen j e hen (by omega) jc hj
      have gec : nI (sg_cnt xen jc + 1) = nI (sg_cnt (upd xen j (nI (e + 1))) jc) := by rw [hinc]
      by_cases c1 : e + 1 ≤ fl
      · by_cases c2 : e + 1 < y
        · obtain ⟨rr, hrX⟩ : ∃ rr, nI t + (nI dl <<< ((nI (e + 1) - 1) &&& 31)) = rr := ⟨_, rfl⟩
          have hrY : nI t + nI dl * ((1 : Int32) <<< ((nI (e + 1) - 1) &&& 31)) = rr := by rw [← sg_shift dl (by omega) e (by omega)]; exact hrX
          refine ⟨(nI sc, nI t, nI jc, nI (sg_cnt xen jc + 1), xse, xki, xpp, xqq, xrr, xst, xfs, xin, xtb, xaj, xat, xsd, xja, xev, xva, xha, xps, xpa, xpi, xct, xsn, xsv, xtk, xac, xji, xou, upd xen j (nI (e + 1)), upd xuw j 0, upd xra j rr, xea, upd xtj (sg_cnt xen jc) (nI j), upd xte (sg_cnt xen jc) (nI t)), (nI sc, nI t, nI jc, nI (sg_cnt xen jc + 1), xse, yss, xac, xji, upd xen j (nI (e + 1)), upd yho j 0, upd ywh j rr, upd xtj (sg_cnt xen jc) (nI j), upd xte (sg_cnt xen jc) (nI t), xst, ypl, ydn, yas, ywt, yun, yrs, yva, yha, xpa, xpi, xps, yso, xsv, xct), fun n P h => ?_, fun n P h => ?_, ⟨sc, jc, ⟨⟨⟨rfl, rfl, rfl, rfl⟩, rfl, rfl, rfl, rfl, rfl, rfl, rfl, rfl, rfl, rfl, rfl, rfl⟩, ⟨rfl, rfl, rfl, gec⟩, hset, hprog, sg_jobs_upd (j := j) hjobs (fun m hm => ⟨pk_un hm, rfl, pk_un hm, pk_un hm, rfl, pk_un hm, pk_un hm⟩) (fun a' e' q1 q2 q3 q4 q5 => ?_), hjas⟩, hf⟩, ⟨rfl, rfl⟩⟩
          · simp (disch := omega) only [sg_XE, wX_endDueAttempts_2, wpX_endAttempt, sg_leF, sg_leT, sg_ltT, h2, hea, hac, hen, hfl, hy, hdl, hrX, pk_us, sg_b0, sg_m3, sg_m3', sg_m4, sg_m4', sg_m6, sg_m6', sg_m7, sg_m7', sg_m200, sg_m200', nI_add, sg_a1, sg_a2, sg_a3, sg_a4, sg_a5, sg_a6, Int32.add_zero, sg_inT, nI_clamp, sg_lits, sg_mA, sg_mB, sg_mC, sg_mD, sg_mE, sg_mF, Int32.reduceLT, Int32.reduceLE, forall_eq, true_and, and_true, true_implies, false_implies, not_true_eq_false, not_false_eq_true, implies_true]
            exact h
          · simp (disch := omega) only [sg_YE, wY_endAttempts_2, wY_endAttempts_105, wY_endAttempts_136, wpY_setting, sg_leF, sg_leT, sg_eqF, h3, hwh, hac, hen, hfl, hy, hdl, hrY, pk_us, sg_m3, sg_m3', sg_m4, sg_m4', sg_m6, sg_m6', sg_m7, sg_m7', sg_m200, sg_m200', nI_add, sg_a1, sg_a2, sg_a3, sg_a4, sg_a5, sg_a6, Int32.add_zero, sg_inT, nI_clamp, sg_lits, sg_mA, sg_mB, sg_mC, sg_mD, sg_mE, sg_mF, Int32.reduceLT, Int32.reduceLE, forall_eq, true_and, and_true, true_implies, false_implies, not_true_eq_false, not_false_eq_true, implies_true]
            exact h
          · have ea : a' = a := (nI_eq (by omega) (by omega)).mp (q2.symm.trans hac)
            subst ea
            refine ⟨e + 1, by omega, pk_us, fun _ => ?_, Or.inl ⟨h1, pk_us, pk_us, by rw [pk_us, pk_us]⟩⟩
            rw [hy]
            exact nI_lt c2 (by omega)
        · have ey : y = e + 1 := by omega
          subst ey
          refine ⟨(nI sc, nI t, nI jc, nI (sg_cnt xen jc + 1), xse, xki, xpp, xqq, xrr, xst, xfs, xin, xtb, xaj, xat, xsd, xja, xev, xva, xha, xps, xpa, xpi, xct, xsn, xsv, xtk, xac, xji, upd xou j 0, upd xen j (nI (e + 1)), upd xuw j 0, xra, xea, upd xtj (sg_cnt xen jc) (nI j), upd xte (sg_cnt xen jc) (nI t)), (nI sc, nI t, nI jc, nI (sg_cnt xen jc + 1), xse, yss, xac, xji, upd xen j (nI (e + 1)), upd yho j 4, upd ywh j (nI t), upd xtj (sg_cnt xen jc) (nI j), upd xte (sg_cnt xen jc) (nI t), xst, ypl, ydn, yas, ywt, yun, yrs, yva, yha, xpa, xpi, xps, yso, xsv, xct), fun n P h => ?_, fun n P h => ?_, ⟨sc, jc, ⟨⟨⟨rfl, rfl, rfl, rfl⟩, rfl, rfl, rfl, rfl, rfl, rfl, rfl, rfl, rfl, rfl, rfl, rfl⟩, ⟨rfl, rfl, rfl, gec⟩, hset, hprog, sg_jobs_upd (j := j) hjobs (fun m hm => ⟨pk_un hm, pk_un hm, pk_un hm, rfl, rfl, pk_un hm, pk_un hm⟩) (fun a' e' q1 q2 q3 q4 q5 => ⟨e + 1, by omega, pk_us, fun z => absurd (pk_us.symm.trans z) (by decide), Or.inr (Or.inr (Or.inr (Or.inr ⟨pk_us, pk_us, pk_us⟩)))⟩), hjas⟩, hf⟩, ⟨rfl, rfl⟩⟩
          · simp (disch := omega) only [sg_XE, wX_endDueAttempts_2, wpX_endAttempt, sg_leF, sg_leT, sg_ltF, h2, hea, hac, hen, hfl, hy, pk_us, sg_b0, sg_m3, sg_m3', sg_m4, sg_m4', sg_m6, sg_m6', sg_m7, sg_m7', sg_m200, sg_m200', nI_add, sg_a1, sg_a2, sg_a3, sg_a4, sg_a5, sg_a6, Int32.add_zero, sg_inT, nI_clamp, sg_lits, sg_mA, sg_mB, sg_mC, sg_mD, sg_mE, sg_mF, Int32.reduceLT, Int32.reduceLE, forall_eq, true_and, and_true, true_implies, false_implies, not_true_eq_false, not_false_eq_true, implies_true]
            exact h
          · simp (disch := omega) only [sg_YE, wY_endAttempts_2, wY_endAttempts_105, wY_endAttempts_136, wpY_setting, sg_leF, sg_leT, h3, hwh, hac, hen, hfl, hy, pk_us, sg_m3, sg_m3', sg_m4, sg_m4', sg_m6, sg_m6', sg_m7, sg_m7', sg_m200, sg_m200', nI_add, sg_a1, sg_a2, sg_a3, sg_a4, sg_a5, sg_a6, Int32.add_zero, sg_inT, nI_clamp, sg_lits, sg_mA, sg_mB, sg_mC, sg_mD, sg_mE, sg_mF, Int32.reduceLT, Int32.reduceLE, forall_eq, true_and, and_true, true_implies, false_implies, not_true_eq_false, not_false_eq_true, implies_true]
            exact h
      · refine ⟨(nI sc, nI t, nI jc, nI (sg_cnt xen jc + 1), xse, xki, xpp, xqq, xrr, xst, xfs, xin, xtb, xaj, xat, xsd, xja, xev, xva, xha, xps, xpa, xpi, xct, xsn, xsv, xtk, xac, xji, upd xou j 1, upd xen j (nI (e + 1)), upd xuw j 0, xra, xea, upd xtj (sg_cnt xen jc) (nI j), upd xte (sg_cnt xen jc) (nI t)), (nI sc, nI t, nI jc, nI (sg_cnt xen jc + 1), xse, yss, xac, xji, upd xen j (nI (e + 1)), upd yho j 3, upd ywh j (nI t), upd xtj (sg_cnt xen jc) (nI j), upd xte (sg_cnt xen jc) (nI t), xst, ypl, ydn, yas, ywt, yun, yrs, yva, yha, xpa, xpi, xps, yso, xsv, xct), fun n P h => ?_, fun n P h => ?_, ⟨sc, jc, ⟨⟨⟨rfl, rfl, rfl, rfl⟩, rfl, rfl, rfl, rfl, rfl, rfl, rfl, rfl, rfl, rfl, rfl, rfl⟩, ⟨rfl, rfl, rfl, gec⟩, hset, hprog, sg_jobs_upd (j := j) hjobs (fun m hm => ⟨pk_un hm, pk_un hm, pk_un hm, rfl, rfl, pk_un hm, pk_un hm⟩) (fun a' e' q1 q2 q3 q4 q5 => ⟨e + 1, by omega, pk_us, fun z => absurd (pk_us.symm.trans z) (by decide), Or.inr (Or.inr (Or.inr (Or.inl ⟨pk_us, pk_us, pk_us⟩)))⟩), hjas⟩, hf⟩, ⟨rfl, rfl⟩⟩
        · simp (disch := omega) only [sg_XE, wX_endDueAttempts_2, wpX_endAttempt, sg_leF, h2, hea, hac, hen, hfl, pk_us, sg_b0, sg_m3, sg_m3', sg_m4, sg_m4', sg_m6, sg_m6', sg_m7, sg_m7', sg_m200, sg_m200', nI_add, sg_a1, sg_a2, sg_a3, sg_a4, sg_a5, sg_a6, Int32.add_zero, sg_inT, nI_clamp, sg_lits, sg_mA, sg_mB, sg_mC, sg_mD, sg_mE, sg_mF, Int32.reduceLT, Int32.reduceLE, forall_eq, true_and, and_true, true_implies, false_implies, not_true_eq_false, not_false_eq_true, implies_true]
          exact h
        · simp (disch := omega) only [sg_YE, wY_endAttempts_2, wY_endAttempts_105, wY_endAttempts_136, wpY_setting, sg_leF, h3, hwh, hac, hen, hfl, pk_us, sg_m3, sg_m3', sg_m4, sg_m4', sg_m6, sg_m6', sg_m7, sg_m7', sg_m200, sg_m200', nI_add, sg_a1, sg_a2, sg_a3, sg_a4, sg_a5, sg_a6, Int32.add_zero, sg_inT, nI_clamp, sg_lits, sg_mA, sg_mB, sg_mC, sg_mD, sg_mE, sg_mF, Int32.reduceLT, Int32.reduceLE, forall_eq, true_and, and_true, true_implies, false_implies, not_true_eq_false, not_false_eq_true, implies_true]
          exact h
    · exact skip (fun z => hea z.2) (Or.inr h2) ⟨fun z => absurd (h4.symm.trans z.2) hea, fun z => absurd z.2 hea⟩
  · exact skip (by rw [h2]; exact fun z => c01 z.1) (Or.inl h2) (by rw [h2, h3]; exact ⟨fun z => absurd z.1 c23, fun z => absurd z.1 c01⟩)
  · exact skip (by rw [h2]; exact fun z => c01 z.1) (Or.inl h2) (by rw [h2, h3]; exact ⟨fun z => absurd z.1 c24, fun z => absurd z.1 c01⟩)
theorem sg_endl {t jc : Nat} (hc9 : jc < 2 ^ 31) : ∀ (k j : Nat) (u : SX) (v : SY), j + k = jc → sg_R t u v → sg_J jc u v → ∃ u1 v1, (∀ P : SX → Prop, P u1 → sg_XE (k + 1) (nI j) P u) ∧ (∀ P : SY → Prop, P v1 → sg_YE (k + 1) (nI j) P v) ∧ sg_R t u1 v1 := by
  intro k
  induction k with
  | zero =>
    intro j u v hj H hJ
    refine ⟨u, v, fun P h => ?_, fun P h => ?_, H⟩
    · obtain ⟨xsc, xnow, xjc, xec, xse, xki, xpp, xqq, xrr, xst, xfs, xin, xtb, xaj, xat, xsd, xja, xev, xva, xha, xps, xpa, xpi, xct, xsn, xsv, xtk, xac, xji, xou, xen, xuw, xra, xea, xtj, xte⟩ := u
      obtain ⟨ysc, ynow, yjc, yec, yse, yss, yac, yji, yen, yho, ywh, ytj, yte, yst, ypl, ydn, yas, ywt, yun, yrs, yva, yha, ypa, ypi, yps, yso, ysv, yct⟩ := v
      have e1 : xjc = nI jc := hJ.1
      subst e1
      simp (disch := omega) only [sg_XE, wX_endDueAttempts_2, sg_leT, forall_eq, true_and, and_true, true_implies, false_implies, not_true_eq_false, not_false_eq_true, implies_true]
      exact h
    · obtain ⟨xsc, xnow, xjc, xec, xse, xki, xpp, xqq, xrr, xst, xfs, xin, xtb, xaj, xat, xsd, xja, xev, xva, xha, xps, xpa, xpi, xct, xsn, xsv, xtk, xac, xji, xou, xen, xuw, xra, xea, xtj, xte⟩ := u
      obtain ⟨ysc, ynow, yjc, yec, yse, yss, yac, yji, yen, yho, ywh, ytj, yte, yst, ypl, ydn, yas, ywt, yun, yrs, yva, yha, ypa, ypi, yps, yso, ysv, yct⟩ := v
      have e1 : yjc = nI jc := hJ.2
      subst e1
      simp (disch := omega) only [sg_YE, wY_endAttempts_2, sg_leT, forall_eq, true_and, and_true, true_implies, false_implies, not_true_eq_false, not_false_eq_true, implies_true]
      exact h
  | succ k ih =>
    intro j u v hj H hJ
    obtain ⟨u1, v1, a1, a2, a3, a4⟩ := sg_endone (j := j) H hJ hc9 (by omega)
    obtain ⟨u2, v2, b1, b2, b3⟩ := ih (j + 1) u1 v1 (by omega) a3 a4
    exact ⟨u2, v2, fun P h => a1 _ P (b1 P h), fun P h => a2 _ P (b2 P h), b3⟩
theorem sg_ends {t : Nat} {u : SX} {v : SY} (H : sg_R t u v) : ∃ u1 v1, (∀ P : SX → Prop, P u1 → wpX_endDueAttempts P u) ∧ (∀ P : SY → Prop, P v1 → wpY_endAttempts P v) ∧ sg_R t u1 v1 := by
  have hJ : ∃ jc, jc < 2 ^ 31 ∧ sg_J jc u v := by
    obtain ⟨xsc, xnow, xjc, xec, xse, xki, xpp, xqq, xrr, xst, xfs, xin, xtb, xaj, xat, xsd, xja, xev, xva, xha, xps, xpa, xpi, xct, xsn, xsv, xtk, xac, xji, xou, xen, xuw, xra, xea, xtj, xte⟩ := u
    obtain ⟨ysc, ynow, yjc, yec, yse, yss, yac, yji, yen, yho, ywh, ytj, yte, yst, ypl, ydn, yas, ywt, yun, yrs, yva, yha, ypa, ypi, yps, yso, ysv, yct⟩ := v
    obtain ⟨sc, jc, ⟨⟨⟨e1, e2, e3, e4⟩, e5, e6, e7, e8, e9, e10, e11, e12, e13, e14, e15, e16⟩, ⟨g1, g2, g3, g4⟩, hset, hprog, hjobs, hjas⟩, hf⟩ := H
    have := sg_jas_le hjas
    exact ⟨jc, by omega, g3, e3.symm.trans g3⟩
  obtain ⟨jc, h1, h2⟩ := hJ
  obtain ⟨u1, v1, a1, a2, a3⟩ := sg_endl h1 jc 0 u v (by omega) H h2
  refine ⟨u1, v1, fun P h => ?_, fun P h => ?_, a3⟩
  · have z := a1 P h
    obtain ⟨xsc, xnow, xjc, xec, xse, xki, xpp, xqq, xrr, xst, xfs, xin, xtb, xaj, xat, xsd, xja, xev, xva, xha, xps, xpa, xpi, xct, xsn, xsv, xtk, xac, xji, xou, xen, xuw, xra, xea, xtj, xte⟩ := u
    exact ⟨_, z⟩
  · have z := a2 P h
    obtain ⟨ysc, ynow, yjc, yec, yse, yss, yac, yji, yen, yho, ywh, ytj, yte, yst, ypl, ydn, yas, ywt, yun, yrs, yva, yha, ypa, ypi, yps, yso, ysv, yct⟩ := v
    exact ⟨_, z⟩
