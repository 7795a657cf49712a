theorem sg_sig_put {i n s : Nat} {xct xsn xtk yso : Nat → Int32} (hn : n < 6) (hs : s < 2) (hct : xct i = nI n) (H : ∀ m, m < n → (xsn (6 * i + m) = 0 ∨ xsn (6 * i + m) = 1) ∧ ((xtk (6 * i + m) = 0 ∧ yso (6 * i + m) = xsn (6 * i + m)) ∨ (xtk (6 * i + m) = 1 ∧ yso (6 * i + m) = -1))) : sg_sig i (upd xct i (nI (n + 1))) (upd xsn (6 * i + n) (nI s)) (upd xtk (6 * i + n) 0) (upd yso (6 * i + n) (nI s)) := by
  refine ⟨n + 1, by omega, pk_us, fun m hm => ?_⟩
  by_cases c : m = n
  · subst c
    rw [pk_us, pk_us, pk_us]
    refine ⟨?_, Or.inl ⟨rfl, rfl⟩⟩
    obtain rfl | rfl : s = 0 ∨ s = 1 := by omega
    · exact Or.inl rfl
    · exact Or.inr rfl
  · rw [pk_un (by omega), pk_un (by omega), pk_un (by omega)]
    exact H m (by omega)
theorem sg_signal {k : Nat} {u : SX} {v : SY} (I : i_Rel k u v) (x y z : Int32) : ∃ r u' v', (∀ P : Int32 → SX → Prop, P r u' → wpX_signal P u x y z) ∧ (∀ P : Int32 → SY → Prop, P r v' → wpY_signal P v x y z) ∧ i_Rel (k + 5) u' v' := by
  have I5 := i_up I
  obtain ⟨t, ht, H, HL⟩ := I
  rcases sg_rng x 2 (by decide) with h0 | ⟨h0, h2⟩ | ⟨i, hi, rfl⟩
  · refine ⟨-1, u, v, fun P h => ?_, fun P h => ?_, I5⟩
    · obtain ⟨xsc, xnow, xjc, xec, xse, xki, xpp, xqq, xrr, xst, xfs, xin, xtb, xaj, xat, xsd, xja, xev, xva, xha, xps, xpa, xpi, xct, xsn, xsv, xtk, xac, xji, xou, xen, xuw, xra, xea, xtj, xte⟩ := u
      simp only [wpX_signal, wpX_isWorkflow, wpX_isIn, h0, sg_n0, forall_eq, true_and, and_true, true_implies, false_implies, not_true_eq_false, not_false_eq_true, implies_true]
      exact h
    · obtain ⟨ysc, ynow, yjc, yec, yse, yss, yac, yji, yen, yho, ywh, ytj, yte, yst, ypl, ydn, yas, ywt, yun, yrs, yva, yha, ypa, ypi, yps, yso, ysv, yct⟩ := v
      simp only [wpY_signal, wpY_isIn, h0, forall_eq, true_and, and_true, true_implies, false_implies, not_true_eq_false, not_false_eq_true, implies_true]
      exact h
  · have h2 : (2 : Int32) < x := h2
    refine ⟨-1, u, v, fun P h => ?_, fun P h => ?_, I5⟩
    · obtain ⟨xsc, xnow, xjc, xec, xse, xki, xpp, xqq, xrr, xst, xfs, xin, xtb, xaj, xat, xsd, xja, xev, xva, xha, xps, xpa, xpi, xct, xsn, xsv, xtk, xac, xji, xou, xen, xuw, xra, xea, xtj, xte⟩ := u
      simp only [wpX_signal, wpX_isWorkflow, wpX_isIn, h0, h2, sg_n0, forall_eq, true_and, and_true, true_implies, false_implies, not_true_eq_false, not_false_eq_true, implies_true]
      exact h
    · obtain ⟨ysc, ynow, yjc, yec, yse, yss, yac, yji, yen, yho, ywh, ytj, yte, yst, ypl, ydn, yas, ywt, yun, yrs, yva, yha, ypa, ypi, yps, yso, ysv, yct⟩ := v
      simp only [wpY_signal, wpY_isIn, h0, h2, forall_eq, true_and, and_true, true_implies, false_implies, not_true_eq_false, not_false_eq_true, implies_true]
      exact h
  · have hi3 : i < 3 := by omega
    have b3 : vp_in (nI i) 3 := vp_in_nI hi3 (by omega)
    have ci : (nI i).toNatClampNeg = i := nI_clamp (by omega)
    have h2 := sg_2n hi
    rcases sg_rng y 1 (by decide) with g0 | ⟨g0, g2⟩ | ⟨s, hs, rfl⟩
    · refine ⟨-1, u, v, fun P h => ?_, fun P h => ?_, I5⟩
      · obtain ⟨xsc, xnow, xjc, xec, xse, xki, xpp, xqq, xrr, xst, xfs, xin, xtb, xaj, xat, xsd, xja, xev, xva, xha, xps, xpa, xpi, xct, xsn, xsv, xtk, xac, xji, xou, xen, xuw, xra, xea, xtj, xte⟩ := u
        simp (disch := omega) only [wpX_signal, wpX_isWorkflow, wpX_isIn, sg_neg, h2, g0, sg_n1, sg_lits, sg_mA, sg_mB, sg_mC, sg_mD, sg_mE, sg_mF, Int32.reduceLT, Int32.reduceLE, forall_eq, true_and, and_true, true_implies, false_implies, not_true_eq_false, not_false_eq_true, implies_true]
        exact h
      · obtain ⟨ysc, ynow, yjc, yec, yse, yss, yac, yji, yen, yho, ywh, ytj, yte, yst, ypl, ydn, yas, ywt, yun, yrs, yva, yha, ypa, ypi, yps, yso, ysv, yct⟩ := v
        simp (disch := omega) only [wpY_signal, wpY_isIn, sg_neg, h2, g0, sg_lits, sg_mA, sg_mB, sg_mC, sg_mD, sg_mE, sg_mF, Int32.reduceLT, Int32.reduceLE, forall_eq, true_and, and_true, true_implies, false_implies, not_true_eq_false, not_false_eq_true, implies_true]
        exact h
    · have g2 : (1 : Int32) < y := g2
      refine ⟨-1, u, v, fun P h => ?_, fun P h => ?_, I5⟩
      · obtain ⟨xsc, xnow, xjc, xec, xse, xki, xpp, xqq, xrr, xst, xfs, xin, xtb, xaj, xat, xsd, xja, xev, xva, xha, xps, xpa, xpi, xct, xsn, xsv, xtk, xac, xji, xou, xen, xuw, xra, xea, xtj, xte⟩ := u
        simp (disch := omega) only [wpX_signal, wpX_isWorkflow, wpX_isIn, sg_neg, h2, g0, g2, sg_n1, sg_lits, sg_mA, sg_mB, sg_mC, sg_mD, sg_mE, sg_mF, Int32.reduceLT, Int32.reduceLE, forall_eq, true_and, and_true, true_implies, false_implies, not_true_eq_false, not_false_eq_true, implies_true]
        exact h
      · obtain ⟨ysc, ynow, yjc, yec, yse, yss, yac, yji, yen, yho, ywh, ytj, yte, yst, ypl, ydn, yas, ywt, yun, yrs, yva, yha, ypa, ypi, yps, yso, ysv, yct⟩ := v
        simp (disch := omega) only [wpY_signal, wpY_isIn, sg_neg, h2, g0, g2, sg_lits, sg_mA, sg_mB, sg_mC, sg_mD, sg_mE, sg_mF, Int32.reduceLT, Int32.reduceLE, forall_eq, true_and, and_true, true_implies, false_implies, not_true_eq_false, not_false_eq_true, implies_true]
        exact h
    · have g2 := sg_1n hs
      obtain ⟨xsc, xnow, xjc, xec, xse, xki, xpp, xqq, xrr, xst, xfs, xin, xtb, xaj, xat, xsd, xja, xev, xva, xha, xps, xpa, xpi, xct, xsn, xsv, xtk, xac, xji, xou, xen, xuw, xra, xea, xtj, xte⟩ := u
      obtain ⟨ysc, ynow, yjc, yec, yse, yss, yac, yji, yen, yho, ywh, ytj, yte, yst, ypl, ydn, yas, ywt, yun, yrs, yva, yha, ypa, ypi, yps, yso, ysv, yct⟩ := v
      obtain ⟨sc, jc, ⟨⟨⟨e1, e2, e3, e4⟩, e5, e6, e7, e8, e9, e10, e11, e12, e13, e14, e15, e16⟩, ⟨g1, g2, g3, g4⟩, hset, hprog, hjobs, hjas⟩, hf⟩ := H
      subst e1 e2 e3 e4 e5 e6 e7 e8 e9 e10 e11 e12 e13 e14 e15 e16 g1 g2 g3 g4
      by_cases c : xst i = 1
      · rcases hf i hi3 with hid | ⟨d, ⟨hd, hsd, hva, hpil, n, hn6, hct, hsig⟩, hx⟩
        · exact absurd (hid.1.symm.trans c) (by decide)
        · by_cases cn : n < 6
          · have c6 : nI n < 6 := nI_lt (b := 6) cn (by decide)
            have c7 : ¬ nI n = 6 := fun z => by
              have := (nI_eq (b := 6) (by omega) (by omega)).mp z
              omega
            have R1 : sg_R t (nI sc, nI t, nI jc, nI (sg_cnt xen jc), xse, xki, xpp, xqq, xrr, xst, xfs, xin, xtb, xaj, xat, xsd, xja, xev, xva, xha, xps, xpa, xpi, upd xct i (nI (n + 1)), upd xsn (6 * i + n) (nI s), upd xsv (6 * i + n) z, upd xtk (6 * i + n) 0, xac, xji, xou, xen, xuw, xra, xea, xtj, xte) (nI sc, nI t, nI jc, nI (sg_cnt xen jc), xse, yss, xac, xji, xen, yho, ywh, xtj, xte, xst, ypl, ydn, yas, ywt, yun, yrs, yva, yha, xpa, xpi, xps, upd yso (6 * i + n) (nI s), upd xsv (6 * i + n) z, upd xct i (nI (n + 1))) := by
              refine ⟨sc, jc, ⟨⟨⟨rfl, rfl, rfl, rfl⟩, rfl, rfl, rfl, rfl, rfl, rfl, rfl, rfl, rfl, rfl, rfl, rfl⟩, ⟨rfl, rfl, rfl, rfl⟩, hset, hprog, hjobs, hjas⟩, fun m hm => ?_⟩
              by_cases e : m = i
              · subst e
                exact Or.inr ⟨d, ⟨hd, hsd, hva, hpil, sg_sig_put cn (by omega) hct hsig⟩, hx⟩
              · exact sg_flow_fr e (hf m hm)
            obtain ⟨u2, v2, p1, p2, p3, p4⟩ := sg_serve hi3 R1
            have est := sg_st_eq p3
            obtain ⟨z1, z2, z3, z4, z5, z6, z7, z8, z9, z10, z11, z12, z13, z14, z15, z16, z17, z18, z19, z20, z21, z22, z23, z24, z25, z26, z27, z28, z29, z30, z31, z32, z33, z34, z35, z36⟩ := u2
            obtain ⟨w1, w2, w3, w4, w5, w6, w7, w8, w9, w10, w11, w12, w13, w14, w15, w16, w17, w18, w19, w20, w21, w22, w23, w24, w25, w26, w27, w28⟩ := v2
            have est : w14 = z10 := est
            subst est
            refine ⟨w14 i, _, _, fun P h => ?_, fun P h => ?_, ⟨t, by omega, p3, p4⟩⟩
            · simp (disch := omega) only [wpX_signal, wpX_isWorkflow, wpX_isIn, sg_neg, h2, g2, sg_n1, sg_b0, ci, b3, c, hct, c6, sg_m3, sg_m3', sg_m4, sg_m4', sg_m6, sg_m6', sg_m7, sg_m7', sg_m200, sg_m200', nI_add, sg_a1, sg_a2, sg_a3, sg_a4, sg_a5, sg_a6, Int32.add_zero, sg_inT, nI_clamp, sg_lits, sg_mA, sg_mB, sg_mC, sg_mD, sg_mE, sg_mF, Int32.reduceLT, Int32.reduceLE, forall_eq, true_and, and_true, true_implies, false_implies, not_true_eq_false, not_false_eq_true, implies_true]
              exact p1 _ h
            · simp (disch := omega) only [wpY_signal, wpY_isIn, sg_neg, h2, g2, ci, b3, c, hct, c7, sg_m3, sg_m3', sg_m4, sg_m4', sg_m6, sg_m6', sg_m7, sg_m7', sg_m200, sg_m200', nI_add, sg_a1, sg_a2, sg_a3, sg_a4, sg_a5, sg_a6, Int32.add_zero, sg_inT, nI_clamp, sg_lits, sg_mA, sg_mB, sg_mC, sg_mD, sg_mE, sg_mF, Int32.reduceLT, Int32.reduceLE, forall_eq, true_and, and_true, true_implies, false_implies, not_true_eq_false, not_false_eq_true, implies_true]
              exact p2 _ h
          · have e6' : n = 6 := by omega
            subst e6'
            have c6 : ¬ nI 6 < 6 := by decide
            have c7 : nI 6 = 6 := rfl
            refine ⟨-2, _, _, fun P h => ?_, fun P h => ?_, I5⟩
            · simp (disch := omega) only [wpX_signal, wpX_isWorkflow, wpX_isIn, sg_neg, h2, g2, sg_n1, ci, b3, c, hct, c6, sg_m3, sg_m3', sg_m4, sg_m4', sg_m6, sg_m6', sg_m7, sg_m7', sg_m200, sg_m200', nI_add, sg_a1, sg_a2, sg_a3, sg_a4, sg_a5, sg_a6, Int32.add_zero, sg_inT, nI_clamp, sg_lits, sg_mA, sg_mB, sg_mC, sg_mD, sg_mE, sg_mF, Int32.reduceLT, Int32.reduceLE, forall_eq, true_and, and_true, true_implies, false_implies, not_true_eq_false, not_false_eq_true, implies_true]
              exact h
            · simp (disch := omega) only [wpY_signal, wpY_isIn, sg_neg, h2, g2, ci, b3, c, hct, c7, sg_m3, sg_m3', sg_m4, sg_m4', sg_m6, sg_m6', sg_m7, sg_m7', sg_m200, sg_m200', nI_add, sg_a1, sg_a2, sg_a3, sg_a4, sg_a5, sg_a6, Int32.add_zero, sg_inT, nI_clamp, sg_lits, sg_mA, sg_mB, sg_mC, sg_mD, sg_mE, sg_mF, Int32.reduceLT, Int32.reduceLE, forall_eq, true_and, and_true, true_implies, false_implies, not_true_eq_false, not_false_eq_true, implies_true]
              exact h
      · refine ⟨-4, _, _, fun P h => ?_, fun P h => ?_, I5⟩
        · simp (disch := omega) only [wpX_signal, wpX_isWorkflow, wpX_isIn, sg_neg, h2, g2, sg_n1, ci, b3, c, sg_m3, sg_m3', sg_m4, sg_m4', sg_m6, sg_m6', sg_m7, sg_m7', sg_m200, sg_m200', nI_add, sg_a1, sg_a2, sg_a3, sg_a4, sg_a5, sg_a6, Int32.add_zero, sg_inT, nI_clamp, sg_lits, sg_mA, sg_mB, sg_mC, sg_mD, sg_mE, sg_mF, Int32.reduceLT, Int32.reduceLE, forall_eq, true_and, and_true, true_implies, false_implies, not_true_eq_false, not_false_eq_true, implies_true]
          exact h
        · simp (disch := omega) only [wpY_signal, wpY_isIn, sg_neg, h2, g2, ci, b3, c, sg_m3, sg_m3', sg_m4, sg_m4', sg_m6, sg_m6', sg_m7, sg_m7', sg_m200, sg_m200', nI_add, sg_a1, sg_a2, sg_a3, sg_a4, sg_a5, sg_a6, Int32.add_zero, sg_inT, nI_clamp, sg_lits, sg_mA, sg_mB, sg_mC, sg_mD, sg_mE, sg_mF, Int32.reduceLT, Int32.reduceLE, forall_eq, true_and, and_true, true_implies, false_implies, not_true_eq_false, not_false_eq_true, implies_true]
          exact h
theorem i_vc_signal {k : Nat} {u : SX} {v : SY} (I : i_Rel k u v) (hk : k + 5 ≤ 2560) (v1 : Int32) (v2 : Int32) (v3 : Int32) : wpX_signal (fun r u' => wpY_signal (fun r' v' => r' = r ∧ i_Rel (k + 5) u' v') v v1 v2 v3) u v1 v2 v3 := by
  obtain ⟨r, u', v', h1, h2, h3⟩ := sg_signal I v1 v2 v3
  exact h1 _ (h2 _ ⟨rfl, h3⟩)
/-! time goes on -/
def sg_XA (m n c : Nat) (P : Int32 → SX → Prop) (u : SX) : Prop := match u with
  | (xsc, xnow, xjc, xec, xse, xki, xpp, xqq, xrr, xst, xfs, xin, xtb, xaj, xat, xsd, xja, xev, xva, xha, xps, xpa, xpi, xct, xsn, xsv, xtk, xac, xji, xou, xen, xuw, xra, xea, xtj, xte) => wX_advance_14 P (nI m) n (nI c) xsc xnow xjc xec xse xki xpp xqq xrr xst xfs xin xtb xaj xat xsd xja xev xva xha xps xpa xpi xct xsn xsv xtk xac xji xou xen xuw xra xea xtj xte
def sg_YA (m n c : Nat) (P : Int32 → SY → Prop) (v : SY) : Prop := match v with
  | (ysc, ynow, yjc, yec, yse, yss, yac, yji, yen, yho, ywh, ytj, yte, yst, ypl, ydn, yas, ywt, yun, yrs, yva, yha, ypa, ypi, yps, yso, ysv, yct) => wY_advance_15 P (nI m) n (nI c) ysc ynow yjc yec yse yss yac yji yen yho ywh ytj yte yst ypl ydn yas ywt yun yrs yva yha ypa ypi yps yso ysv yct
def sg_tX (u : SX) : SX := match u with
  | (xsc, xnow, xjc, xec, xse, xki, xpp, xqq, xrr, xst, xfs, xin, xtb, xaj, xat, xsd, xja, xev, xva, xha, xps, xpa, xpi, xct, xsn, xsv, xtk, xac, xji, xou, xen, xuw, xra, xea, xtj, xte) => (xsc, xnow + 1, xjc, xec, xse, xki, xpp, xqq, xrr, xst, xfs, xin, xtb, xaj, xat, xsd, xja, xev, xva, xha, xps, xpa, xpi, xct, xsn, xsv, xtk, xac, xji, xou, xen, xuw, xra, xea, xtj, xte)
def sg_tY (v : SY) : SY := match v with
  | (ysc, ynow, yjc, yec, yse, yss, yac, yji, yen, yho, ywh, ytj, yte, yst, ypl, ydn, yas, ywt, yun, yrs, yva, yha, ypa, ypi, yps, yso, ysv, yct) => (ysc, ynow + 1, yjc, yec, yse, yss, yac, yji, yen, yho, ywh, ytj, yte, yst, ypl, ydn, yas, ywt, yun, yrs, yva, yha, ypa, ypi, yps, yso, ysv, yct)
theorem sg_tick {t : Nat} {u : SX} {v : SY} (ht : t + 1 < 2 ^ 31) (H : sg_R t u v) : sg_R (t + 1) (sg_tX u) (sg_tY v) := by
  obtain ⟨xsc, xnow, xjc, xec, xse, xki, xpp, xqq, xrr, xst, xfs, xin, xtb, xaj, xat, xsd, xja, xev, xva, xha, xps, xpa, xpi, xct, xsn, xsv, xtk, xac, xji, xou, xen, xuw, xra, xea, xtj, xte⟩ := u
  obtain ⟨ysc, ynow, yjc, yec, yse, yss, yac, yji, yen, yho, ywh, ytj, yte, yst, ypl, ydn, yas, ywt, yun, yrs, yva, yha, ypa, ypi, yps, yso, ysv, yct⟩ := v
  obtain ⟨sc, jc, ⟨⟨⟨e1, e2, e3, e4⟩, e5, e6, e7, e8, e9, e10, e11, e12, e13, e14, e15, e16⟩, ⟨g1, g2, g3, g4⟩, hset, hprog, hjobs, hjas⟩, hf⟩ := H
  subst e1 e2 e3 e4 e5 e6 e7 e8 e9 e10 e11 e12 e13 e14 e15 e16 g1 g2 g3 g4
  exact ⟨sc, jc, ⟨⟨⟨rfl, rfl, rfl, rfl⟩, rfl, rfl, rfl, rfl, rfl, rfl, rfl, rfl, rfl, rfl, rfl, rfl⟩, ⟨rfl, sg_a1 t, rfl, rfl⟩, hset, hprog, sg_jobs_up ht hjobs, hjas⟩, hf⟩
theorem sg_adv1 {t m c : Nat} {u : SX} {v : SY} (hm : m ≤ 100) (hc : c < m) (ht : t + 1 < 2 ^ 31) (H : sg_R t u v) : ∃ u1 v1, (∀ (n : Nat) (P : Int32 → SX → Prop), sg_XA m n (c + 1) P u1 → sg_XA m (n + 1) c P u) ∧ (∀ (n : Nat) (P : Int32 → SY → Prop), sg_YA m n (c + 1) P v1 → sg_YA m (n + 1) c P v) ∧ sg_R (t + 1) u1 v1 ∧ sg_late u1 v1 := by
  obtain ⟨u1, v1, a1, a2, a3⟩ := sg_ends (sg_tick ht H)
  obtain ⟨u2, v2, b1, b2, b3⟩ := sg_work (i := 0) (by omega) a3
  obtain ⟨u3, v3, c1, c2, c3⟩ := sg_work (i := 1) (by omega) b3
  obtain ⟨u4, v4, d1, d2, d3⟩ := sg_work (i := 2) (by omega) c3
  obtain ⟨u5, v5, e1, e2, e3, e4⟩ := sg_begin d3
  refine ⟨u5, v5, fun n P h => ?_, fun n P h => ?_, e3, e4⟩
  · obtain ⟨xsc, xnow, xjc, xec, xse, xki, xpp, xqq, xrr, xst, xfs, xin, xtb, xaj, xat, xsd, xja, xev, xva, xha, xps, xpa, xpi, xct, xsn, xsv, xtk, xac, xji, xou, xen, xuw, xra, xea, xtj, xte⟩ := u
    have h1 : ¬ nI m ≤ nI c := nI_ge hc (by omega)
    simp only [sg_XA, wX_advance_14, h1, forall_eq, true_and, and_true, true_implies, false_implies, not_true_eq_false, not_false_eq_true, implies_true]
    refine a1 _ ?_
    obtain ⟨p1, p2, p3, p4, p5, p6, p7, p8, p9, p10, p11, p12, p13, p14, p15, p16, p17, p18, p19, p20, p21, p22, p23, p24, p25, p26, p27, p28, p29, p30, p31, p32, p33, p34, p35, p36⟩ := u1
    refine ⟨4, ?_⟩
    simp only [wX_advance_35, sg_adds, sg_lits, sg_mA, sg_mB, sg_mC, sg_mD, sg_mE, sg_mF, Int32.reduceLT, Int32.reduceLE, forall_eq, true_and, and_true, true_implies, false_implies, not_true_eq_false, not_false_eq_true, implies_true]
    refine b1 _ ?_
    refine c1 _ ?_
    refine d1 _ ?_
    refine e1 _ ?_
    obtain ⟨z1, z2, z3, z4, z5, z6, z7, z8, z9, z10, z11, z12, z13, z14, z15, z16, z17, z18, z19, z20, z21, z22, z23, z24, z25, z26, z27, z28, z29, z30, z31, z32, z33, z34, z35, z36⟩ := u5
    have e : nI c + 1 = nI (c + 1) := sg_a1 c
    simp only [e, forall_eq, true_and, and_true, true_implies, false_implies, not_true_eq_false, not_false_eq_true, implies_true]
    exact h
  · obtain ⟨ysc, ynow, yjc, yec, yse, yss, yac, yji, yen, yho, ywh, ytj, yte, yst, ypl, ydn, yas, ywt, yun, yrs, yva, yha, ypa, ypi, yps, yso, ysv, yct⟩ := v
    have h1 : ¬ nI m ≤ nI c := nI_ge hc (by omega)
    simp only [sg_YA, wY_advance_15, h1, forall_eq, true_and, and_true, true_implies, false_implies, not_true_eq_false, not_false_eq_true, implies_true]
    refine a2 _ ?_
    refine b2 _ ?_
    refine c2 _ ?_
    refine d2 _ ?_
    refine e2 _ ?_
    obtain ⟨w1, w2, w3, w4, w5, w6, w7, w8, w9, w10, w11, w12, w13, w14, w15, w16, w17, w18, w19, w20, w21, w22, w23, w24, w25, w26, w27, w28⟩ := v5
    have e : nI c + 1 = nI (c + 1) := sg_a1 c
    simp only [e, forall_eq, true_and, and_true, true_implies, false_implies, not_true_eq_false, not_false_eq_true, implies_true]
    exact h
theorem sg_advl {m : Nat} (hm : m ≤ 100) : ∀ (k c N t : Nat) (u : SX) (v : SY), c + k = m → k < N → t + k < 2 ^ 31 → sg_R t u v → sg_late u v → ∃ r u1 v1, (∀ P : Int32 → SX → Prop, P r u1 → sg_XA m N c P u) ∧ (∀ P : Int32 → SY → Prop, P r v1 → sg_YA m N c P v) ∧ sg_R (t + k) u1 v1 ∧ sg_late u1 v1 := by
  intro k
  induction k with
  | zero =>
    intro c N t u v hc hN ht H HL
    obtain ⟨N, rfl⟩ : ∃ n, N = n + 1 := ⟨N - 1, by omega⟩
    have e : c = m := by omega
    subst e
    refine ⟨nI t, u, v, fun P h => ?_, fun P h => ?_, H, HL⟩
    · obtain ⟨xsc, xnow, xjc, xec, xse, xki, xpp, xqq, xrr, xst, xfs, xin, xtb, xaj, xat, xsd, xja, xev, xva, xha, xps, xpa, xpi, xct, xsn, xsv, xtk, xac, xji, xou, xen, xuw, xra, xea, xtj, xte⟩ := u
      obtain ⟨ysc, ynow, yjc, yec, yse, yss, yac, yji, yen, yho, ywh, ytj, yte, yst, ypl, ydn, yas, ywt, yun, yrs, yva, yha, ypa, ypi, yps, yso, ysv, yct⟩ := v
      obtain ⟨sc, jc, ⟨⟨⟨e1, e2, e3, e4⟩, e5, e6, e7, e8, e9, e10, e11, e12, e13, e14, e15, e16⟩, ⟨g1, g2, g3, g4⟩, hset, hprog, hjobs, hjas⟩, hf⟩ := H
      subst e1 e2 e3 e4 e5 e6 e7 e8 e9 e10 e11 e12 e13 e14 e15 e16 g1 g2 g3 g4
      simp (disch := omega) only [sg_XA, wX_advance_14, sg_leT, forall_eq, true_and, and_true, true_implies, false_implies, not_true_eq_false, not_false_eq_true, implies_true]
      exact h
    · obtain ⟨xsc, xnow, xjc, xec, xse, xki, xpp, xqq, xrr, xst, xfs, xin, xtb, xaj, xat, xsd, xja, xev, xva, xha, xps, xpa, xpi, xct, xsn, xsv, xtk, xac, xji, xou, xen, xuw, xra, xea, xtj, xte⟩ := u
      obtain ⟨ysc, ynow, yjc, yec, yse, yss, yac, yji, yen, yho, ywh, ytj, yte, yst, ypl, ydn, yas, ywt, yun, yrs, yva, yha, ypa, ypi, yps, yso, ysv, yct⟩ := v
      obtain ⟨sc, jc, ⟨⟨⟨e1, e2, e3, e4⟩, e5, e6, e7, e8, e9, e10, e11, e12, e13, e14, e15, e16⟩, ⟨g1, g2, g3, g4⟩, hset, hprog, hjobs, hjas⟩, hf⟩ := H
      subst e1 e2 e3 e4 e5 e6 e7 e8 e9 e10 e11 e12 e13 e14 e15 e16 g1 g2 g3 g4
      simp (disch := omega) only [sg_YA, wY_advance_15, sg_leT, forall_eq, true_and, and_true, true_implies, false_implies, not_true_eq_false, not_false_eq_true, implies_true]
      exact h
  | succ k ih =>
    intro c N t u v hc hN ht H HL
    obtain ⟨N, rfl⟩ : ∃ n, N = n + 1 := ⟨N - 1, by omega⟩
    obtain ⟨u1, v1, a1, a2, a3, a4⟩ := sg_adv1 (m := m) (c := c) hm (by omega) (by omega) H
    obtain ⟨r, u2, v2, b1, b2, b3, b4⟩ := ih (c + 1) N (t + 1) u1 v1 (by omega) (by omega) (by omega) a3 a4
    have e : t + 1 + k = t + (k + 1) := by omega
    exact ⟨r, u2, v2, fun P h => a1 N P (b1 P h), fun P h => a2 N P (b2 P h), e ▸ b3, b4⟩
theorem sg_advance {k : Nat} {u : SX} {v : SY} (I : i_Rel k u v) (hk : k + 5 ≤ 2560) (x : Int32) : ∃ r u' v', (∀ P : Int32 → SX → Prop, P r u' → wpX_advance P u x) ∧ (∀ P : Int32 → SY → Prop, P r v' → wpY_advance P v x) ∧ i_Rel (k + 5) u' v' := by
  have I5 := i_up I
  obtain ⟨t, ht, H, HL⟩ := I
  rcases sg_rng x 100 (by decide) with h0 | ⟨h0, h2⟩ | ⟨m, hm, rfl⟩
  · refine ⟨-1, u, v, fun P h => ?_, fun P h => ?_, I5⟩
    · obtain ⟨xsc, xnow, xjc, xec, xse, xki, xpp, xqq, xrr, xst, xfs, xin, xtb, xaj, xat, xsd, xja, xev, xva, xha, xps, xpa, xpi, xct, xsn, xsv, xtk, xac, xji, xou, xen, xuw, xra, xea, xtj, xte⟩ := u
      simp only [wpX_advance, wpX_isIn, h0, forall_eq, true_and, and_true, true_implies, false_implies, not_true_eq_false, not_false_eq_true, implies_true]
      exact h
    · obtain ⟨ysc, ynow, yjc, yec, yse, yss, yac, yji, yen, yho, ywh, ytj, yte, yst, ypl, ydn, yas, ywt, yun, yrs, yva, yha, ypa, ypi, yps, yso, ysv, yct⟩ := v
      simp only [wpY_advance, wpY_isIn, h0, forall_eq, true_and, and_true, true_implies, false_implies, not_true_eq_false, not_false_eq_true, implies_true]
      exact h
  · have h2 : (100 : Int32) < x := h2
    refine ⟨-1, u, v, fun P h => ?_, fun P h => ?_, I5⟩
    · obtain ⟨xsc, xnow, xjc, xec, xse, xki, xpp, xqq, xrr, xst, xfs, xin, xtb, xaj, xat, xsd, xja, xev, xva, xha, xps, xpa, xpi, xct, xsn, xsv, xtk, xac, xji, xou, xen, xuw, xra, xea, xtj, xte⟩ := u
      simp only [wpX_advance, wpX_isIn, h0, h2, forall_eq, true_and, and_true, true_implies, false_implies, not_true_eq_false, not_false_eq_true, implies_true]
      exact h
    · obtain ⟨ysc, ynow, yjc, yec, yse, yss, yac, yji, yen, yho, ywh, ytj, yte, yst, ypl, ydn, yas, ywt, yun, yrs, yva, yha, ypa, ypi, yps, yso, ysv, yct⟩ := v
      simp only [wpY_advance, wpY_isIn, h0, h2, forall_eq, true_and, and_true, true_implies, false_implies, not_true_eq_false, not_false_eq_true, implies_true]
      exact h
  · have h2 := sg_100n hm
    obtain ⟨r, u1, v1, a1, a2, a3, a4⟩ := sg_advl hm m 0 (m + 1) t u v (by omega) (by omega) (by omega) H HL
    refine ⟨r, u1, v1, fun P h => ?_, fun P h => ?_, ⟨t + m, by omega, a3, a4⟩⟩
    · have z := a1 P h
      obtain ⟨xsc, xnow, xjc, xec, xse, xki, xpp, xqq, xrr, xst, xfs, xin, xtb, xaj, xat, xsd, xja, xev, xva, xha, xps, xpa, xpi, xct, xsn, xsv, xtk, xac, xji, xou, xen, xuw, xra, xea, xtj, xte⟩ := u
      simp (disch := omega) only [wpX_advance, wpX_isIn, sg_neg, h2, sg_lits, sg_mA, sg_mB, sg_mC, sg_mD, sg_mE, sg_mF, Int32.reduceLT, Int32.reduceLE, forall_eq, true_and, and_true, true_implies, false_implies, not_true_eq_false, not_false_eq_true, implies_true]
      exact ⟨m + 1, z⟩
    · have z := a2 P h
      obtain ⟨ysc, ynow, yjc, yec, yse, yss, yac, yji, yen, yho, ywh, ytj, yte, yst, ypl, ydn, yas, ywt, yun, yrs, yva, yha, ypa, ypi, yps, yso, ysv, yct⟩ := v
      simp (disch := omega) only [wpY_advance, wpY_isIn, sg_neg, h2, sg_lits, sg_mA, sg_mB, sg_mC, sg_mD, sg_mE, sg_mF, Int32.reduceLT, Int32.reduceLE, forall_eq, true_and, and_true, true_implies, false_implies, not_true_eq_false, not_false_eq_true, implies_true]
      exact ⟨m + 1, z⟩
theorem i_vc_advance {k : Nat} {u : SX} {v : SY} (I : i_Rel k u v) (hk : k + 5 ≤ 2560) (v1 : Int32) : wpX_advance (fun r u' => wpY_advance (fun r' v' => r' = r ∧ i_Rel (k + 5) u' v') v v1) u v1 := by
  obtain ⟨r, u', v', h1, h2, h3⟩ := sg_advance I hk v1
  exact h1 _ (h2 _ ⟨rfl, h3⟩)
