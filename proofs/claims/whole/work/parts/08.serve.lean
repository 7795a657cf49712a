/-! a workflow that takes back goes on -/
theorem sg_tb {i d t : Nat} {u : SX} {v : SY} (hi : i < 3) (H : sg_W 3 i d t u v) : ∃ u1 v1 b, (∀ post : SX → Prop, post u1 → wpX_takeBack post u (nI i)) ∧ (∀ post : Int32 → SY → Prop, post b v1 → wpY_goOn post v (nI i)) ∧ sg_R t u1 v1 ∧ (sg_E i u1 v1 ∨ b = 0) := by
  have HR := sg_W_R hi (by omega) H
  have key : sg_W 4 i d t u (match v with | (ysc, ynow, yjc, yec, yse, yss, yac, yji, yen, yho, ywh, ytj, yte, yst, ypl, ydn, yas, ywt, yun, yrs, yva, yha, ypa, ypi, yps, yso, ysv, yct) => (ysc, ynow, yjc, yec, yse, yss, yac, yji, yen, yho, ywh, ytj, yte, yst, ypl, ydn, yas, upd ywt i 0, yun, yrs, yva, yha, ypa, ypi, yps, yso, ysv, yct)) := by
    obtain ⟨xsc, xnow, xjc, xec, xse, xki, xpp, xqq, xrr, xst, xfs, xin, xtb, xaj, xat, xsd, xja, xev, xva, xha, xps, xpa, xpi, xct, xsn, xsv, xtk, xac, xji, xou, xen, xuw, xra, xea, xtj, xte⟩ := u
    obtain ⟨ysc, ynow, yjc, yec, yse, yss, yac, yji, yen, yho, ywh, ytj, yte, yst, ypl, ydn, yas, ywt, yun, yrs, yva, yha, ypa, ypi, yps, yso, ysv, yct⟩ := v
    obtain ⟨sc, jc, hg, hf, hb, f, hst, hev, hf20, hfs, hpl, hdn, has, hctl⟩ := H
    refine ⟨sc, jc, hg, fun m hm c => sg_flow_fr c (hf m hm c), hb, f, hst, hev, hf20, hfs, hpl, hdn, has, ?_⟩
    rcases hctl with h | h | h | h
    · exact absurd h.1 (by decide)
    · exact absurd h.1 (by decide)
    · exact Or.inr (Or.inr (Or.inr ⟨rfl, h.2.1, h.2.2.1, pk_us⟩))
    · exact absurd h.1 (by decide)
  obtain ⟨u1, v1, hX, hY, hO⟩ := sg_tbl hi key
  obtain ⟨xsc, xnow, xjc, xec, xse, xki, xpp, xqq, xrr, xst, xfs, xin, xtb, xaj, xat, xsd, xja, xev, xva, xha, xps, xpa, xpi, xct, xsn, xsv, xtk, xac, xji, xou, xen, xuw, xra, xea, xtj, xte⟩ := u
  obtain ⟨ysc, ynow, yjc, yec, yse, yss, yac, yji, yen, yho, ywh, ytj, yte, yst, ypl, ydn, yas, ywt, yun, yrs, yva, yha, ypa, ypi, yps, yso, ysv, yct⟩ := v
  obtain ⟨sc, jc, ⟨⟨⟨e1, e2, e3, e4⟩, e5, e6, e7, e8, e9, e10, e11, e12, e13, e14, e15, e16⟩, ⟨g1, g2, g3, g4⟩, hset, hprog, hjobs, hjas⟩, hf, hb, f, hst, hev, hf20, hfs, hpl, hdn, has, hctl⟩ := H
  subst e1 e2 e3 e4 e5 e6 e7 e8 e9 e10 e11 e12 e13 e14 e15 e16 g1 g2 g3 g4
  obtain ⟨hfsc, htb, hwt, j, hj, haj, hun⟩ : f < sc ∧ xtb i = 1 ∧ ywt i = 4 ∧ sg_aw jc (xaj i) (yun i) := by
    rcases hctl with h | h | h | h
    · exact absurd h.1 (by decide)
    · exact absurd h.1 (by decide)
    · exact h.2
    · exact absurd h.1 (by decide)
  have hsc := hprog.1
  have hjc := sg_jas_le hjas
  have b3 : vp_in (nI i) 3 := vp_in_nI hi (by omega)
  have ci : (nI i).toNatClampNeg = i := nI_clamp (by omega)
  obtain ⟨a, e, ha4, hac, he, hen, hlt, hhow⟩ := hjobs j hj
  have not : xou j = -1 → yho j ≤ 2 → ∃ u1 v1 b, (∀ post : SX → Prop, post u1 → wpX_takeBack post (nI sc, nI t, nI jc, nI (sg_cnt xen jc), xse, xki, xpp, xqq, xrr, xst, xfs, xin, xtb, xaj, xat, xsd, xja, xev, xva, xha, xps, xpa, xpi, xct, xsn, xsv, xtk, xac, xji, xou, xen, xuw, xra, xea, xtj, xte) (nI i)) ∧ (∀ post : Int32 → SY → Prop, post b v1 → wpY_goOn post (nI sc, nI t, nI jc, nI (sg_cnt xen jc), xse, yss, xac, xji, xen, yho, ywh, xtj, xte, xst, ypl, ydn, yas, ywt, yun, yrs, yva, yha, xpa, xpi, xps, yso, xsv, xct) (nI i)) ∧ sg_R t u1 v1 ∧ (sg_E i u1 v1 ∨ b = 0) := fun h1 h2 => by
    refine ⟨_, _, 0, fun post h => ?_, fun post h => ?_, HR, Or.inr rfl⟩
    · simp (disch := omega) only [wpX_takeBack, wX_takeBack_22, ci, b3, haj, h1, sg_nm1, sg_m3, sg_m3', sg_m4, sg_m4', sg_m6, sg_m6', sg_m7, sg_m7', sg_m200, sg_m200', nI_add, sg_a1, sg_a2, sg_a3, sg_a4, sg_a5, sg_a6, Int32.add_zero, sg_inT, nI_clamp, sg_lits, sg_mA, sg_mB, sg_mC, sg_mD, sg_mE, sg_mF, Int32.reduceLT, Int32.reduceLE, forall_eq, true_and, and_true, true_implies, false_implies, not_true_eq_false, not_false_eq_true, implies_true]
      exact h
    · exact sg_goOn_not hi (by omega) hpl hwt (by decide) (by decide) (by decide) (by omega) hun h2 h
  rcases hhow with ⟨h1, h2, h3, h4⟩ | ⟨h1, h2, h3, h4, h5⟩ | ⟨h1, h2, h3, h4⟩ | ⟨h1, h2, h3⟩ | ⟨h1, h2, h3⟩
  · exact not h1 (by rw [h3]; decide)
  · exact not h1 (by rw [h3]; decide)
  · exact not h1 (by rw [h3]; decide)
  · obtain ⟨z1, z2, z3, z4, z5, z6, z7, z8, z9, z10, z11, z12, z13, z14, z15, z16, z17, z18, z19, z20, z21, z22, z23, z24, z25, z26, z27, z28, z29, z30, z31, z32, z33, z34, z35, z36⟩ := u1
    obtain ⟨w1, w2, w3, w4, w5, w6, w7, w8, w9, w10, w11, w12, w13, w14, w15, w16, w17, w18, w19, w20, w21, w22, w23, w24, w25, w26, w27, w28⟩ := v1
    have fin : ∀ b : Int32, (∀ post : Int32 → SY → Prop, post b (w1, w2, w3, w4, w5, w6, w7, w8, w9, w10, w11, w12, w13, w14, w15, w16, w17, w18, w19, w20, w21, w22, w23, w24, w25, w26, w27, w28) → wY_goOn_213 post (nI i) w1 w2 w3 w4 w5 w6 w7 w8 w9 w10 w11 w12 w13 w14 w15 w16 w17 w18 w19 w20 w21 w22 w23 w24 w25 w26 w27 w28) → ∀ post : Int32 → SY → Prop, post b (w1, w2, w3, w4, w5, w6, w7, w8, w9, w10, w11, w12, w13, w14, w15, w16, w17, w18, w19, w20, w21, w22, w23, w24, w25, w26, w27, w28) → wpY_goOn post (nI sc, nI t, nI jc, nI (sg_cnt xen jc), xse, yss, xac, xji, xen, yho, ywh, xtj, xte, xst, ypl, ydn, yas, ywt, yun, yrs, yva, yha, xpa, xpi, xps, yso, xsv, xct) (nI i) := fun b hb post h => by
      refine sg_ygo_4s hi (by omega) (by omega) hpl hwt hun h3 ?_
      exact hY _ (hb post h)
    have goX : ∀ post : SX → Prop, post (z1, z2, z3, z4, z5, z6, z7, z8, z9, z10, z11, z12, z13, z14, z15, z16, z17, z18, z19, z20, z21, z22, z23, z24, z25, z26, z27, z28, z29, z30, z31, z32, z33, z34, z35, z36) → wpX_takeBack post (nI sc, nI t, nI jc, nI (sg_cnt xen jc), xse, xki, xpp, xqq, xrr, xst, xfs, xin, xtb, xaj, xat, xsd, xja, xev, xva, xha, xps, xpa, xpi, xct, xsn, xsv, xtk, xac, xji, xou, xen, xuw, xra, xea, xtj, xte) (nI i) := fun post h => by
      simp (disch := omega) only [wpX_takeBack, wX_takeBack_22, ci, b3, haj, h1, sg_nm1, sg_m3, sg_m3', sg_m4, sg_m4', sg_m6, sg_m6', sg_m7, sg_m7', sg_m200, sg_m200', nI_add, sg_a1, sg_a2, sg_a3, sg_a4, sg_a5, sg_a6, Int32.add_zero, sg_inT, nI_clamp, sg_lits, sg_mA, sg_mB, sg_mC, sg_mD, sg_mE, sg_mF, Int32.reduceLT, Int32.reduceLE, forall_eq, true_and, and_true, true_implies, false_implies, not_true_eq_false, not_false_eq_true, implies_true]
      exact hX _ h
    rcases hO with ⟨r1, r2⟩ | ⟨r1, r2⟩
    · by_cases hw : w18 i = 0
      · refine ⟨_, _, 1, goX, fin 1 (fun post h => ?_), r1, Or.inl r2⟩
        simp only [wY_goOn_213, ci, b3, hw, forall_eq, true_and, and_true, true_implies, false_implies, not_true_eq_false, not_false_eq_true, implies_true]
        exact h
      · refine ⟨_, _, 0, goX, fin 0 (fun post h => ?_), r1, Or.inr rfl⟩
        simp only [wY_goOn_213, ci, b3, hw, forall_eq, true_and, and_true, true_implies, false_implies, not_true_eq_false, not_false_eq_true, implies_true]
        exact h
    · have hw : ¬ w18 i = 0 := by
        obtain ⟨_, _, _, _, _, _, _, _, _, _, _, _, _, hc⟩ := r1
        rcases hc with h | h | h | h
        · exact absurd h.1 (by decide)
        · exact absurd h.1 (by decide)
        · intro z; exact absurd (h.2.2.2.1.symm.trans z) (by decide)
        · exact absurd h.1 (by decide)
      refine ⟨_, _, 0, goX, fin 0 (fun post h => ?_), sg_W_R hi (by omega) r1, Or.inr rfl⟩
      simp only [wY_goOn_213, ci, b3, hw, forall_eq, true_and, and_true, true_implies, false_implies, not_true_eq_false, not_false_eq_true, implies_true]
      exact h
  · refine ⟨(nI sc, nI t, nI jc, nI (sg_cnt xen jc), xse, xki, xpp, xqq, xrr, upd xst i 4, xfs, xin, xtb, xaj, xat, xsd, xja, xev, xva, xha, xps, xpa, xpi, xct, xsn, xsv, xtk, xac, xji, xou, xen, xuw, xra, xea, xtj, xte), (nI sc, nI t, nI jc, nI (sg_cnt xen jc), xse, yss, xac, xji, xen, yho, ywh, xtj, xte, upd xst i 4, ypl, ydn, yas, upd ywt i 0, yun, yrs, yva, yha, xpa, xpi, xps, yso, xsv, xct), 1, fun post h => ?_, fun post h => ?_, ⟨sc, jc, ⟨⟨⟨rfl, rfl, rfl, rfl⟩, rfl, rfl, rfl, rfl, rfl, rfl, rfl, rfl, rfl, rfl, rfl, rfl⟩, ⟨rfl, rfl, rfl, rfl⟩, hset, hprog, hjobs, hjas⟩, fun m hm => ?_⟩, Or.inl ⟨by rw [pk_us]; decide, by rw [pk_us]; decide⟩⟩
    · simp (disch := omega) only [wpX_takeBack, wX_takeBack_22, ci, b3, haj, h1, sg_nm1, sg_m3, sg_m3', sg_m4, sg_m4', sg_m6, sg_m6', sg_m7, sg_m7', sg_m200, sg_m200', nI_add, sg_a1, sg_a2, sg_a3, sg_a4, sg_a5, sg_a6, Int32.add_zero, sg_inT, nI_clamp, sg_lits, sg_mA, sg_mB, sg_mC, sg_mD, sg_mE, sg_mF, Int32.reduceLT, Int32.reduceLE, forall_eq, true_and, and_true, true_implies, false_implies, not_true_eq_false, not_false_eq_true, implies_true]
      exact h
    · exact sg_ygo_4f hi (by omega) (by omega) hpl hwt hun h3 h
    · by_cases c : m = i
      · subst c
        exact Or.inr ⟨d, hb, Or.inl ⟨4, by omega, by omega, pk_us, hev⟩⟩
      · exact sg_flow_fr c (hf m hm c)
