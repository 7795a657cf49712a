/-- at the head of the loop: the program is at its end, or 200 steps are done, or a step is due -/
theorem sg_head {i d t : Nat} {u : SX} {v : SY} (hi : i < 3) (H : sg_W 1 i d t u v) :
    (∃ u1 v1, (∀ P : SX → Prop, P u1 → wpX_beginStep P u (nI i)) ∧ (∀ (n : Nat) (P : SY → Prop), sg_YL i n 1 P v1 → sg_YL i (n + 1) 1 P v) ∧ sg_R t u1 v1 ∧ sg_E i u1 v1) ∨
    (d < 200 ∧ sg_CY i d v ∧ sg_S i d t u v) := by
  have H0 := H
  obtain ⟨xsc, xnow, xjc, xec, xse, xki, xpp, xqq, xrr, xst, xfs, xin, xtb, xaj, xat, xsd, xja, xev, xva, xha, xps, xpa, xpi, xct, xsn, xsv, xtk, xac, xji, xou, xen, xuw, xra, xea, xtj, xte⟩ := u
  obtain ⟨ysc, ynow, yjc, yec, yse, yss, yac, yji, yen, yho, ywh, ytj, yte, yst, ypl, ydn, yas, ywt, yun, yrs, yva, yha, ypa, ypi, yps, yso, ysv, yct⟩ := v
  obtain ⟨sc, jc, ⟨⟨⟨e1, e2, e3, e4⟩, e5, e6, e7, e8, e9, e10, e11, e12, e13, e14, e15, e16⟩, ⟨g1, g2, g3, g4⟩, hset, hprog, hjobs, hjas⟩, hf, hb, f, hst, hev, hf20, hfs, hpl, hdn, has, hctl⟩ := H
  subst e1 e2 e3 e4 e5 e6 e7 e8 e9 e10 e11 e12 e13 e14 e15 e16 g1 g2 g3 g4
  have hb0 := hb
  obtain ⟨hd, hsd, hva, hpil, hsig⟩ := hb
  have hsc := hprog.1
  have b3 : vp_in (nI i) 3 := vp_in_nI hi (by omega)
  have ci : (nI i).toNatClampNeg = i := nI_clamp (by omega)
  have hyd : ydn i = nI d := hdn.trans hsd
  by_cases hfsc : f < sc
  · by_cases h2 : d < 200
    · refine Or.inr ⟨h2, ⟨hst, by rw [hpl]; exact nI_lt hfsc (by omega), hyd⟩, ?_⟩
      exact sg_stepAll (k := xki f) hi H0 h2 ⟨f, sc, hfs, rfl, hfsc, hsc, rfl⟩ (sg_okk (hprog.2 f hfsc).2.2.2.2)
    · have e2 : d = 200 := by omega
      subst e2
      refine Or.inl ⟨(nI sc, nI t, nI jc, nI (sg_cnt xen jc), xse, xki, xpp, xqq, xrr, upd xst i 5, xfs, xin, xtb, xaj, xat, xsd, xja, xev, xva, xha, xps, xpa, xpi, xct, xsn, xsv, xtk, xac, xji, xou, xen, xuw, xra, xea, xtj, xte), (nI sc, nI t, nI jc, nI (sg_cnt xen jc), xse, yss, xac, xji, xen, yho, ywh, xtj, xte, upd xst i 5, ypl, ydn, yas, ywt, yun, yrs, yva, yha, xpa, xpi, xps, yso, xsv, xct), fun P h => ?_, fun n P h => ?_, ⟨sc, jc, ⟨⟨⟨rfl, rfl, rfl, rfl⟩, rfl, rfl, rfl, rfl, rfl, rfl, rfl, rfl, rfl, rfl, rfl, rfl⟩, ⟨rfl, rfl, rfl, rfl⟩, hset, hprog, hjobs, hjas⟩, fun m hm => ?_⟩, ⟨by rw [pk_us]; decide, by rw [pk_us]; decide⟩⟩
      · have h20 : ¬ nI 200 < 200 := nI_nlt (b := 200) (by omega) (by omega)
        simp (disch := omega) only [wpX_beginStep, ci, b3, hfs, hsd, h20, sg_ltT, sg_m3, sg_m3', sg_m4, sg_m4', sg_m6, sg_m6', sg_m7, sg_m7', sg_m200, sg_m200', nI_add, sg_a1, sg_a2, sg_a3, sg_a4, sg_a5, sg_a6, Int32.add_zero, sg_inT, nI_clamp, sg_lits, sg_mA, sg_mB, sg_mC, sg_mD, sg_mE, sg_mF, Int32.reduceLT, Int32.reduceLE, forall_eq, true_and, and_true, true_implies, false_implies, not_true_eq_false, not_false_eq_true, implies_true]
        exact h
      · have h20 : nI 200 = 200 := rfl
        simp (disch := omega) only [sg_YL, wY_work_33, ci, b3, hst, hpl, hyd, h20, sg_ltT, sg_m3, sg_m3', sg_m4, sg_m4', sg_m6, sg_m6', sg_m7, sg_m7', sg_m200, sg_m200', nI_add, sg_a1, sg_a2, sg_a3, sg_a4, sg_a5, sg_a6, Int32.add_zero, sg_inT, nI_clamp, sg_lits, sg_mA, sg_mB, sg_mC, sg_mD, sg_mE, sg_mF, Int32.reduceLT, Int32.reduceLE, forall_eq, true_and, and_true, true_implies, false_implies, not_true_eq_false, not_false_eq_true, implies_true]
        exact h
      · by_cases c : m = i
        · subst c
          exact Or.inr ⟨200, hb0, Or.inl ⟨5, by omega, by omega, pk_us, hev⟩⟩
        · exact sg_flow_fr c (hf m hm c)
  · refine Or.inl ⟨(nI sc, nI t, nI jc, nI (sg_cnt xen jc), xse, xki, xpp, xqq, xrr, upd xst i 2, xfs, xin, xtb, xaj, xat, xsd, xja, xev, xva, xha, xps, xpa, xpi, xct, xsn, xsv, xtk, xac, xji, xou, xen, xuw, xra, xea, xtj, xte), (nI sc, nI t, nI jc, nI (sg_cnt xen jc), xse, yss, xac, xji, xen, yho, ywh, xtj, xte, upd xst i 2, ypl, ydn, yas, ywt, yun, upd yrs i 0, yva, yha, xpa, xpi, xps, yso, xsv, xct), fun P h => ?_, fun n P h => ?_, ⟨sc, jc, ⟨⟨⟨rfl, rfl, rfl, rfl⟩, rfl, rfl, rfl, rfl, rfl, rfl, rfl, rfl, rfl, rfl, rfl, rfl⟩, ⟨rfl, rfl, rfl, rfl⟩, hset, hprog, hjobs, hjas⟩, fun m hm => ?_⟩, ⟨by rw [pk_us]; decide, by rw [pk_us]; decide⟩⟩
    · simp (disch := omega) only [wpX_beginStep, ci, b3, hfs, sg_ltF, sg_m3, sg_m3', sg_m4, sg_m4', sg_m6, sg_m6', sg_m7, sg_m7', sg_m200, sg_m200', nI_add, sg_a1, sg_a2, sg_a3, sg_a4, sg_a5, sg_a6, Int32.add_zero, sg_inT, nI_clamp, sg_lits, sg_mA, sg_mB, sg_mC, sg_mD, sg_mE, sg_mF, Int32.reduceLT, Int32.reduceLE, forall_eq, true_and, and_true, true_implies, false_implies, not_true_eq_false, not_false_eq_true, implies_true]
      exact h
    · simp (disch := omega) only [sg_YL, wY_work_33, ci, b3, hst, hpl, sg_ltF, sg_m3, sg_m3', sg_m4, sg_m4', sg_m6, sg_m6', sg_m7, sg_m7', sg_m200, sg_m200', nI_add, sg_a1, sg_a2, sg_a3, sg_a4, sg_a5, sg_a6, Int32.add_zero, sg_inT, nI_clamp, sg_lits, sg_mA, sg_mB, sg_mC, sg_mD, sg_mE, sg_mF, Int32.reduceLT, Int32.reduceLE, forall_eq, true_and, and_true, true_implies, false_implies, not_true_eq_false, not_false_eq_true, implies_true]
      exact h
    · by_cases c : m = i
      · subst c
        exact Or.inr ⟨d, hb0, Or.inl ⟨2, by omega, by omega, pk_us, by rw [if_pos rfl, pk_us]; exact hev⟩⟩
      · exact sg_flow_fr c (hf m hm c)
theorem sg_loop {i t : Nat} (hi : i < 3) : ∀ (k d c N M : Nat) (u : SX) (v : SY), d + k = 200 → c + 3 * k + 8 ≤ 2000 → 3 * k + 8 ≤ N → k + 4 ≤ M → sg_W 1 i d t u v → ∃ u1 v1, (∀ P : SX → Prop, P u1 → sg_XL i N 1 (nI c) P u) ∧ (∀ P : SY → Prop, P v1 → sg_YL i M 1 P v) ∧ sg_R t u1 v1 := by
  intro k
  induction k with
  | zero =>
    intro d c N M u v hd hc hN hM H
    obtain ⟨N, rfl⟩ : ∃ n, N = n + 2 := ⟨N - 2, by omega⟩
    obtain ⟨M, rfl⟩ : ∃ n, M = n + 2 := ⟨M - 2, by omega⟩
    rcases sg_head hi H with ⟨u1, v1, hX, hY, hR, hE⟩ | ⟨h, _⟩
    · exact ⟨u1, v1, fun P h => sg_xl_begin hi (by omega) (sg_W1x H).1 hX (sg_xl_end hi (by omega) (sg_E_X hE) h), fun P h => hY _ P (sg_yl_end hi (sg_E_Y hE) h), hR⟩
    · omega
  | succ k ih =>
    intro d c N M u v hd hc hN hM H
    obtain ⟨N, rfl⟩ : ∃ n, N = n + 4 := ⟨N - 4, by omega⟩
    obtain ⟨M, rfl⟩ : ∃ n, M = n + 2 := ⟨M - 2, by omega⟩
    rcases sg_head hi H with ⟨u1, v1, hX, hY, hR, hE⟩ | ⟨h2, hC, u1, v1, hX, hY, hO⟩
    · exact ⟨u1, v1, fun P h => sg_xl_begin hi (by omega) (sg_W1x H).1 hX (sg_xl_end hi (by omega) (sg_E_X hE) h), fun P h => hY _ P (sg_yl_end hi (sg_E_Y hE) h), hR⟩
    · have bX : ∀ P : SX → Prop, sg_XL i (N + 3) 1 (nI (c + 1)) P u1 → sg_XL i (N + 4) 1 (nI c) P u := fun P h => sg_xl_begin hi (by omega) (sg_W1x H).1 hX h
      rcases hO with ⟨hR, hE⟩ | hW | hW | ⟨hF, u2, hT, hO⟩
      · exact ⟨u1, v1, fun P h => bX P (sg_xl_end hi (by omega) (sg_E_X hE) h), fun P h => sg_yl_a hi h2 hC hY (sg_E_Y hE) (sg_yl_off h), hR⟩
      · obtain ⟨u2, v2, r1, r2, r3⟩ := ih (d + 1) (c + 1) (N + 3) (M + 1) u1 v1 (by omega) (by omega) (by omega) (by omega) hW
        exact ⟨u2, v2, fun P h => bX P (r1 P h), fun P h => sg_yl_b hi h2 hC hY (sg_W1x hW).2 (r2 P h), r3⟩
      · rcases sg_es hi hW with ⟨e1, e2⟩ | ⟨u2, v2, e1, e2, hW2⟩ | ⟨u2, u3, v3, b, e1, hF, e2, e3, hR, hE⟩
        · exact ⟨u1, v1, fun P h => bX P (sg_xl_es hi (by omega) (sg_W2x hW).1 e1 (sg_xl_stop (by omega) h)), fun P h => sg_yl_c0 hi h2 hC hY (sg_W2x hW).2 e2 (sg_yl_off h), sg_W_R hi (by omega) hW⟩
        · obtain ⟨u3, v3, r1, r2, r3⟩ := ih (d + 1) (c + 2) (N + 2) (M + 1) u2 v2 (by omega) (by omega) (by omega) (by omega) hW2
          exact ⟨u3, v3, fun P h => bX P (sg_xl_es hi (by omega) (sg_W2x hW).1 e1 (r1 P h)), fun P h => sg_yl_c1 hi h2 (by decide) hC hY (sg_W2x hW).2 e2 (r2 P h), r3⟩
        · refine ⟨u3, v3, fun P h => bX P (sg_xl_es hi (by omega) (sg_W2x hW).1 e1 (sg_xl_tb hi (by omega) hF e2 (sg_xl_stop (by omega) h))), fun P h => ?_, hR⟩
          by_cases hb : b = 0
          · subst hb
            exact sg_yl_c0 hi h2 hC hY (sg_W2x hW).2 e3 (sg_yl_off h)
          · rcases hE with hE | hE
            · exact sg_yl_c1 hi h2 hb hC hY (sg_W2x hW).2 e3 (sg_yl_end hi (sg_E_Y hE) h)
            · exact absurd hE hb
      · rcases hO with ⟨hR, hE⟩ | ⟨hW, hg⟩
        · exact ⟨u2, v1, fun P h => bX P (sg_xl_tb hi (by omega) hF hT (sg_xl_stop (by omega) h)), fun P h => sg_yl_a hi h2 hC hY (sg_E_Y hE) (sg_yl_off h), hR⟩
        · exact ⟨u2, v1, fun P h => bX P (sg_xl_tb hi (by omega) hF hT (sg_xl_stop (by omega) h)), fun P h => sg_yl_c0 hi h2 hC hY (sg_W3x hW).2 hg (sg_yl_off h), sg_W_R hi (by omega) hW⟩
/-! serving a workflow -/
theorem sg_xgo {i N : Nat} {u u1 : SX} (h : ∀ P : SX → Prop, P u1 → sg_XL i N 1 (nI 0) P u) : ∀ P : SX → Prop, P u1 → wpX_goOn P u (nI i) := fun P hp => by
  have h1 := h P hp
  obtain ⟨xsc, xnow, xjc, xec, xse, xki, xpp, xqq, xrr, xst, xfs, xin, xtb, xaj, xat, xsd, xja, xev, xva, xha, xps, xpa, xpi, xct, xsn, xsv, xtk, xac, xji, xou, xen, xuw, xra, xea, xtj, xte⟩ := u
  exact ⟨N, h1⟩
theorem sg_ywk_e {i : Nat} {v : SY} (hi : i < 3) (he : sg_EY i v) : ∀ P : SY → Prop, P v → wpY_work P v (nI i) := fun P hp => by
  have b3 : vp_in (nI i) 3 := vp_in_nI hi (by omega)
  have ci : (nI i).toNatClampNeg = i := nI_clamp (by omega)
  have h1 := sg_yl_off (i := i) (n := 0) hp
  obtain ⟨ysc, ynow, yjc, yec, yse, yss, yac, yji, yen, yho, ywh, ytj, yte, yst, ypl, ydn, yas, ywt, yun, yrs, yva, yha, ypa, ypi, yps, yso, ysv, yct⟩ := v
  have h3 : ¬ yst i = 1 := he
  simp only [wpY_work, ci, b3, h3, forall_eq, true_and, and_true, true_implies, false_implies, not_true_eq_false, not_false_eq_true, implies_true]
  exact ⟨1, h1⟩
theorem sg_ywk_1 {i N : Nat} {v v1 : SY} (hi : i < 3) (he : sg_HY i True v) (h : ∀ P : SY → Prop, P v1 → sg_YL i N 1 P v) : ∀ P : SY → Prop, P v1 → wpY_work P v (nI i) := fun P hp => by
  have b3 : vp_in (nI i) 3 := vp_in_nI hi (by omega)
  have ci : (nI i).toNatClampNeg = i := nI_clamp (by omega)
  have h1 := h P hp
  obtain ⟨ysc, ynow, yjc, yec, yse, yss, yac, yji, yen, yho, ywh, ytj, yte, yst, ypl, ydn, yas, ywt, yun, yrs, yva, yha, ypa, ypi, yps, yso, ysv, yct⟩ := v
  obtain ⟨h3, h4⟩ := he
  have h4 : ywt i = 0 := h4.mpr trivial
  simp only [wpY_work, ci, b3, h3, h4, forall_eq, true_and, and_true, true_implies, false_implies, not_true_eq_false, not_false_eq_true, implies_true]
  exact ⟨N, h1⟩
theorem sg_ywk_g0 {i : Nat} {v v1 : SY} (hi : i < 3) (he : sg_HY i False v) (hg : ∀ P : Int32 → SY → Prop, P 0 v1 → wpY_goOn P v (nI i)) : ∀ P : SY → Prop, P v1 → wpY_work P v (nI i) := fun P hp => by
  have b3 : vp_in (nI i) 3 := vp_in_nI hi (by omega)
  have ci : (nI i).toNatClampNeg = i := nI_clamp (by omega)
  have h1 := sg_yl_off (i := i) (n := 0) hp
  obtain ⟨ysc, ynow, yjc, yec, yse, yss, yac, yji, yen, yho, ywh, ytj, yte, yst, ypl, ydn, yas, ywt, yun, yrs, yva, yha, ypa, ypi, yps, yso, ysv, yct⟩ := v
  obtain ⟨w1, w2, w3, w4, w5, w6, w7, w8, w9, w10, w11, w12, w13, w14, w15, w16, w17, w18, w19, w20, w21, w22, w23, w24, w25, w26, w27, w28⟩ := v1
  obtain ⟨h3, h4⟩ := he
  have h4 : ¬ ywt i = 0 := fun z => h4.mp z
  simp only [wpY_work, ci, b3, h3, h4, forall_eq, true_and, and_true, true_implies, false_implies, not_true_eq_false, not_false_eq_true, implies_true]
  refine hg _ ?_
  simp only [forall_eq, true_and, and_true, true_implies, false_implies, not_true_eq_false, not_false_eq_true, implies_true]
  exact ⟨1, h1⟩
theorem sg_ywk_g1 {i N : Nat} {b : Int32} {v v1 v2 : SY} (hi : i < 3) (hb : ¬ b = 0) (he : sg_HY i False v) (hg : ∀ P : Int32 → SY → Prop, P b v1 → wpY_goOn P v (nI i)) (h : ∀ P : SY → Prop, P v2 → sg_YL i N 1 P v1) : ∀ P : SY → Prop, P v2 → wpY_work P v (nI i) := fun P hp => by
  have b3 : vp_in (nI i) 3 := vp_in_nI hi (by omega)
  have ci : (nI i).toNatClampNeg = i := nI_clamp (by omega)
  have h1 := h P hp
  obtain ⟨ysc, ynow, yjc, yec, yse, yss, yac, yji, yen, yho, ywh, ytj, yte, yst, ypl, ydn, yas, ywt, yun, yrs, yva, yha, ypa, ypi, yps, yso, ysv, yct⟩ := v
  obtain ⟨w1, w2, w3, w4, w5, w6, w7, w8, w9, w10, w11, w12, w13, w14, w15, w16, w17, w18, w19, w20, w21, w22, w23, w24, w25, w26, w27, w28⟩ := v1
  obtain ⟨h3, h4⟩ := he
  have h4 : ¬ ywt i = 0 := fun z => h4.mp z
  simp only [wpY_work, ci, b3, h3, h4, forall_eq, true_and, and_true, true_implies, false_implies, not_true_eq_false, not_false_eq_true, implies_true]
  refine hg _ ?_
  simp only [hb, forall_eq, true_and, and_true, true_implies, false_implies, not_true_eq_false, not_false_eq_true, implies_true]
  exact ⟨N, h1⟩
theorem sg_W_d {md i d t : Nat} {u : SX} {v : SY} (H : sg_W md i d t u v) : d ≤ 200 := by
  obtain ⟨xsc, xnow, xjc, xec, xse, xki, xpp, xqq, xrr, xst, xfs, xin, xtb, xaj, xat, xsd, xja, xev, xva, xha, xps, xpa, xpi, xct, xsn, xsv, xtk, xac, xji, xou, xen, xuw, xra, xea, xtj, xte⟩ := u
  obtain ⟨ysc, ynow, yjc, yec, yse, yss, yac, yji, yen, yho, ywh, ytj, yte, yst, ypl, ydn, yas, ywt, yun, yrs, yva, yha, ypa, ypi, yps, yso, ysv, yct⟩ := v
  obtain ⟨sc, jc, hg, hf, hb, _⟩ := H
  exact hb.1
theorem sg_R_W {i t : Nat} {u : SX} {v : SY} (hi : i < 3) (H : sg_R t u v) : sg_E i u v ∨ ∃ md d, (md = 1 ∨ md = 2 ∨ md = 3) ∧ sg_W md i d t u v := by
  obtain ⟨xsc, xnow, xjc, xec, xse, xki, xpp, xqq, xrr, xst, xfs, xin, xtb, xaj, xat, xsd, xja, xev, xva, xha, xps, xpa, xpi, xct, xsn, xsv, xtk, xac, xji, xou, xen, xuw, xra, xea, xtj, xte⟩ := u
  obtain ⟨ysc, ynow, yjc, yec, yse, yss, yac, yji, yen, yho, ywh, ytj, yte, yst, ypl, ydn, yas, ywt, yun, yrs, yva, yha, ypa, ypi, yps, yso, ysv, yct⟩ := v
  obtain ⟨sc, jc, ⟨⟨⟨e1, e2, e3, e4⟩, e5, e6, e7, e8, e9, e10, e11, e12, e13, e14, e15, e16⟩, ⟨g1, g2, g3, g4⟩, hset, hprog, hjobs, hjas⟩, hf⟩ := H
  subst e1 e2 e3 e4 e5 e6 e7 e8 e9 e10 e11 e12 e13 e14 e15 e16 g1 g2 g3 g4
  rcases hf i hi with h | ⟨d, hb, h⟩
  · exact Or.inl ⟨by rw [h.1]; decide, by rw [h.1]; decide⟩
  · rcases h with ⟨s, s1, s2, s3, _⟩ | ⟨md, f, hmd, ha⟩
    · have n1 : ¬ nI s = 1 := fun z => by
        have := (nI_eq (b := 1) (by omega) (by omega)).mp z
        omega
      exact Or.inl ⟨by rw [s3]; exact n1, by rw [s3]; exact n1⟩
    · exact Or.inr ⟨md, d, hmd, sc, jc, ⟨⟨⟨rfl, rfl, rfl, rfl⟩, rfl, rfl, rfl, rfl, rfl, rfl, rfl, rfl, rfl, rfl, rfl, rfl⟩, ⟨rfl, rfl, rfl, rfl⟩, hset, hprog, hjobs, hjas⟩, fun m hm _ => hf m hm, hb, f, ha⟩
theorem sg_work {i t : Nat} {u : SX} {v : SY} (hi : i < 3) (H : sg_R t u v) : ∃ u1 v1, (∀ P : SX → Prop, P u1 → wpX_goOn P u (nI i)) ∧ (∀ P : SY → Prop, P v1 → wpY_work P v (nI i)) ∧ sg_R t u1 v1 := by
  rcases sg_R_W hi H with hE | ⟨md, d, hmd, hW⟩
  · exact ⟨u, v, sg_xgo (N := 1) (fun P h => sg_xl_end hi (by omega) (sg_E_X hE) h), sg_ywk_e hi (sg_E_Y hE), H⟩
  · have hd := sg_W_d hW
    rcases hmd with rfl | rfl | rfl
    · obtain ⟨u1, v1, r1, r2, r3⟩ := sg_loop hi (200 - d) d 0 1000 1000 u v (by omega) (by omega) (by omega) (by omega) hW
      exact ⟨u1, v1, sg_xgo r1, sg_ywk_1 hi (sg_W1x hW).2 r2, r3⟩
    · rcases sg_es hi hW with ⟨e1, e2⟩ | ⟨u2, v2, e1, e2, hW2⟩ | ⟨u2, u3, v3, b, e1, hF, e2, e3, hR, hE⟩
      · exact ⟨u, v, sg_xgo (N := 2) (fun P h => sg_xl_es hi (by omega) (sg_W2x hW).1 e1 (sg_xl_stop (by omega) h)), sg_ywk_g0 hi (sg_W2x hW).2 e2, H⟩
      · obtain ⟨u3, v3, r1, r2, r3⟩ := sg_loop hi (200 - d) d 1 1000 1000 u2 v2 (by omega) (by omega) (by omega) (by omega) hW2
        exact ⟨u3, v3, sg_xgo (N := 1001) (fun P h => sg_xl_es hi (by omega) (sg_W2x hW).1 e1 (r1 P h)), sg_ywk_g1 hi (by decide) (sg_W2x hW).2 e2 r2, r3⟩
      · refine ⟨u3, v3, sg_xgo (N := 3) (fun P h => sg_xl_es hi (by omega) (sg_W2x hW).1 e1 (sg_xl_tb hi (by omega) hF e2 (sg_xl_stop (by omega) h))), ?_, hR⟩
        by_cases hb : b = 0
        · subst hb
          exact sg_ywk_g0 hi (sg_W2x hW).2 e3
        · rcases hE with hE | hE
          · exact sg_ywk_g1 (N := 1) hi hb (sg_W2x hW).2 e3 (fun P h => sg_yl_end hi (sg_E_Y hE) h)
          · exact absurd hE hb
    · obtain ⟨u1, v1, b, e1, e2, hR, hE⟩ := sg_tb hi hW
      refine ⟨u1, v1, sg_xgo (N := 2) (fun P h => sg_xl_tb hi (by omega) (sg_W3x hW).1 e1 (sg_xl_stop (by omega) h)), ?_, hR⟩
      by_cases hb : b = 0
      · subst hb
        exact sg_ywk_g0 hi (sg_W3x hW).2 e2
      · rcases hE with hE | hE
        · exact sg_ywk_g1 (N := 1) hi hb (sg_W3x hW).2 e2 (fun P h => sg_yl_end hi (sg_E_Y hE) h)
        · exact absurd hE hb
