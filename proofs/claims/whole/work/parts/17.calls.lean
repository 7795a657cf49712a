def i_Rel (k : Nat) (u : SX) (v : SY) : Prop := ∃ t, t ≤ 20 * k ∧ sg_R t u v ∧ sg_late u v
theorem i_up {k : Nat} {u : SX} {v : SY} (h : i_Rel k u v) : i_Rel (k + 5) u v := by
  obtain ⟨t, h1, h2⟩ := h
  exact ⟨t, by omega, h2⟩
theorem sg_rng (x : Int32) (m : Nat) (hm : m < 2 ^ 31) : x < 0 ∨ (¬ x < 0 ∧ nI m < x) ∨ ∃ j, j ≤ m ∧ x = nI j := by
  by_cases h : x < 0
  · exact Or.inl h
  · obtain ⟨j, hj, rfl⟩ := nI_of h
    by_cases c : j ≤ m
    · exact Or.inr (Or.inr ⟨j, c, rfl⟩)
    · exact Or.inr (Or.inl ⟨h, nI_lt (by omega) hj⟩)
theorem sg_2n {a : Nat} (h : a ≤ 2) : ¬ (2 : Int32) < nI a := nI_nlt (a := 2) (by omega) (by omega)
theorem sg_1n {a : Nat} (h : a ≤ 1) : ¬ (1 : Int32) < nI a := nI_nlt (a := 1) (by omega) (by omega)
theorem sg_100n {a : Nat} (h : a ≤ 100) : ¬ (100 : Int32) < nI a := nI_nlt (a := 100) (by omega) (by omega)
theorem sg_adds : ((0 : Int32) + 1 = 1) ∧ ((1 : Int32) + 1 = 2) ∧ ((2 : Int32) + 1 = 3) ∧ ((3 : Int32) + 1 = 4) ∧ ((4 : Int32) + 1 = 5) ∧ ((5 : Int32) + 1 = 6) := by
  refine ⟨?_, ?_, ?_, ?_, ?_, ?_⟩ <;> decide
/-- serving workflow i, and beginning what is ready -/
theorem sg_serve {i t : Nat} {u : SX} {v : SY} (hi : i < 3) (H : sg_R t u v) : ∃ u2 v2, (∀ P : SX → Prop, P u2 → wpX_goOn (fun u => wpX_beginReadyAttempts P u) u (nI i)) ∧ (∀ P : SY → Prop, P v2 → wpY_work (fun u => wpY_begin P u) v (nI i)) ∧ sg_R t u2 v2 ∧ sg_late u2 v2 := by
  obtain ⟨u1, v1, a1, a2, a3⟩ := sg_work hi H
  obtain ⟨u2, v2, b1, b2, b3, b4⟩ := sg_begin a3
  exact ⟨u2, v2, fun P h => a1 _ (b1 P h), fun P h => a2 _ (b2 P h), b3, b4⟩
theorem sg_st_eq {t : Nat} {u : SX} {v : SY} (H : sg_R t u v) : (match v with | (ysc, ynow, yjc, yec, yse, yss, yac, yji, yen, yho, ywh, ytj, yte, yst, ypl, ydn, yas, ywt, yun, yrs, yva, yha, ypa, ypi, yps, yso, ysv, yct) => yst) = (match u with | (xsc, xnow, xjc, xec, xse, xki, xpp, xqq, xrr, xst, xfs, xin, xtb, xaj, xat, xsd, xja, xev, xva, xha, xps, xpa, xpi, xct, xsn, xsv, xtk, xac, xji, xou, xen, xuw, xra, xea, xtj, xte) => xst) := by
  obtain ⟨xsc, xnow, xjc, xec, xse, xki, xpp, xqq, xrr, xst, xfs, xin, xtb, xaj, xat, xsd, xja, xev, xva, xha, xps, xpa, xpi, xct, xsn, xsv, xtk, xac, xji, xou, xen, xuw, xra, xea, xtj, xte⟩ := u
  obtain ⟨ysc, ynow, yjc, yec, yse, yss, yac, yji, yen, yho, ywh, ytj, yte, yst, ypl, ydn, yas, ywt, yun, yrs, yva, yha, ypa, ypi, yps, yso, ysv, yct⟩ := v
  obtain ⟨sc, jc, ⟨⟨⟨e1, e2, e3, e4⟩, e5, e6, e7, e8, e9, e10, e11, e12, e13, e14, e15, e16⟩, ⟨g1, g2, g3, g4⟩, hset, hprog, hjobs, hjas⟩, hf⟩ := H
  exact e6.symm
theorem sg_start {k : Nat} {u : SX} {v : SY} (I : i_Rel k u v) (x y : Int32) : ∃ r u' v', (∀ P : Int32 → SX → Prop, P r u' → wpX_start P u x y) ∧ (∀ P : Int32 → SY → Prop, P r v' → wpY_start P v x y) ∧ i_Rel (k + 5) u' v' := by
  have I5 := i_up I
  obtain ⟨t, ht, H, HL⟩ := I
  rcases sg_rng x 2 (by decide) with h0 | ⟨h0, h2⟩ | ⟨i, hi, rfl⟩
  · refine ⟨-1, u, v, fun P h => ?_, fun P h => ?_, I5⟩
    · obtain ⟨xsc, xnow, xjc, xec, xse, xki, xpp, xqq, xrr, xst, xfs, xin, xtb, xaj, xat, xsd, xja, xev, xva, xha, xps, xpa, xpi, xct, xsn, xsv, xtk, xac, xji, xou, xen, xuw, xra, xea, xtj, xte⟩ := u
      simp only [wpX_start, wpX_isWorkflow, wpX_isIn, h0, sg_n0, forall_eq, true_and, and_true, true_implies, false_implies, not_true_eq_false, not_false_eq_true, implies_true]
      exact h
    · obtain ⟨ysc, ynow, yjc, yec, yse, yss, yac, yji, yen, yho, ywh, ytj, yte, yst, ypl, ydn, yas, ywt, yun, yrs, yva, yha, ypa, ypi, yps, yso, ysv, yct⟩ := v
      simp only [wpY_start, wpY_isIn, h0, forall_eq, true_and, and_true, true_implies, false_implies, not_true_eq_false, not_false_eq_true, implies_true]
      exact h
  · have h2 : (2 : Int32) < x := h2
    refine ⟨-1, u, v, fun P h => ?_, fun P h => ?_, I5⟩
    · obtain ⟨xsc, xnow, xjc, xec, xse, xki, xpp, xqq, xrr, xst, xfs, xin, xtb, xaj, xat, xsd, xja, xev, xva, xha, xps, xpa, xpi, xct, xsn, xsv, xtk, xac, xji, xou, xen, xuw, xra, xea, xtj, xte⟩ := u
      simp only [wpX_start, wpX_isWorkflow, wpX_isIn, h0, h2, sg_n0, forall_eq, true_and, and_true, true_implies, false_implies, not_true_eq_false, not_false_eq_true, implies_true]
      exact h
    · obtain ⟨ysc, ynow, yjc, yec, yse, yss, yac, yji, yen, yho, ywh, ytj, yte, yst, ypl, ydn, yas, ywt, yun, yrs, yva, yha, ypa, ypi, yps, yso, ysv, yct⟩ := v
      simp only [wpY_start, wpY_isIn, h0, h2, forall_eq, true_and, and_true, true_implies, false_implies, not_true_eq_false, not_false_eq_true, implies_true]
      exact h
  · have hi3 : i < 3 := by omega
    have b3 : vp_in (nI i) 3 := vp_in_nI hi3 (by omega)
    have ci : (nI i).toNatClampNeg = i := nI_clamp (by omega)
    have h2 := sg_2n hi
    obtain ⟨xsc, xnow, xjc, xec, xse, xki, xpp, xqq, xrr, xst, xfs, xin, xtb, xaj, xat, xsd, xja, xev, xva, xha, xps, xpa, xpi, xct, xsn, xsv, xtk, xac, xji, xou, xen, xuw, xra, xea, xtj, xte⟩ := u
    obtain ⟨ysc, ynow, yjc, yec, yse, yss, yac, yji, yen, yho, ywh, ytj, yte, yst, ypl, ydn, yas, ywt, yun, yrs, yva, yha, ypa, ypi, yps, yso, ysv, yct⟩ := v
    obtain ⟨sc, jc, ⟨⟨⟨e1, e2, e3, e4⟩, e5, e6, e7, e8, e9, e10, e11, e12, e13, e14, e15, e16⟩, ⟨g1, g2, g3, g4⟩, hset, hprog, hjobs, hjas⟩, hf⟩ := H
    subst e1 e2 e3 e4 e5 e6 e7 e8 e9 e10 e11 e12 e13 e14 e15 e16 g1 g2 g3 g4
    by_cases c : xst i = 0
    · have hid := hf i hi3
      rcases hid with ⟨k1, k2, k3, k4, k5, k6, k7, k8, k9, kv, kh⟩ | ⟨d, hb, hx⟩
      · have eps : upd xps i 0 = xps := sg_self xps i 0 k8
        have ect : upd xct i 0 = xct := sg_self xct i 0 k9
        have R1 : sg_R t (nI sc, nI t, nI jc, nI (sg_cnt xen jc), xse, xki, xpp, xqq, xrr, upd xst i 1, xfs, xin, xtb, xaj, xat, xsd, xja, xev, upd xva (4 * i) y, xha, xps, xpa, xpi, xct, xsn, xsv, xtk, xac, xji, xou, xen, xuw, xra, xea, xtj, xte) (nI sc, nI t, nI jc, nI (sg_cnt xen jc), xse, yss, xac, xji, xen, yho, ywh, xtj, xte, upd xst i 1, upd ypl i 0, upd ydn i 0, upd yas i 0, upd ywt i 0, yun, yrs, upd (upd (upd (upd yva (4 * i) y) (4 * i + 1) 0) (4 * i + 2) 0) (4 * i + 3) 0, upd (upd (upd yha (3 * i) (-1)) (3 * i + 1) (-1)) (3 * i + 2) (-1), xpa, xpi, xps, yso, xsv, xct) := by
          refine ⟨sc, jc, ⟨⟨⟨rfl, rfl, rfl, rfl⟩, rfl, rfl, rfl, rfl, rfl, rfl, rfl, rfl, rfl, rfl, rfl, rfl⟩, ⟨rfl, rfl, rfl, rfl⟩, hset, hprog, hjobs, hjas⟩, fun m hm => ?_⟩
          by_cases e : m = i
          · subst e
            refine Or.inr ⟨0, ⟨by omega, k5, ?_, ⟨0, by omega, k8, fun z hz => absurd hz (by omega)⟩, ⟨0, by omega, k9, fun z hz => absurd hz (by omega)⟩⟩, Or.inr ⟨1, 0, Or.inl rfl, pk_us, k7, by omega, k2, pk_us, ?_, ?_, Or.inl ⟨rfl, pk_us, k3, k4, ?_⟩⟩⟩
            · intro z hz
              obtain rfl | rfl | rfl | rfl : z = 0 ∨ z = 1 ∨ z = 2 ∨ z = 3 := by omega
              · rw [pk_un (by omega), pk_un (by omega), pk_un (by omega), Nat.add_zero, pk_us, pk_us]
              · rw [pk_un (by omega), pk_un (by omega), pk_us, pk_un (by omega), kv 1 (by omega)]
              · rw [pk_un (by omega), pk_us, pk_un (by omega), kv 2 (by omega)]
              · rw [pk_us, pk_un (by omega), kv 3 (by omega)]
            · rw [pk_us, k5]
            · rw [pk_us, k6]
            · intro z hz
              obtain rfl | rfl | rfl : z = 0 ∨ z = 1 ∨ z = 2 := by omega
              · rw [pk_un (by omega), pk_un (by omega), Nat.add_zero, pk_us]
                exact ⟨(kh 0 (by omega)).symm, Or.inl (kh 0 (by omega))⟩
              · rw [pk_un (by omega), pk_us]
                exact ⟨(kh 1 (by omega)).symm, Or.inl (kh 1 (by omega))⟩
              · rw [pk_us]
                exact ⟨(kh 2 (by omega)).symm, Or.inl (kh 2 (by omega))⟩
          · have o0 : sg_out i 4 xva (upd xva (4 * i) y) := sg_o_u (p := 0) (by omega)
            have o1 : sg_out i 4 yva (upd (upd (upd (upd yva (4 * i) y) (4 * i + 1) 0) (4 * i + 2) 0) (4 * i + 3) 0) := sg_o_t (sg_o_t (sg_o_t (sg_o_u (p := 0) (by omega)) (sg_o_u (by omega))) (sg_o_u (by omega))) (sg_o_u (by omega))
            have o2 : sg_out i 3 yha (upd (upd (upd yha (3 * i) (-1)) (3 * i + 1) (-1)) (3 * i + 2) (-1)) := sg_o_t (sg_o_t (sg_o_u (p := 0) (by omega)) (sg_o_u (by omega))) (sg_o_u (by omega))
            exact sg_flow_fr e (hf m hm) (o_xva := o0) (o_yva := o1) (o_yha := o2)
        obtain ⟨u2, v2, p1, p2, p3, p4⟩ := sg_serve hi3 R1
        have est := sg_st_eq p3
        obtain ⟨z1, z2, z3, z4, z5, z6, z7, z8, z9, z10, z11, z12, z13, z14, z15, z16, z17, z18, z19, z20, z21, z22, z23, z24, z25, z26, z27, z28, z29, z30, z31, z32, z33, z34, z35, z36⟩ := u2
        obtain ⟨w1, w2, w3, w4, w5, w6, w7, w8, w9, w10, w11, w12, w13, w14, w15, w16, w17, w18, w19, w20, w21, w22, w23, w24, w25, w26, w27, w28⟩ := v2
        have est : w14 = z10 := est
        subst est
        refine ⟨w14 i, _, _, fun P h => ?_, fun P h => ?_, ⟨t, by omega, p3, p4⟩⟩
        · simp (disch := omega) only [wpX_start, wpX_isWorkflow, wpX_isIn, sg_neg, h2, sg_n1, ci, b3, c, sg_m3, sg_m3', sg_m4, sg_m4', sg_m6, sg_m6', sg_m7, sg_m7', sg_m200, sg_m200', nI_add, sg_a1, sg_a2, sg_a3, sg_a4, sg_a5, sg_a6, Int32.add_zero, sg_inT, nI_clamp, sg_lits, sg_mA, sg_mB, sg_mC, sg_mD, sg_mE, sg_mF, Int32.reduceLT, Int32.reduceLE, forall_eq, true_and, and_true, true_implies, false_implies, not_true_eq_false, not_false_eq_true, implies_true]
          exact p1 _ h
        · simp (disch := omega) only [wpY_start, wpY_isIn, sg_neg, h2, ci, b3, c, eps, ect, sg_m3, sg_m3', sg_m4, sg_m4', sg_m6, sg_m6', sg_m7, sg_m7', sg_m200, sg_m200', nI_add, sg_a1, sg_a2, sg_a3, sg_a4, sg_a5, sg_a6, Int32.add_zero, sg_inT, nI_clamp, sg_lits, sg_mA, sg_mB, sg_mC, sg_mD, sg_mE, sg_mF, Int32.reduceLT, Int32.reduceLE, forall_eq, true_and, and_true, true_implies, false_implies, not_true_eq_false, not_false_eq_true, implies_true]
          refine ⟨5, ?_⟩
          simp (disch := omega) only [wY_start_75, sg_adds, sg_m3, sg_m3', sg_m4, sg_m4', sg_m6, sg_m6', sg_m7, sg_m7', sg_m200, sg_m200', nI_add, sg_a1, sg_a2, sg_a3, sg_a4, sg_a5, sg_a6, Int32.add_zero, sg_inT, nI_clamp, sg_lits, sg_mA, sg_mB, sg_mC, sg_mD, sg_mE, sg_mF, Int32.reduceLT, Int32.reduceLE, forall_eq, true_and, and_true, true_implies, false_implies, not_true_eq_false, not_false_eq_true, implies_true]
          refine ⟨4, ?_⟩
          simp (disch := omega) only [wY_start_107, sg_adds, sg_m3, sg_m3', sg_m4, sg_m4', sg_m6, sg_m6', sg_m7, sg_m7', sg_m200, sg_m200', nI_add, sg_a1, sg_a2, sg_a3, sg_a4, sg_a5, sg_a6, Int32.add_zero, sg_inT, nI_clamp, sg_lits, sg_mA, sg_mB, sg_mC, sg_mD, sg_mE, sg_mF, Int32.reduceLT, Int32.reduceLE, forall_eq, true_and, and_true, true_implies, false_implies, not_true_eq_false, not_false_eq_true, implies_true]
          exact p2 _ h
      · exfalso
        rcases hx with ⟨s, s1, s2, s3, s4⟩ | ⟨md, f, hmd, ha⟩
        · have z := (nI_eq (b := 0) (by omega) (by omega)).mp (s3.symm.trans c)
          omega
        · exact absurd (ha.1.symm.trans c) (by decide)
    · refine ⟨-3, _, _, fun P h => ?_, fun P h => ?_, I5⟩
      · simp (disch := omega) only [wpX_start, wpX_isWorkflow, wpX_isIn, sg_neg, h2, sg_n1, ci, b3, c, sg_m3, sg_m3', sg_m4, sg_m4', sg_m6, sg_m6', sg_m7, sg_m7', sg_m200, sg_m200', nI_add, sg_a1, sg_a2, sg_a3, sg_a4, sg_a5, sg_a6, Int32.add_zero, sg_inT, nI_clamp, sg_lits, sg_mA, sg_mB, sg_mC, sg_mD, sg_mE, sg_mF, Int32.reduceLT, Int32.reduceLE, forall_eq, true_and, and_true, true_implies, false_implies, not_true_eq_false, not_false_eq_true, implies_true]
        exact h
      · simp (disch := omega) only [wpY_start, wpY_isIn, sg_neg, h2, ci, b3, c, sg_m3, sg_m3', sg_m4, sg_m4', sg_m6, sg_m6', sg_m7, sg_m7', sg_m200, sg_m200', nI_add, sg_a1, sg_a2, sg_a3, sg_a4, sg_a5, sg_a6, Int32.add_zero, sg_inT, nI_clamp, sg_lits, sg_mA, sg_mB, sg_mC, sg_mD, sg_mE, sg_mF, Int32.reduceLT, Int32.reduceLE, forall_eq, true_and, and_true, true_implies, false_implies, not_true_eq_false, not_false_eq_true, implies_true]
        exact h
theorem i_vc_start {k : Nat} {u : SX} {v : SY} (I : i_Rel k u v) (hk : k + 5 ≤ 2560) (v1 : Int32) (v2 : Int32) : wpX_start (fun r u' => wpY_start (fun r' v' => r' = r ∧ i_Rel (k + 5) u' v') v v1 v2) u v1 v2 := by
  obtain ⟨r, u', v', h1, h2, h3⟩ := sg_start I v1 v2
  exact h1 _ (h2 _ ⟨rfl, h3⟩)
theorem i_vc_crash {k : Nat} {u : SX} {v : SY} (I : i_Rel k u v) (hk : k + 5 ≤ 2560) : wpX_crash (fun u' => wpY_crash (fun v' => i_Rel (k + 5) u' v') v) u := by
  have I5 := i_up I
  obtain ⟨xsc, xnow, xjc, xec, xse, xki, xpp, xqq, xrr, xst, xfs, xin, xtb, xaj, xat, xsd, xja, xev, xva, xha, xps, xpa, xpi, xct, xsn, xsv, xtk, xac, xji, xou, xen, xuw, xra, xea, xtj, xte⟩ := u
  obtain ⟨ysc, ynow, yjc, yec, yse, yss, yac, yji, yen, yho, ywh, ytj, yte, yst, ypl, ydn, yas, ywt, yun, yrs, yva, yha, ypa, ypi, yps, yso, ysv, yct⟩ := v
  exact I5
