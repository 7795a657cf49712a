def sg_F (i : Nat) (u : SX) : Prop := match u with
  | (xsc, xnow, xjc, xec, xse, xki, xpp, xqq, xrr, xst, xfs, xin, xtb, xaj, xat, xsd, xja, xev, xva, xha, xps, xpa, xpi, xct, xsn, xsv, xtk, xac, xji, xou, xen, xuw, xra, xea, xtj, xte) => xst i = 1 ∧ xtb i = 1
def sg_N (i : Nat) (u : SX) : Prop := match u with
  | (xsc, xnow, xjc, xec, xse, xki, xpp, xqq, xrr, xst, xfs, xin, xtb, xaj, xat, xsd, xja, xev, xva, xha, xps, xpa, xpi, xct, xsn, xsv, xtk, xac, xji, xou, xen, xuw, xra, xea, xtj, xte) => xaj i = -1
theorem sg_fgo {i d t : Nat} {u : SX} {v : SY} (hi : i < 3) (H : sg_W 4 i d t u v) (hn : sg_N i u) : ∃ u2 v2 b, (∀ post : SX → Prop, post u2 → wpX_takeBack post u (nI i)) ∧ (∀ post : Int32 → SY → Prop, post b v2 → wpY_takeBack (fun u => match u with | (ysc, ynow, yjc, yec, yse, yss, yac, yji, yen, yho, ywh, ytj, yte, yst, ypl, ydn, yas, ywt, yun, yrs, yva, yha, ypa, ypi, yps, yso, ysv, yct) => wY_goOn_213 post (nI i) ysc ynow yjc yec yse yss yac yji yen yho ywh ytj yte yst ypl ydn yas ywt yun yrs yva yha ypa ypi yps yso ysv yct) v (nI i)) ∧ sg_R t u2 v2 ∧ (sg_E i u2 v2 ∨ b = 0) := by
  have b3 : vp_in (nI i) 3 := vp_in_nI hi (by omega)
  have ci : (nI i).toNatClampNeg = i := nI_clamp (by omega)
  obtain ⟨u1, v1, hX, hY, hO⟩ := sg_tbl hi H
  obtain ⟨xsc, xnow, xjc, xec, xse, xki, xpp, xqq, xrr, xst, xfs, xin, xtb, xaj, xat, xsd, xja, xev, xva, xha, xps, xpa, xpi, xct, xsn, xsv, xtk, xac, xji, xou, xen, xuw, xra, xea, xtj, xte⟩ := u
  obtain ⟨z1, z2, z3, z4, z5, z6, z7, z8, z9, z10, z11, z12, z13, z14, z15, z16, z17, z18, z19, z20, z21, z22, z23, z24, z25, z26, z27, z28, z29, z30, z31, z32, z33, z34, z35, z36⟩ := u1
  obtain ⟨w1, w2, w3, w4, w5, w6, w7, w8, w9, w10, w11, w12, w13, w14, w15, w16, w17, w18, w19, w20, w21, w22, w23, w24, w25, w26, w27, w28⟩ := v1
  have haj : xaj i = -1 := hn
  have goX : ∀ post : SX → Prop, post (z1, z2, z3, z4, z5, z6, z7, z8, z9, z10, z11, z12, z13, z14, z15, z16, z17, z18, z19, z20, z21, z22, z23, z24, z25, z26, z27, z28, z29, z30, z31, z32, z33, z34, z35, z36) → wpX_takeBack post (xsc, xnow, xjc, xec, xse, xki, xpp, xqq, xrr, xst, xfs, xin, xtb, xaj, xat, xsd, xja, xev, xva, xha, xps, xpa, xpi, xct, xsn, xsv, xtk, xac, xji, xou, xen, xuw, xra, xea, xtj, xte) (nI i) := fun post h => by
    simp (disch := omega) only [wpX_takeBack, wX_takeBack_22, ci, b3, haj, sg_lits, sg_mA, sg_mB, sg_mC, sg_mD, sg_mE, sg_mF, Int32.reduceLT, Int32.reduceLE, forall_eq, true_and, and_true, true_implies, false_implies, not_true_eq_false, not_false_eq_true, implies_true]
    exact hX _ h
  rcases hO with ⟨r1, r2⟩ | ⟨r1, r2⟩
  · by_cases hw : w18 i = 0
    · refine ⟨_, _, 1, goX, fun post h => hY _ ?_, r1, Or.inl r2⟩
      simp only [wY_goOn_213, ci, b3, hw, forall_eq, true_and, and_true, true_implies, false_implies, not_true_eq_false, not_false_eq_true, implies_true]
      exact h
    · refine ⟨_, _, 0, goX, fun post h => hY _ ?_, r1, Or.inr rfl⟩
      simp only [wY_goOn_213, ci, b3, hw, forall_eq, true_and, and_true, true_implies, false_implies, not_true_eq_false, not_false_eq_true, implies_true]
      exact h
  · have hw : ¬ w18 i = 0 := by
      obtain ⟨_, _, _, _, _, _, _, _, _, _, _, _, _, hc⟩ := r1
      rcases hc with h | h | h | h
      · exact absurd h.1 (by decide)
      · exact absurd h.1 (by decide)
      · intro z; exact absurd (h.2.2.2.1.symm.trans z) (by decide)
      · exact absurd h.1 (by decide)
    refine ⟨_, _, 0, goX, fun post h => hY _ ?_, sg_W_R hi (by omega) r1, Or.inr rfl⟩
    simp only [wY_goOn_213, ci, b3, hw, forall_eq, true_and, and_true, true_implies, false_implies, not_true_eq_false, not_false_eq_true, implies_true]
    exact h
theorem sg_var_upd {i k : Nat} {x : Int32} {xva yva : Nat → Int32} (h : sg_var i xva yva) : sg_var i (upd xva k x) (upd yva k x) := by
  intro v hv
  by_cases c : 4 * i + v = k
  · rw [c, pk_us, pk_us]
  · rw [pk_un c, pk_un c]; exact h v hv
theorem sg_h5_hs {jc i a : Nat} {xha yha : Nat → Int32} (h : sg_h5 jc i a xha yha) : sg_hs jc i xha (upd yha (3 * i + a) (-1)) := by
  intro k hk
  by_cases c : k = a
  · subst c
    rw [pk_us, (h k hk).2 rfl]
    exact ⟨rfl, Or.inl rfl⟩
  · rw [pk_un (by omega)]
    exact (h k hk).1 c
theorem sg_sig_take {i m0 n : Nat} {xct xsn xtk yso : Nat → Int32} (hn : n ≤ 6) (hct : xct i = nI n) (H : ∀ m, m < n → (xsn (6 * i + m) = 0 ∨ xsn (6 * i + m) = 1) ∧ ((xtk (6 * i + m) = 0 ∧ yso (6 * i + m) = xsn (6 * i + m)) ∨ (xtk (6 * i + m) = 1 ∧ yso (6 * i + m) = -1))) : sg_sig i xct xsn (upd xtk (6 * i + m0) 1) (upd yso (6 * i + m0) (-1)) := by
  refine ⟨n, hn, hct, fun m hm => ?_⟩
  by_cases c : m = m0
  · subst c
    rw [pk_us, pk_us]
    exact ⟨(H m hm).1, Or.inr ⟨rfl, rfl⟩⟩
  · rw [pk_un (by omega), pk_un (by omega)]
    exact H m hm
theorem sg_ok3 {p q r : Int32} (h : sg_ok 3 p q r) : ∃ a b c, a < 4 ∧ b < 4 ∧ c < 4 ∧ p = nI a ∧ q = nI b ∧ r = nI c := by
  simpa only [sg_ok, sg_lits, false_and, true_and, false_or, or_false] using h
theorem sg_ok5 {p q r : Int32} (h : sg_ok 5 p q r) : ∃ a b, a < 3 ∧ b < 4 ∧ p = nI a ∧ q = nI b := by
  simpa only [sg_ok, sg_lits, false_and, true_and, false_or, or_false] using h
theorem sg_ok7 {p q r : Int32} (h : sg_ok 7 p q r) : ∃ a, a < 4 ∧ p = nI a := by
  simpa only [sg_ok, sg_lits, false_and, true_and, false_or, or_false] using h
theorem sg_ok10 {p q r : Int32} (h : sg_ok 10 p q r) : ∃ a b, a < 2 ∧ b < 4 ∧ p = nI a ∧ q = nI b := by
  simpa only [sg_ok, sg_lits, false_and, true_and, false_or, or_false] using h
def sg_G (i d t : Nat) (u : SX) (v : SY) : Prop :=
  ((∀ post : Int32 → SX → Prop, post 0 u → wpX_endStep post u (nI i)) ∧ (∀ post : Int32 → SY → Prop, post 0 v → wpY_goOn post v (nI i))) ∨
  (∃ u1 v1, (∀ post : Int32 → SX → Prop, post 1 u1 → wpX_endStep post u (nI i)) ∧ (∀ post : Int32 → SY → Prop, post 1 v1 → wpY_goOn post v (nI i)) ∧ sg_W 1 i d t u1 v1) ∨
  (∃ u1 u2 v2 b, (∀ post : Int32 → SX → Prop, post 1 u1 → wpX_endStep post u (nI i)) ∧ sg_F i u1 ∧ (∀ post : SX → Prop, post u2 → wpX_takeBack post u1 (nI i)) ∧ (∀ post : Int32 → SY → Prop, post b v2 → wpY_goOn post v (nI i)) ∧ sg_R t u2 v2 ∧ (sg_E i u2 v2 ∨ b = 0))
theorem sg_es {i d t : Nat} {u : SX} {v : SY} (hi : i < 3) (H : sg_W 2 i d t u v) : sg_G i d t u v := by
  obtain ⟨xsc, xnow, xjc, xec, xse, xki, xpp, xqq, xrr, xst, xfs, xin, xtb, xaj, xat, xsd, xja, xev, xva, xha, xps, xpa, xpi, xct, xsn, xsv, xtk, xac, xji, xou, xen, xuw, xra, xea, xtj, xte⟩ := u
  obtain ⟨ysc, ynow, yjc, yec, yse, yss, yac, yji, yen, yho, ywh, ytj, yte, yst, ypl, ydn, yas, ywt, yun, yrs, yva, yha, ypa, ypi, yps, yso, ysv, yct⟩ := v
  obtain ⟨sc, jc, ⟨⟨⟨e1, e2, e3, e4⟩, e5, e6, e7, e8, e9, e10, e11, e12, e13, e14, e15, e16⟩, ⟨g1, g2, g3, g4⟩, hset, hprog, hjobs, hjas⟩, hf, hb, f, hst, hev, hf20, hfs, hpl, hdn, has, hctl⟩ := H
  subst e1 e2 e3 e4 e5 e6 e7 e8 e9 e10 e11 e12 e13 e14 e15 e16 g1 g2 g3 g4
  have hb0 := hb
  obtain ⟨hd, hsd, hva, hpil, n, hn6, hct, hsig⟩ := hb
  obtain ⟨hfsc, hin, htb, hctl⟩ : f < sc ∧ xin i = 1 ∧ xtb i = 0 ∧ ((ywt i = 1 ∧ sg_aw jc (xaj i) (yun i) ∧ ((xki f = 3 ∧ sg_hs jc i xha yha) ∨ (xki f = 5 ∧ ∃ a, a < 3 ∧ xpp f = nI a ∧ sg_h5 jc i a xha yha))) ∨ (ywt i = 2 ∧ xki f = 7 ∧ yun i = xat i ∧ sg_hs jc i xha yha) ∨ (ywt i = 3 ∧ xki f = 10 ∧ yun i = xat i ∧ sg_hs jc i xha yha)) := by
    rcases hctl with h | h | h | h
    · exact absurd h.1 (by decide)
    · exact h.2
    · exact absurd h.1 (by decide)
    · exact absurd h.1 (by decide)
  have hsc := hprog.1
  obtain ⟨s0, s1, s2, s3, hok⟩ := hprog.2 f hfsc
  have hjc := sg_jas_le hjas
  have b3 : vp_in (nI i) 3 := vp_in_nI hi (by omega)
  have ci : (nI i).toNatClampNeg = i := nI_clamp (by omega)
  have hf1 : xfs i + 1 = nI (f + 1) := by rw [hfs]; exact nI_1 f
  rcases hctl with ⟨hwt, ⟨j, hj, haj, hun⟩, hkind⟩ | ⟨hwt, hk, hun, hhs⟩ | ⟨hwt, hk, hun, hhs⟩
  · obtain ⟨a, e, ha4, hac, he, hen, hlt, hhow⟩ := hjobs j hj
    have not : xou j = -1 → yho j ≤ 2 → sg_G i d t (nI sc, nI t, nI jc, nI (sg_cnt xen jc), xse, xki, xpp, xqq, xrr, xst, xfs, xin, xtb, xaj, xat, xsd, xja, xev, xva, xha, xps, xpa, xpi, xct, xsn, xsv, xtk, xac, xji, xou, xen, xuw, xra, xea, xtj, xte) (nI sc, nI t, nI jc, nI (sg_cnt xen jc), xse, yss, xac, xji, xen, yho, ywh, xtj, xte, xst, ypl, ydn, yas, ywt, yun, yrs, yva, yha, xpa, xpi, xps, yso, xsv, xct) := fun h1 h2 => by
      refine Or.inl ⟨fun post h => ?_, fun post h => ?_⟩
      · rcases hkind with ⟨hk, _⟩ | ⟨hk, _⟩
        · simp (disch := omega) only [wpX_endStep, ci, b3, hfs, hk, sg_m3, sg_m3', sg_m4, sg_m4', sg_m6, sg_m6', sg_m7, sg_m7', sg_m200, sg_m200', nI_add, sg_a1, sg_a2, sg_a3, sg_a4, sg_a5, sg_a6, Int32.add_zero, sg_inT, nI_clamp, sg_lits, sg_mA, sg_mB, sg_mC, sg_mD, sg_mE, sg_mF, Int32.reduceLT, Int32.reduceLE, forall_eq, true_and, and_true, true_implies, false_implies, not_true_eq_false, not_false_eq_true, implies_true]
          exact sg_xej_n hi (by omega) haj h1 ⟨sg_n0, h⟩
        · simp (disch := omega) only [wpX_endStep, ci, b3, hfs, hk, sg_m3, sg_m3', sg_m4, sg_m4', sg_m6, sg_m6', sg_m7, sg_m7', sg_m200, sg_m200', nI_add, sg_a1, sg_a2, sg_a3, sg_a4, sg_a5, sg_a6, Int32.add_zero, sg_inT, nI_clamp, sg_lits, sg_mA, sg_mB, sg_mC, sg_mD, sg_mE, sg_mF, Int32.reduceLT, Int32.reduceLE, forall_eq, true_and, and_true, true_implies, false_implies, not_true_eq_false, not_false_eq_true, implies_true]
          exact sg_xej_n hi (by omega) haj h1 ⟨sg_n0, h⟩
      · exact sg_goOn_not hi (by omega) hpl hwt (by decide) (by decide) (by decide) (by omega) hun h2 h
    rcases hhow with ⟨h1, h2, h3, h4⟩ | ⟨h1, h2, h3, h4, h5⟩ | ⟨h1, h2, h3, h4⟩ | ⟨h1, h2, h3⟩ | ⟨h1, h2, h3⟩
    · exact not h1 (by rw [h3]; decide)
    · exact not h1 (by rw [h3]; decide)
    · exact not h1 (by rw [h3]; decide)
    · rcases hkind with ⟨hk, hhs⟩ | ⟨hk, p, hp3, hp, hh5⟩
      · obtain ⟨a', b', w, _, _, hw, _, _, hr⟩ := sg_ok3 (hk ▸ hok)
        refine Or.inr (Or.inl ⟨(nI sc, nI t, nI jc, nI (sg_cnt xen jc), xse, xki, xpp, xqq, xrr, xst, upd xfs i (xfs i + 1), upd xin i 0, xtb, xaj, xat, xsd, xja, xev, upd xva (4 * i + w) (xji j * xse (7 * a + 5) + xse (7 * a + 6)), xha, xps, xpa, xpi, xct, xsn, xsv, xtk, xac, xji, xou, xen, xuw, xra, xea, xtj, xte), (nI sc, nI t, nI jc, nI (sg_cnt xen jc), xse, yss, xac, xji, xen, yho, ywh, xtj, xte, xst, upd ypl i (nI (f + 1)), ydn, yas, upd ywt i 0, yun, yrs, upd yva (4 * i + w) (xji j * xse (7 * a + 5) + xse (7 * a + 6)), yha, xpa, xpi, xps, yso, xsv, xct), fun post h => ?_, fun post h => ?_, ⟨sc, jc, ⟨⟨⟨rfl, rfl, rfl, rfl⟩, rfl, rfl, rfl, rfl, rfl, rfl, rfl, rfl, rfl, rfl, rfl, rfl⟩, ⟨rfl, rfl, rfl, rfl⟩, hset, hprog, hjobs, hjas⟩, fun m hm c => sg_flow_fr c (hf m hm c), ⟨hd, hsd, sg_var_upd hva, hpil, n, hn6, hct, hsig⟩, f + 1, hst, hev, by omega, pk_us.trans hf1, pk_us, hdn, has, Or.inl ⟨rfl, pk_us, pk_us, htb, hhs⟩⟩⟩)
        · simp (disch := omega) only [wpX_endStep, ci, b3, hfs, hk, hr, sg_m3, sg_m3', sg_m4, sg_m4', sg_m6, sg_m6', sg_m7, sg_m7', sg_m200, sg_m200', nI_add, sg_a1, sg_a2, sg_a3, sg_a4, sg_a5, sg_a6, Int32.add_zero, sg_inT, nI_clamp, sg_lits, sg_mA, sg_mB, sg_mC, sg_mD, sg_mE, sg_mF, Int32.reduceLT, Int32.reduceLE, forall_eq, true_and, and_true, true_implies, false_implies, not_true_eq_false, not_false_eq_true, implies_true]
          refine sg_xej_s hi hw (by omega) ha4 haj h1 hac ⟨sg_n1, ?_⟩
          exact h
        · exact sg_ygo_s3 hi hw (by omega) ha4 (by omega) hpl hwt hun (s0.trans hk) (s3.trans hr) h3 hac h
      · obtain ⟨a', w, _, hw, _, hq⟩ := sg_ok5 (hk ▸ hok)
        refine Or.inr (Or.inl ⟨(nI sc, nI t, nI jc, nI (sg_cnt xen jc), xse, xki, xpp, xqq, xrr, xst, upd xfs i (xfs i + 1), upd xin i 0, xtb, xaj, xat, xsd, xja, xev, upd xva (4 * i + w) (xji j * xse (7 * a + 5) + xse (7 * a + 6)), xha, xps, xpa, xpi, xct, xsn, xsv, xtk, xac, xji, xou, xen, xuw, xra, xea, xtj, xte), (nI sc, nI t, nI jc, nI (sg_cnt xen jc), xse, yss, xac, xji, xen, yho, ywh, xtj, xte, xst, upd ypl i (nI (f + 1)), ydn, yas, upd ywt i 0, yun, yrs, upd yva (4 * i + w) (xji j * xse (7 * a + 5) + xse (7 * a + 6)), upd yha (3 * i + p) (-1), xpa, xpi, xps, yso, xsv, xct), fun post h => ?_, fun post h => ?_, ⟨sc, jc, ⟨⟨⟨rfl, rfl, rfl, rfl⟩, rfl, rfl, rfl, rfl, rfl, rfl, rfl, rfl, rfl, rfl, rfl, rfl⟩, ⟨rfl, rfl, rfl, rfl⟩, hset, hprog, hjobs, hjas⟩, fun m hm c => sg_flow_fr c (hf m hm c), ⟨hd, hsd, sg_var_upd hva, hpil, n, hn6, hct, hsig⟩, f + 1, hst, hev, by omega, pk_us.trans hf1, pk_us, hdn, has, Or.inl ⟨rfl, pk_us, pk_us, htb, sg_h5_hs hh5⟩⟩⟩)
        · simp (disch := omega) only [wpX_endStep, ci, b3, hfs, hk, hq, sg_m3, sg_m3', sg_m4, sg_m4', sg_m6, sg_m6', sg_m7, sg_m7', sg_m200, sg_m200', nI_add, sg_a1, sg_a2, sg_a3, sg_a4, sg_a5, sg_a6, Int32.add_zero, sg_inT, nI_clamp, sg_lits, sg_mA, sg_mB, sg_mC, sg_mD, sg_mE, sg_mF, Int32.reduceLT, Int32.reduceLE, forall_eq, true_and, and_true, true_implies, false_implies, not_true_eq_false, not_false_eq_true, implies_true]
          refine sg_xej_s hi hw (by omega) ha4 haj h1 hac ⟨sg_n1, ?_⟩
          exact h
        · exact sg_ygo_s5 hi hp3 hw (by omega) ha4 (by omega) hpl hwt hun (s0.trans hk) (s2.trans hq) (s1.trans hp) h3 hac h
    · rcases hkind with ⟨hk, hhs⟩ | ⟨hk, p, hp3, hp, hh5⟩
      · have W4 : sg_W 4 i d t (nI sc, nI t, nI jc, nI (sg_cnt xen jc), xse, xki, xpp, xqq, xrr, xst, upd xfs i (xfs i), xin, upd xtb i 1, upd xaj i (-1), xat, xsd, xja, xev, xva, xha, xps, xpa, xpi, xct, xsn, xsv, xtk, xac, xji, xou, xen, xuw, xra, xea, xtj, xte) (nI sc, nI t, nI jc, nI (sg_cnt xen jc), xse, yss, xac, xji, xen, yho, ywh, xtj, xte, xst, ypl, ydn, yas, upd ywt i 0, yun, yrs, yva, yha, xpa, xpi, xps, yso, xsv, xct) := ⟨sc, jc, ⟨⟨⟨rfl, rfl, rfl, rfl⟩, rfl, rfl, rfl, rfl, rfl, rfl, rfl, rfl, rfl, rfl, rfl, rfl⟩, ⟨rfl, rfl, rfl, rfl⟩, hset, hprog, hjobs, hjas⟩, fun m hm c => sg_flow_fr c (hf m hm c), hb0, f, hst, hev, hf20, pk_us.trans hfs, hpl, hdn, has, Or.inr (Or.inr (Or.inr ⟨rfl, hfsc, pk_us, pk_us⟩))⟩
        obtain ⟨u2, v2, b, r1, r2, r3, r4⟩ := sg_fgo hi W4 pk_us
        refine Or.inr (Or.inr ⟨_, u2, v2, b, fun post h => ?_, ⟨hst, pk_us⟩, r1, fun post h => ?_, r3, r4⟩)
        · simp (disch := omega) only [wpX_endStep, ci, b3, hfs, hk, sg_m3, sg_m3', sg_m4, sg_m4', sg_m6, sg_m6', sg_m7, sg_m7', sg_m200, sg_m200', nI_add, sg_a1, sg_a2, sg_a3, sg_a4, sg_a5, sg_a6, Int32.add_zero, sg_inT, nI_clamp, sg_lits, sg_mA, sg_mB, sg_mC, sg_mD, sg_mE, sg_mF, Int32.reduceLT, Int32.reduceLE, forall_eq, true_and, and_true, true_implies, false_implies, not_true_eq_false, not_false_eq_true, implies_true]
          refine sg_xej_f hi (by omega) haj h1 ⟨sg_n1, ?_⟩
          exact h
        · exact sg_ygo_f3 hi (by omega) (by omega) hpl hwt hun (s0.trans hk) h3 (r2 post h)
      · have W4 : sg_W 4 i d t (nI sc, nI t, nI jc, nI (sg_cnt xen jc), xse, xki, xpp, xqq, xrr, xst, upd xfs i (xfs i), xin, upd xtb i 1, upd xaj i (-1), xat, xsd, xja, xev, xva, xha, xps, xpa, xpi, xct, xsn, xsv, xtk, xac, xji, xou, xen, xuw, xra, xea, xtj, xte) (nI sc, nI t, nI jc, nI (sg_cnt xen jc), xse, yss, xac, xji, xen, yho, ywh, xtj, xte, xst, ypl, ydn, yas, upd ywt i 0, yun, yrs, yva, upd yha (3 * i + p) (-1), xpa, xpi, xps, yso, xsv, xct) := ⟨sc, jc, ⟨⟨⟨rfl, rfl, rfl, rfl⟩, rfl, rfl, rfl, rfl, rfl, rfl, rfl, rfl, rfl, rfl, rfl, rfl⟩, ⟨rfl, rfl, rfl, rfl⟩, hset, hprog, hjobs, hjas⟩, fun m hm c => sg_flow_fr c (hf m hm c), hb0, f, hst, hev, hf20, pk_us.trans hfs, hpl, hdn, has, Or.inr (Or.inr (Or.inr ⟨rfl, hfsc, pk_us, pk_us⟩))⟩
        obtain ⟨u2, v2, b, r1, r2, r3, r4⟩ := sg_fgo hi W4 pk_us
        refine Or.inr (Or.inr ⟨_, u2, v2, b, fun post h => ?_, ⟨hst, pk_us⟩, r1, fun post h => ?_, r3, r4⟩)
        · simp (disch := omega) only [wpX_endStep, ci, b3, hfs, hk, sg_m3, sg_m3', sg_m4, sg_m4', sg_m6, sg_m6', sg_m7, sg_m7', sg_m200, sg_m200', nI_add, sg_a1, sg_a2, sg_a3, sg_a4, sg_a5, sg_a6, Int32.add_zero, sg_inT, nI_clamp, sg_lits, sg_mA, sg_mB, sg_mC, sg_mD, sg_mE, sg_mF, Int32.reduceLT, Int32.reduceLE, forall_eq, true_and, and_true, true_implies, false_implies, not_true_eq_false, not_false_eq_true, implies_true]
          refine sg_xej_f hi (by omega) haj h1 ⟨sg_n1, ?_⟩
          exact h
        · exact sg_ygo_f5 hi hp3 (by omega) (by omega) hpl hwt hun (s0.trans hk) (s1.trans hp) h3 (r2 post h)
  · by_cases hn : xat i ≤ nI t
    · refine Or.inr (Or.inl ⟨(nI sc, nI t, nI jc, nI (sg_cnt xen jc), xse, xki, xpp, xqq, xrr, xst, upd xfs i (xfs i + 1), upd xin i 0, xtb, xaj, xat, xsd, xja, xev, xva, xha, xps, xpa, xpi, xct, xsn, xsv, xtk, xac, xji, xou, xen, xuw, xra, xea, xtj, xte), (nI sc, nI t, nI jc, nI (sg_cnt xen jc), xse, yss, xac, xji, xen, yho, ywh, xtj, xte, xst, upd ypl i (nI (f + 1)), ydn, yas, upd ywt i 0, yun, yrs, yva, yha, xpa, xpi, xps, yso, xsv, xct), fun post h => ?_, fun post h => ?_, ⟨sc, jc, ⟨⟨⟨rfl, rfl, rfl, rfl⟩, rfl, rfl, rfl, rfl, rfl, rfl, rfl, rfl, rfl, rfl, rfl, rfl⟩, ⟨rfl, rfl, rfl, rfl⟩, hset, hprog, hjobs, hjas⟩, fun m hm c => sg_flow_fr c (hf m hm c), hb0, f + 1, hst, hev, by omega, pk_us.trans hf1, pk_us, hdn, has, Or.inl ⟨rfl, pk_us, pk_us, htb, hhs⟩⟩⟩)
      · simp (disch := omega) only [wpX_endStep, wpX_endPause, ci, b3, hfs, hk, hn, sg_m3, sg_m3', sg_m4, sg_m4', sg_m6, sg_m6', sg_m7, sg_m7', sg_m200, sg_m200', nI_add, sg_a1, sg_a2, sg_a3, sg_a4, sg_a5, sg_a6, Int32.add_zero, sg_inT, nI_clamp, sg_lits, sg_mA, sg_mB, sg_mC, sg_mD, sg_mE, sg_mF, Int32.reduceLT, Int32.reduceLE, forall_eq, true_and, and_true, true_implies, false_implies, not_true_eq_false, not_false_eq_true, implies_true]
        refine sg_xlv hi ?_
        exact ⟨sg_n1, h⟩
      · exact sg_ygo_p hi (by omega) hpl hwt (by rw [hun]; exact Int32.not_lt.mpr hn) h
    · refine Or.inl ⟨fun post h => ?_, fun post h => ?_⟩
      · simp (disch := omega) only [wpX_endStep, wpX_endPause, ci, b3, hfs, hk, hn, sg_m3, sg_m3', sg_m4, sg_m4', sg_m6, sg_m6', sg_m7, sg_m7', sg_m200, sg_m200', nI_add, sg_a1, sg_a2, sg_a3, sg_a4, sg_a5, sg_a6, Int32.add_zero, sg_inT, nI_clamp, sg_lits, sg_mA, sg_mB, sg_mC, sg_mD, sg_mE, sg_mF, Int32.reduceLT, Int32.reduceLE, forall_eq, true_and, and_true, true_implies, false_implies, not_true_eq_false, not_false_eq_true, implies_true]
        exact ⟨sg_n0, h⟩
      · exact sg_ygo_pn hi (by omega) hpl hwt (by rw [hun]; exact Int32.not_le.mp hn) h
  · obtain ⟨s, w, hs2, hw, hp, hq⟩ := sg_ok10 (hk ▸ hok)
    rcases sg_fsig (xsc := nI sc) (xnow := nI t) (xjc := nI jc) (xec := nI (sg_cnt xen jc)) (xse := xse) (xki := xki) (xpp := xpp) (xqq := xqq) (xrr := xrr) (xst := xst) (xfs := xfs) (xin := xin) (xtb := xtb) (xaj := xaj) (xat := xat) (xsd := xsd) (xja := xja) (xev := xev) (xva := xva) (xha := xha) (xps := xps) (xpa := xpa) (xpi := xpi) (xsv := xsv) (xac := xac) (xji := xji) (xou := xou) (xen := xen) (xuw := xuw) (xra := xra) (xea := xea) (xtj := xtj) (xte := xte) (ysc := nI sc) (ynow := nI t) (yjc := nI jc) (yec := nI (sg_cnt xen jc)) (yse := xse) (yss := yss) (yac := xac) (yji := xji) (yen := xen) (yho := yho) (ywh := ywh) (ytj := xtj) (yte := xte) (yst := xst) (ypl := ypl) (ydn := ydn) (yas := yas) (ywt := ywt) (yun := yun) (yrs := yrs) (yva := yva) (yha := yha) (ypa := xpa) (ypi := xpi) (yps := xps) (ysv := xsv) hi hn6 hct hct hs2 hsig n 0 (n + 1) (by omega) (by omega) with ⟨gX, gY⟩ | ⟨m0, hm0, htk, gX, gY⟩
    · by_cases hn : xat i ≤ nI t
      · refine Or.inr (Or.inl ⟨(nI sc, nI t, nI jc, nI (sg_cnt xen jc), xse, xki, xpp, xqq, xrr, xst, upd xfs i (xfs i + 1), upd xin i 0, xtb, xaj, xat, xsd, xja, xev, upd xva (4 * i + w) (-1), xha, xps, xpa, xpi, xct, xsn, xsv, xtk, xac, xji, xou, xen, xuw, xra, xea, xtj, xte), (nI sc, nI t, nI jc, nI (sg_cnt xen jc), xse, yss, xac, xji, xen, yho, ywh, xtj, xte, xst, upd ypl i (nI (f + 1)), ydn, yas, upd ywt i 0, yun, yrs, upd yva (4 * i + w) (-1), yha, xpa, xpi, xps, yso, xsv, xct), fun post h => ?_, fun post h => ?_, ⟨sc, jc, ⟨⟨⟨rfl, rfl, rfl, rfl⟩, rfl, rfl, rfl, rfl, rfl, rfl, rfl, rfl, rfl, rfl, rfl, rfl⟩, ⟨rfl, rfl, rfl, rfl⟩, hset, hprog, hjobs, hjas⟩, fun m hm c => sg_flow_fr c (hf m hm c), ⟨hd, hsd, sg_var_upd hva, hpil, n, hn6, hct, hsig⟩, f + 1, hst, hev, by omega, pk_us.trans hf1, pk_us, hdn, has, Or.inl ⟨rfl, pk_us, pk_us, htb, hhs⟩⟩⟩)
        · simp (disch := omega) only [wpX_endStep, wX_endStep_78, ci, b3, hfs, hk, sg_m3, sg_m3', sg_m4, sg_m4', sg_m6, sg_m6', sg_m7, sg_m7', sg_m200, sg_m200', nI_add, sg_a1, sg_a2, sg_a3, sg_a4, sg_a5, sg_a6, Int32.add_zero, sg_inT, nI_clamp, sg_lits, sg_mA, sg_mB, sg_mC, sg_mD, sg_mE, sg_mF, Int32.reduceLT, Int32.reduceLE, forall_eq, true_and, and_true, true_implies, false_implies, not_true_eq_false, not_false_eq_true, implies_true]
          refine sg_xes_t hi (by omega) hw hp hq gX hn ⟨sg_n1, ?_⟩
          exact h
        · exact sg_ygo_gt hi (by omega) hw hpl hwt (s1.trans hp) (s2.trans hq) gY (by rw [hun]; exact Int32.not_lt.mpr hn) h
      · refine Or.inl ⟨fun post h => ?_, fun post h => ?_⟩
        · simp (disch := omega) only [wpX_endStep, wX_endStep_78, ci, b3, hfs, hk, sg_m3, sg_m3', sg_m4, sg_m4', sg_m6, sg_m6', sg_m7, sg_m7', sg_m200, sg_m200', nI_add, sg_a1, sg_a2, sg_a3, sg_a4, sg_a5, sg_a6, Int32.add_zero, sg_inT, nI_clamp, sg_lits, sg_mA, sg_mB, sg_mC, sg_mD, sg_mE, sg_mF, Int32.reduceLT, Int32.reduceLE, forall_eq, true_and, and_true, true_implies, false_implies, not_true_eq_false, not_false_eq_true, implies_true]
          refine sg_xes_n hi (by omega) hp gX hn ⟨sg_n0, ?_⟩
          exact h
        · exact sg_ygo_gn hi (by omega) hpl hwt (s1.trans hp) gY (by rw [hun]; exact Int32.not_le.mp hn) h
    · refine Or.inr (Or.inl ⟨(nI sc, nI t, nI jc, nI (sg_cnt xen jc), xse, xki, xpp, xqq, xrr, xst, upd xfs i (xfs i + 1), upd xin i 0, xtb, xaj, xat, xsd, xja, xev, upd xva (4 * i + w) (xsv (6 * i + m0)), xha, xps, xpa, xpi, xct, xsn, xsv, upd xtk (6 * i + m0) 1, xac, xji, xou, xen, xuw, xra, xea, xtj, xte), (nI sc, nI t, nI jc, nI (sg_cnt xen jc), xse, yss, xac, xji, xen, yho, ywh, xtj, xte, xst, upd ypl i (nI (f + 1)), ydn, yas, upd ywt i 0, yun, yrs, upd yva (4 * i + w) (xsv (6 * i + m0)), yha, xpa, xpi, xps, upd yso (6 * i + m0) (-1), xsv, xct), fun post h => ?_, fun post h => ?_, ⟨sc, jc, ⟨⟨⟨rfl, rfl, rfl, rfl⟩, rfl, rfl, rfl, rfl, rfl, rfl, rfl, rfl, rfl, rfl, rfl, rfl⟩, ⟨rfl, rfl, rfl, rfl⟩, hset, hprog, hjobs, hjas⟩, fun m hm c => sg_flow_fr c (hf m hm c), ⟨hd, hsd, sg_var_upd hva, hpil, sg_sig_take hn6 hct hsig⟩, f + 1, hst, hev, by omega, pk_us.trans hf1, pk_us, hdn, has, Or.inl ⟨rfl, pk_us, pk_us, htb, hhs⟩⟩⟩)
      · simp (disch := omega) only [wpX_endStep, wX_endStep_78, ci, b3, hfs, hk, sg_m3, sg_m3', sg_m4, sg_m4', sg_m6, sg_m6', sg_m7, sg_m7', sg_m200, sg_m200', nI_add, sg_a1, sg_a2, sg_a3, sg_a4, sg_a5, sg_a6, Int32.add_zero, sg_inT, nI_clamp, sg_lits, sg_mA, sg_mB, sg_mC, sg_mD, sg_mE, sg_mF, Int32.reduceLT, Int32.reduceLE, forall_eq, true_and, and_true, true_implies, false_implies, not_true_eq_false, not_false_eq_true, implies_true]
        refine sg_xes_s hi (by omega) hw (by omega) hp hq gX ⟨sg_n1, ?_⟩
        exact h
      · exact sg_ygo_gs hi (by omega) hw (by omega) hpl hwt (s1.trans hp) (s2.trans hq) gY h
