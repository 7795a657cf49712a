def sg_K (i : Nat) (k : Int32) (u : SX) : Prop := match u with
  | (xsc, xnow, xjc, xec, xse, xki, xpp, xqq, xrr, xst, xfs, xin, xtb, xaj, xat, xsd, xja, xev, xva, xha, xps, xpa, xpi, xct, xsn, xsv, xtk, xac, xji, xou, xen, xuw, xra, xea, xtj, xte) => ∃ f sc, xfs i = nI f ∧ xsc = nI sc ∧ f < sc ∧ sc ≤ 20 ∧ xki f = k
def sg_D (i d : Nat) (v : SY) : SY := match v with
  | (ysc, ynow, yjc, yec, yse, yss, yac, yji, yen, yho, ywh, ytj, yte, yst, ypl, ydn, yas, ywt, yun, yrs, yva, yha, ypa, ypi, yps, yso, ysv, yct) => (ysc, ynow, yjc, yec, yse, yss, yac, yji, yen, yho, ywh, ytj, yte, yst, ypl, upd ydn i (nI (d + 1)), yas, ywt, yun, yrs, yva, yha, ypa, ypi, yps, yso, ysv, yct)
def sg_S (i d t : Nat) (u : SX) (v : SY) : Prop := ∃ u1 v1, (∀ post : SX → Prop, post u1 → wpX_beginStep post u (nI i)) ∧ (∀ post : SY → Prop, post v1 → wpY_doStep post (sg_D i d v) (nI i)) ∧
  ((sg_R t u1 v1 ∧ sg_E i u1 v1) ∨ sg_W 1 i (d + 1) t u1 v1 ∨ sg_W 2 i (d + 1) t u1 v1 ∨ (sg_F i u1 ∧ ∃ u2, (∀ post : SX → Prop, post u2 → wpX_takeBack post u1 (nI i)) ∧ ((sg_R t u2 v1 ∧ sg_E i u2 v1) ∨ (sg_W 3 i (d + 1) t u2 v1 ∧ ∀ post : Int32 → SY → Prop, post 0 v1 → wpY_goOn post v1 (nI i)))))
theorem sg_ok0 {p q r : Int32} (h : sg_ok 0 p q r) : ∃ a, a < 4 ∧ p = nI a := by
  simpa only [sg_ok, sg_lits, false_and, true_and, false_or, or_false] using h
theorem sg_ok1 {p q r : Int32} (h : sg_ok 1 p q r) : ∃ a b, a < 4 ∧ b < 4 ∧ p = nI a ∧ q = nI b := by
  simpa only [sg_ok, sg_lits, false_and, true_and, false_or, or_false] using h
theorem sg_ok2 {p q r : Int32} (h : sg_ok 2 p q r) : ∃ a b, a < 4 ∧ b < 4 ∧ p = nI a ∧ q = nI b := by
  simpa only [sg_ok, sg_lits, false_and, true_and, false_or, or_false] using h
theorem sg_ok4 {p q r : Int32} (h : sg_ok 4 p q r) : ∃ a b c, a < 4 ∧ b < 4 ∧ c < 3 ∧ p = nI a ∧ q = nI b ∧ r = nI c := by
  simpa only [sg_ok, sg_lits, false_and, true_and, false_or, or_false] using h
theorem sg_ok6 {p q r : Int32} (h : sg_ok 6 p q r) : ∃ a b, a < 4 ∧ b < 4 ∧ p = nI a ∧ q = nI b := by
  simpa only [sg_ok, sg_lits, false_and, true_and, false_or, or_false] using h
theorem sg_ok8 {p q r : Int32} (h : sg_ok 8 p q r) : ∃ a, a < 20 ∧ p = nI a := by
  simpa only [sg_ok, sg_lits, false_and, true_and, false_or, or_false] using h
theorem sg_ok9 {p q r : Int32} (h : sg_ok 9 p q r) : ∃ a b c, a < 4 ∧ b < 4 ∧ c < 20 ∧ p = nI a ∧ q = nI b ∧ r = nI c := by
  simpa only [sg_ok, sg_lits, false_and, true_and, false_or, or_false] using h
theorem sg_ok11 {p q r : Int32} (h : sg_ok 11 p q r) : ∃ a, a < 4 ∧ p = nI a := by
  simpa only [sg_ok, sg_lits, false_and, true_and, false_or, or_false] using h
theorem sg_3n {a : Nat} (h : a < 4) : ¬ (3 : Int32) < nI a := nI_nlt (a := 3) (by omega) (by omega)
theorem sg_step0 {i d t : Nat} {u : SX} {v : SY} {kk : Int32} (hkk : kk = 0) (hi : i < 3) (H : sg_W 1 i d t u v) (hlt : d < 200) (hK : sg_K i kk u) : sg_S i d t u v := by
  obtain ⟨xsc, xnow, xjc, xec, xse, xki, xpp, xqq, xrr, xst, xfs, xin, xtb, xaj, xat, xsd, xja, xev, xva, xha, xps, xpa, xpi, xct, xsn, xsv, xtk, xac, xji, xou, xen, xuw, xra, xea, xtj, xte⟩ := u
  obtain ⟨ysc, ynow, yjc, yec, yse, yss, yac, yji, yen, yho, ywh, ytj, yte, yst, ypl, ydn, yas, ywt, yun, yrs, yva, yha, ypa, ypi, yps, yso, ysv, yct⟩ := v
  obtain ⟨sc, jc, ⟨⟨⟨e1, e2, e3, e4⟩, e5, e6, e7, e8, e9, e10, e11, e12, e13, e14, e15, e16⟩, ⟨g1, g2, g3, g4⟩, hset, hprog, hjobs, hjas⟩, hf, hb, f, hst, hev, hf20, hfs, hpl, hdn, has, hctl⟩ := H
  subst e1 e2 e3 e4 e5 e6 e7 e8 e9 e10 e11 e12 e13 e14 e15 e16 g1 g2 g3 g4
  obtain ⟨hd, hsd, hva, ⟨pz, hpz, hps, hpa⟩, hsig⟩ := hb
  obtain ⟨hwt, hin, htb, hhs⟩ : ywt i = 0 ∧ xin i = 0 ∧ xtb i = 0 ∧ sg_hs jc i xha yha := by
    rcases hctl with h | h | h | h
    · exact h.2
    · exact absurd h.1 (by decide)
    · exact absurd h.1 (by decide)
    · exact absurd h.1 (by decide)
  have hsc := hprog.1
  obtain ⟨hfsc, hk⟩ : f < sc ∧ xki f = kk := by
    obtain ⟨f', sc', k1, k2, k3, k4, k5⟩ := hK
    have e1 : f = f' := (nI_eq (by omega) (by omega)).mp (hfs.symm.trans k1)
    have e2 : sc = sc' := (nI_eq (by omega) (by omega)).mp k2
    subst e1 e2
    exact ⟨k3, k5⟩
  obtain ⟨s0, s1, s2, s3, hok⟩ := hprog.2 f hfsc
  have hjc := sg_jas_le hjas
  have b3 : vp_in (nI i) 3 := vp_in_nI hi (by omega)
  have ci : (nI i).toNatClampNeg = i := nI_clamp (by omega)
  have h200 : nI d < 200 := nI_lt (b := 200) hlt (by decide)
  have hdn1 : upd ydn i (nI (d + 1)) i = upd xsd i (nI (d + 1)) i := pk_us.trans pk_us.symm
  have hb1 : sg_base i (d + 1) (upd xsd i (nI (d + 1))) xva xps xpa xct xsn xtk yva yso := ⟨by omega, pk_us, hva, ⟨pz, by omega, hps, hpa⟩, hsig⟩
  obtain ⟨q, hq30, hja⟩ := hjas.1 i hi
  have hya : yas i = nI q := has.trans hja
  subst hkk
  obtain ⟨a, ha, hp⟩ := sg_ok0 (hk ▸ hok)
  have h3 := sg_3n ha
  refine ⟨(nI sc, nI t, nI jc, nI (sg_cnt xen jc), xse, xki, xpp, xqq, xrr, xst, upd xfs i (nI (f + 1)), xin, xtb, xaj, xat, upd xsd i (nI (d + 1)), xja, xev, upd xva (4 * i + a) (xqq f), xha, xps, xpa, xpi, xct, xsn, xsv, xtk, xac, xji, xou, xen, xuw, xra, xea, xtj, xte), (nI sc, nI t, nI jc, nI (sg_cnt xen jc), xse, yss, xac, xji, xen, yho, ywh, xtj, xte, xst, upd ypl i (nI (f + 1)), upd ydn i (nI (d + 1)), yas, ywt, yun, yrs, upd yva (4 * i + a) (xqq f), yha, xpa, xpi, xps, yso, xsv, xct), fun post h => ?_, fun post h => ?_, Or.inr (Or.inl ⟨sc, jc, ⟨⟨⟨rfl, rfl, rfl, rfl⟩, rfl, rfl, rfl, rfl, rfl, rfl, rfl, rfl, rfl, rfl, rfl, rfl⟩, ⟨rfl, rfl, rfl, rfl⟩, hset, hprog, hjobs, hjas⟩, fun m hm c => sg_flow_fr c (hf m hm c), ⟨by omega, pk_us, sg_var_upd hva, ⟨pz, by omega, hps, hpa⟩, hsig⟩, f + 1, hst, hev, by omega, pk_us, pk_us, hdn1, has, Or.inl ⟨rfl, hwt, hin, htb, hhs⟩⟩)⟩
  · simp (disch := omega) only [hp, wpX_beginStep, wpX_isWaitingKind, wpX_doAtOnce, wpX_beginWait, ci, b3, hfs, hsd, h200, hk, sg_ltT, sg_m3, sg_m3', sg_m4, sg_m4', sg_m6, sg_m6', sg_m7, sg_m7', sg_m200, sg_m200', nI_add, sg_a1, sg_a2, sg_a3, sg_a4, sg_a5, sg_a6, Int32.add_zero, sg_inT, nI_clamp, sg_lits, sg_mA, sg_mB, sg_mC, sg_mD, sg_mE, sg_mF, Int32.reduceLT, Int32.reduceLE, forall_eq, true_and, and_true, true_implies, false_implies, not_true_eq_false, not_false_eq_true, implies_true]
    exact h
  · simp (disch := omega) only [sg_D, wY_doStep_76, wY_doStep_121, hp, h3, wpY_doStep, wY_doStep_48, wpY_part, wpY_isIn, ci, b3, hpl, s0, s1, s2, s3, hk, sg_neg, sg_m3, sg_m3', sg_m4, sg_m4', sg_m6, sg_m6', sg_m7, sg_m7', sg_m200, sg_m200', nI_add, sg_a1, sg_a2, sg_a3, sg_a4, sg_a5, sg_a6, Int32.add_zero, sg_inT, nI_clamp, sg_lits, sg_mA, sg_mB, sg_mC, sg_mD, sg_mE, sg_mF, Int32.reduceLT, Int32.reduceLE, forall_eq, true_and, and_true, true_implies, false_implies, not_true_eq_false, not_false_eq_true, implies_true]
    exact h
theorem sg_step1 {i d t : Nat} {u : SX} {v : SY} {kk : Int32} (hkk : kk = 1) (hi : i < 3) (H : sg_W 1 i d t u v) (hlt : d < 200) (hK : sg_K i kk u) : sg_S i d t u v := by
  obtain ⟨xsc, xnow, xjc, xec, xse, xki, xpp, xqq, xrr, xst, xfs, xin, xtb, xaj, xat, xsd, xja, xev, xva, xha, xps, xpa, xpi, xct, xsn, xsv, xtk, xac, xji, xou, xen, xuw, xra, xea, xtj, xte⟩ := u
  obtain ⟨ysc, ynow, yjc, yec, yse, yss, yac, yji, yen, yho, ywh, ytj, yte, yst, ypl, ydn, yas, ywt, yun, yrs, yva, yha, ypa, ypi, yps, yso, ysv, yct⟩ := v
  obtain ⟨sc, jc, ⟨⟨⟨e1, e2, e3, e4⟩, e5, e6, e7, e8, e9, e10, e11, e12, e13, e14, e15, e16⟩, ⟨g1, g2, g3, g4⟩, hset, hprog, hjobs, hjas⟩, hf, hb, f, hst, hev, hf20, hfs, hpl, hdn, has, hctl⟩ := H
  subst e1 e2 e3 e4 e5 e6 e7 e8 e9 e10 e11 e12 e13 e14 e15 e16 g1 g2 g3 g4
  obtain ⟨hd, hsd, hva, ⟨pz, hpz, hps, hpa⟩, hsig⟩ := hb
  obtain ⟨hwt, hin, htb, hhs⟩ : ywt i = 0 ∧ xin i = 0 ∧ xtb i = 0 ∧ sg_hs jc i xha yha := by
    rcases hctl with h | h | h | h
    · exact h.2
    · exact absurd h.1 (by decide)
    · exact absurd h.1 (by decide)
    · exact absurd h.1 (by decide)
  have hsc := hprog.1
  obtain ⟨hfsc, hk⟩ : f < sc ∧ xki f = kk := by
    obtain ⟨f', sc', k1, k2, k3, k4, k5⟩ := hK
    have e1 : f = f' := (nI_eq (by omega) (by omega)).mp (hfs.symm.trans k1)
    have e2 : sc = sc' := (nI_eq (by omega) (by omega)).mp k2
    subst e1 e2
    exact ⟨k3, k5⟩
  obtain ⟨s0, s1, s2, s3, hok⟩ := hprog.2 f hfsc
  have hjc := sg_jas_le hjas
  have b3 : vp_in (nI i) 3 := vp_in_nI hi (by omega)
  have ci : (nI i).toNatClampNeg = i := nI_clamp (by omega)
  have h200 : nI d < 200 := nI_lt (b := 200) hlt (by decide)
  have hdn1 : upd ydn i (nI (d + 1)) i = upd xsd i (nI (d + 1)) i := pk_us.trans pk_us.symm
  have hb1 : sg_base i (d + 1) (upd xsd i (nI (d + 1))) xva xps xpa xct xsn xtk yva yso := ⟨by omega, pk_us, hva, ⟨pz, by omega, hps, hpa⟩, hsig⟩
  obtain ⟨q, hq30, hja⟩ := hjas.1 i hi
  have hya : yas i = nI q := has.trans hja
  subst hkk
  obtain ⟨a, b, ha, hb, hp, hq⟩ := sg_ok1 (hk ▸ hok)
  have h3 := sg_3n ha
  have e1 := hva a ha
  have e2 := hva b hb
  refine ⟨(nI sc, nI t, nI jc, nI (sg_cnt xen jc), xse, xki, xpp, xqq, xrr, xst, upd xfs i (nI (f + 1)), xin, xtb, xaj, xat, upd xsd i (nI (d + 1)), xja, xev, upd xva (4 * i + a) (xva (4 * i + a) + xva (4 * i + b)), xha, xps, xpa, xpi, xct, xsn, xsv, xtk, xac, xji, xou, xen, xuw, xra, xea, xtj, xte), (nI sc, nI t, nI jc, nI (sg_cnt xen jc), xse, yss, xac, xji, xen, yho, ywh, xtj, xte, xst, upd ypl i (nI (f + 1)), upd ydn i (nI (d + 1)), yas, ywt, yun, yrs, upd yva (4 * i + a) (xva (4 * i + a) + xva (4 * i + b)), yha, xpa, xpi, xps, yso, xsv, xct), fun post h => ?_, fun post h => ?_, Or.inr (Or.inl ⟨sc, jc, ⟨⟨⟨rfl, rfl, rfl, rfl⟩, rfl, rfl, rfl, rfl, rfl, rfl, rfl, rfl, rfl, rfl, rfl, rfl⟩, ⟨rfl, rfl, rfl, rfl⟩, hset, hprog, hjobs, hjas⟩, fun m hm c => sg_flow_fr c (hf m hm c), ⟨by omega, pk_us, sg_var_upd hva, ⟨pz, by omega, hps, hpa⟩, hsig⟩, f + 1, hst, hev, by omega, pk_us, pk_us, hdn1, has, Or.inl ⟨rfl, hwt, hin, htb, hhs⟩⟩)⟩
  · simp (disch := omega) only [hp, hq, wpX_beginStep, wpX_isWaitingKind, wpX_doAtOnce, wpX_beginWait, ci, b3, hfs, hsd, h200, hk, sg_ltT, sg_m3, sg_m3', sg_m4, sg_m4', sg_m6, sg_m6', sg_m7, sg_m7', sg_m200, sg_m200', nI_add, sg_a1, sg_a2, sg_a3, sg_a4, sg_a5, sg_a6, Int32.add_zero, sg_inT, nI_clamp, sg_lits, sg_mA, sg_mB, sg_mC, sg_mD, sg_mE, sg_mF, Int32.reduceLT, Int32.reduceLE, forall_eq, true_and, and_true, true_implies, false_implies, not_true_eq_false, not_false_eq_true, implies_true]
    exact h
  · simp (disch := omega) only [sg_D, wY_doStep_76, wY_doStep_121, hp, hq, h3, e1, e2, wpY_doStep, wY_doStep_48, wpY_part, wpY_isIn, ci, b3, hpl, s0, s1, s2, s3, hk, sg_neg, sg_m3, sg_m3', sg_m4, sg_m4', sg_m6, sg_m6', sg_m7, sg_m7', sg_m200, sg_m200', nI_add, sg_a1, sg_a2, sg_a3, sg_a4, sg_a5, sg_a6, Int32.add_zero, sg_inT, nI_clamp, sg_lits, sg_mA, sg_mB, sg_mC, sg_mD, sg_mE, sg_mF, Int32.reduceLT, Int32.reduceLE, forall_eq, true_and, and_true, true_implies, false_implies, not_true_eq_false, not_false_eq_true, implies_true]
    exact h
theorem sg_step2 {i d t : Nat} {u : SX} {v : SY} {kk : Int32} (hkk : kk = 2) (hi : i < 3) (H : sg_W 1 i d t u v) (hlt : d < 200) (hK : sg_K i kk u) : sg_S i d t u v := by
  obtain ⟨xsc, xnow, xjc, xec, xse, xki, xpp, xqq, xrr, xst, xfs, xin, xtb, xaj, xat, xsd, xja, xev, xva, xha, xps, xpa, xpi, xct, xsn, xsv, xtk, xac, xji, xou, xen, xuw, xra, xea, xtj, xte⟩ := u
  obtain ⟨ysc, ynow, yjc, yec, yse, yss, yac, yji, yen, yho, ywh, ytj, yte, yst, ypl, ydn, yas, ywt, yun, yrs, yva, yha, ypa, ypi, yps, yso, ysv, yct⟩ := v
  obtain ⟨sc, jc, ⟨⟨⟨e1, e2, e3, e4⟩, e5, e6, e7, e8, e9, e10, e11, e12, e13, e14, e15, e16⟩, ⟨g1, g2, g3, g4⟩, hset, hprog, hjobs, hjas⟩, hf, hb, f, hst, hev, hf20, hfs, hpl, hdn, has, hctl⟩ := H
  subst e1 e2 e3 e4 e5 e6 e7 e8 e9 e10 e11 e12 e13 e14 e15 e16 g1 g2 g3 g4
  obtain ⟨hd, hsd, hva, ⟨pz, hpz, hps, hpa⟩, hsig⟩ := hb
  obtain ⟨hwt, hin, htb, hhs⟩ : ywt i = 0 ∧ xin i = 0 ∧ xtb i = 0 ∧ sg_hs jc i xha yha := by
    rcases hctl with h | h | h | h
    · exact h.2
    · exact absurd h.1 (by decide)
    · exact absurd h.1 (by decide)
    · exact absurd h.1 (by decide)
  have hsc := hprog.1
  obtain ⟨hfsc, hk⟩ : f < sc ∧ xki f = kk := by
    obtain ⟨f', sc', k1, k2, k3, k4, k5⟩ := hK
    have e1 : f = f' := (nI_eq (by omega) (by omega)).mp (hfs.symm.trans k1)
    have e2 : sc = sc' := (nI_eq (by omega) (by omega)).mp k2
    subst e1 e2
    exact ⟨k3, k5⟩
  obtain ⟨s0, s1, s2, s3, hok⟩ := hprog.2 f hfsc
  have hjc := sg_jas_le hjas
  have b3 : vp_in (nI i) 3 := vp_in_nI hi (by omega)
  have ci : (nI i).toNatClampNeg = i := nI_clamp (by omega)
  have h200 : nI d < 200 := nI_lt (b := 200) hlt (by decide)
  have hdn1 : upd ydn i (nI (d + 1)) i = upd xsd i (nI (d + 1)) i := pk_us.trans pk_us.symm
  have hb1 : sg_base i (d + 1) (upd xsd i (nI (d + 1))) xva xps xpa xct xsn xtk yva yso := ⟨by omega, pk_us, hva, ⟨pz, by omega, hps, hpa⟩, hsig⟩
  obtain ⟨q, hq30, hja⟩ := hjas.1 i hi
  have hya : yas i = nI q := has.trans hja
  subst hkk
  obtain ⟨a, b, ha, hb, hp, hq⟩ := sg_ok2 (hk ▸ hok)
  have h3 := sg_3n ha
  have e1 := hva a ha
  have e2 := hva b hb
  refine ⟨(nI sc, nI t, nI jc, nI (sg_cnt xen jc), xse, xki, xpp, xqq, xrr, xst, upd xfs i (nI (f + 1)), xin, xtb, xaj, xat, upd xsd i (nI (d + 1)), xja, xev, upd xva (4 * i + a) (xva (4 * i + a) - xva (4 * i + b)), xha, xps, xpa, xpi, xct, xsn, xsv, xtk, xac, xji, xou, xen, xuw, xra, xea, xtj, xte), (nI sc, nI t, nI jc, nI (sg_cnt xen jc), xse, yss, xac, xji, xen, yho, ywh, xtj, xte, xst, upd ypl i (nI (f + 1)), upd ydn i (nI (d + 1)), yas, ywt, yun, yrs, upd yva (4 * i + a) (xva (4 * i + a) - xva (4 * i + b)), yha, xpa, xpi, xps, yso, xsv, xct), fun post h => ?_, fun post h => ?_, Or.inr (Or.inl ⟨sc, jc, ⟨⟨⟨rfl, rfl, rfl, rfl⟩, rfl, rfl, rfl, rfl, rfl, rfl, rfl, rfl, rfl, rfl, rfl, rfl⟩, ⟨rfl, rfl, rfl, rfl⟩, hset, hprog, hjobs, hjas⟩, fun m hm c => sg_flow_fr c (hf m hm c), ⟨by omega, pk_us, sg_var_upd hva, ⟨pz, by omega, hps, hpa⟩, hsig⟩, f + 1, hst, hev, by omega, pk_us, pk_us, hdn1, has, Or.inl ⟨rfl, hwt, hin, htb, hhs⟩⟩)⟩
  · simp (disch := omega) only [hp, hq, wpX_beginStep, wpX_isWaitingKind, wpX_doAtOnce, wpX_beginWait, ci, b3, hfs, hsd, h200, hk, sg_ltT, sg_m3, sg_m3', sg_m4, sg_m4', sg_m6, sg_m6', sg_m7, sg_m7', sg_m200, sg_m200', nI_add, sg_a1, sg_a2, sg_a3, sg_a4, sg_a5, sg_a6, Int32.add_zero, sg_inT, nI_clamp, sg_lits, sg_mA, sg_mB, sg_mC, sg_mD, sg_mE, sg_mF, Int32.reduceLT, Int32.reduceLE, forall_eq, true_and, and_true, true_implies, false_implies, not_true_eq_false, not_false_eq_true, implies_true]
    exact h
  · simp (disch := omega) only [sg_D, wY_doStep_76, wY_doStep_121, hp, hq, h3, e1, e2, wpY_doStep, wY_doStep_48, wpY_part, wpY_isIn, ci, b3, hpl, s0, s1, s2, s3, hk, sg_neg, sg_m3, sg_m3', sg_m4, sg_m4', sg_m6, sg_m6', sg_m7, sg_m7', sg_m200, sg_m200', nI_add, sg_a1, sg_a2, sg_a3, sg_a4, sg_a5, sg_a6, Int32.add_zero, sg_inT, nI_clamp, sg_lits, sg_mA, sg_mB, sg_mC, sg_mD, sg_mE, sg_mF, Int32.reduceLT, Int32.reduceLE, forall_eq, true_and, and_true, true_implies, false_implies, not_true_eq_false, not_false_eq_true, implies_true]
    exact h
theorem sg_step8 {i d t : Nat} {u : SX} {v : SY} {kk : Int32} (hkk : kk = 8) (hi : i < 3) (H : sg_W 1 i d t u v) (hlt : d < 200) (hK : sg_K i kk u) : sg_S i d t u v := by
  obtain ⟨xsc, xnow, xjc, xec, xse, xki, xpp, xqq, xrr, xst, xfs, xin, xtb, xaj, xat, xsd, xja, xev, xva, xha, xps, xpa, xpi, xct, xsn, xsv, xtk, xac, xji, xou, xen, xuw, xra, xea, xtj, xte⟩ := u
  obtain ⟨ysc, ynow, yjc, yec, yse, yss, yac, yji, yen, yho, ywh, ytj, yte, yst, ypl, ydn, yas, ywt, yun, yrs, yva, yha, ypa, ypi, yps, yso, ysv, yct⟩ := v
  obtain ⟨sc, jc, ⟨⟨⟨e1, e2, e3, e4⟩, e5, e6, e7, e8, e9, e10, e11, e12, e13, e14, e15, e16⟩, ⟨g1, g2, g3, g4⟩, hset, hprog, hjobs, hjas⟩, hf, hb, f, hst, hev, hf20, hfs, hpl, hdn, has, hctl⟩ := H
  subst e1 e2 e3 e4 e5 e6 e7 e8 e9 e10 e11 e12 e13 e14 e15 e16 g1 g2 g3 g4
  obtain ⟨hd, hsd, hva, ⟨pz, hpz, hps, hpa⟩, hsig⟩ := hb
  obtain ⟨hwt, hin, htb, hhs⟩ : ywt i = 0 ∧ xin i = 0 ∧ xtb i = 0 ∧ sg_hs jc i xha yha := by
    rcases hctl with h | h | h | h
    · exact h.2
    · exact absurd h.1 (by decide)
    · exact absurd h.1 (by decide)
    · exact absurd h.1 (by decide)
  have hsc := hprog.1
  obtain ⟨hfsc, hk⟩ : f < sc ∧ xki f = kk := by
    obtain ⟨f', sc', k1, k2, k3, k4, k5⟩ := hK
    have e1 : f = f' := (nI_eq (by omega) (by omega)).mp (hfs.symm.trans k1)
    have e2 : sc = sc' := (nI_eq (by omega) (by omega)).mp k2
    subst e1 e2
    exact ⟨k3, k5⟩
  obtain ⟨s0, s1, s2, s3, hok⟩ := hprog.2 f hfsc
  have hjc := sg_jas_le hjas
  have b3 : vp_in (nI i) 3 := vp_in_nI hi (by omega)
  have ci : (nI i).toNatClampNeg = i := nI_clamp (by omega)
  have h200 : nI d < 200 := nI_lt (b := 200) hlt (by decide)
  have hdn1 : upd ydn i (nI (d + 1)) i = upd xsd i (nI (d + 1)) i := pk_us.trans pk_us.symm
  have hb1 : sg_base i (d + 1) (upd xsd i (nI (d + 1))) xva xps xpa xct xsn xtk yva yso := ⟨by omega, pk_us, hva, ⟨pz, by omega, hps, hpa⟩, hsig⟩
  obtain ⟨q, hq30, hja⟩ := hjas.1 i hi
  have hya : yas i = nI q := has.trans hja
  subst hkk
  obtain ⟨a, ha, hp⟩ := sg_ok8 (hk ▸ hok)
  refine ⟨(nI sc, nI t, nI jc, nI (sg_cnt xen jc), xse, xki, xpp, xqq, xrr, xst, upd (upd xfs i (nI (f + 1))) i (nI a), xin, xtb, xaj, xat, upd xsd i (nI (d + 1)), xja, xev, xva, xha, xps, xpa, xpi, xct, xsn, xsv, xtk, xac, xji, xou, xen, xuw, xra, xea, xtj, xte), (nI sc, nI t, nI jc, nI (sg_cnt xen jc), xse, yss, xac, xji, xen, yho, ywh, xtj, xte, xst, upd ypl i (nI a), upd ydn i (nI (d + 1)), yas, ywt, yun, yrs, yva, yha, xpa, xpi, xps, yso, xsv, xct), fun post h => ?_, fun post h => ?_, Or.inr (Or.inl ⟨sc, jc, ⟨⟨⟨rfl, rfl, rfl, rfl⟩, rfl, rfl, rfl, rfl, rfl, rfl, rfl, rfl, rfl, rfl, rfl, rfl⟩, ⟨rfl, rfl, rfl, rfl⟩, hset, hprog, hjobs, hjas⟩, fun m hm c => sg_flow_fr c (hf m hm c), hb1, a, hst, hev, by omega, pk_us, pk_us, hdn1, has, Or.inl ⟨rfl, hwt, hin, htb, hhs⟩⟩)⟩
  · simp (disch := omega) only [hp, wpX_beginStep, wpX_isWaitingKind, wpX_doAtOnce, wpX_beginWait, ci, b3, hfs, hsd, h200, hk, sg_ltT, sg_m3, sg_m3', sg_m4, sg_m4', sg_m6, sg_m6', sg_m7, sg_m7', sg_m200, sg_m200', nI_add, sg_a1, sg_a2, sg_a3, sg_a4, sg_a5, sg_a6, Int32.add_zero, sg_inT, nI_clamp, sg_lits, sg_mA, sg_mB, sg_mC, sg_mD, sg_mE, sg_mF, Int32.reduceLT, Int32.reduceLE, forall_eq, true_and, and_true, true_implies, false_implies, not_true_eq_false, not_false_eq_true, implies_true]
    exact h
  · by_cases h3 : (3 : Int32) < nI a
    · simp (disch := omega) only [sg_D, hp, h3, wpY_doStep, wY_doStep_48, wpY_part, wpY_isIn, ci, b3, hpl, s0, s1, s2, s3, hk, sg_neg, sg_m3, sg_m3', sg_m4, sg_m4', sg_m6, sg_m6', sg_m7, sg_m7', sg_m200, sg_m200', nI_add, sg_a1, sg_a2, sg_a3, sg_a4, sg_a5, sg_a6, Int32.add_zero, sg_inT, nI_clamp, sg_lits, sg_mA, sg_mB, sg_mC, sg_mD, sg_mE, sg_mF, Int32.reduceLT, Int32.reduceLE, forall_eq, true_and, and_true, true_implies, false_implies, not_true_eq_false, not_false_eq_true, implies_true]
      exact h
    · simp (disch := omega) only [sg_D, hp, h3, wpY_doStep, wY_doStep_48, wpY_part, wpY_isIn, ci, b3, hpl, s0, s1, s2, s3, hk, sg_neg, sg_m3, sg_m3', sg_m4, sg_m4', sg_m6, sg_m6', sg_m7, sg_m7', sg_m200, sg_m200', nI_add, sg_a1, sg_a2, sg_a3, sg_a4, sg_a5, sg_a6, Int32.add_zero, sg_inT, nI_clamp, sg_lits, sg_mA, sg_mB, sg_mC, sg_mD, sg_mE, sg_mF, Int32.reduceLT, Int32.reduceLE, forall_eq, true_and, and_true, true_implies, false_implies, not_true_eq_false, not_false_eq_true, implies_true]
      exact h
theorem sg_step9 {i d t : Nat} {u : SX} {v : SY} {kk : Int32} (hkk : kk = 9) (hi : i < 3) (H : sg_W 1 i d t u v) (hlt : d < 200) (hK : sg_K i kk u) : sg_S i d t u v := by
  obtain ⟨xsc, xnow, xjc, xec, xse, xki, xpp, xqq, xrr, xst, xfs, xin, xtb, xaj, xat, xsd, xja, xev, xva, xha, xps, xpa, xpi, xct, xsn, xsv, xtk, xac, xji, xou, xen, xuw, xra, xea, xtj, xte⟩ := u
  obtain ⟨ysc, ynow, yjc, yec, yse, yss, yac, yji, yen, yho, ywh, ytj, yte, yst, ypl, ydn, yas, ywt, yun, yrs, yva, yha, ypa, ypi, yps, yso, ysv, yct⟩ := v
  obtain ⟨sc, jc, ⟨⟨⟨e1, e2, e3, e4⟩, e5, e6, e7, e8, e9, e10, e11, e12, e13, e14, e15, e16⟩, ⟨g1, g2, g3, g4⟩, hset, hprog, hjobs, hjas⟩, hf, hb, f, hst, hev, hf20, hfs, hpl, hdn, has, hctl⟩ := H
  subst e1 e2 e3 e4 e5 e6 e7 e8 e9 e10 e11 e12 e13 e14 e15 e16 g1 g2 g3 g4
  obtain ⟨hd, hsd, hva, ⟨pz, hpz, hps, hpa⟩, hsig⟩ := hb
  obtain ⟨hwt, hin, htb, hhs⟩ : ywt i = 0 ∧ xin i = 0 ∧ xtb i = 0 ∧ sg_hs jc i xha yha := by
    rcases hctl with h | h | h | h
    · exact h.2
    · exact absurd h.1 (by decide)
    · exact absurd h.1 (by decide)
    · exact absurd h.1 (by decide)
  have hsc := hprog.1
  obtain ⟨hfsc, hk⟩ : f < sc ∧ xki f = kk := by
    obtain ⟨f', sc', k1, k2, k3, k4, k5⟩ := hK
    have e1 : f = f' := (nI_eq (by omega) (by omega)).mp (hfs.symm.trans k1)
    have e2 : sc = sc' := (nI_eq (by omega) (by omega)).mp k2
    subst e1 e2
    exact ⟨k3, k5⟩
  obtain ⟨s0, s1, s2, s3, hok⟩ := hprog.2 f hfsc
  have hjc := sg_jas_le hjas
  have b3 : vp_in (nI i) 3 := vp_in_nI hi (by omega)
  have ci : (nI i).toNatClampNeg = i := nI_clamp (by omega)
  have h200 : nI d < 200 := nI_lt (b := 200) hlt (by decide)
  have hdn1 : upd ydn i (nI (d + 1)) i = upd xsd i (nI (d + 1)) i := pk_us.trans pk_us.symm
  have hb1 : sg_base i (d + 1) (upd xsd i (nI (d + 1))) xva xps xpa xct xsn xtk yva yso := ⟨by omega, pk_us, hva, ⟨pz, by omega, hps, hpa⟩, hsig⟩
  obtain ⟨q, hq30, hja⟩ := hjas.1 i hi
  have hya : yas i = nI q := has.trans hja
  subst hkk
  obtain ⟨a, b, c, ha, hb, hc, hp, hq, hr⟩ := sg_ok9 (hk ▸ hok)
  have h3 := sg_3n ha
  have e1 := hva a ha
  have e2 := hva b hb
  by_cases hl : xva (4 * i + b) ≤ xva (4 * i + a)
  · refine ⟨(nI sc, nI t, nI jc, nI (sg_cnt xen jc), xse, xki, xpp, xqq, xrr, xst, upd xfs i (nI (f + 1)), xin, xtb, xaj, xat, upd xsd i (nI (d + 1)), xja, xev, xva, xha, xps, xpa, xpi, xct, xsn, xsv, xtk, xac, xji, xou, xen, xuw, xra, xea, xtj, xte), (nI sc, nI t, nI jc, nI (sg_cnt xen jc), xse, yss, xac, xji, xen, yho, ywh, xtj, xte, xst, upd ypl i (nI (f + 1)), upd ydn i (nI (d + 1)), yas, ywt, yun, yrs, yva, yha, xpa, xpi, xps, yso, xsv, xct), fun post h => ?_, fun post h => ?_, Or.inr (Or.inl ⟨sc, jc, ⟨⟨⟨rfl, rfl, rfl, rfl⟩, rfl, rfl, rfl, rfl, rfl, rfl, rfl, rfl, rfl, rfl, rfl, rfl⟩, ⟨rfl, rfl, rfl, rfl⟩, hset, hprog, hjobs, hjas⟩, fun m hm c => sg_flow_fr c (hf m hm c), hb1, f + 1, hst, hev, by omega, pk_us, pk_us, hdn1, has, Or.inl ⟨rfl, hwt, hin, htb, hhs⟩⟩)⟩
    · simp (disch := omega) only [hp, hq, hr, hl, wpX_beginStep, wpX_isWaitingKind, wpX_doAtOnce, wpX_beginWait, ci, b3, hfs, hsd, h200, hk, sg_ltT, sg_m3, sg_m3', sg_m4, sg_m4', sg_m6, sg_m6', sg_m7, sg_m7', sg_m200, sg_m200', nI_add, sg_a1, sg_a2, sg_a3, sg_a4, sg_a5, sg_a6, Int32.add_zero, sg_inT, nI_clamp, sg_lits, sg_mA, sg_mB, sg_mC, sg_mD, sg_mE, sg_mF, Int32.reduceLT, Int32.reduceLE, forall_eq, true_and, and_true, true_implies, false_implies, not_true_eq_false, not_false_eq_true, implies_true]
      exact h
    · simp (disch := omega) only [sg_D, hp, hq, hr, h3, e1, e2, hl, wpY_doStep, wY_doStep_48, wpY_part, wpY_isIn, ci, b3, hpl, s0, s1, s2, s3, hk, sg_neg, sg_m3, sg_m3', sg_m4, sg_m4', sg_m6, sg_m6', sg_m7, sg_m7', sg_m200, sg_m200', nI_add, sg_a1, sg_a2, sg_a3, sg_a4, sg_a5, sg_a6, Int32.add_zero, sg_inT, nI_clamp, sg_lits, sg_mA, sg_mB, sg_mC, sg_mD, sg_mE, sg_mF, Int32.reduceLT, Int32.reduceLE, forall_eq, true_and, and_true, true_implies, false_implies, not_true_eq_false, not_false_eq_true, implies_true]
      exact h
  · refine ⟨(nI sc, nI t, nI jc, nI (sg_cnt xen jc), xse, xki, xpp, xqq, xrr, xst, upd (upd xfs i (nI (f + 1))) i (nI c), xin, xtb, xaj, xat, upd xsd i (nI (d + 1)), xja, xev, xva, xha, xps, xpa, xpi, xct, xsn, xsv, xtk, xac, xji, xou, xen, xuw, xra, xea, xtj, xte), (nI sc, nI t, nI jc, nI (sg_cnt xen jc), xse, yss, xac, xji, xen, yho, ywh, xtj, xte, xst, upd ypl i (nI c), upd ydn i (nI (d + 1)), yas, ywt, yun, yrs, yva, yha, xpa, xpi, xps, yso, xsv, xct), fun post h => ?_, fun post h => ?_, Or.inr (Or.inl ⟨sc, jc, ⟨⟨⟨rfl, rfl, rfl, rfl⟩, rfl, rfl, rfl, rfl, rfl, rfl, rfl, rfl, rfl, rfl, rfl, rfl⟩, ⟨rfl, rfl, rfl, rfl⟩, hset, hprog, hjobs, hjas⟩, fun m hm c => sg_flow_fr c (hf m hm c), hb1, c, hst, hev, by omega, pk_us, pk_us, hdn1, has, Or.inl ⟨rfl, hwt, hin, htb, hhs⟩⟩)⟩
    · simp (disch := omega) only [hp, hq, hr, hl, wpX_beginStep, wpX_isWaitingKind, wpX_doAtOnce, wpX_beginWait, ci, b3, hfs, hsd, h200, hk, sg_ltT, sg_m3, sg_m3', sg_m4, sg_m4', sg_m6, sg_m6', sg_m7, sg_m7', sg_m200, sg_m200', nI_add, sg_a1, sg_a2, sg_a3, sg_a4, sg_a5, sg_a6, Int32.add_zero, sg_inT, nI_clamp, sg_lits, sg_mA, sg_mB, sg_mC, sg_mD, sg_mE, sg_mF, Int32.reduceLT, Int32.reduceLE, forall_eq, true_and, and_true, true_implies, false_implies, not_true_eq_false, not_false_eq_true, implies_true]
      exact h
    · simp (disch := omega) only [sg_D, hp, hq, hr, h3, e1, e2, hl, wpY_doStep, wY_doStep_48, wpY_part, wpY_isIn, ci, b3, hpl, s0, s1, s2, s3, hk, sg_neg, sg_m3, sg_m3', sg_m4, sg_m4', sg_m6, sg_m6', sg_m7, sg_m7', sg_m200, sg_m200', nI_add, sg_a1, sg_a2, sg_a3, sg_a4, sg_a5, sg_a6, Int32.add_zero, sg_inT, nI_clamp, sg_lits, sg_mA, sg_mB, sg_mC, sg_mD, sg_mE, sg_mF, Int32.reduceLT, Int32.reduceLE, forall_eq, true_and, and_true, true_implies, false_implies, not_true_eq_false, not_false_eq_true, implies_true]
      exact h
theorem sg_step11 {i d t : Nat} {u : SX} {v : SY} {kk : Int32} (hkk : kk = 11) (hi : i < 3) (H : sg_W 1 i d t u v) (hlt : d < 200) (hK : sg_K i kk u) : sg_S i d t u v := by
  obtain ⟨xsc, xnow, xjc, xec, xse, xki, xpp, xqq, xrr, xst, xfs, xin, xtb, xaj, xat, xsd, xja, xev, xva, xha, xps, xpa, xpi, xct, xsn, xsv, xtk, xac, xji, xou, xen, xuw, xra, xea, xtj, xte⟩ := u
  obtain ⟨ysc, ynow, yjc, yec, yse, yss, yac, yji, yen, yho, ywh, ytj, yte, yst, ypl, ydn, yas, ywt, yun, yrs, yva, yha, ypa, ypi, yps, yso, ysv, yct⟩ := v
  obtain ⟨sc, jc, ⟨⟨⟨e1, e2, e3, e4⟩, e5, e6, e7, e8, e9, e10, e11, e12, e13, e14, e15, e16⟩, ⟨g1, g2, g3, g4⟩, hset, hprog, hjobs, hjas⟩, hf, hb, f, hst, hev, hf20, hfs, hpl, hdn, has, hctl⟩ := H
  subst e1 e2 e3 e4 e5 e6 e7 e8 e9 e10 e11 e12 e13 e14 e15 e16 g1 g2 g3 g4
  obtain ⟨hd, hsd, hva, ⟨pz, hpz, hps, hpa⟩, hsig⟩ := hb
  obtain ⟨hwt, hin, htb, hhs⟩ : ywt i = 0 ∧ xin i = 0 ∧ xtb i = 0 ∧ sg_hs jc i xha yha := by
    rcases hctl with h | h | h | h
    · exact h.2
    · exact absurd h.1 (by decide)
    · exact absurd h.1 (by decide)
    · exact absurd h.1 (by decide)
  have hsc := hprog.1
  obtain ⟨hfsc, hk⟩ : f < sc ∧ xki f = kk := by
    obtain ⟨f', sc', k1, k2, k3, k4, k5⟩ := hK
    have e1 : f = f' := (nI_eq (by omega) (by omega)).mp (hfs.symm.trans k1)
    have e2 : sc = sc' := (nI_eq (by omega) (by omega)).mp k2
    subst e1 e2
    exact ⟨k3, k5⟩
  obtain ⟨s0, s1, s2, s3, hok⟩ := hprog.2 f hfsc
  have hjc := sg_jas_le hjas
  have b3 : vp_in (nI i) 3 := vp_in_nI hi (by omega)
  have ci : (nI i).toNatClampNeg = i := nI_clamp (by omega)
  have h200 : nI d < 200 := nI_lt (b := 200) hlt (by decide)
  have hdn1 : upd ydn i (nI (d + 1)) i = upd xsd i (nI (d + 1)) i := pk_us.trans pk_us.symm
  have hb1 : sg_base i (d + 1) (upd xsd i (nI (d + 1))) xva xps xpa xct xsn xtk yva yso := ⟨by omega, pk_us, hva, ⟨pz, by omega, hps, hpa⟩, hsig⟩
  obtain ⟨q, hq30, hja⟩ := hjas.1 i hi
  have hya : yas i = nI q := has.trans hja
  subst hkk
  obtain ⟨a, ha, hp⟩ := sg_ok11 (hk ▸ hok)
  have h3 := sg_3n ha
  have e1 := hva a ha
  refine ⟨(nI sc, nI t, nI jc, nI (sg_cnt xen jc), xse, xki, xpp, xqq, xrr, upd xst i 2, upd xfs i (nI (f + 1)), xin, xtb, xaj, xat, upd xsd i (nI (d + 1)), xja, upd xev i (xva (4 * i + a)), xva, xha, xps, xpa, xpi, xct, xsn, xsv, xtk, xac, xji, xou, xen, xuw, xra, xea, xtj, xte), (nI sc, nI t, nI jc, nI (sg_cnt xen jc), xse, yss, xac, xji, xen, yho, ywh, xtj, xte, upd xst i 2, ypl, upd ydn i (nI (d + 1)), yas, ywt, yun, upd yrs i (xva (4 * i + a)), yva, yha, xpa, xpi, xps, yso, xsv, xct), fun post h => ?_, fun post h => ?_, Or.inl ⟨⟨sc, jc, ⟨⟨⟨rfl, rfl, rfl, rfl⟩, rfl, rfl, rfl, rfl, rfl, rfl, rfl, rfl, rfl, rfl, rfl, rfl⟩, ⟨rfl, rfl, rfl, rfl⟩, hset, hprog, hjobs, hjas⟩, fun m hm => ?_⟩, ⟨by rw [pk_us]; decide, by rw [pk_us]; decide⟩⟩⟩
  · simp (disch := omega) only [hp, wpX_beginStep, wpX_isWaitingKind, wpX_doAtOnce, wpX_beginWait, ci, b3, hfs, hsd, h200, hk, sg_ltT, sg_m3, sg_m3', sg_m4, sg_m4', sg_m6, sg_m6', sg_m7, sg_m7', sg_m200, sg_m200', nI_add, sg_a1, sg_a2, sg_a3, sg_a4, sg_a5, sg_a6, Int32.add_zero, sg_inT, nI_clamp, sg_lits, sg_mA, sg_mB, sg_mC, sg_mD, sg_mE, sg_mF, Int32.reduceLT, Int32.reduceLE, forall_eq, true_and, and_true, true_implies, false_implies, not_true_eq_false, not_false_eq_true, implies_true]
    exact h
  · simp (disch := omega) only [sg_D, hp, h3, e1, wpY_doStep, wY_doStep_48, wpY_part, wpY_isIn, ci, b3, hpl, s0, s1, s2, s3, hk, sg_neg, sg_m3, sg_m3', sg_m4, sg_m4', sg_m6, sg_m6', sg_m7, sg_m7', sg_m200, sg_m200', nI_add, sg_a1, sg_a2, sg_a3, sg_a4, sg_a5, sg_a6, Int32.add_zero, sg_inT, nI_clamp, sg_lits, sg_mA, sg_mB, sg_mC, sg_mD, sg_mE, sg_mF, Int32.reduceLT, Int32.reduceLE, forall_eq, true_and, and_true, true_implies, false_implies, not_true_eq_false, not_false_eq_true, implies_true]
    exact h
  · by_cases c : m = i
    · subst c
      exact Or.inr ⟨d + 1, hb1, Or.inl ⟨2, by omega, by omega, pk_us, by rw [pk_us, if_pos rfl, pk_us]⟩⟩
    · exact sg_flow_fr c (hf m hm c)
