theorem sg_hs_upd {jc jc' i k : Nat} {x : Int32} {xha yha : Nat → Int32} (hj : jc ≤ jc') (h : sg_hs jc i xha yha) (hx : sg_hd jc' x) : sg_hs jc' i (upd xha k x) (upd yha k x) := by
  intro m hm
  by_cases c : 3 * i + m = k
  · rw [c, pk_us, pk_us]; exact ⟨rfl, hx⟩
  · rw [pk_un c, pk_un c]; exact ⟨(h m hm).1, sg_hd_mono hj (h m hm).2⟩
theorem sg_hs_5 {jc i a : Nat} {xha yha : Nat → Int32} (h : sg_hs jc i xha yha) : sg_h5 jc i a (upd xha (3 * i + a) (-1)) yha := by
  intro m hm
  refine ⟨fun c => ?_, fun c => ?_⟩
  · rw [pk_un (by omega)]; exact h m hm
  · subst c; exact pk_us
theorem sg_step7 {i d t : Nat} {u : SX} {v : SY} {kk : Int32} (hkk : kk = 7) (hi : i < 3) (H : sg_W 1 i d t u v) (hlt : d < 200) (hK : sg_K i kk u) : sg_S i d t u v := by
  obtain ⟨xsc, xnow, xjc, xec, xse, xki, xpp, xqq, xrr, xst, xfs, xin, xtb, xaj, xat, xsd, xja, xev, xva, xha, xps, xpa, xpi, xct, xsn, xsv, xtk, xac, xji, xou, xen, xuw, xra, xea, xtj, xte⟩ := u
  obtain ⟨ysc, ynow, yjc, yec, yse, yss, yac, yji, yen, yho, ywh, ytj, yte, yst, ypl, ydn, yas, ywt, yun, yrs, yva, yha, ypa, ypi, yps, yso, ysv, yct⟩ := v
  obtain ⟨sc, jc, ⟨⟨⟨e1, e2, e3, e4⟩, e5, e6, e7, e8, e9, e10, e11, e12, e13, e14, e15, e16⟩, ⟨g1, g2, g3, g4⟩, hset, hprog, hjobs, hjas⟩, hf, hb, f, hst, hev, hf20, hfs, hpl, hdn, has, hctl⟩ := H
  subst e1 e2 e3 e4 e5 e6 e7 e8 e9 e10 e11 e12 e13 e14 e15 e16 g1 g2 g3 g4
  obtain ⟨hd, hsd, hva, ⟨pz, hpz, hps, hpa⟩, hsig⟩ := hb
  obtain ⟨hwt, hin, htb, hhs⟩ : ywt i = 0 ∧ xin i = 0 ∧ xtb i = 0 ∧ sg_hs jc i xha yha := by
    rcases hctl with h | h | h | h
    · exact h.2
    · exact absurd h.1 (by decide)
    · exact absurd h.1 (by decide)
    · exact absurd h.1 (by decide)
  have hsc := hprog.1
  obtain ⟨hfsc, hk⟩ : f < sc ∧ xki f = kk := by
    obtain ⟨f', sc', k1, k2, k3, k4, k5⟩ := hK
    have e1 : f = f' := (nI_eq (by omega) (by omega)).mp (hfs.symm.trans k1)
    have e2 : sc = sc' := (nI_eq (by omega) (by omega)).mp k2
    subst e1 e2
    exact ⟨k3, k5⟩
  obtain ⟨s0, s1, s2, s3, hok⟩ := hprog.2 f hfsc
  have hjc := sg_jas_le hjas
  have b3 : vp_in (nI i) 3 := vp_in_nI hi (by omega)
  have ci : (nI i).toNatClampNeg = i := nI_clamp (by omega)
  have h200 : nI d < 200 := nI_lt (b := 200) hlt (by decide)
  have hdn1 : upd ydn i (nI (d + 1)) i = upd xsd i (nI (d + 1)) i := pk_us.trans pk_us.symm
  have hb1 : sg_base i (d + 1) (upd xsd i (nI (d + 1))) xva xps xpa xct xsn xtk yva yso := ⟨by omega, pk_us, hva, ⟨pz, by omega, hps, hpa⟩, hsig⟩
  obtain ⟨q, hq30, hja⟩ := hjas.1 i hi
  have hya : yas i = nI q := has.trans hja
  subst hkk
  obtain ⟨a, ha, hp⟩ := sg_ok7 (hk ▸ hok)
  have h3 := sg_3n ha
  have e1 := hva a ha
  have go : ∀ x : Int32, (∀ post : Int32 → Prop, post x → wpX_pauseOf post (xva (4 * i + a))) → (∀ post : SY → Prop, wY_doStep_199 post (nI i) x (nI sc) (nI t) (nI jc) (nI (sg_cnt xen jc)) xse yss xac xji xen yho ywh xtj xte xst ypl (upd ydn i (nI (d + 1))) yas ywt yun yrs yva yha xpa xpi xps yso xsv xct → wpY_doStep post (nI sc, nI t, nI jc, nI (sg_cnt xen jc), xse, yss, xac, xji, xen, yho, ywh, xtj, xte, xst, ypl, upd ydn i (nI (d + 1)), yas, ywt, yun, yrs, yva, yha, xpa, xpi, xps, yso, xsv, xct) (nI i)) → sg_S i d t (nI sc, nI t, nI jc, nI (sg_cnt xen jc), xse, xki, xpp, xqq, xrr, xst, xfs, xin, xtb, xaj, xat, xsd, xja, xev, xva, xha, xps, xpa, xpi, xct, xsn, xsv, xtk, xac, xji, xou, xen, xuw, xra, xea, xtj, xte) (nI sc, nI t, nI jc, nI (sg_cnt xen jc), xse, yss, xac, xji, xen, yho, ywh, xtj, xte, xst, ypl, ydn, yas, ywt, yun, yrs, yva, yha, xpa, xpi, xps, yso, xsv, xct) := fun x hX hY => by
    refine ⟨(nI sc, nI t, nI jc, nI (sg_cnt xen jc), xse, xki, xpp, xqq, xrr, xst, xfs, upd xin i 1, xtb, xaj, upd xat i (nI t + x), upd xsd i (nI (d + 1)), xja, xev, xva, xha, xps, xpa, xpi, xct, xsn, xsv, xtk, xac, xji, xou, xen, xuw, xra, xea, xtj, xte), (nI sc, nI t, nI jc, nI (sg_cnt xen jc), xse, yss, xac, xji, xen, yho, ywh, xtj, xte, xst, ypl, upd ydn i (nI (d + 1)), yas, upd ywt i 2, upd yun i (nI t + x), yrs, yva, yha, xpa, xpi, xps, yso, xsv, xct), fun post h => ?_, fun post h => hY post ?_, Or.inr (Or.inr (Or.inl ⟨sc, jc, ⟨⟨⟨rfl, rfl, rfl, rfl⟩, rfl, rfl, rfl, rfl, rfl, rfl, rfl, rfl, rfl, rfl, rfl, rfl⟩, ⟨rfl, rfl, rfl, rfl⟩, hset, hprog, hjobs, hjas⟩, fun m hm c => sg_flow_fr c (hf m hm c), hb1, f, hst, hev, hf20, hfs, hpl, hdn1, has, Or.inr (Or.inl ⟨rfl, hfsc, pk_us, htb, Or.inr (Or.inl ⟨pk_us, hk, by rw [pk_us, pk_us], hhs⟩)⟩)⟩))⟩
    · simp (disch := omega) only [sg_b1, hp, wpX_beginStep, wpX_isWaitingKind, wpX_doAtOnce, wpX_beginWait, ci, b3, hfs, hsd, h200, hk, sg_ltT, sg_m3, sg_m3', sg_m4, sg_m4', sg_m6, sg_m6', sg_m7, sg_m7', sg_m200, sg_m200', nI_add, sg_a1, sg_a2, sg_a3, sg_a4, sg_a5, sg_a6, Int32.add_zero, sg_inT, nI_clamp, sg_lits, sg_mA, sg_mB, sg_mC, sg_mD, sg_mE, sg_mF, Int32.reduceLT, Int32.reduceLE, forall_eq, true_and, and_true, true_implies, false_implies, not_true_eq_false, not_false_eq_true, implies_true]
      exact hX _ h
    · simp only [wY_doStep_199, wpY_waitFor, ci, b3, forall_eq, true_and, and_true, true_implies, false_implies, not_true_eq_false, not_false_eq_true, implies_true]
      exact h
  by_cases c0 : 0 ≤ xva (4 * i + a)
  · by_cases c5 : xva (4 * i + a) ≤ 50
    · refine go (xva (4 * i + a)) (fun post h => ?_) (fun post h => ?_)
      · simp only [wpX_pauseOf, c0, c5, forall_eq, true_and, and_true, true_implies, false_implies, not_true_eq_false, not_false_eq_true, implies_true]
        exact h
      · simp (disch := omega) only [hp, h3, e1, c0, c5, wpY_doStep, wY_doStep_48, wpY_part, wpY_isIn, ci, b3, hpl, s0, s1, s2, s3, hk, sg_neg, sg_m3, sg_m3', sg_m4, sg_m4', sg_m6, sg_m6', sg_m7, sg_m7', sg_m200, sg_m200', nI_add, sg_a1, sg_a2, sg_a3, sg_a4, sg_a5, sg_a6, Int32.add_zero, sg_inT, nI_clamp, sg_lits, sg_mA, sg_mB, sg_mC, sg_mD, sg_mE, sg_mF, Int32.reduceLT, Int32.reduceLE, forall_eq, true_and, and_true, true_implies, false_implies, not_true_eq_false, not_false_eq_true, implies_true]
        exact h
    · refine go 50 (fun post h => ?_) (fun post h => ?_)
      · simp only [wpX_pauseOf, c0, c5, forall_eq, true_and, and_true, true_implies, false_implies, not_true_eq_false, not_false_eq_true, implies_true]
        exact h
      · simp (disch := omega) only [hp, h3, e1, c0, c5, wpY_doStep, wY_doStep_48, wpY_part, wpY_isIn, ci, b3, hpl, s0, s1, s2, s3, hk, sg_neg, sg_m3, sg_m3', sg_m4, sg_m4', sg_m6, sg_m6', sg_m7, sg_m7', sg_m200, sg_m200', nI_add, sg_a1, sg_a2, sg_a3, sg_a4, sg_a5, sg_a6, Int32.add_zero, sg_inT, nI_clamp, sg_lits, sg_mA, sg_mB, sg_mC, sg_mD, sg_mE, sg_mF, Int32.reduceLT, Int32.reduceLE, forall_eq, true_and, and_true, true_implies, false_implies, not_true_eq_false, not_false_eq_true, implies_true]
        exact h
  · refine go 0 (fun post h => ?_) (fun post h => ?_)
    · simp only [wpX_pauseOf, c0, forall_eq, true_and, and_true, true_implies, false_implies, not_true_eq_false, not_false_eq_true, implies_true]
      exact h
    · simp (disch := omega) only [hp, h3, e1, c0, wpY_doStep, wY_doStep_48, wpY_part, wpY_isIn, ci, b3, hpl, s0, s1, s2, s3, hk, sg_neg, sg_m3, sg_m3', sg_m4, sg_m4', sg_m6, sg_m6', sg_m7, sg_m7', sg_m200, sg_m200', nI_add, sg_a1, sg_a2, sg_a3, sg_a4, sg_a5, sg_a6, Int32.add_zero, sg_inT, nI_clamp, sg_lits, sg_mA, sg_mB, sg_mC, sg_mD, sg_mE, sg_mF, Int32.reduceLT, Int32.reduceLE, forall_eq, true_and, and_true, true_implies, false_implies, not_true_eq_false, not_false_eq_true, implies_true]
      exact h
theorem sg_step10 {i d t : Nat} {u : SX} {v : SY} {kk : Int32} (hkk : kk = 10) (hi : i < 3) (H : sg_W 1 i d t u v) (hlt : d < 200) (hK : sg_K i kk u) : sg_S i d t u v := by
  obtain ⟨xsc, xnow, xjc, xec, xse, xki, xpp, xqq, xrr, xst, xfs, xin, xtb, xaj, xat, xsd, xja, xev, xva, xha, xps, xpa, xpi, xct, xsn, xsv, xtk, xac, xji, xou, xen, xuw, xra, xea, xtj, xte⟩ := u
  obtain ⟨ysc, ynow, yjc, yec, yse, yss, yac, yji, yen, yho, ywh, ytj, yte, yst, ypl, ydn, yas, ywt, yun, yrs, yva, yha, ypa, ypi, yps, yso, ysv, yct⟩ := v
  obtain ⟨sc, jc, ⟨⟨⟨e1, e2, e3, e4⟩, e5, e6, e7, e8, e9, e10, e11, e12, e13, e14, e15, e16⟩, ⟨g1, g2, g3, g4⟩, hset, hprog, hjobs, hjas⟩, hf, hb, f, hst, hev, hf20, hfs, hpl, hdn, has, hctl⟩ := H
  subst e1 e2 e3 e4 e5 e6 e7 e8 e9 e10 e11 e12 e13 e14 e15 e16 g1 g2 g3 g4
  obtain ⟨hd, hsd, hva, ⟨pz, hpz, hps, hpa⟩, hsig⟩ := hb
  obtain ⟨hwt, hin, htb, hhs⟩ : ywt i = 0 ∧ xin i = 0 ∧ xtb i = 0 ∧ sg_hs jc i xha yha := by
    rcases hctl with h | h | h | h
    · exact h.2
    · exact absurd h.1 (by decide)
    · exact absurd h.1 (by decide)
    · exact absurd h.1 (by decide)
  have hsc := hprog.1
  obtain ⟨hfsc, hk⟩ : f < sc ∧ xki f = kk := by
    obtain ⟨f', sc', k1, k2, k3, k4, k5⟩ := hK
    have e1 : f = f' := (nI_eq (by omega) (by omega)).mp (hfs.symm.trans k1)
    have e2 : sc = sc' := (nI_eq (by omega) (by omega)).mp k2
    subst e1 e2
    exact ⟨k3, k5⟩
  obtain ⟨s0, s1, s2, s3, hok⟩ := hprog.2 f hfsc
  have hjc := sg_jas_le hjas
  have b3 : vp_in (nI i) 3 := vp_in_nI hi (by omega)
  have ci : (nI i).toNatClampNeg = i := nI_clamp (by omega)
  have h200 : nI d < 200 := nI_lt (b := 200) hlt (by decide)
  have hdn1 : upd ydn i (nI (d + 1)) i = upd xsd i (nI (d + 1)) i := pk_us.trans pk_us.symm
  have hb1 : sg_base i (d + 1) (upd xsd i (nI (d + 1))) xva xps xpa xct xsn xtk yva yso := ⟨by omega, pk_us, hva, ⟨pz, by omega, hps, hpa⟩, hsig⟩
  obtain ⟨q, hq30, hja⟩ := hjas.1 i hi
  have hya : yas i = nI q := has.trans hja
  subst hkk
  obtain ⟨a, b, ha, hb, hp, hq⟩ := sg_ok10 (hk ▸ hok)
  have h3 := sg_3n (a := a) (by omega)
  refine ⟨(nI sc, nI t, nI jc, nI (sg_cnt xen jc), xse, xki, xpp, xqq, xrr, xst, xfs, upd xin i 1, xtb, xaj, upd xat i (nI t + xrr f), upd xsd i (nI (d + 1)), xja, xev, xva, xha, xps, xpa, xpi, xct, xsn, xsv, xtk, xac, xji, xou, xen, xuw, xra, xea, xtj, xte), (nI sc, nI t, nI jc, nI (sg_cnt xen jc), xse, yss, xac, xji, xen, yho, ywh, xtj, xte, xst, ypl, upd ydn i (nI (d + 1)), yas, upd ywt i 3, upd yun i (nI t + xrr f), yrs, yva, yha, xpa, xpi, xps, yso, xsv, xct), fun post h => ?_, fun post h => ?_, Or.inr (Or.inr (Or.inl ⟨sc, jc, ⟨⟨⟨rfl, rfl, rfl, rfl⟩, rfl, rfl, rfl, rfl, rfl, rfl, rfl, rfl, rfl, rfl, rfl, rfl⟩, ⟨rfl, rfl, rfl, rfl⟩, hset, hprog, hjobs, hjas⟩, fun m hm c => sg_flow_fr c (hf m hm c), hb1, f, hst, hev, hf20, hfs, hpl, hdn1, has, Or.inr (Or.inl ⟨rfl, hfsc, pk_us, htb, Or.inr (Or.inr ⟨pk_us, hk, by rw [pk_us, pk_us], hhs⟩)⟩)⟩))⟩
  · simp (disch := omega) only [wX_beginWait_133, sg_b1, hp, wpX_beginStep, wpX_isWaitingKind, wpX_doAtOnce, wpX_beginWait, ci, b3, hfs, hsd, h200, hk, sg_ltT, sg_m3, sg_m3', sg_m4, sg_m4', sg_m6, sg_m6', sg_m7, sg_m7', sg_m200, sg_m200', nI_add, sg_a1, sg_a2, sg_a3, sg_a4, sg_a5, sg_a6, Int32.add_zero, sg_inT, nI_clamp, sg_lits, sg_mA, sg_mB, sg_mC, sg_mD, sg_mE, sg_mF, Int32.reduceLT, Int32.reduceLE, forall_eq, true_and, and_true, true_implies, false_implies, not_true_eq_false, not_false_eq_true, implies_true]
    exact h
  · simp (disch := omega) only [sg_D, wpY_waitFor, hp, h3, wpY_doStep, wY_doStep_48, wpY_part, wpY_isIn, ci, b3, hpl, s0, s1, s2, s3, hk, sg_neg, sg_m3, sg_m3', sg_m4, sg_m4', sg_m6, sg_m6', sg_m7, sg_m7', sg_m200, sg_m200', nI_add, sg_a1, sg_a2, sg_a3, sg_a4, sg_a5, sg_a6, Int32.add_zero, sg_inT, nI_clamp, sg_lits, sg_mA, sg_mB, sg_mC, sg_mD, sg_mE, sg_mF, Int32.reduceLT, Int32.reduceLE, forall_eq, true_and, and_true, true_implies, false_implies, not_true_eq_false, not_false_eq_true, implies_true]
    exact h
theorem sg_step6 {i d t : Nat} {u : SX} {v : SY} {kk : Int32} (hkk : kk = 6) (hi : i < 3) (H : sg_W 1 i d t u v) (hlt : d < 200) (hK : sg_K i kk u) : sg_S i d t u v := by
  obtain ⟨xsc, xnow, xjc, xec, xse, xki, xpp, xqq, xrr, xst, xfs, xin, xtb, xaj, xat, xsd, xja, xev, xva, xha, xps, xpa, xpi, xct, xsn, xsv, xtk, xac, xji, xou, xen, xuw, xra, xea, xtj, xte⟩ := u
  obtain ⟨ysc, ynow, yjc, yec, yse, yss, yac, yji, yen, yho, ywh, ytj, yte, yst, ypl, ydn, yas, ywt, yun, yrs, yva, yha, ypa, ypi, yps, yso, ysv, yct⟩ := v
  obtain ⟨sc, jc, ⟨⟨⟨e1, e2, e3, e4⟩, e5, e6, e7, e8, e9, e10, e11, e12, e13, e14, e15, e16⟩, ⟨g1, g2, g3, g4⟩, hset, hprog, hjobs, hjas⟩, hf, hb, f, hst, hev, hf20, hfs, hpl, hdn, has, hctl⟩ := H
  subst e1 e2 e3 e4 e5 e6 e7 e8 e9 e10 e11 e12 e13 e14 e15 e16 g1 g2 g3 g4
  obtain ⟨hd, hsd, hva, ⟨pz, hpz, hps, hpa⟩, hsig⟩ := hb
  obtain ⟨hwt, hin, htb, hhs⟩ : ywt i = 0 ∧ xin i = 0 ∧ xtb i = 0 ∧ sg_hs jc i xha yha := by
    rcases hctl with h | h | h | h
    · exact h.2
    · exact absurd h.1 (by decide)
    · exact absurd h.1 (by decide)
    · exact absurd h.1 (by decide)
  have hsc := hprog.1
  obtain ⟨hfsc, hk⟩ : f < sc ∧ xki f = kk := by
    obtain ⟨f', sc', k1, k2, k3, k4, k5⟩ := hK
    have e1 : f = f' := (nI_eq (by omega) (by omega)).mp (hfs.symm.trans k1)
    have e2 : sc = sc' := (nI_eq (by omega) (by omega)).mp k2
    subst e1 e2
    exact ⟨k3, k5⟩
  obtain ⟨s0, s1, s2, s3, hok⟩ := hprog.2 f hfsc
  have hjc := sg_jas_le hjas
  have b3 : vp_in (nI i) 3 := vp_in_nI hi (by omega)
  have ci : (nI i).toNatClampNeg = i := nI_clamp (by omega)
  have h200 : nI d < 200 := nI_lt (b := 200) hlt (by decide)
  have hdn1 : upd ydn i (nI (d + 1)) i = upd xsd i (nI (d + 1)) i := pk_us.trans pk_us.symm
  have hb1 : sg_base i (d + 1) (upd xsd i (nI (d + 1))) xva xps xpa xct xsn xtk yva yso := ⟨by omega, pk_us, hva, ⟨pz, by omega, hps, hpa⟩, hsig⟩
  obtain ⟨q, hq30, hja⟩ := hjas.1 i hi
  have hya : yas i = nI q := has.trans hja
  subst hkk
  obtain ⟨a, b, ha, hb, hp, hq⟩ := sg_ok6 (hk ▸ hok)
  have h3 := sg_3n ha
  have e2 := hva b hb
  refine ⟨(nI sc, nI t, nI jc, nI (sg_cnt xen jc), xse, xki, xpp, xqq, xrr, xst, upd xfs i (nI (f + 1)), xin, xtb, xaj, xat, upd xsd i (nI (d + 1)), xja, xev, xva, xha, upd xps i (nI (pz + 1)), upd xpa (200 * i + pz) (nI a), upd xpi (200 * i + pz) (xva (4 * i + b)), xct, xsn, xsv, xtk, xac, xji, xou, xen, xuw, xra, xea, xtj, xte), (nI sc, nI t, nI jc, nI (sg_cnt xen jc), xse, yss, xac, xji, xen, yho, ywh, xtj, xte, xst, upd ypl i (nI (f + 1)), upd ydn i (nI (d + 1)), yas, ywt, yun, yrs, yva, yha, upd xpa (200 * i + pz) (nI a), upd xpi (200 * i + pz) (xva (4 * i + b)), upd xps i (nI (pz + 1)), yso, xsv, xct), fun post h => ?_, fun post h => ?_, Or.inr (Or.inl ⟨sc, jc, ⟨⟨⟨rfl, rfl, rfl, rfl⟩, rfl, rfl, rfl, rfl, rfl, rfl, rfl, rfl, rfl, rfl, rfl, rfl⟩, ⟨rfl, rfl, rfl, rfl⟩, hset, hprog, hjobs, hjas⟩, fun m hm c => sg_flow_fr c (hf m hm c), ⟨by omega, pk_us, hva, ⟨pz + 1, by omega, pk_us, fun m hm => ?_⟩, hsig⟩, f + 1, hst, hev, by omega, pk_us, pk_us, hdn1, has, Or.inl ⟨rfl, hwt, hin, htb, hhs⟩⟩)⟩
  · simp (disch := omega) only [wpX_putOnPile, hp, hq, hps, wpX_beginStep, wpX_isWaitingKind, wpX_doAtOnce, wpX_beginWait, ci, b3, hfs, hsd, h200, hk, sg_ltT, sg_m3, sg_m3', sg_m4, sg_m4', sg_m6, sg_m6', sg_m7, sg_m7', sg_m200, sg_m200', nI_add, sg_a1, sg_a2, sg_a3, sg_a4, sg_a5, sg_a6, Int32.add_zero, sg_inT, nI_clamp, sg_lits, sg_mA, sg_mB, sg_mC, sg_mD, sg_mE, sg_mF, Int32.reduceLT, Int32.reduceLE, forall_eq, true_and, and_true, true_implies, false_implies, not_true_eq_false, not_false_eq_true, implies_true]
    exact h
  · simp (disch := omega) only [sg_D, wpY_doJobs, hp, hq, hps, h3, e2, wpY_doStep, wY_doStep_48, wpY_part, wpY_isIn, ci, b3, hpl, s0, s1, s2, s3, hk, sg_neg, sg_m3, sg_m3', sg_m4, sg_m4', sg_m6, sg_m6', sg_m7, sg_m7', sg_m200, sg_m200', nI_add, sg_a1, sg_a2, sg_a3, sg_a4, sg_a5, sg_a6, Int32.add_zero, sg_inT, nI_clamp, sg_lits, sg_mA, sg_mB, sg_mC, sg_mD, sg_mE, sg_mF, Int32.reduceLT, Int32.reduceLE, forall_eq, true_and, and_true, true_implies, false_implies, not_true_eq_false, not_false_eq_true, implies_true]
    exact h
  · by_cases c : m = pz
    · subst c; exact ⟨a, ha, pk_us⟩
    · rw [pk_un (by omega)]; exact hpa m (by omega)
theorem sg_step3 {i d t : Nat} {u : SX} {v : SY} {kk : Int32} (hkk : kk = 3) (hi : i < 3) (H : sg_W 1 i d t u v) (hlt : d < 200) (hK : sg_K i kk u) : sg_S i d t u v := by
  obtain ⟨xsc, xnow, xjc, xec, xse, xki, xpp, xqq, xrr, xst, xfs, xin, xtb, xaj, xat, xsd, xja, xev, xva, xha, xps, xpa, xpi, xct, xsn, xsv, xtk, xac, xji, xou, xen, xuw, xra, xea, xtj, xte⟩ := u
  obtain ⟨ysc, ynow, yjc, yec, yse, yss, yac, yji, yen, yho, ywh, ytj, yte, yst, ypl, ydn, yas, ywt, yun, yrs, yva, yha, ypa, ypi, yps, yso, ysv, yct⟩ := v
  obtain ⟨sc, jc, ⟨⟨⟨e1, e2, e3, e4⟩, e5, e6, e7, e8, e9, e10, e11, e12, e13, e14, e15, e16⟩, ⟨g1, g2, g3, g4⟩, hset, hprog, hjobs, hjas⟩, hf, hb, f, hst, hev, hf20, hfs, hpl, hdn, has, hctl⟩ := H
  subst e1 e2 e3 e4 e5 e6 e7 e8 e9 e10 e11 e12 e13 e14 e15 e16 g1 g2 g3 g4
  obtain ⟨hd, hsd, hva, ⟨pz, hpz, hps, hpa⟩, hsig⟩ := hb
  obtain ⟨hwt, hin, htb, hhs⟩ : ywt i = 0 ∧ xin i = 0 ∧ xtb i = 0 ∧ sg_hs jc i xha yha := by
    rcases hctl with h | h | h | h
    · exact h.2
    · exact absurd h.1 (by decide)
    · exact absurd h.1 (by decide)
    · exact absurd h.1 (by decide)
  have hsc := hprog.1
  obtain ⟨hfsc, hk⟩ : f < sc ∧ xki f = kk := by
    obtain ⟨f', sc', k1, k2, k3, k4, k5⟩ := hK
    have e1 : f = f' := (nI_eq (by omega) (by omega)).mp (hfs.symm.trans k1)
    have e2 : sc = sc' := (nI_eq (by omega) (by omega)).mp k2
    subst e1 e2
    exact ⟨k3, k5⟩
  obtain ⟨s0, s1, s2, s3, hok⟩ := hprog.2 f hfsc
  have hjc := sg_jas_le hjas
  have b3 : vp_in (nI i) 3 := vp_in_nI hi (by omega)
  have ci : (nI i).toNatClampNeg = i := nI_clamp (by omega)
  have h200 : nI d < 200 := nI_lt (b := 200) hlt (by decide)
  have hdn1 : upd ydn i (nI (d + 1)) i = upd xsd i (nI (d + 1)) i := pk_us.trans pk_us.symm
  have hb1 : sg_base i (d + 1) (upd xsd i (nI (d + 1))) xva xps xpa xct xsn xtk yva yso := ⟨by omega, pk_us, hva, ⟨pz, by omega, hps, hpa⟩, hsig⟩
  obtain ⟨q, hq30, hja⟩ := hjas.1 i hi
  have hya : yas i = nI q := has.trans hja
  subst hkk
  obtain ⟨a, b, c, ha4, hb, hc, hp, hq, hr⟩ := sg_ok3 (hk ▸ hok)
  have h3 := sg_3n ha4
  have e2 := hva b hb
  by_cases hq3 : q < 30
  · obtain ⟨hjc9, hjas1⟩ := sg_jas_inc hjas hi hq3 hja
    refine ⟨(nI sc, nI t, nI (jc + 1), nI (sg_cnt xen jc), xse, xki, xpp, xqq, xrr, xst, xfs, upd xin i 1, xtb, upd xaj i (nI jc), xat, upd xsd i (nI (d + 1)), upd xja i (nI (q + 1)), xev, xva, xha, xps, xpa, xpi, xct, xsn, xsv, xtk, upd xac jc (nI a), upd xji jc (xva (4 * i + b)), upd xou jc (-1), upd xen jc 0, upd xuw jc 0, upd xra jc (nI t), xea, xtj, xte), (nI sc, nI t, nI (jc + 1), nI (sg_cnt xen jc), xse, yss, upd xac jc (nI a), upd xji jc (xva (4 * i + b)), upd xen jc 0, upd yho jc 1, upd ywh jc (nI t), xtj, xte, xst, ypl, upd ydn i (nI (d + 1)), upd yas i (nI (q + 1)), upd ywt i 1, upd yun i (nI jc), yrs, yva, yha, xpa, xpi, xps, yso, xsv, xct), fun post h => ?_, fun post h => ?_, Or.inr (Or.inr (Or.inl ⟨sc, jc + 1, ⟨⟨⟨rfl, rfl, rfl, rfl⟩, rfl, rfl, rfl, rfl, rfl, rfl, rfl, rfl, rfl, rfl, rfl, rfl⟩, ⟨rfl, rfl, rfl, congrArg nI (sg_cnt_ask _ _).symm⟩, hset, hprog, sg_jobs_ask hset hjobs ha4, hjas1⟩, fun m hm c => sg_flow_fr c (hf m hm c), hb1, f, hst, hev, hf20, hfs, hpl, hdn1, pk_us.trans pk_us.symm, Or.inr (Or.inl ⟨rfl, hfsc, pk_us, htb, Or.inl ⟨pk_us, ⟨jc, by omega, pk_us, pk_us⟩, Or.inl ⟨hk, sg_hs_fr (by omega) (fun _ _ => rfl) (fun _ _ => rfl) hhs⟩⟩⟩)⟩))⟩
    · simp (disch := omega) only [sg_b1, hp, hq, wpX_beginStep, wpX_isWaitingKind, wpX_doAtOnce, wpX_beginWait, ci, b3, hfs, hsd, h200, hk, sg_ltT, sg_m3, sg_m3', sg_m4, sg_m4', sg_m6, sg_m6', sg_m7, sg_m7', sg_m200, sg_m200', nI_add, sg_a1, sg_a2, sg_a3, sg_a4, sg_a5, sg_a6, Int32.add_zero, sg_inT, nI_clamp, sg_lits, sg_mA, sg_mB, sg_mC, sg_mD, sg_mE, sg_mF, Int32.reduceLT, Int32.reduceLE, forall_eq, true_and, and_true, true_implies, false_implies, not_true_eq_false, not_false_eq_true, implies_true]
      refine sg_xask1 hi hja hq3 hjc9 ?_
      simp only [ci, b3, forall_eq, true_and, and_true, true_implies, false_implies, not_true_eq_false, not_false_eq_true, implies_true]
      exact h
    · simp (disch := omega) only [sg_D, wpY_doJobs, hp, hq, h3, e2, wpY_doStep, wY_doStep_48, wpY_part, wpY_isIn, ci, b3, hpl, s0, s1, s2, s3, hk, sg_neg, sg_m3, sg_m3', sg_m4, sg_m4', sg_m6, sg_m6', sg_m7, sg_m7', sg_m200, sg_m200', nI_add, sg_a1, sg_a2, sg_a3, sg_a4, sg_a5, sg_a6, Int32.add_zero, sg_inT, nI_clamp, sg_lits, sg_mA, sg_mB, sg_mC, sg_mD, sg_mE, sg_mF, Int32.reduceLT, Int32.reduceLE, forall_eq, true_and, and_true, true_implies, false_implies, not_true_eq_false, not_false_eq_true, implies_true]
      refine sg_yask1 hi hya hq3 hjc9 ?_
      simp (disch := omega) only [wpY_waitFor, ci, b3, sg_neg, forall_eq, true_and, and_true, true_implies, false_implies, not_true_eq_false, not_false_eq_true, implies_true]
      exact h
  · refine ⟨(nI sc, nI t, nI jc, nI (sg_cnt xen jc), xse, xki, xpp, xqq, xrr, upd xst i 5, xfs, upd xin i 1, xtb, upd xaj i (-1), xat, upd xsd i (nI (d + 1)), xja, xev, xva, xha, xps, xpa, xpi, xct, xsn, xsv, xtk, xac, xji, xou, xen, xuw, xra, xea, xtj, xte), (nI sc, nI t, nI jc, nI (sg_cnt xen jc), xse, yss, xac, xji, xen, yho, ywh, xtj, xte, upd xst i 5, ypl, upd ydn i (nI (d + 1)), yas, ywt, yun, yrs, yva, yha, xpa, xpi, xps, yso, xsv, xct), fun post h => ?_, fun post h => ?_, Or.inl ⟨⟨sc, jc, ⟨⟨⟨rfl, rfl, rfl, rfl⟩, rfl, rfl, rfl, rfl, rfl, rfl, rfl, rfl, rfl, rfl, rfl, rfl⟩, ⟨rfl, rfl, rfl, rfl⟩, hset, hprog, hjobs, hjas⟩, fun m hm => ?_⟩, ⟨by rw [pk_us]; decide, by rw [pk_us]; decide⟩⟩⟩
    · simp (disch := omega) only [sg_b1, hp, hq, wpX_beginStep, wpX_isWaitingKind, wpX_doAtOnce, wpX_beginWait, ci, b3, hfs, hsd, h200, hk, sg_ltT, sg_m3, sg_m3', sg_m4, sg_m4', sg_m6, sg_m6', sg_m7, sg_m7', sg_m200, sg_m200', nI_add, sg_a1, sg_a2, sg_a3, sg_a4, sg_a5, sg_a6, Int32.add_zero, sg_inT, nI_clamp, sg_lits, sg_mA, sg_mB, sg_mC, sg_mD, sg_mE, sg_mF, Int32.reduceLT, Int32.reduceLE, forall_eq, true_and, and_true, true_implies, false_implies, not_true_eq_false, not_false_eq_true, implies_true]
      refine sg_xask0 hi hja hq3 hq30 ?_
      simp only [ci, b3, forall_eq, true_and, and_true, true_implies, false_implies, not_true_eq_false, not_false_eq_true, implies_true]
      exact h
    · simp (disch := omega) only [sg_D, wpY_doJobs, hp, hq, h3, e2, wpY_doStep, wY_doStep_48, wpY_part, wpY_isIn, ci, b3, hpl, s0, s1, s2, s3, hk, sg_neg, sg_m3, sg_m3', sg_m4, sg_m4', sg_m6, sg_m6', sg_m7, sg_m7', sg_m200, sg_m200', nI_add, sg_a1, sg_a2, sg_a3, sg_a4, sg_a5, sg_a6, Int32.add_zero, sg_inT, nI_clamp, sg_lits, sg_mA, sg_mB, sg_mC, sg_mD, sg_mE, sg_mF, Int32.reduceLT, Int32.reduceLE, forall_eq, true_and, and_true, true_implies, false_implies, not_true_eq_false, not_false_eq_true, implies_true]
      refine sg_yask0 hi hya hq3 hq30 ?_
      simp (disch := omega) only [sg_mE, forall_eq, true_and, and_true, true_implies, false_implies, not_true_eq_false, not_false_eq_true, implies_true]
      exact h
    · by_cases c : m = i
      · subst c
        exact Or.inr ⟨d + 1, hb1, Or.inl ⟨5, by omega, by omega, pk_us, hev⟩⟩
      · exact sg_flow_fr c (hf m hm c)
theorem sg_step4 {i d t : Nat} {u : SX} {v : SY} {kk : Int32} (hkk : kk = 4) (hi : i < 3) (H : sg_W 1 i d t u v) (hlt : d < 200) (hK : sg_K i kk u) : sg_S i d t u v := by
  obtain ⟨xsc, xnow, xjc, xec, xse, xki, xpp, xqq, xrr, xst, xfs, xin, xtb, xaj, xat, xsd, xja, xev, xva, xha, xps, xpa, xpi, xct, xsn, xsv, xtk, xac, xji, xou, xen, xuw, xra, xea, xtj, xte⟩ := u
  obtain ⟨ysc, ynow, yjc, yec, yse, yss, yac, yji, yen, yho, ywh, ytj, yte, yst, ypl, ydn, yas, ywt, yun, yrs, yva, yha, ypa, ypi, yps, yso, ysv, yct⟩ := v
  obtain ⟨sc, jc, ⟨⟨⟨e1, e2, e3, e4⟩, e5, e6, e7, e8, e9, e10, e11, e12, e13, e14, e15, e16⟩, ⟨g1, g2, g3, g4⟩, hset, hprog, hjobs, hjas⟩, hf, hb, f, hst, hev, hf20, hfs, hpl, hdn, has, hctl⟩ := H
  subst e1 e2 e3 e4 e5 e6 e7 e8 e9 e10 e11 e12 e13 e14 e15 e16 g1 g2 g3 g4
  obtain ⟨hd, hsd, hva, ⟨pz, hpz, hps, hpa⟩, hsig⟩ := hb
  obtain ⟨hwt, hin, htb, hhs⟩ : ywt i = 0 ∧ xin i = 0 ∧ xtb i = 0 ∧ sg_hs jc i xha yha := by
    rcases hctl with h | h | h | h
    · exact h.2
    · exact absurd h.1 (by decide)
    · exact absurd h.1 (by decide)
    · exact absurd h.1 (by decide)
  have hsc := hprog.1
  obtain ⟨hfsc, hk⟩ : f < sc ∧ xki f = kk := by
    obtain ⟨f', sc', k1, k2, k3, k4, k5⟩ := hK
    have e1 : f = f' := (nI_eq (by omega) (by omega)).mp (hfs.symm.trans k1)
    have e2 : sc = sc' := (nI_eq (by omega) (by omega)).mp k2
    subst e1 e2
    exact ⟨k3, k5⟩
  obtain ⟨s0, s1, s2, s3, hok⟩ := hprog.2 f hfsc
  have hjc := sg_jas_le hjas
  have b3 : vp_in (nI i) 3 := vp_in_nI hi (by omega)
  have ci : (nI i).toNatClampNeg = i := nI_clamp (by omega)
  have h200 : nI d < 200 := nI_lt (b := 200) hlt (by decide)
  have hdn1 : upd ydn i (nI (d + 1)) i = upd xsd i (nI (d + 1)) i := pk_us.trans pk_us.symm
  have hb1 : sg_base i (d + 1) (upd xsd i (nI (d + 1))) xva xps xpa xct xsn xtk yva yso := ⟨by omega, pk_us, hva, ⟨pz, by omega, hps, hpa⟩, hsig⟩
  obtain ⟨q, hq30, hja⟩ := hjas.1 i hi
  have hya : yas i = nI q := has.trans hja
  subst hkk
  obtain ⟨a, b, c, ha4, hb, hc, hp, hq, hr⟩ := sg_ok4 (hk ▸ hok)
  have h3 := sg_3n ha4
  have e2 := hva b hb
  obtain ⟨hh1, hh2⟩ := hhs c hc
  rcases hh2 with hh2 | ⟨j, hj, hh2⟩
  · have hy2 : yha (3 * i + c) = -1 := hh1.trans hh2
    by_cases hq3 : q < 30
    · obtain ⟨hjc9, hjas1⟩ := sg_jas_inc hjas hi hq3 hja
      refine ⟨(nI sc, nI t, nI (jc + 1), nI (sg_cnt xen jc), xse, xki, xpp, xqq, xrr, xst, upd xfs i (nI (f + 1)), xin, xtb, xaj, xat, upd xsd i (nI (d + 1)), upd xja i (nI (q + 1)), xev, xva, upd xha (3 * i + c) (nI jc), xps, xpa, xpi, xct, xsn, xsv, xtk, upd xac jc (nI a), upd xji jc (xva (4 * i + b)), upd xou jc (-1), upd xen jc 0, upd xuw jc 0, upd xra jc (nI t), xea, xtj, xte), (nI sc, nI t, nI (jc + 1), nI (sg_cnt xen jc), xse, yss, upd xac jc (nI a), upd xji jc (xva (4 * i + b)), upd xen jc 0, upd yho jc 1, upd ywh jc (nI t), xtj, xte, xst, upd ypl i (nI (f + 1)), upd ydn i (nI (d + 1)), upd yas i (nI (q + 1)), ywt, yun, yrs, yva, upd yha (3 * i + c) (nI jc), xpa, xpi, xps, yso, xsv, xct), fun post h => ?_, fun post h => ?_, Or.inr (Or.inl ⟨sc, jc + 1, ⟨⟨⟨rfl, rfl, rfl, rfl⟩, rfl, rfl, rfl, rfl, rfl, rfl, rfl, rfl, rfl, rfl, rfl, rfl⟩, ⟨rfl, rfl, rfl, congrArg nI (sg_cnt_ask _ _).symm⟩, hset, hprog, sg_jobs_ask hset hjobs ha4, hjas1⟩, fun m hm c => sg_flow_fr c (hf m hm c), hb1, f + 1, hst, hev, by omega, pk_us, pk_us, hdn1, pk_us.trans pk_us.symm, Or.inl ⟨rfl, hwt, hin, htb, sg_hs_upd (by omega) hhs (Or.inr ⟨jc, by omega, rfl⟩)⟩⟩)⟩
      · simp (disch := omega) only [wpX_askIntoHandle, hp, hq, hr, hh2, wpX_beginStep, wpX_isWaitingKind, wpX_doAtOnce, wpX_beginWait, ci, b3, hfs, hsd, h200, hk, sg_ltT, sg_m3, sg_m3', sg_m4, sg_m4', sg_m6, sg_m6', sg_m7, sg_m7', sg_m200, sg_m200', nI_add, sg_a1, sg_a2, sg_a3, sg_a4, sg_a5, sg_a6, Int32.add_zero, sg_inT, nI_clamp, sg_lits, sg_mA, sg_mB, sg_mC, sg_mD, sg_mE, sg_mF, Int32.reduceLT, Int32.reduceLE, forall_eq, true_and, and_true, true_implies, false_implies, not_true_eq_false, not_false_eq_true, implies_true]
        refine sg_xask1 hi hja hq3 hjc9 ?_
        exact h
      · simp (disch := omega) only [sg_D, wpY_doJobs, hp, hq, hr, h3, e2, hy2, wpY_doStep, wY_doStep_48, wpY_part, wpY_isIn, ci, b3, hpl, s0, s1, s2, s3, hk, sg_neg, sg_m3, sg_m3', sg_m4, sg_m4', sg_m6, sg_m6', sg_m7, sg_m7', sg_m200, sg_m200', nI_add, sg_a1, sg_a2, sg_a3, sg_a4, sg_a5, sg_a6, Int32.add_zero, sg_inT, nI_clamp, sg_lits, sg_mA, sg_mB, sg_mC, sg_mD, sg_mE, sg_mF, Int32.reduceLT, Int32.reduceLE, forall_eq, true_and, and_true, true_implies, false_implies, not_true_eq_false, not_false_eq_true, implies_true]
        refine sg_yask1 hi hya hq3 hjc9 ?_
        simp (disch := omega) only [ci, b3, hpl, sg_m3, sg_m3', sg_m4, sg_m4', sg_m6, sg_m6', sg_m7, sg_m7', sg_m200, sg_m200', nI_add, sg_a1, sg_a2, sg_a3, sg_a4, sg_a5, sg_a6, Int32.add_zero, sg_inT, nI_clamp, forall_eq, true_and, and_true, true_implies, false_implies, not_true_eq_false, not_false_eq_true, implies_true]
        exact h
    · refine ⟨(nI sc, nI t, nI jc, nI (sg_cnt xen jc), xse, xki, xpp, xqq, xrr, upd xst i 5, upd xfs i (nI (f + 1)), xin, xtb, xaj, xat, upd xsd i (nI (d + 1)), xja, xev, xva, upd xha (3 * i + c) (-1), xps, xpa, xpi, xct, xsn, xsv, xtk, xac, xji, xou, xen, xuw, xra, xea, xtj, xte), (nI sc, nI t, nI jc, nI (sg_cnt xen jc), xse, yss, xac, xji, xen, yho, ywh, xtj, xte, upd xst i 5, upd ypl i (nI (f + 1)), upd ydn i (nI (d + 1)), yas, ywt, yun, yrs, yva, upd yha (3 * i + c) (-1), xpa, xpi, xps, yso, xsv, xct), fun post h => ?_, fun post h => ?_, Or.inl ⟨⟨sc, jc, ⟨⟨⟨rfl, rfl, rfl, rfl⟩, rfl, rfl, rfl, rfl, rfl, rfl, rfl, rfl, rfl, rfl, rfl, rfl⟩, ⟨rfl, rfl, rfl, rfl⟩, hset, hprog, hjobs, hjas⟩, fun m hm => ?_⟩, ⟨by rw [pk_us]; decide, by rw [pk_us]; decide⟩⟩⟩
      · simp (disch := omega) only [wpX_askIntoHandle, hp, hq, hr, hh2, wpX_beginStep, wpX_isWaitingKind, wpX_doAtOnce, wpX_beginWait, ci, b3, hfs, hsd, h200, hk, sg_ltT, sg_m3, sg_m3', sg_m4, sg_m4', sg_m6, sg_m6', sg_m7, sg_m7', sg_m200, sg_m200', nI_add, sg_a1, sg_a2, sg_a3, sg_a4, sg_a5, sg_a6, Int32.add_zero, sg_inT, nI_clamp, sg_lits, sg_mA, sg_mB, sg_mC, sg_mD, sg_mE, sg_mF, Int32.reduceLT, Int32.reduceLE, forall_eq, true_and, and_true, true_implies, false_implies, not_true_eq_false, not_false_eq_true, implies_true]
        refine sg_xask0 hi hja hq3 hq30 ?_
        exact h
      · simp (disch := omega) only [sg_D, wpY_doJobs, hp, hq, hr, h3, e2, hy2, wpY_doStep, wY_doStep_48, wpY_part, wpY_isIn, ci, b3, hpl, s0, s1, s2, s3, hk, sg_neg, sg_m3, sg_m3', sg_m4, sg_m4', sg_m6, sg_m6', sg_m7, sg_m7', sg_m200, sg_m200', nI_add, sg_a1, sg_a2, sg_a3, sg_a4, sg_a5, sg_a6, Int32.add_zero, sg_inT, nI_clamp, sg_lits, sg_mA, sg_mB, sg_mC, sg_mD, sg_mE, sg_mF, Int32.reduceLT, Int32.reduceLE, forall_eq, true_and, and_true, true_implies, false_implies, not_true_eq_false, not_false_eq_true, implies_true]
        refine sg_yask0 hi hya hq3 hq30 ?_
        simp (disch := omega) only [ci, b3, hpl, sg_m3, sg_m3', sg_m4, sg_m4', sg_m6, sg_m6', sg_m7, sg_m7', sg_m200, sg_m200', nI_add, sg_a1, sg_a2, sg_a3, sg_a4, sg_a5, sg_a6, Int32.add_zero, sg_inT, nI_clamp, forall_eq, true_and, and_true, true_implies, false_implies, not_true_eq_false, not_false_eq_true, implies_true]
        exact h
      · by_cases c : m = i
        · subst c
          exact Or.inr ⟨d + 1, hb1, Or.inl ⟨5, by omega, by omega, pk_us, hev⟩⟩
        · exact sg_flow_fr c (hf m hm c)
  · have hy2 : yha (3 * i + c) = nI j := hh1.trans hh2
    refine ⟨(nI sc, nI t, nI jc, nI (sg_cnt xen jc), xse, xki, xpp, xqq, xrr, upd xst i 5, upd xfs i (nI (f + 1)), xin, xtb, xaj, xat, upd xsd i (nI (d + 1)), xja, xev, xva, xha, xps, xpa, xpi, xct, xsn, xsv, xtk, xac, xji, xou, xen, xuw, xra, xea, xtj, xte), (nI sc, nI t, nI jc, nI (sg_cnt xen jc), xse, yss, xac, xji, xen, yho, ywh, xtj, xte, upd xst i 5, ypl, upd ydn i (nI (d + 1)), yas, ywt, yun, yrs, yva, yha, xpa, xpi, xps, yso, xsv, xct), fun post h => ?_, fun post h => ?_, Or.inl ⟨⟨sc, jc, ⟨⟨⟨rfl, rfl, rfl, rfl⟩, rfl, rfl, rfl, rfl, rfl, rfl, rfl, rfl, rfl, rfl, rfl, rfl⟩, ⟨rfl, rfl, rfl, rfl⟩, hset, hprog, hjobs, hjas⟩, fun m hm => ?_⟩, ⟨by rw [pk_us]; decide, by rw [pk_us]; decide⟩⟩⟩
    · simp (disch := omega) only [wpX_askIntoHandle, hp, hq, hr, hh2, sg_nm1, wpX_beginStep, wpX_isWaitingKind, wpX_doAtOnce, wpX_beginWait, ci, b3, hfs, hsd, h200, hk, sg_ltT, sg_m3, sg_m3', sg_m4, sg_m4', sg_m6, sg_m6', sg_m7, sg_m7', sg_m200, sg_m200', nI_add, sg_a1, sg_a2, sg_a3, sg_a4, sg_a5, sg_a6, Int32.add_zero, sg_inT, nI_clamp, sg_lits, sg_mA, sg_mB, sg_mC, sg_mD, sg_mE, sg_mF, Int32.reduceLT, Int32.reduceLE, forall_eq, true_and, and_true, true_implies, false_implies, not_true_eq_false, not_false_eq_true, implies_true]
      exact h
    · simp (disch := omega) only [sg_D, wpY_doJobs, hp, hq, hr, h3, e2, hy2, wpY_doStep, wY_doStep_48, wpY_part, wpY_isIn, ci, b3, hpl, s0, s1, s2, s3, hk, sg_neg, sg_m3, sg_m3', sg_m4, sg_m4', sg_m6, sg_m6', sg_m7, sg_m7', sg_m200, sg_m200', nI_add, sg_a1, sg_a2, sg_a3, sg_a4, sg_a5, sg_a6, Int32.add_zero, sg_inT, nI_clamp, sg_lits, sg_mA, sg_mB, sg_mC, sg_mD, sg_mE, sg_mF, Int32.reduceLT, Int32.reduceLE, forall_eq, true_and, and_true, true_implies, false_implies, not_true_eq_false, not_false_eq_true, implies_true]
      exact h
    · by_cases c : m = i
      · subst c
        exact Or.inr ⟨d + 1, hb1, Or.inl ⟨5, by omega, by omega, pk_us, hev⟩⟩
      · exact sg_flow_fr c (hf m hm c)
theorem sg_step5 {i d t : Nat} {u : SX} {v : SY} {kk : Int32} (hkk : kk = 5) (hi : i < 3) (H : sg_W 1 i d t u v) (hlt : d < 200) (hK : sg_K i kk u) : sg_S i d t u v := by
  obtain ⟨xsc, xnow, xjc, xec, xse, xki, xpp, xqq, xrr, xst, xfs, xin, xtb, xaj, xat, xsd, xja, xev, xva, xha, xps, xpa, xpi, xct, xsn, xsv, xtk, xac, xji, xou, xen, xuw, xra, xea, xtj, xte⟩ := u
  obtain ⟨ysc, ynow, yjc, yec, yse, yss, yac, yji, yen, yho, ywh, ytj, yte, yst, ypl, ydn, yas, ywt, yun, yrs, yva, yha, ypa, ypi, yps, yso, ysv, yct⟩ := v
  obtain ⟨sc, jc, ⟨⟨⟨e1, e2, e3, e4⟩, e5, e6, e7, e8, e9, e10, e11, e12, e13, e14, e15, e16⟩, ⟨g1, g2, g3, g4⟩, hset, hprog, hjobs, hjas⟩, hf, hb, f, hst, hev, hf20, hfs, hpl, hdn, has, hctl⟩ := H
  subst e1 e2 e3 e4 e5 e6 e7 e8 e9 e10 e11 e12 e13 e14 e15 e16 g1 g2 g3 g4
  obtain ⟨hd, hsd, hva, ⟨pz, hpz, hps, hpa⟩, hsig⟩ := hb
  obtain ⟨hwt, hin, htb, hhs⟩ : ywt i = 0 ∧ xin i = 0 ∧ xtb i = 0 ∧ sg_hs jc i xha yha := by
    rcases hctl with h | h | h | h
    · exact h.2
    · exact absurd h.1 (by decide)
    · exact absurd h.1 (by decide)
    · exact absurd h.1 (by decide)
  have hsc := hprog.1
  obtain ⟨hfsc, hk⟩ : f < sc ∧ xki f = kk := by
    obtain ⟨f', sc', k1, k2, k3, k4, k5⟩ := hK
    have e1 : f = f' := (nI_eq (by omega) (by omega)).mp (hfs.symm.trans k1)
    have e2 : sc = sc' := (nI_eq (by omega) (by omega)).mp k2
    subst e1 e2
    exact ⟨k3, k5⟩
  obtain ⟨s0, s1, s2, s3, hok⟩ := hprog.2 f hfsc
  have hjc := sg_jas_le hjas
  have b3 : vp_in (nI i) 3 := vp_in_nI hi (by omega)
  have ci : (nI i).toNatClampNeg = i := nI_clamp (by omega)
  have h200 : nI d < 200 := nI_lt (b := 200) hlt (by decide)
  have hdn1 : upd ydn i (nI (d + 1)) i = upd xsd i (nI (d + 1)) i := pk_us.trans pk_us.symm
  have hb1 : sg_base i (d + 1) (upd xsd i (nI (d + 1))) xva xps xpa xct xsn xtk yva yso := ⟨by omega, pk_us, hva, ⟨pz, by omega, hps, hpa⟩, hsig⟩
  obtain ⟨q, hq30, hja⟩ := hjas.1 i hi
  have hya : yas i = nI q := has.trans hja
  subst hkk
  obtain ⟨a, b, ha, hb, hp, hq⟩ := sg_ok5 (hk ▸ hok)
  have h3 := sg_3n (a := a) (by omega)
  obtain ⟨hh1, hh2⟩ := hhs a ha
  rcases hh2 with hh2 | ⟨j, hj, hh2⟩
  · have hy2 : yha (3 * i + a) = -1 := hh1.trans hh2
    refine ⟨(nI sc, nI t, nI jc, nI (sg_cnt xen jc), xse, xki, xpp, xqq, xrr, upd xst i 5, xfs, upd xin i 1, xtb, xaj, xat, upd xsd i (nI (d + 1)), xja, xev, xva, xha, xps, xpa, xpi, xct, xsn, xsv, xtk, xac, xji, xou, xen, xuw, xra, xea, xtj, xte), (nI sc, nI t, nI jc, nI (sg_cnt xen jc), xse, yss, xac, xji, xen, yho, ywh, xtj, xte, upd xst i 5, ypl, upd ydn i (nI (d + 1)), yas, ywt, yun, yrs, yva, yha, xpa, xpi, xps, yso, xsv, xct), fun post h => ?_, fun post h => ?_, Or.inl ⟨⟨sc, jc, ⟨⟨⟨rfl, rfl, rfl, rfl⟩, rfl, rfl, rfl, rfl, rfl, rfl, rfl, rfl, rfl, rfl, rfl, rfl⟩, ⟨rfl, rfl, rfl, rfl⟩, hset, hprog, hjobs, hjas⟩, fun m hm => ?_⟩, ⟨by rw [pk_us]; decide, by rw [pk_us]; decide⟩⟩⟩
    · simp (disch := omega) only [wpX_awaitHandle, sg_b1, hp, hq, hh2, wpX_beginStep, wpX_isWaitingKind, wpX_doAtOnce, wpX_beginWait, ci, b3, hfs, hsd, h200, hk, sg_ltT, sg_m3, sg_m3', sg_m4, sg_m4', sg_m6, sg_m6', sg_m7, sg_m7', sg_m200, sg_m200', nI_add, sg_a1, sg_a2, sg_a3, sg_a4, sg_a5, sg_a6, Int32.add_zero, sg_inT, nI_clamp, sg_lits, sg_mA, sg_mB, sg_mC, sg_mD, sg_mE, sg_mF, Int32.reduceLT, Int32.reduceLE, forall_eq, true_and, and_true, true_implies, false_implies, not_true_eq_false, not_false_eq_true, implies_true]
      exact h
    · simp (disch := omega) only [sg_D, wpY_doJobs, hp, hq, h3, hy2, wpY_doStep, wY_doStep_48, wpY_part, wpY_isIn, ci, b3, hpl, s0, s1, s2, s3, hk, sg_neg, sg_m3, sg_m3', sg_m4, sg_m4', sg_m6, sg_m6', sg_m7, sg_m7', sg_m200, sg_m200', nI_add, sg_a1, sg_a2, sg_a3, sg_a4, sg_a5, sg_a6, Int32.add_zero, sg_inT, nI_clamp, sg_lits, sg_mA, sg_mB, sg_mC, sg_mD, sg_mE, sg_mF, Int32.reduceLT, Int32.reduceLE, forall_eq, true_and, and_true, true_implies, false_implies, not_true_eq_false, not_false_eq_true, implies_true]
      exact h
    · by_cases c : m = i
      · subst c
        exact Or.inr ⟨d + 1, hb1, Or.inl ⟨5, by omega, by omega, pk_us, hev⟩⟩
      · exact sg_flow_fr c (hf m hm c)
  · have hy2 : yha (3 * i + a) = nI j := hh1.trans hh2
    refine ⟨(nI sc, nI t, nI jc, nI (sg_cnt xen jc), xse, xki, xpp, xqq, xrr, xst, xfs, upd xin i 1, xtb, upd xaj i (nI j), xat, upd xsd i (nI (d + 1)), xja, xev, xva, upd xha (3 * i + a) (-1), xps, xpa, xpi, xct, xsn, xsv, xtk, xac, xji, xou, xen, xuw, xra, xea, xtj, xte), (nI sc, nI t, nI jc, nI (sg_cnt xen jc), xse, yss, xac, xji, xen, yho, ywh, xtj, xte, xst, ypl, upd ydn i (nI (d + 1)), yas, upd ywt i 1, upd yun i (nI j), yrs, yva, yha, xpa, xpi, xps, yso, xsv, xct), fun post h => ?_, fun post h => ?_, Or.inr (Or.inr (Or.inl ⟨sc, jc, ⟨⟨⟨rfl, rfl, rfl, rfl⟩, rfl, rfl, rfl, rfl, rfl, rfl, rfl, rfl, rfl, rfl, rfl, rfl⟩, ⟨rfl, rfl, rfl, rfl⟩, hset, hprog, hjobs, hjas⟩, fun m hm c => sg_flow_fr c (hf m hm c), hb1, f, hst, hev, hf20, hfs, hpl, hdn1, has, Or.inr (Or.inl ⟨rfl, hfsc, pk_us, htb, Or.inl ⟨pk_us, ⟨j, hj, pk_us, pk_us⟩, Or.inr ⟨hk, a, ha, hp, sg_hs_5 hhs⟩⟩⟩)⟩))⟩
    · simp (disch := omega) only [wpX_awaitHandle, sg_b1, hp, hq, hh2, sg_nm1, wpX_beginStep, wpX_isWaitingKind, wpX_doAtOnce, wpX_beginWait, ci, b3, hfs, hsd, h200, hk, sg_ltT, sg_m3, sg_m3', sg_m4, sg_m4', sg_m6, sg_m6', sg_m7, sg_m7', sg_m200, sg_m200', nI_add, sg_a1, sg_a2, sg_a3, sg_a4, sg_a5, sg_a6, Int32.add_zero, sg_inT, nI_clamp, sg_lits, sg_mA, sg_mB, sg_mC, sg_mD, sg_mE, sg_mF, Int32.reduceLT, Int32.reduceLE, forall_eq, true_and, and_true, true_implies, false_implies, not_true_eq_false, not_false_eq_true, implies_true]
      exact h
    · simp (disch := omega) only [sg_D, wpY_doJobs, wpY_waitFor, hp, hq, h3, hy2, sg_nn, wpY_doStep, wY_doStep_48, wpY_part, wpY_isIn, ci, b3, hpl, s0, s1, s2, s3, hk, sg_neg, sg_m3, sg_m3', sg_m4, sg_m4', sg_m6, sg_m6', sg_m7, sg_m7', sg_m200, sg_m200', nI_add, sg_a1, sg_a2, sg_a3, sg_a4, sg_a5, sg_a6, Int32.add_zero, sg_inT, nI_clamp, sg_lits, sg_mA, sg_mB, sg_mC, sg_mD, sg_mE, sg_mF, Int32.reduceLT, Int32.reduceLE, forall_eq, true_and, and_true, true_implies, false_implies, not_true_eq_false, not_false_eq_true, implies_true]
      exact h
theorem sg_step12 {i d t : Nat} {u : SX} {v : SY} {kk : Int32} (hkk : kk = 12) (hi : i < 3) (H : sg_W 1 i d t u v) (hlt : d < 200) (hK : sg_K i kk u) : sg_S i d t u v := by
  obtain ⟨xsc, xnow, xjc, xec, xse, xki, xpp, xqq, xrr, xst, xfs, xin, xtb, xaj, xat, xsd, xja, xev, xva, xha, xps, xpa, xpi, xct, xsn, xsv, xtk, xac, xji, xou, xen, xuw, xra, xea, xtj, xte⟩ := u
  obtain ⟨ysc, ynow, yjc, yec, yse, yss, yac, yji, yen, yho, ywh, ytj, yte, yst, ypl, ydn, yas, ywt, yun, yrs, yva, yha, ypa, ypi, yps, yso, ysv, yct⟩ := v
  obtain ⟨sc, jc, ⟨⟨⟨e1, e2, e3, e4⟩, e5, e6, e7, e8, e9, e10, e11, e12, e13, e14, e15, e16⟩, ⟨g1, g2, g3, g4⟩, hset, hprog, hjobs, hjas⟩, hf, hb, f, hst, hev, hf20, hfs, hpl, hdn, has, hctl⟩ := H
  subst e1 e2 e3 e4 e5 e6 e7 e8 e9 e10 e11 e12 e13 e14 e15 e16 g1 g2 g3 g4
  obtain ⟨hd, hsd, hva, ⟨pz, hpz, hps, hpa⟩, hsig⟩ := hb
  obtain ⟨hwt, hin, htb, hhs⟩ : ywt i = 0 ∧ xin i = 0 ∧ xtb i = 0 ∧ sg_hs jc i xha yha := by
    rcases hctl with h | h | h | h
    · exact h.2
    · exact absurd h.1 (by decide)
    · exact absurd h.1 (by decide)
    · exact absurd h.1 (by decide)
  have hsc := hprog.1
  obtain ⟨hfsc, hk⟩ : f < sc ∧ xki f = kk := by
    obtain ⟨f', sc', k1, k2, k3, k4, k5⟩ := hK
    have e1 : f = f' := (nI_eq (by omega) (by omega)).mp (hfs.symm.trans k1)
    have e2 : sc = sc' := (nI_eq (by omega) (by omega)).mp k2
    subst e1 e2
    exact ⟨k3, k5⟩
  obtain ⟨s0, s1, s2, s3, hok⟩ := hprog.2 f hfsc
  have hjc := sg_jas_le hjas
  have b3 : vp_in (nI i) 3 := vp_in_nI hi (by omega)
  have ci : (nI i).toNatClampNeg = i := nI_clamp (by omega)
  have h200 : nI d < 200 := nI_lt (b := 200) hlt (by decide)
  have hdn1 : upd ydn i (nI (d + 1)) i = upd xsd i (nI (d + 1)) i := pk_us.trans pk_us.symm
  have hb1 : sg_base i (d + 1) (upd xsd i (nI (d + 1))) xva xps xpa xct xsn xtk yva yso := ⟨by omega, pk_us, hva, ⟨pz, by omega, hps, hpa⟩, hsig⟩
  obtain ⟨q, hq30, hja⟩ := hjas.1 i hi
  have hya : yas i = nI q := has.trans hja
  subst hkk
  have W4 : sg_W 4 i (d + 1) t (nI sc, nI t, nI jc, nI (sg_cnt xen jc), xse, xki, xpp, xqq, xrr, xst, upd (upd xfs i (nI (f + 1))) i (nI f), xin, upd xtb i 1, upd xaj i (-1), xat, upd xsd i (nI (d + 1)), xja, xev, xva, xha, xps, xpa, xpi, xct, xsn, xsv, xtk, xac, xji, xou, xen, xuw, xra, xea, xtj, xte) (nI sc, nI t, nI jc, nI (sg_cnt xen jc), xse, yss, xac, xji, xen, yho, ywh, xtj, xte, xst, ypl, upd ydn i (nI (d + 1)), yas, ywt, yun, yrs, yva, yha, xpa, xpi, xps, yso, xsv, xct) := ⟨sc, jc, ⟨⟨⟨rfl, rfl, rfl, rfl⟩, rfl, rfl, rfl, rfl, rfl, rfl, rfl, rfl, rfl, rfl, rfl, rfl⟩, ⟨rfl, rfl, rfl, rfl⟩, hset, hprog, hjobs, hjas⟩, fun m hm c => sg_flow_fr c (hf m hm c), hb1, f, hst, hev, hf20, pk_us, hpl, hdn1, has, Or.inr (Or.inr (Or.inr ⟨rfl, hfsc, pk_us, hwt⟩))⟩
  obtain ⟨u2, v1, hX, hY, hO⟩ := sg_tbl hi W4
  obtain ⟨z1, z2, z3, z4, z5, z6, z7, z8, z9, z10, z11, z12, z13, z14, z15, z16, z17, z18, z19, z20, z21, z22, z23, z24, z25, z26, z27, z28, z29, z30, z31, z32, z33, z34, z35, z36⟩ := u2
  obtain ⟨w1, w2, w3, w4, w5, w6, w7, w8, w9, w10, w11, w12, w13, w14, w15, w16, w17, w18, w19, w20, w21, w22, w23, w24, w25, w26, w27, w28⟩ := v1
  refine ⟨(nI sc, nI t, nI jc, nI (sg_cnt xen jc), xse, xki, xpp, xqq, xrr, xst, upd (upd xfs i (nI (f + 1))) i (nI f), xin, upd xtb i 1, upd xaj i (-1), xat, upd xsd i (nI (d + 1)), xja, xev, xva, xha, xps, xpa, xpi, xct, xsn, xsv, xtk, xac, xji, xou, xen, xuw, xra, xea, xtj, xte), (w1, w2, w3, w4, w5, w6, w7, w8, w9, w10, w11, w12, w13, w14, w15, w16, w17, w18, w19, w20, w21, w22, w23, w24, w25, w26, w27, w28), fun post h => ?_, fun post h => ?_, Or.inr (Or.inr (Or.inr ⟨⟨hst, pk_us⟩, (z1, z2, z3, z4, z5, z6, z7, z8, z9, z10, z11, z12, z13, z14, z15, z16, z17, z18, z19, z20, z21, z22, z23, z24, z25, z26, z27, z28, z29, z30, z31, z32, z33, z34, z35, z36), fun post h => ?_, hO⟩))⟩
  · simp (disch := omega) only [wX_doAtOnce_258, wpX_failAt, sg_b1, wpX_beginStep, wpX_isWaitingKind, wpX_doAtOnce, wpX_beginWait, ci, b3, hfs, hsd, h200, hk, sg_ltT, sg_m3, sg_m3', sg_m4, sg_m4', sg_m6, sg_m6', sg_m7, sg_m7', sg_m200, sg_m200', nI_add, sg_a1, sg_a2, sg_a3, sg_a4, sg_a5, sg_a6, Int32.add_zero, sg_inT, nI_clamp, sg_lits, sg_mA, sg_mB, sg_mC, sg_mD, sg_mE, sg_mF, Int32.reduceLT, Int32.reduceLE, forall_eq, true_and, and_true, true_implies, false_implies, not_true_eq_false, not_false_eq_true, implies_true]
    exact h
  · by_cases c0 : xpp f < 0
    · simp (disch := omega) only [sg_D, c0, wpY_doStep, wY_doStep_48, wpY_part, wpY_isIn, ci, b3, hpl, s0, s1, s2, s3, hk, sg_neg, sg_m3, sg_m3', sg_m4, sg_m4', sg_m6, sg_m6', sg_m7, sg_m7', sg_m200, sg_m200', nI_add, sg_a1, sg_a2, sg_a3, sg_a4, sg_a5, sg_a6, Int32.add_zero, sg_inT, nI_clamp, sg_lits, sg_mA, sg_mB, sg_mC, sg_mD, sg_mE, sg_mF, Int32.reduceLT, Int32.reduceLE, forall_eq, true_and, and_true, true_implies, false_implies, not_true_eq_false, not_false_eq_true, implies_true]
      exact hY _ h
    · by_cases c3 : 3 < xpp f
      · simp (disch := omega) only [sg_D, c0, c3, wpY_doStep, wY_doStep_48, wpY_part, wpY_isIn, ci, b3, hpl, s0, s1, s2, s3, hk, sg_neg, sg_m3, sg_m3', sg_m4, sg_m4', sg_m6, sg_m6', sg_m7, sg_m7', sg_m200, sg_m200', nI_add, sg_a1, sg_a2, sg_a3, sg_a4, sg_a5, sg_a6, Int32.add_zero, sg_inT, nI_clamp, sg_lits, sg_mA, sg_mB, sg_mC, sg_mD, sg_mE, sg_mF, Int32.reduceLT, Int32.reduceLE, forall_eq, true_and, and_true, true_implies, false_implies, not_true_eq_false, not_false_eq_true, implies_true]
        exact hY _ h
      · simp (disch := omega) only [sg_D, c0, c3, wpY_doStep, wY_doStep_48, wpY_part, wpY_isIn, ci, b3, hpl, s0, s1, s2, s3, hk, sg_neg, sg_m3, sg_m3', sg_m4, sg_m4', sg_m6, sg_m6', sg_m7, sg_m7', sg_m200, sg_m200', nI_add, sg_a1, sg_a2, sg_a3, sg_a4, sg_a5, sg_a6, Int32.add_zero, sg_inT, nI_clamp, sg_lits, sg_mA, sg_mB, sg_mC, sg_mD, sg_mE, sg_mF, Int32.reduceLT, Int32.reduceLE, forall_eq, true_and, and_true, true_implies, false_implies, not_true_eq_false, not_false_eq_true, implies_true]
        exact hY _ h
  · simp (disch := omega) only [wpX_takeBack, wX_takeBack_22, ci, b3, pk_us, sg_lits, sg_mA, sg_mB, sg_mC, sg_mD, sg_mE, sg_mF, Int32.reduceLT, Int32.reduceLE, forall_eq, true_and, and_true, true_implies, false_implies, not_true_eq_false, not_false_eq_true, implies_true]
    exact hX _ h
