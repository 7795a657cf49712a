section
variable {xsc xnow xjc xec : Int32} {xse xki xpp xqq xrr xst xfs xin xtb xaj xat xsd xja xev xva xha xps xpa xpi xct xsn xsv xtk xac xji xou xen xuw xra xea xtj xte : Nat → Int32} {ysc ynow yjc yec : Int32} {yse yss yac yji yen yho ywh ytj yte yst ypl ydn yas ywt yun yrs yva yha ypa ypi yps yso ysv yct : Nat → Int32}
theorem sg_fsig {i n s : Nat} (hi : i < 3) (hn : n ≤ 6) (hct : xct i = nI n) (hcy : yct i = nI n) (hs : s < 2) (H : ∀ m, m < n → (xsn (6 * i + m) = 0 ∨ xsn (6 * i + m) = 1) ∧ ((xtk (6 * i + m) = 0 ∧ yso (6 * i + m) = xsn (6 * i + m)) ∨ (xtk (6 * i + m) = 1 ∧ yso (6 * i + m) = -1))) : ∀ k m N, m + k = n → k < N →
    ((∀ post : Int32 → Prop, post (-1) → wX_firstSignal_2 post (nI i) (nI s) xsc xnow xjc xec xse xki xpp xqq xrr xst xfs xin xtb xaj xat xsd xja xev xva xha xps xpa xpi xct xsn xsv xtk xac xji xou xen xuw xra xea xtj xte N (nI m)) ∧ (∀ post : Int32 → Prop, post (-1) → wY_findSignal_2 post (nI i) (nI s) ysc ynow yjc yec yse yss yac yji yen yho ywh ytj yte yst ypl ydn yas ywt yun yrs yva yha ypa ypi yps yso ysv yct N (nI m))) ∨
    (∃ m0, m0 < n ∧ xtk (6 * i + m0) = 0 ∧ (∀ post : Int32 → Prop, post (nI (6 * i + m0)) → wX_firstSignal_2 post (nI i) (nI s) xsc xnow xjc xec xse xki xpp xqq xrr xst xfs xin xtb xaj xat xsd xja xev xva xha xps xpa xpi xct xsn xsv xtk xac xji xou xen xuw xra xea xtj xte N (nI m)) ∧ (∀ post : Int32 → Prop, post (nI m0) → wY_findSignal_2 post (nI i) (nI s) ysc ynow yjc yec yse yss yac yji yen yho ywh ytj yte yst ypl ydn yas ywt yun yrs yva yha ypa ypi yps yso ysv yct N (nI m))) := by
  have b3 : vp_in (nI i) 3 := vp_in_nI hi (by omega)
  have ci : (nI i).toNatClampNeg = i := nI_clamp (by omega)
  intro k
  induction k with
  | zero =>
    intro m N hm hN
    obtain ⟨N, rfl⟩ : ∃ N', N = N' + 1 := ⟨N - 1, by omega⟩
    refine Or.inl ⟨fun post hp => ?_, fun post hp => ?_⟩
    · simp (disch := omega) only [wX_firstSignal_2, ci, b3, hct, sg_leT, forall_eq, true_and, and_true, true_implies, false_implies, not_true_eq_false, not_false_eq_true, implies_true]
      exact hp
    · simp (disch := omega) only [wY_findSignal_2, ci, b3, hcy, sg_leT, forall_eq, true_and, and_true, true_implies, false_implies, not_true_eq_false, not_false_eq_true, implies_true]
      exact hp
  | succ k ih =>
    intro m N hm hN
    obtain ⟨N, rfl⟩ : ∃ N', N = N' + 1 := ⟨N - 1, by omega⟩
    obtain ⟨h1, h2⟩ := H m (by omega)
    have IH := ih (m + 1) N (by omega) (by omega)
    rcases h2 with ⟨h2, h3⟩ | ⟨h2, h3⟩
    · by_cases c : xsn (6 * i + m) = nI s
      · refine Or.inr ⟨m, by omega, h2, fun post hp => ?_, fun post hp => ?_⟩
        · simp (disch := omega) only [wX_firstSignal_2, ci, b3, hct, sg_leF, sg_m3, sg_m3', sg_m4, sg_m4', sg_m6, sg_m6', sg_m7, sg_m7', sg_m200, sg_m200', nI_add, sg_a1, sg_a2, sg_a3, sg_a4, sg_a5, sg_a6, Int32.add_zero, sg_inT, nI_clamp, h2, c, forall_eq, true_and, and_true, true_implies, false_implies, not_true_eq_false, not_false_eq_true, implies_true]
          exact hp
        · simp (disch := omega) only [wY_findSignal_2, ci, b3, hcy, sg_leF, sg_m3, sg_m3', sg_m4, sg_m4', sg_m6, sg_m6', sg_m7, sg_m7', sg_m200, sg_m200', nI_add, sg_a1, sg_a2, sg_a3, sg_a4, sg_a5, sg_a6, Int32.add_zero, sg_inT, nI_clamp, h3, c, forall_eq, true_and, and_true, true_implies, false_implies, not_true_eq_false, not_false_eq_true, implies_true]
          exact hp
      · have eX : ∀ post : Int32 → Prop, wX_firstSignal_2 post (nI i) (nI s) xsc xnow xjc xec xse xki xpp xqq xrr xst xfs xin xtb xaj xat xsd xja xev xva xha xps xpa xpi xct xsn xsv xtk xac xji xou xen xuw xra xea xtj xte N (nI (m + 1)) → wX_firstSignal_2 post (nI i) (nI s) xsc xnow xjc xec xse xki xpp xqq xrr xst xfs xin xtb xaj xat xsd xja xev xva xha xps xpa xpi xct xsn xsv xtk xac xji xou xen xuw xra xea xtj xte (N + 1) (nI m) := fun post hp => by
          simp (disch := omega) only [wX_firstSignal_2, ci, b3, hct, sg_leF, sg_m3, sg_m3', sg_m4, sg_m4', sg_m6, sg_m6', sg_m7, sg_m7', sg_m200, sg_m200', nI_add, sg_a1, sg_a2, sg_a3, sg_a4, sg_a5, sg_a6, Int32.add_zero, sg_inT, nI_clamp, h2, c, sg_a1, forall_eq, true_and, and_true, true_implies, false_implies, not_true_eq_false, not_false_eq_true, implies_true]
          exact hp
        have eY : ∀ post : Int32 → Prop, wY_findSignal_2 post (nI i) (nI s) ysc ynow yjc yec yse yss yac yji yen yho ywh ytj yte yst ypl ydn yas ywt yun yrs yva yha ypa ypi yps yso ysv yct N (nI (m + 1)) → wY_findSignal_2 post (nI i) (nI s) ysc ynow yjc yec yse yss yac yji yen yho ywh ytj yte yst ypl ydn yas ywt yun yrs yva yha ypa ypi yps yso ysv yct (N + 1) (nI m) := fun post hp => by
          simp (disch := omega) only [wY_findSignal_2, ci, b3, hcy, sg_leF, sg_m3, sg_m3', sg_m4, sg_m4', sg_m6, sg_m6', sg_m7, sg_m7', sg_m200, sg_m200', nI_add, sg_a1, sg_a2, sg_a3, sg_a4, sg_a5, sg_a6, Int32.add_zero, sg_inT, nI_clamp, h3, c, sg_a1, forall_eq, true_and, and_true, true_implies, false_implies, not_true_eq_false, not_false_eq_true, implies_true]
          exact hp
        rcases IH with ⟨g1, g2⟩ | ⟨m0, g0, g3, g1, g2⟩
        · exact Or.inl ⟨fun post hp => eX post (g1 post hp), fun post hp => eY post (g2 post hp)⟩
        · exact Or.inr ⟨m0, g0, g3, fun post hp => eX post (g1 post hp), fun post hp => eY post (g2 post hp)⟩
    · have c : ¬ (-1 : Int32) = nI s := fun z => sg_ne1 (a := s) (by omega) z.symm
      have n10 : ¬ (1 : Int32) = 0 := by decide
      have eX : ∀ post : Int32 → Prop, wX_firstSignal_2 post (nI i) (nI s) xsc xnow xjc xec xse xki xpp xqq xrr xst xfs xin xtb xaj xat xsd xja xev xva xha xps xpa xpi xct xsn xsv xtk xac xji xou xen xuw xra xea xtj xte N (nI (m + 1)) → wX_firstSignal_2 post (nI i) (nI s) xsc xnow xjc xec xse xki xpp xqq xrr xst xfs xin xtb xaj xat xsd xja xev xva xha xps xpa xpi xct xsn xsv xtk xac xji xou xen xuw xra xea xtj xte (N + 1) (nI m) := fun post hp => by
        simp (disch := omega) only [wX_firstSignal_2, ci, b3, hct, sg_leF, sg_m3, sg_m3', sg_m4, sg_m4', sg_m6, sg_m6', sg_m7, sg_m7', sg_m200, sg_m200', nI_add, sg_a1, sg_a2, sg_a3, sg_a4, sg_a5, sg_a6, Int32.add_zero, sg_inT, nI_clamp, h2, n10, sg_a1, forall_eq, true_and, and_true, true_implies, false_implies, not_true_eq_false, not_false_eq_true, implies_true]
        exact hp
      have eY : ∀ post : Int32 → Prop, wY_findSignal_2 post (nI i) (nI s) ysc ynow yjc yec yse yss yac yji yen yho ywh ytj yte yst ypl ydn yas ywt yun yrs yva yha ypa ypi yps yso ysv yct N (nI (m + 1)) → wY_findSignal_2 post (nI i) (nI s) ysc ynow yjc yec yse yss yac yji yen yho ywh ytj yte yst ypl ydn yas ywt yun yrs yva yha ypa ypi yps yso ysv yct (N + 1) (nI m) := fun post hp => by
        simp (disch := omega) only [wY_findSignal_2, ci, b3, hcy, sg_leF, sg_m3, sg_m3', sg_m4, sg_m4', sg_m6, sg_m6', sg_m7, sg_m7', sg_m200, sg_m200', nI_add, sg_a1, sg_a2, sg_a3, sg_a4, sg_a5, sg_a6, Int32.add_zero, sg_inT, nI_clamp, h3, c, sg_a1, forall_eq, true_and, and_true, true_implies, false_implies, not_true_eq_false, not_false_eq_true, implies_true]
        exact hp
      rcases IH with ⟨g1, g2⟩ | ⟨m0, g0, g3, g1, g2⟩
      · exact Or.inl ⟨fun post hp => eX post (g1 post hp), fun post hp => eY post (g2 post hp)⟩
      · exact Or.inr ⟨m0, g0, g3, fun post hp => eX post (g1 post hp), fun post hp => eY post (g2 post hp)⟩
/-! the step that waits for a signal, both ways -/
theorem sg_xes_n {i f n s : Nat} {post : Int32 → SX → Prop} (hi : i < 3) (hf : f < 20) (hs : xpp f = nI s) (hg : ∀ post : Int32 → Prop, post (-1) → wX_firstSignal_2 post (nI i) (nI s) xsc xnow xjc xec xse xki xpp xqq xrr xst xfs xin xtb xaj xat xsd xja xev xva xha xps xpa xpi xct xsn xsv xtk xac xji xou xen xuw xra xea xtj xte n 0) (hn : ¬ xat i ≤ xnow) (hp : post 0 (xsc, xnow, xjc, xec, xse, xki, xpp, xqq, xrr, xst, xfs, xin, xtb, xaj, xat, xsd, xja, xev, xva, xha, xps, xpa, xpi, xct, xsn, xsv, xtk, xac, xji, xou, xen, xuw, xra, xea, xtj, xte)) : wpX_endSignalStep post (xsc, xnow, xjc, xec, xse, xki, xpp, xqq, xrr, xst, xfs, xin, xtb, xaj, xat, xsd, xja, xev, xva, xha, xps, xpa, xpi, xct, xsn, xsv, xtk, xac, xji, xou, xen, xuw, xra, xea, xtj, xte) (nI i) (nI f) := by
  have b3 : vp_in (nI i) 3 := vp_in_nI hi (by omega)
  have ci : (nI i).toNatClampNeg = i := nI_clamp (by omega)
  simp (disch := omega) only [wpX_endSignalStep, sg_inT, nI_clamp, hs, wpX_firstSignal, forall_eq, true_and, and_true, true_implies, false_implies, not_true_eq_false, not_false_eq_true, implies_true]
  refine ⟨n, hg _ ?_⟩
  simp (disch := omega) only [ci, b3, hn, forall_eq, true_and, and_true, true_implies, false_implies, not_true_eq_false, not_false_eq_true, implies_true]
  exact hp
theorem sg_xes_t {i f n s w : Nat} {post : Int32 → SX → Prop} (hi : i < 3) (hf : f < 20) (hw : w < 4) (hs : xpp f = nI s) (hq : xqq f = nI w) (hg : ∀ post : Int32 → Prop, post (-1) → wX_firstSignal_2 post (nI i) (nI s) xsc xnow xjc xec xse xki xpp xqq xrr xst xfs xin xtb xaj xat xsd xja xev xva xha xps xpa xpi xct xsn xsv xtk xac xji xou xen xuw xra xea xtj xte n 0) (hn : xat i ≤ xnow) (hp : post 1 (xsc, xnow, xjc, xec, xse, xki, xpp, xqq, xrr, xst, upd xfs i (xfs i + 1), upd xin i 0, xtb, xaj, xat, xsd, xja, xev, upd xva (4 * i + w) (-1), xha, xps, xpa, xpi, xct, xsn, xsv, xtk, xac, xji, xou, xen, xuw, xra, xea, xtj, xte)) : wpX_endSignalStep post (xsc, xnow, xjc, xec, xse, xki, xpp, xqq, xrr, xst, xfs, xin, xtb, xaj, xat, xsd, xja, xev, xva, xha, xps, xpa, xpi, xct, xsn, xsv, xtk, xac, xji, xou, xen, xuw, xra, xea, xtj, xte) (nI i) (nI f) := by
  have b3 : vp_in (nI i) 3 := vp_in_nI hi (by omega)
  have ci : (nI i).toNatClampNeg = i := nI_clamp (by omega)
  simp (disch := omega) only [wpX_endSignalStep, sg_inT, nI_clamp, hs, wpX_firstSignal, forall_eq, true_and, and_true, true_implies, false_implies, not_true_eq_false, not_false_eq_true, implies_true]
  refine ⟨n, hg _ ?_⟩
  simp (disch := omega) only [wX_endSignalStep_32, wX_endSignalStep_55, wpX_leaveStep, ci, b3, hn, hq, sg_m3, sg_m3', sg_m4, sg_m4', sg_m6, sg_m6', sg_m7, sg_m7', sg_m200, sg_m200', nI_add, sg_a1, sg_a2, sg_a3, sg_a4, sg_a5, sg_a6, Int32.add_zero, sg_inT, nI_clamp, sg_b0, forall_eq, true_and, and_true, true_implies, false_implies, not_true_eq_false, not_false_eq_true, implies_true]
  exact hp
theorem sg_xes_s {i f n s w m : Nat} {post : Int32 → SX → Prop} (hi : i < 3) (hf : f < 20) (hw : w < 4) (hm : m < 6) (hs : xpp f = nI s) (hq : xqq f = nI w) (hg : ∀ post : Int32 → Prop, post (nI (6 * i + m)) → wX_firstSignal_2 post (nI i) (nI s) xsc xnow xjc xec xse xki xpp xqq xrr xst xfs xin xtb xaj xat xsd xja xev xva xha xps xpa xpi xct xsn xsv xtk xac xji xou xen xuw xra xea xtj xte n 0) (hp : post 1 (xsc, xnow, xjc, xec, xse, xki, xpp, xqq, xrr, xst, upd xfs i (xfs i + 1), upd xin i 0, xtb, xaj, xat, xsd, xja, xev, upd xva (4 * i + w) (xsv (6 * i + m)), xha, xps, xpa, xpi, xct, xsn, xsv, upd xtk (6 * i + m) 1, xac, xji, xou, xen, xuw, xra, xea, xtj, xte)) : wpX_endSignalStep post (xsc, xnow, xjc, xec, xse, xki, xpp, xqq, xrr, xst, xfs, xin, xtb, xaj, xat, xsd, xja, xev, xva, xha, xps, xpa, xpi, xct, xsn, xsv, xtk, xac, xji, xou, xen, xuw, xra, xea, xtj, xte) (nI i) (nI f) := by
  have b3 : vp_in (nI i) 3 := vp_in_nI hi (by omega)
  have ci : (nI i).toNatClampNeg = i := nI_clamp (by omega)
  simp (disch := omega) only [wpX_endSignalStep, sg_inT, nI_clamp, hs, wpX_firstSignal, forall_eq, true_and, and_true, true_implies, false_implies, not_true_eq_false, not_false_eq_true, implies_true]
  refine ⟨n, hg _ ?_⟩
  simp (disch := omega) only [wX_endSignalStep_32, wX_endSignalStep_55, wpX_leaveStep, ci, b3, hq, sg_nm1, sg_m3, sg_m3', sg_m4, sg_m4', sg_m6, sg_m6', sg_m7, sg_m7', sg_m200, sg_m200', nI_add, sg_a1, sg_a2, sg_a3, sg_a4, sg_a5, sg_a6, Int32.add_zero, sg_inT, nI_clamp, sg_b0, sg_b1, forall_eq, true_and, and_true, true_implies, false_implies, not_true_eq_false, not_false_eq_true, implies_true]
  exact hp
theorem sg_ygo_gn {i f n s : Nat} {post : Int32 → SY → Prop} (hi : i < 3) (hf : f < 20) (hpl : ypl i = nI f) (hwt : ywt i = 3) (hs : yss (4 * f + 1) = nI s) (hg : ∀ post : Int32 → Prop, post (-1) → wY_findSignal_2 post (nI i) (nI s) ysc ynow yjc yec yse yss yac yji yen yho ywh ytj yte yst ypl ydn yas ywt yun yrs yva yha ypa ypi yps yso ysv yct n 0) (hn : ynow < yun i) (hp : post 0 (ysc, ynow, yjc, yec, yse, yss, yac, yji, yen, yho, ywh, ytj, yte, yst, ypl, ydn, yas, ywt, yun, yrs, yva, yha, ypa, ypi, yps, yso, ysv, yct)) : wpY_goOn post (ysc, ynow, yjc, yec, yse, yss, yac, yji, yen, yho, ywh, ytj, yte, yst, ypl, ydn, yas, ywt, yun, yrs, yva, yha, ypa, ypi, yps, yso, ysv, yct) (nI i) := by
  have b3 : vp_in (nI i) 3 := vp_in_nI hi (by omega)
  have ci : (nI i).toNatClampNeg = i := nI_clamp (by omega)
  simp (disch := omega) only [wpY_goOn, wpY_part, wpY_findSignal, ci, b3, hpl, hwt, hs, sg_m4', sg_a1, Int32.add_zero, sg_inT, nI_clamp, sg_lits, sg_mA, sg_mB, sg_mC, sg_mD, sg_mE, sg_mF, Int32.reduceLT, Int32.reduceLE, forall_eq, true_and, and_true, true_implies, false_implies, not_true_eq_false, not_false_eq_true, implies_true]
  refine ⟨n, hg _ ?_⟩
  simp (disch := omega) only [wY_goOn_101, wY_goOn_213, ci, b3, hn, hwt, sg_lits, sg_mA, sg_mB, sg_mC, sg_mD, sg_mE, sg_mF, Int32.reduceLT, Int32.reduceLE, forall_eq, true_and, and_true, true_implies, false_implies, not_true_eq_false, not_false_eq_true, implies_true]
  exact hp
theorem sg_ygo_gt {i f n s w : Nat} {post : Int32 → SY → Prop} (hi : i < 3) (hf : f < 20) (hw : w < 4) (hpl : ypl i = nI f) (hwt : ywt i = 3) (hs : yss (4 * f + 1) = nI s) (hq : yss (4 * f + 2) = nI w) (hg : ∀ post : Int32 → Prop, post (-1) → wY_findSignal_2 post (nI i) (nI s) ysc ynow yjc yec yse yss yac yji yen yho ywh ytj yte yst ypl ydn yas ywt yun yrs yva yha ypa ypi yps yso ysv yct n 0) (hn : ¬ ynow < yun i) (hp : post 1 (ysc, ynow, yjc, yec, yse, yss, yac, yji, yen, yho, ywh, ytj, yte, yst, upd ypl i (nI (f + 1)), ydn, yas, upd ywt i 0, yun, yrs, upd yva (4 * i + w) (-1), yha, ypa, ypi, yps, yso, ysv, yct)) : wpY_goOn post (ysc, ynow, yjc, yec, yse, yss, yac, yji, yen, yho, ywh, ytj, yte, yst, ypl, ydn, yas, ywt, yun, yrs, yva, yha, ypa, ypi, yps, yso, ysv, yct) (nI i) := by
  have b3 : vp_in (nI i) 3 := vp_in_nI hi (by omega)
  have ci : (nI i).toNatClampNeg = i := nI_clamp (by omega)
  simp (disch := omega) only [wpY_goOn, wpY_part, wpY_findSignal, ci, b3, hpl, hwt, hs, sg_m4', sg_a1, Int32.add_zero, sg_inT, nI_clamp, sg_lits, sg_mA, sg_mB, sg_mC, sg_mD, sg_mE, sg_mF, Int32.reduceLT, Int32.reduceLE, forall_eq, true_and, and_true, true_implies, false_implies, not_true_eq_false, not_false_eq_true, implies_true]
  refine ⟨n, hg _ ?_⟩
  simp (disch := omega) only [wY_goOn_89, wY_goOn_101, wY_goOn_213, wpY_part, wpY_takeSignal, wY_takeSignal_28, wY_takeSignal_45, ci, b3, hn, hwt, hpl, hq, pk_us, sg_m3, sg_m3', sg_m4, sg_m4', sg_m6, sg_m6', sg_m7, sg_m7', sg_m200, sg_m200', nI_add, sg_a1, sg_a2, sg_a3, sg_a4, sg_a5, sg_a6, Int32.add_zero, sg_inT, nI_clamp, sg_lits, sg_mA, sg_mB, sg_mC, sg_mD, sg_mE, sg_mF, Int32.reduceLT, Int32.reduceLE, forall_eq, true_and, and_true, true_implies, false_implies, not_true_eq_false, not_false_eq_true, implies_true]
  exact hp
theorem sg_ygo_gs {i f n s w m : Nat} {post : Int32 → SY → Prop} (hi : i < 3) (hf : f < 20) (hw : w < 4) (hm : m < 6) (hpl : ypl i = nI f) (hwt : ywt i = 3) (hs : yss (4 * f + 1) = nI s) (hq : yss (4 * f + 2) = nI w) (hg : ∀ post : Int32 → Prop, post (nI m) → wY_findSignal_2 post (nI i) (nI s) ysc ynow yjc yec yse yss yac yji yen yho ywh ytj yte yst ypl ydn yas ywt yun yrs yva yha ypa ypi yps yso ysv yct n 0) (hp : post 1 (ysc, ynow, yjc, yec, yse, yss, yac, yji, yen, yho, ywh, ytj, yte, yst, upd ypl i (nI (f + 1)), ydn, yas, upd ywt i 0, yun, yrs, upd yva (4 * i + w) (ysv (6 * i + m)), yha, ypa, ypi, yps, upd yso (6 * i + m) (-1), ysv, yct)) : wpY_goOn post (ysc, ynow, yjc, yec, yse, yss, yac, yji, yen, yho, ywh, ytj, yte, yst, ypl, ydn, yas, ywt, yun, yrs, yva, yha, ypa, ypi, yps, yso, ysv, yct) (nI i) := by
  have b3 : vp_in (nI i) 3 := vp_in_nI hi (by omega)
  have ci : (nI i).toNatClampNeg = i := nI_clamp (by omega)
  simp (disch := omega) only [wpY_goOn, wpY_part, wpY_findSignal, ci, b3, hpl, hwt, hs, sg_m4', sg_a1, Int32.add_zero, sg_inT, nI_clamp, sg_lits, sg_mA, sg_mB, sg_mC, sg_mD, sg_mE, sg_mF, Int32.reduceLT, Int32.reduceLE, forall_eq, true_and, and_true, true_implies, false_implies, not_true_eq_false, not_false_eq_true, implies_true]
  refine ⟨n, hg _ ?_⟩
  simp (disch := omega) only [wY_goOn_89, wY_goOn_101, wY_goOn_213, wpY_part, wpY_takeSignal, wY_takeSignal_28, wY_takeSignal_45, ci, b3, hwt, hpl, hq, pk_us, sg_nn, sg_neg, sg_m3, sg_m3', sg_m4, sg_m4', sg_m6, sg_m6', sg_m7, sg_m7', sg_m200, sg_m200', nI_add, sg_a1, sg_a2, sg_a3, sg_a4, sg_a5, sg_a6, Int32.add_zero, sg_inT, nI_clamp, sg_lits, sg_mA, sg_mB, sg_mC, sg_mD, sg_mE, sg_mF, Int32.reduceLT, Int32.reduceLE, forall_eq, true_and, and_true, true_implies, false_implies, not_true_eq_false, not_false_eq_true, implies_true]
  exact hp
end
