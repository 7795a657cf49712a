def sg_E (i : Nat) (u : SX) (v : SY) : Prop := match u with
  | (xsc, xnow, xjc, xec, xse, xki, xpp, xqq, xrr, xst, xfs, xin, xtb, xaj, xat, xsd, xja, xev, xva, xha, xps, xpa, xpi, xct, xsn, xsv, xtk, xac, xji, xou, xen, xuw, xra, xea, xtj, xte) => match v with
    | (ysc, ynow, yjc, yec, yse, yss, yac, yji, yen, yho, ywh, ytj, yte, yst, ypl, ydn, yas, ywt, yun, yrs, yva, yha, ypa, ypi, yps, yso, ysv, yct) => ¬ xst i = 1 ∧ ¬ yst i = 1
section
variable {xsc xnow xjc xec : Int32} {xse xki xpp xqq xrr xst xfs xin xtb xaj xat xsd xja xev xva xha xps xpa xpi xct xsn xsv xtk xac xji xou xen xuw xra xea xtj xte : Nat → Int32} {ysc ynow yjc yec : Int32} {yse yss yac yji yen yho ywh ytj yte yst ypl ydn yas ywt yun yrs yva yha ypa ypi yps yso ysv yct : Nat → Int32}
theorem sg_goOn_not {i f j : Nat} {w : Int32} {post : Int32 → SY → Prop} (hi : i < 3) (hf : f < 20) (hpl : ypl i = nI f) (hwt : ywt i = w) (h0 : ¬ w = 0) (h2 : ¬ w = 2) (h3 : ¬ w = 3) (hj : j < 90) (hun : yun i = nI j) (hh : yho j ≤ 2) (hp : post 0 (ysc, ynow, yjc, yec, yse, yss, yac, yji, yen, yho, ywh, ytj, yte, yst, ypl, ydn, yas, ywt, yun, yrs, yva, yha, ypa, ypi, yps, yso, ysv, yct)) : wpY_goOn post (ysc, ynow, yjc, yec, yse, yss, yac, yji, yen, yho, ywh, ytj, yte, yst, ypl, ydn, yas, ywt, yun, yrs, yva, yha, ypa, ypi, yps, yso, ysv, yct) (nI i) := by
  have b3 : vp_in (nI i) 3 := vp_in_nI hi (by omega)
  have ci : (nI i).toNatClampNeg = i := nI_clamp (by omega)
  simp (disch := omega) only [wpY_goOn, wpY_part, wY_goOn_213, ci, b3, hpl, hwt, hun, h0, h2, h3, hh, sg_m4', Int32.add_zero, sg_inT, nI_clamp, forall_eq, true_and, and_true, true_implies, false_implies, not_true_eq_false, not_false_eq_true, implies_true]
  exact hp
end
theorem sg_tbl {i d t : Nat} {u : SX} {v : SY} (hi : i < 3) (H : sg_W 4 i d t u v) : ∃ u1 v1, (∀ post : SX → Prop, post u1 → wpX_takeBackLast post u (nI i)) ∧ (∀ post : SY → Prop, post v1 → wpY_takeBack post v (nI i)) ∧ ((sg_R t u1 v1 ∧ sg_E i u1 v1) ∨ (sg_W 3 i d t u1 v1 ∧ ∀ post : Int32 → SY → Prop, post 0 v1 → wpY_goOn post v1 (nI i))) := by
  obtain ⟨xsc, xnow, xjc, xec, xse, xki, xpp, xqq, xrr, xst, xfs, xin, xtb, xaj, xat, xsd, xja, xev, xva, xha, xps, xpa, xpi, xct, xsn, xsv, xtk, xac, xji, xou, xen, xuw, xra, xea, xtj, xte⟩ := u
  obtain ⟨ysc, ynow, yjc, yec, yse, yss, yac, yji, yen, yho, ywh, ytj, yte, yst, ypl, ydn, yas, ywt, yun, yrs, yva, yha, ypa, ypi, yps, yso, ysv, yct⟩ := v
  obtain ⟨sc, jc, ⟨⟨⟨e1, e2, e3, e4⟩, e5, e6, e7, e8, e9, e10, e11, e12, e13, e14, e15, e16⟩, ⟨g1, g2, g3, g4⟩, hset, hprog, hjobs, hjas⟩, hf, hb, f, hst, hev, hf20, hfs, hpl, hdn, has, hctl⟩ := H
  subst e1 e2 e3 e4 e5 e6 e7 e8 e9 e10 e11 e12 e13 e14 e15 e16 g1 g2 g3 g4
  obtain ⟨hd, hsd, hva, ⟨p, hp1, hps, hpa⟩, hsig⟩ := hb
  obtain ⟨hfsc, htb, hwt⟩ : f < sc ∧ xtb i = 1 ∧ ywt i = 0 := by
    rcases hctl with h | h | h | h
    · exact absurd h.1 (by decide)
    · exact absurd h.1 (by decide)
    · exact absurd h.1 (by decide)
    · exact h.2
  have hsc := hprog.1
  obtain ⟨q, hq, hja⟩ := hjas.1 i hi
  have hya : yas i = nI q := has.trans hja
  have hjc := sg_jas_le hjas
  have b3 : vp_in (nI i) 3 := vp_in_nI hi (by omega)
  have ci : (nI i).toNatClampNeg = i := nI_clamp (by omega)
  have n35 : ¬ (3 : Int32) = 1 := by decide
  have n51 : ¬ (5 : Int32) = 1 := by decide
  by_cases hp0 : p = 0
  · subst hp0
    have hz : xps i = 0 := hps
    refine ⟨(nI sc, nI t, nI jc, nI (sg_cnt xen jc), xse, xki, xpp, xqq, xrr, upd xst i 3, xfs, xin, xtb, xaj, xat, xsd, xja, xev, xva, xha, xps, xpa, xpi, xct, xsn, xsv, xtk, xac, xji, xou, xen, xuw, xra, xea, xtj, xte), (nI sc, nI t, nI jc, nI (sg_cnt xen jc), xse, yss, xac, xji, xen, yho, ywh, xtj, xte, upd xst i 3, ypl, ydn, yas, ywt, yun, yrs, yva, yha, xpa, xpi, xps, yso, xsv, xct), fun post h => ?_, fun post h => ?_, Or.inl ⟨⟨sc, jc, ⟨⟨⟨rfl, rfl, rfl, rfl⟩, rfl, rfl, rfl, rfl, rfl, rfl, rfl, rfl, rfl, rfl, rfl, rfl⟩, ⟨rfl, rfl, rfl, rfl⟩, hset, hprog, hjobs, hjas⟩, fun m hm => ?_⟩, ?_⟩⟩
    · simp only [wpX_takeBackLast, ci, hz, b3, forall_eq, true_and, and_true, true_implies, false_implies, not_true_eq_false, not_false_eq_true, implies_true]
      exact h
    · simp only [wpY_takeBack, ci, hz, b3, forall_eq, true_and, and_true, true_implies, false_implies, not_true_eq_false, not_false_eq_true, implies_true]
      exact h
    · by_cases c : m = i
      · subst c
        exact Or.inr ⟨d, ⟨hd, hsd, hva, ⟨0, hp1, hps, hpa⟩, hsig⟩, Or.inl ⟨3, by omega, by omega, pk_us, hev⟩⟩
      · exact sg_flow_fr c (hf m hm c)
    · exact ⟨by rw [pk_us]; exact n35, by rw [pk_us]; exact n35⟩
  · obtain ⟨p, rfl⟩ : ∃ k, p = k + 1 := ⟨p - 1, by omega⟩
    have ex : nI i * 200 + nI (p + 1) - 1 = nI (200 * i + p) := by rw [sg_x200]; exact nI_pred (200 * i + p)
    have ey : 200 * nI i + nI (p + 1) - 1 = nI (200 * i + p) := by rw [sg_y200]; exact nI_pred (200 * i + p)
    obtain ⟨a, ha4, hpa4⟩ := hpa p (by omega)
    by_cases hq30 : q < 30
    · obtain ⟨hjc9, hjas1⟩ := sg_jas_inc hjas hi hq30 hja
      refine ⟨(nI sc, nI t, nI (jc + 1), nI (sg_cnt xen jc), xse, xki, xpp, xqq, xrr, xst, xfs, xin, xtb, upd xaj i (nI jc), xat, xsd, upd xja i (nI (q + 1)), xev, xva, xha, upd xps i (nI p), xpa, xpi, xct, xsn, xsv, xtk, upd xac jc (nI a), upd xji jc (xpi (200 * i + p)), upd xou jc (-1), upd xen jc 0, upd xuw jc 0, upd xra jc (nI t), xea, xtj, xte), (nI sc, nI t, nI (jc + 1), nI (sg_cnt xen jc), xse, yss, upd xac jc (nI a), upd xji jc (xpi (200 * i + p)), upd xen jc 0, upd yho jc 1, upd ywh jc (nI t), xtj, xte, xst, ypl, ydn, upd yas i (nI (q + 1)), upd ywt i 4, upd yun i (nI jc), yrs, yva, yha, xpa, xpi, upd xps i (nI p), yso, xsv, xct), fun post h => ?_, fun post h => ?_, Or.inr ⟨⟨sc, jc + 1, ⟨⟨⟨rfl, rfl, rfl, rfl⟩, rfl, rfl, rfl, rfl, rfl, rfl, rfl, rfl, rfl, rfl, rfl, rfl⟩, ⟨rfl, rfl, rfl, congrArg nI (sg_cnt_ask _ _).symm⟩, hset, hprog, sg_jobs_ask hset hjobs ha4, hjas1⟩, fun m hm c => sg_flow_fr c (hf m hm c), ⟨hd, hsd, hva, ⟨p, by omega, pk_us, fun m hm => hpa m (by omega)⟩, hsig⟩, f, hst, hev, hf20, hfs, hpl, hdn, ?_, Or.inr (Or.inr (Or.inl ⟨rfl, hfsc, htb, pk_us, ⟨jc, by omega, pk_us, pk_us⟩⟩))⟩, fun post h => ?_⟩⟩
      · simp (disch := omega) only [wpX_takeBackLast, ci, hps, b3, ex, sg_z0, nI_clamp, sg_inT, hpa4, forall_eq, true_and, and_true, true_implies, false_implies, not_true_eq_false, not_false_eq_true, implies_true]
        refine sg_xask1 hi hja hq30 hjc9 ?_
        simp (disch := omega) only [ci, b3, pk_us, sg_nm1, hps, nI_pred, forall_eq, true_and, and_true, true_implies, false_implies, not_true_eq_false, not_false_eq_true, implies_true]
        exact h
      · simp (disch := omega) only [wpY_takeBack, ci, hps, b3, ey, sg_z0, nI_clamp, sg_inT, hpa4, forall_eq, true_and, and_true, true_implies, false_implies, not_true_eq_false, not_false_eq_true, implies_true]
        refine sg_yask1 hi hya hq30 hjc9 ?_
        simp (disch := omega) only [wpY_waitFor, ci, b3, pk_us, sg_neg, hps, nI_pred, forall_eq, true_and, and_true, true_implies, false_implies, not_true_eq_false, not_false_eq_true, implies_true]
        exact h
      · rw [pk_us, pk_us]
      · exact sg_goOn_not hi (by omega) hpl pk_us (by decide) (by decide) (by decide) hjc9 pk_us (by rw [pk_us]; decide) h
    · refine ⟨(nI sc, nI t, nI jc, nI (sg_cnt xen jc), xse, xki, xpp, xqq, xrr, upd xst i 5, xfs, xin, xtb, upd xaj i (-1), xat, xsd, xja, xev, xva, xha, xps, xpa, xpi, xct, xsn, xsv, xtk, xac, xji, xou, xen, xuw, xra, xea, xtj, xte), (nI sc, nI t, nI jc, nI (sg_cnt xen jc), xse, yss, xac, xji, xen, yho, ywh, xtj, xte, upd xst i 5, ypl, ydn, yas, ywt, yun, yrs, yva, yha, xpa, xpi, xps, yso, xsv, xct), fun post h => ?_, fun post h => ?_, Or.inl ⟨⟨sc, jc, ⟨⟨⟨rfl, rfl, rfl, rfl⟩, rfl, rfl, rfl, rfl, rfl, rfl, rfl, rfl, rfl, rfl, rfl, rfl⟩, ⟨rfl, rfl, rfl, rfl⟩, hset, hprog, hjobs, hjas⟩, fun m hm => ?_⟩, ?_⟩⟩
      · simp (disch := omega) only [wpX_takeBackLast, ci, hps, b3, ex, sg_z0, nI_clamp, sg_inT, hpa4, forall_eq, true_and, and_true, true_implies, false_implies, not_true_eq_false, not_false_eq_true, implies_true]
        refine sg_xask0 hi hja hq30 hq ?_
        simp (disch := omega) only [ci, b3, pk_us, forall_eq, true_and, and_true, true_implies, false_implies, not_true_eq_false, not_false_eq_true, implies_true]
        exact h
      · simp (disch := omega) only [wpY_takeBack, ci, hps, b3, ey, sg_z0, nI_clamp, sg_inT, hpa4, forall_eq, true_and, and_true, true_implies, false_implies, not_true_eq_false, not_false_eq_true, implies_true]
        refine sg_yask0 hi hya hq30 hq ?_
        simp (disch := omega) only [show ((-1 : Int32) < 0) = True from eq_true (by decide), forall_eq, true_and, and_true, true_implies, false_implies, not_true_eq_false, not_false_eq_true, implies_true]
        exact h
      · by_cases c : m = i
        · subst c
          exact Or.inr ⟨d, ⟨hd, hsd, hva, ⟨p + 1, hp1, hps, hpa⟩, hsig⟩, Or.inl ⟨5, by omega, by omega, pk_us, hev⟩⟩
        · exact sg_flow_fr c (hf m hm c)
      · exact ⟨by rw [pk_us]; exact n51, by rw [pk_us]; exact n51⟩
