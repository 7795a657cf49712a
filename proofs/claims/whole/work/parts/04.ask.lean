section
variable {xsc xnow xjc xec : Int32} {xse xki xpp xqq xrr xst xfs xin xtb xaj xat xsd xja xev xva xha xps xpa xpi xct xsn xsv xtk xac xji xou xen xuw xra xea xtj xte : Nat → Int32} {ysc ynow yjc yec : Int32} {yse yss yac yji yen yho ywh ytj yte yst ypl ydn yas ywt yun yrs yva yha ypa ypi yps yso ysv yct : Nat → Int32}
theorem sg_xask0 {i q : Nat} {a inp : Int32} {post : Int32 → SX → Prop} (hi : i < 3) (hja : xja i = nI q) (hq : ¬ q < 30) (hq2 : q ≤ 30) (hp : post (-1) (xsc, xnow, xjc, xec, xse, xki, xpp, xqq, xrr, upd xst i 5, xfs, xin, xtb, xaj, xat, xsd, xja, xev, xva, xha, xps, xpa, xpi, xct, xsn, xsv, xtk, xac, xji, xou, xen, xuw, xra, xea, xtj, xte)) : wpX_askFor post (xsc, xnow, xjc, xec, xse, xki, xpp, xqq, xrr, xst, xfs, xin, xtb, xaj, xat, xsd, xja, xev, xva, xha, xps, xpa, xpi, xct, xsn, xsv, xtk, xac, xji, xou, xen, xuw, xra, xea, xtj, xte) (nI i) a inp := by
  have ci : (nI i).toNatClampNeg = i := nI_clamp (by omega)
  have b3 : vp_in (nI i) 3 := vp_in_nI hi (by omega)
  have h30 : ¬ nI q < 30 := nI_nlt (b := 30) (by omega) (by omega)
  simp only [wpX_askFor, ci, hja, b3, h30, forall_eq, true_and, and_true, true_implies, false_implies, not_true_eq_false, not_false_eq_true, implies_true]
  exact hp
theorem sg_xask1 {i q jc : Nat} {a inp : Int32} {post : Int32 → SX → Prop} (hi : i < 3) (hja : xja i = nI q) (hq : q < 30) (hjc : jc < 90) (hp : post (nI jc) (xsc, xnow, nI (jc + 1), xec, xse, xki, xpp, xqq, xrr, xst, xfs, xin, xtb, xaj, xat, xsd, upd xja i (nI (q + 1)), xev, xva, xha, xps, xpa, xpi, xct, xsn, xsv, xtk, upd xac jc a, upd xji jc inp, upd xou jc (-1), upd xen jc 0, upd xuw jc 0, upd xra jc xnow, xea, xtj, xte)) : wpX_askFor post (xsc, xnow, nI jc, xec, xse, xki, xpp, xqq, xrr, xst, xfs, xin, xtb, xaj, xat, xsd, xja, xev, xva, xha, xps, xpa, xpi, xct, xsn, xsv, xtk, xac, xji, xou, xen, xuw, xra, xea, xtj, xte) (nI i) a inp := by
  have ci : (nI i).toNatClampNeg = i := nI_clamp (by omega)
  have cj : (nI jc).toNatClampNeg = jc := nI_clamp (by omega)
  have b3 : vp_in (nI i) 3 := vp_in_nI hi (by omega)
  have b9 : vp_in (nI jc) 90 := vp_in_nI hjc (by omega)
  have h30 : nI q < 30 := nI_lt (b := 30) (by omega) (by omega)
  simp only [wpX_askFor, ci, cj, hja, b3, b9, h30, sg_a1, sg_b0, forall_eq, true_and, and_true, true_implies, false_implies, not_true_eq_false, not_false_eq_true, implies_true]
  exact hp
theorem sg_yask0 {i q : Nat} {a inp : Int32} {post : Int32 → SY → Prop} (hi : i < 3) (hja : yas i = nI q) (hq : ¬ q < 30) (hq2 : q ≤ 30) (hp : post (-1) (ysc, ynow, yjc, yec, yse, yss, yac, yji, yen, yho, ywh, ytj, yte, upd yst i 5, ypl, ydn, yas, ywt, yun, yrs, yva, yha, ypa, ypi, yps, yso, ysv, yct)) : wpY_ask post (ysc, ynow, yjc, yec, yse, yss, yac, yji, yen, yho, ywh, ytj, yte, yst, ypl, ydn, yas, ywt, yun, yrs, yva, yha, ypa, ypi, yps, yso, ysv, yct) (nI i) a inp := by
  have ci : (nI i).toNatClampNeg = i := nI_clamp (by omega)
  have b3 : vp_in (nI i) 3 := vp_in_nI hi (by omega)
  have h30 : nI q = 30 := (nI_eq (b := 30) (by omega) (by omega)).mpr (by omega)
  simp only [wpY_ask, ci, hja, b3, h30, forall_eq, true_and, and_true, true_implies, false_implies, not_true_eq_false, not_false_eq_true, implies_true]
  exact hp
theorem sg_yask1 {i q jc : Nat} {a inp : Int32} {post : Int32 → SY → Prop} (hi : i < 3) (hja : yas i = nI q) (hq : q < 30) (hjc : jc < 90) (hp : post (nI jc) (ysc, ynow, nI (jc + 1), yec, yse, yss, upd yac jc a, upd yji jc inp, upd yen jc 0, upd yho jc 1, upd ywh jc ynow, ytj, yte, yst, ypl, ydn, upd yas i (nI (q + 1)), ywt, yun, yrs, yva, yha, ypa, ypi, yps, yso, ysv, yct)) : wpY_ask post (ysc, ynow, nI jc, yec, yse, yss, yac, yji, yen, yho, ywh, ytj, yte, yst, ypl, ydn, yas, ywt, yun, yrs, yva, yha, ypa, ypi, yps, yso, ysv, yct) (nI i) a inp := by
  have ci : (nI i).toNatClampNeg = i := nI_clamp (by omega)
  have cj : (nI jc).toNatClampNeg = jc := nI_clamp (by omega)
  have b3 : vp_in (nI i) 3 := vp_in_nI hi (by omega)
  have b9 : vp_in (nI jc) 90 := vp_in_nI hjc (by omega)
  have h30 : ¬ nI q = 30 := fun z => by
    have := (nI_eq (b := 30) (by omega) (by omega)).mp z
    omega
  simp only [wpY_ask, ci, cj, hja, b3, b9, h30, sg_a1, nI_pred, forall_eq, true_and, and_true, true_implies, false_implies, not_true_eq_false, not_false_eq_true, implies_true]
  exact hp
end
