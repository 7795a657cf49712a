theorem sg_stepAll {i d t : Nat} {u : SX} {v : SY} {k : Int32} (hi : i < 3) (H : sg_W 1 i d t u v) (hlt : d < 200) (hK : sg_K i k u) (hk : k = 0 ∨ k = 1 ∨ k = 2 ∨ k = 3 ∨ k = 4 ∨ k = 5 ∨ k = 6 ∨ k = 7 ∨ k = 8 ∨ k = 9 ∨ k = 10 ∨ k = 11 ∨ k = 12) : sg_S i d t u v := by
  rcases hk with h | h | h | h | h | h | h | h | h | h | h | h | h
  · exact sg_step0 h hi H hlt hK
  · exact sg_step1 h hi H hlt hK
  · exact sg_step2 h hi H hlt hK
  · exact sg_step3 h hi H hlt hK
  · exact sg_step4 h hi H hlt hK
  · exact sg_step5 h hi H hlt hK
  · exact sg_step6 h hi H hlt hK
  · exact sg_step7 h hi H hlt hK
  · exact sg_step8 h hi H hlt hK
  · exact sg_step9 h hi H hlt hK
  · exact sg_step10 h hi H hlt hK
  · exact sg_step11 h hi H hlt hK
  · exact sg_step12 h hi H hlt hK
theorem sg_okk {k p q r : Int32} (h : sg_ok k p q r) : k = 0 ∨ k = 1 ∨ k = 2 ∨ k = 3 ∨ k = 4 ∨ k = 5 ∨ k = 6 ∨ k = 7 ∨ k = 8 ∨ k = 9 ∨ k = 10 ∨ k = 11 ∨ k = 12 := by
  rcases h with h | h | h | h | h | h | h | h | h | h | h | h | h
  · exact Or.inl h.1
  · exact Or.inr (Or.inl h.1)
  · exact Or.inr (Or.inr (Or.inl h.1))
  · exact Or.inr (Or.inr (Or.inr (Or.inl h.1)))
  · exact Or.inr (Or.inr (Or.inr (Or.inr (Or.inl h.1))))
  · exact Or.inr (Or.inr (Or.inr (Or.inr (Or.inr (Or.inl h.1)))))
  · exact Or.inr (Or.inr (Or.inr (Or.inr (Or.inr (Or.inr (Or.inl h.1))))))
  · exact Or.inr (Or.inr (Or.inr (Or.inr (Or.inr (Or.inr (Or.inr (Or.inl h.1)))))))
  · exact Or.inr (Or.inr (Or.inr (Or.inr (Or.inr (Or.inr (Or.inr (Or.inr (Or.inl h.1))))))))
  · exact Or.inr (Or.inr (Or.inr (Or.inr (Or.inr (Or.inr (Or.inr (Or.inr (Or.inr (Or.inl h.1)))))))))
  · exact Or.inr (Or.inr (Or.inr (Or.inr (Or.inr (Or.inr (Or.inr (Or.inr (Or.inr (Or.inr (Or.inl h.1))))))))))
  · exact Or.inr (Or.inr (Or.inr (Or.inr (Or.inr (Or.inr (Or.inr (Or.inr (Or.inr (Or.inr (Or.inr (Or.inl h.1)))))))))))
  · exact Or.inr (Or.inr (Or.inr (Or.inr (Or.inr (Or.inr (Or.inr (Or.inr (Or.inr (Or.inr (Or.inr (Or.inr h)))))))))))
/-! the two loops, over whole states -/
def sg_XL (i n : Nat) (mv c : Int32) (post : SX → Prop) (u : SX) : Prop := match u with
  | (xsc, xnow, xjc, xec, xse, xki, xpp, xqq, xrr, xst, xfs, xin, xtb, xaj, xat, xsd, xja, xev, xva, xha, xps, xpa, xpi, xct, xsn, xsv, xtk, xac, xji, xou, xen, xuw, xra, xea, xtj, xte) => wX_goOn_4 post (nI i) n mv c xsc xnow xjc xec xse xki xpp xqq xrr xst xfs xin xtb xaj xat xsd xja xev xva xha xps xpa xpi xct xsn xsv xtk xac xji xou xen xuw xra xea xtj xte
def sg_YL (i n : Nat) (on : Int32) (post : SY → Prop) (v : SY) : Prop := match v with
  | (ysc, ynow, yjc, yec, yse, yss, yac, yji, yen, yho, ywh, ytj, yte, yst, ypl, ydn, yas, ywt, yun, yrs, yva, yha, ypa, ypi, yps, yso, ysv, yct) => wY_work_33 post (nI i) n on ysc ynow yjc yec yse yss yac yji yen yho ywh ytj yte yst ypl ydn yas ywt yun yrs yva yha ypa ypi yps yso ysv yct
def sg_HX (i : Nat) (tb inn : Int32) (u : SX) : Prop := match u with
  | (xsc, xnow, xjc, xec, xse, xki, xpp, xqq, xrr, xst, xfs, xin, xtb, xaj, xat, xsd, xja, xev, xva, xha, xps, xpa, xpi, xct, xsn, xsv, xtk, xac, xji, xou, xen, xuw, xra, xea, xtj, xte) => xst i = 1 ∧ xtb i = tb ∧ xin i = inn
def sg_EX (i : Nat) (u : SX) : Prop := match u with
  | (xsc, xnow, xjc, xec, xse, xki, xpp, xqq, xrr, xst, xfs, xin, xtb, xaj, xat, xsd, xja, xev, xva, xha, xps, xpa, xpi, xct, xsn, xsv, xtk, xac, xji, xou, xen, xuw, xra, xea, xtj, xte) => ¬ xst i = 1
def sg_EY (i : Nat) (v : SY) : Prop := match v with
  | (ysc, ynow, yjc, yec, yse, yss, yac, yji, yen, yho, ywh, ytj, yte, yst, ypl, ydn, yas, ywt, yun, yrs, yva, yha, ypa, ypi, yps, yso, ysv, yct) => ¬ yst i = 1
def sg_HY (i : Nat) (z : Prop) (v : SY) : Prop := match v with
  | (ysc, ynow, yjc, yec, yse, yss, yac, yji, yen, yho, ywh, ytj, yte, yst, ypl, ydn, yas, ywt, yun, yrs, yva, yha, ypa, ypi, yps, yso, ysv, yct) => yst i = 1 ∧ (ywt i = 0 ↔ z)
theorem sg_2000 {c : Nat} (h : c < 2000) : ¬ (2000 : Int32) ≤ nI c := nI_ge (b := 2000) h (by decide)
theorem sg_xl_stop {i n c : Nat} {post : SX → Prop} {u : SX} (hc : c < 2000) (hp : post u) : sg_XL i (n + 1) 0 (nI c) post u := by
  obtain ⟨xsc, xnow, xjc, xec, xse, xki, xpp, xqq, xrr, xst, xfs, xin, xtb, xaj, xat, xsd, xja, xev, xva, xha, xps, xpa, xpi, xct, xsn, xsv, xtk, xac, xji, xou, xen, xuw, xra, xea, xtj, xte⟩ := u
  have h2 := sg_2000 hc
  simp only [sg_XL, wX_goOn_4, h2, forall_eq, true_and, and_true, true_implies, false_implies, not_true_eq_false, not_false_eq_true, implies_true]
  exact hp
theorem sg_xl_end {i n c : Nat} {post : SX → Prop} {u : SX} (hi : i < 3) (hc : c < 2000) (he : sg_EX i u) (hp : post u) : sg_XL i (n + 1) 1 (nI c) post u := by
  have b3 : vp_in (nI i) 3 := vp_in_nI hi (by omega)
  have ci : (nI i).toNatClampNeg = i := nI_clamp (by omega)
  obtain ⟨xsc, xnow, xjc, xec, xse, xki, xpp, xqq, xrr, xst, xfs, xin, xtb, xaj, xat, xsd, xja, xev, xva, xha, xps, xpa, xpi, xct, xsn, xsv, xtk, xac, xji, xou, xen, xuw, xra, xea, xtj, xte⟩ := u
  have h2 := sg_2000 hc
  have h3 : ¬ xst i = 1 := he
  simp only [sg_XL, wX_goOn_4, h2, h3, ci, b3, sg_lits, sg_mA, sg_mB, sg_mC, sg_mD, sg_mE, sg_mF, Int32.reduceLT, Int32.reduceLE, forall_eq, true_and, and_true, true_implies, false_implies, not_true_eq_false, not_false_eq_true, implies_true]
  exact hp
theorem sg_xl_begin {i n c : Nat} {post : SX → Prop} {u u1 : SX} (hi : i < 3) (hc : c < 2000) (hh : sg_HX i 0 0 u) (hr : ∀ P : SX → Prop, P u1 → wpX_beginStep P u (nI i)) (hp : sg_XL i n 1 (nI (c + 1)) post u1) : sg_XL i (n + 1) 1 (nI c) post u := by
  have b3 : vp_in (nI i) 3 := vp_in_nI hi (by omega)
  have ci : (nI i).toNatClampNeg = i := nI_clamp (by omega)
  obtain ⟨xsc, xnow, xjc, xec, xse, xki, xpp, xqq, xrr, xst, xfs, xin, xtb, xaj, xat, xsd, xja, xev, xva, xha, xps, xpa, xpi, xct, xsn, xsv, xtk, xac, xji, xou, xen, xuw, xra, xea, xtj, xte⟩ := u
  obtain ⟨z1, z2, z3, z4, z5, z6, z7, z8, z9, z10, z11, z12, z13, z14, z15, z16, z17, z18, z19, z20, z21, z22, z23, z24, z25, z26, z27, z28, z29, z30, z31, z32, z33, z34, z35, z36⟩ := u1
  have h2 := sg_2000 hc
  obtain ⟨g1, g2, g3⟩ := hh
  simp only [sg_XL, wX_goOn_4, h2, g1, g2, g3, ci, b3, sg_a1, sg_lits, sg_mA, sg_mB, sg_mC, sg_mD, sg_mE, sg_mF, Int32.reduceLT, Int32.reduceLE, forall_eq, true_and, and_true, true_implies, false_implies, not_true_eq_false, not_false_eq_true, implies_true]
  refine hr _ ?_
  exact hp
theorem sg_xl_es {i n c : Nat} {r : Int32} {post : SX → Prop} {u u1 : SX} (hi : i < 3) (hc : c < 2000) (hh : sg_HX i 0 1 u) (hr : ∀ P : Int32 → SX → Prop, P r u1 → wpX_endStep P u (nI i)) (hp : sg_XL i n r (nI (c + 1)) post u1) : sg_XL i (n + 1) 1 (nI c) post u := by
  have b3 : vp_in (nI i) 3 := vp_in_nI hi (by omega)
  have ci : (nI i).toNatClampNeg = i := nI_clamp (by omega)
  obtain ⟨xsc, xnow, xjc, xec, xse, xki, xpp, xqq, xrr, xst, xfs, xin, xtb, xaj, xat, xsd, xja, xev, xva, xha, xps, xpa, xpi, xct, xsn, xsv, xtk, xac, xji, xou, xen, xuw, xra, xea, xtj, xte⟩ := u
  obtain ⟨z1, z2, z3, z4, z5, z6, z7, z8, z9, z10, z11, z12, z13, z14, z15, z16, z17, z18, z19, z20, z21, z22, z23, z24, z25, z26, z27, z28, z29, z30, z31, z32, z33, z34, z35, z36⟩ := u1
  have h2 := sg_2000 hc
  obtain ⟨g1, g2, g3⟩ := hh
  simp only [sg_XL, wX_goOn_4, h2, g1, g2, g3, ci, b3, sg_a1, sg_lits, sg_mA, sg_mB, sg_mC, sg_mD, sg_mE, sg_mF, Int32.reduceLT, Int32.reduceLE, forall_eq, true_and, and_true, true_implies, false_implies, not_true_eq_false, not_false_eq_true, implies_true]
  refine hr _ ?_
  exact hp
theorem sg_xl_tb {i n c : Nat} {post : SX → Prop} {u u1 : SX} (hi : i < 3) (hc : c < 2000) (hh : sg_F i u) (hr : ∀ P : SX → Prop, P u1 → wpX_takeBack P u (nI i)) (hp : sg_XL i n 0 (nI (c + 1)) post u1) : sg_XL i (n + 1) 1 (nI c) post u := by
  have b3 : vp_in (nI i) 3 := vp_in_nI hi (by omega)
  have ci : (nI i).toNatClampNeg = i := nI_clamp (by omega)
  obtain ⟨xsc, xnow, xjc, xec, xse, xki, xpp, xqq, xrr, xst, xfs, xin, xtb, xaj, xat, xsd, xja, xev, xva, xha, xps, xpa, xpi, xct, xsn, xsv, xtk, xac, xji, xou, xen, xuw, xra, xea, xtj, xte⟩ := u
  obtain ⟨z1, z2, z3, z4, z5, z6, z7, z8, z9, z10, z11, z12, z13, z14, z15, z16, z17, z18, z19, z20, z21, z22, z23, z24, z25, z26, z27, z28, z29, z30, z31, z32, z33, z34, z35, z36⟩ := u1
  have h2 := sg_2000 hc
  obtain ⟨g1, g2⟩ := hh
  simp only [sg_XL, wX_goOn_4, h2, g1, g2, ci, b3, sg_a1, sg_lits, sg_mA, sg_mB, sg_mC, sg_mD, sg_mE, sg_mF, Int32.reduceLT, Int32.reduceLE, forall_eq, true_and, and_true, true_implies, false_implies, not_true_eq_false, not_false_eq_true, implies_true]
  refine hr _ ?_
  exact hp
theorem sg_yl_off {i n : Nat} {post : SY → Prop} {v : SY} (hp : post v) : sg_YL i (n + 1) 0 post v := by
  obtain ⟨ysc, ynow, yjc, yec, yse, yss, yac, yji, yen, yho, ywh, ytj, yte, yst, ypl, ydn, yas, ywt, yun, yrs, yva, yha, ypa, ypi, yps, yso, ysv, yct⟩ := v
  simp only [sg_YL, wY_work_33, forall_eq, true_and, and_true, true_implies, false_implies, not_true_eq_false, not_false_eq_true, implies_true]
  exact hp
theorem sg_yl_end {i n : Nat} {post : SY → Prop} {v : SY} (hi : i < 3) (he : sg_EY i v) (hp : post v) : sg_YL i (n + 1) 1 post v := by
  have b3 : vp_in (nI i) 3 := vp_in_nI hi (by omega)
  have ci : (nI i).toNatClampNeg = i := nI_clamp (by omega)
  obtain ⟨ysc, ynow, yjc, yec, yse, yss, yac, yji, yen, yho, ywh, ytj, yte, yst, ypl, ydn, yas, ywt, yun, yrs, yva, yha, ypa, ypi, yps, yso, ysv, yct⟩ := v
  have h3 : ¬ yst i = 1 := he
  simp only [sg_YL, wY_work_33, ci, b3, h3, sg_lits, sg_mA, sg_mB, sg_mC, sg_mD, sg_mE, sg_mF, Int32.reduceLT, Int32.reduceLE, forall_eq, true_and, and_true, true_implies, false_implies, not_true_eq_false, not_false_eq_true, implies_true]
  exact hp
def sg_CY (i d : Nat) (v : SY) : Prop := match v with
  | (ysc, ynow, yjc, yec, yse, yss, yac, yji, yen, yho, ywh, ytj, yte, yst, ypl, ydn, yas, ywt, yun, yrs, yva, yha, ypa, ypi, yps, yso, ysv, yct) => yst i = 1 ∧ ypl i < ysc ∧ ydn i = nI d
theorem sg_yl_a {i n d : Nat} {post : SY → Prop} {v v1 : SY} (hi : i < 3) (hd : d < 200) (hh : sg_CY i d v) (hr : ∀ P : SY → Prop, P v1 → wpY_doStep P (sg_D i d v) (nI i)) (he : sg_EY i v1) (hp : sg_YL i n 0 post v1) : sg_YL i (n + 1) 1 post v := by
  have b3 : vp_in (nI i) 3 := vp_in_nI hi (by omega)
  have ci : (nI i).toNatClampNeg = i := nI_clamp (by omega)
  have h200 : ¬ nI d = 200 := fun z => by
    have := (nI_eq (b := 200) (by omega) (by omega)).mp z
    omega
  obtain ⟨ysc, ynow, yjc, yec, yse, yss, yac, yji, yen, yho, ywh, ytj, yte, yst, ypl, ydn, yas, ywt, yun, yrs, yva, yha, ypa, ypi, yps, yso, ysv, yct⟩ := v
  obtain ⟨w1, w2, w3, w4, w5, w6, w7, w8, w9, w10, w11, w12, w13, w14, w15, w16, w17, w18, w19, w20, w21, w22, w23, w24, w25, w26, w27, w28⟩ := v1
  obtain ⟨g1, g2, g3⟩ := hh
  have h3 : ¬ w14 i = 1 := he
  simp only [sg_YL, wY_work_33, ci, b3, g1, g2, g3, h200, sg_a1, sg_lits, sg_mA, sg_mB, sg_mC, sg_mD, sg_mE, sg_mF, Int32.reduceLT, Int32.reduceLE, forall_eq, true_and, and_true, true_implies, false_implies, not_true_eq_false, not_false_eq_true, implies_true]
  refine hr _ ?_
  simp only [ci, b3, h3, forall_eq, true_and, and_true, true_implies, false_implies, not_true_eq_false, not_false_eq_true, implies_true]
  exact hp
theorem sg_yl_b {i n d : Nat} {post : SY → Prop} {v v1 : SY} (hi : i < 3) (hd : d < 200) (hh : sg_CY i d v) (hr : ∀ P : SY → Prop, P v1 → wpY_doStep P (sg_D i d v) (nI i)) (he : sg_HY i True v1) (hp : sg_YL i n 1 post v1) : sg_YL i (n + 1) 1 post v := by
  have b3 : vp_in (nI i) 3 := vp_in_nI hi (by omega)
  have ci : (nI i).toNatClampNeg = i := nI_clamp (by omega)
  have h200 : ¬ nI d = 200 := fun z => by
    have := (nI_eq (b := 200) (by omega) (by omega)).mp z
    omega
  obtain ⟨ysc, ynow, yjc, yec, yse, yss, yac, yji, yen, yho, ywh, ytj, yte, yst, ypl, ydn, yas, ywt, yun, yrs, yva, yha, ypa, ypi, yps, yso, ysv, yct⟩ := v
  obtain ⟨w1, w2, w3, w4, w5, w6, w7, w8, w9, w10, w11, w12, w13, w14, w15, w16, w17, w18, w19, w20, w21, w22, w23, w24, w25, w26, w27, w28⟩ := v1
  obtain ⟨g1, g2, g3⟩ := hh
  obtain ⟨h3, h4⟩ := he
  have h4 : w18 i = 0 := h4.mpr trivial
  simp only [sg_YL, wY_work_33, ci, b3, g1, g2, g3, h200, sg_a1, sg_lits, sg_mA, sg_mB, sg_mC, sg_mD, sg_mE, sg_mF, Int32.reduceLT, Int32.reduceLE, forall_eq, true_and, and_true, true_implies, false_implies, not_true_eq_false, not_false_eq_true, implies_true]
  refine hr _ ?_
  simp only [ci, b3, h3, h4, forall_eq, true_and, and_true, true_implies, false_implies, not_true_eq_false, not_false_eq_true, implies_true]
  exact hp
theorem sg_yl_c0 {i n d : Nat} {post : SY → Prop} {v v1 v2 : SY} (hi : i < 3) (hd : d < 200) (hh : sg_CY i d v) (hr : ∀ P : SY → Prop, P v1 → wpY_doStep P (sg_D i d v) (nI i)) (he : sg_HY i False v1) (hg : ∀ P : Int32 → SY → Prop, P 0 v2 → wpY_goOn P v1 (nI i)) (hp : sg_YL i n 0 post v2) : sg_YL i (n + 1) 1 post v := by
  have b3 : vp_in (nI i) 3 := vp_in_nI hi (by omega)
  have ci : (nI i).toNatClampNeg = i := nI_clamp (by omega)
  have h200 : ¬ nI d = 200 := fun z => by
    have := (nI_eq (b := 200) (by omega) (by omega)).mp z
    omega
  obtain ⟨ysc, ynow, yjc, yec, yse, yss, yac, yji, yen, yho, ywh, ytj, yte, yst, ypl, ydn, yas, ywt, yun, yrs, yva, yha, ypa, ypi, yps, yso, ysv, yct⟩ := v
  obtain ⟨w1, w2, w3, w4, w5, w6, w7, w8, w9, w10, w11, w12, w13, w14, w15, w16, w17, w18, w19, w20, w21, w22, w23, w24, w25, w26, w27, w28⟩ := v1
  obtain ⟨a1, a2, a3, a4, a5, a6, a7, a8, a9, a10, a11, a12, a13, a14, a15, a16, a17, a18, a19, a20, a21, a22, a23, a24, a25, a26, a27, a28⟩ := v2
  obtain ⟨g1, g2, g3⟩ := hh
  obtain ⟨h3, h4⟩ := he
  have h4 : ¬ w18 i = 0 := fun z => h4.mp z
  simp only [sg_YL, wY_work_33, ci, b3, g1, g2, g3, h200, sg_a1, sg_lits, sg_mA, sg_mB, sg_mC, sg_mD, sg_mE, sg_mF, Int32.reduceLT, Int32.reduceLE, forall_eq, true_and, and_true, true_implies, false_implies, not_true_eq_false, not_false_eq_true, implies_true]
  refine hr _ ?_
  simp only [ci, b3, h3, h4, forall_eq, true_and, and_true, true_implies, false_implies, not_true_eq_false, not_false_eq_true, implies_true]
  refine hg _ ?_
  simp only [forall_eq, true_and, and_true, true_implies, false_implies, not_true_eq_false, not_false_eq_true, implies_true]
  exact hp
theorem sg_yl_c1 {i n d : Nat} {b : Int32} {post : SY → Prop} {v v1 v2 : SY} (hi : i < 3) (hd : d < 200) (hb : ¬ b = 0) (hh : sg_CY i d v) (hr : ∀ P : SY → Prop, P v1 → wpY_doStep P (sg_D i d v) (nI i)) (he : sg_HY i False v1) (hg : ∀ P : Int32 → SY → Prop, P b v2 → wpY_goOn P v1 (nI i)) (hp : sg_YL i n 1 post v2) : sg_YL i (n + 1) 1 post v := by
  have b3 : vp_in (nI i) 3 := vp_in_nI hi (by omega)
  have ci : (nI i).toNatClampNeg = i := nI_clamp (by omega)
  have h200 : ¬ nI d = 200 := fun z => by
    have := (nI_eq (b := 200) (by omega) (by omega)).mp z
    omega
  obtain ⟨ysc, ynow, yjc, yec, yse, yss, yac, yji, yen, yho, ywh, ytj, yte, yst, ypl, ydn, yas, ywt, yun, yrs, yva, yha, ypa, ypi, yps, yso, ysv, yct⟩ := v
  obtain ⟨w1, w2, w3, w4, w5, w6, w7, w8, w9, w10, w11, w12, w13, w14, w15, w16, w17, w18, w19, w20, w21, w22, w23, w24, w25, w26, w27, w28⟩ := v1
  obtain ⟨a1, a2, a3, a4, a5, a6, a7, a8, a9, a10, a11, a12, a13, a14, a15, a16, a17, a18, a19, a20, a21, a22, a23, a24, a25, a26, a27, a28⟩ := v2
  obtain ⟨g1, g2, g3⟩ := hh
  obtain ⟨h3, h4⟩ := he
  have h4 : ¬ w18 i = 0 := fun z => h4.mp z
  simp only [sg_YL, wY_work_33, ci, b3, g1, g2, g3, h200, sg_a1, sg_lits, sg_mA, sg_mB, sg_mC, sg_mD, sg_mE, sg_mF, Int32.reduceLT, Int32.reduceLE, forall_eq, true_and, and_true, true_implies, false_implies, not_true_eq_false, not_false_eq_true, implies_true]
  refine hr _ ?_
  simp only [ci, b3, h3, h4, forall_eq, true_and, and_true, true_implies, false_implies, not_true_eq_false, not_false_eq_true, implies_true]
  refine hg _ ?_
  simp only [hb, forall_eq, true_and, and_true, true_implies, false_implies, not_true_eq_false, not_false_eq_true, implies_true]
  exact hp
/-! what the modes say of the heads -/
theorem sg_W1x {i d t : Nat} {u : SX} {v : SY} (H : sg_W 1 i d t u v) : sg_HX i 0 0 u ∧ sg_HY i True v := by
  obtain ⟨xsc, xnow, xjc, xec, xse, xki, xpp, xqq, xrr, xst, xfs, xin, xtb, xaj, xat, xsd, xja, xev, xva, xha, xps, xpa, xpi, xct, xsn, xsv, xtk, xac, xji, xou, xen, xuw, xra, xea, xtj, xte⟩ := u
  obtain ⟨ysc, ynow, yjc, yec, yse, yss, yac, yji, yen, yho, ywh, ytj, yte, yst, ypl, ydn, yas, ywt, yun, yrs, yva, yha, ypa, ypi, yps, yso, ysv, yct⟩ := v
  obtain ⟨sc, jc, ⟨⟨⟨e1, e2, e3, e4⟩, e5, e6, e7, e8, e9, e10, e11, e12, e13, e14, e15, e16⟩, ⟨g1, g2, g3, g4⟩, hset, hprog, hjobs, hjas⟩, hf, hb, f, hst, hev, hf20, hfs, hpl, hdn, has, hctl⟩ := H
  subst e1 e2 e3 e4 e5 e6 e7 e8 e9 e10 e11 e12 e13 e14 e15 e16 g1 g2 g3 g4
  rcases hctl with h | h | h | h
  · exact ⟨⟨hst, h.2.2.2.1, h.2.2.1⟩, hst, ⟨fun _ => trivial, fun _ => h.2.1⟩⟩
  · exact absurd h.1 (by decide)
  · exact absurd h.1 (by decide)
  · exact absurd h.1 (by decide)
theorem sg_W2x {i d t : Nat} {u : SX} {v : SY} (H : sg_W 2 i d t u v) : sg_HX i 0 1 u ∧ sg_HY i False v := by
  obtain ⟨xsc, xnow, xjc, xec, xse, xki, xpp, xqq, xrr, xst, xfs, xin, xtb, xaj, xat, xsd, xja, xev, xva, xha, xps, xpa, xpi, xct, xsn, xsv, xtk, xac, xji, xou, xen, xuw, xra, xea, xtj, xte⟩ := u
  obtain ⟨ysc, ynow, yjc, yec, yse, yss, yac, yji, yen, yho, ywh, ytj, yte, yst, ypl, ydn, yas, ywt, yun, yrs, yva, yha, ypa, ypi, yps, yso, ysv, yct⟩ := v
  obtain ⟨sc, jc, ⟨⟨⟨e1, e2, e3, e4⟩, e5, e6, e7, e8, e9, e10, e11, e12, e13, e14, e15, e16⟩, ⟨g1, g2, g3, g4⟩, hset, hprog, hjobs, hjas⟩, hf, hb, f, hst, hev, hf20, hfs, hpl, hdn, has, hctl⟩ := H
  subst e1 e2 e3 e4 e5 e6 e7 e8 e9 e10 e11 e12 e13 e14 e15 e16 g1 g2 g3 g4
  rcases hctl with h | h | h | h
  · exact absurd h.1 (by decide)
  · refine ⟨⟨hst, h.2.2.2.1, h.2.2.1⟩, hst, ⟨fun z => ?_, fun z => z.elim⟩⟩
    rcases h.2.2.2.2 with k | k | k
    · exact absurd (k.1.symm.trans z) (by decide)
    · exact absurd (k.1.symm.trans z) (by decide)
    · exact absurd (k.1.symm.trans z) (by decide)
  · exact absurd h.1 (by decide)
  · exact absurd h.1 (by decide)
theorem sg_W3x {i d t : Nat} {u : SX} {v : SY} (H : sg_W 3 i d t u v) : sg_F i u ∧ sg_HY i False v := by
  obtain ⟨xsc, xnow, xjc, xec, xse, xki, xpp, xqq, xrr, xst, xfs, xin, xtb, xaj, xat, xsd, xja, xev, xva, xha, xps, xpa, xpi, xct, xsn, xsv, xtk, xac, xji, xou, xen, xuw, xra, xea, xtj, xte⟩ := u
  obtain ⟨ysc, ynow, yjc, yec, yse, yss, yac, yji, yen, yho, ywh, ytj, yte, yst, ypl, ydn, yas, ywt, yun, yrs, yva, yha, ypa, ypi, yps, yso, ysv, yct⟩ := v
  obtain ⟨sc, jc, ⟨⟨⟨e1, e2, e3, e4⟩, e5, e6, e7, e8, e9, e10, e11, e12, e13, e14, e15, e16⟩, ⟨g1, g2, g3, g4⟩, hset, hprog, hjobs, hjas⟩, hf, hb, f, hst, hev, hf20, hfs, hpl, hdn, has, hctl⟩ := H
  subst e1 e2 e3 e4 e5 e6 e7 e8 e9 e10 e11 e12 e13 e14 e15 e16 g1 g2 g3 g4
  rcases hctl with h | h | h | h
  · exact absurd h.1 (by decide)
  · exact absurd h.1 (by decide)
  · exact ⟨⟨hst, h.2.2.1⟩, hst, ⟨fun z => absurd (h.2.2.2.1.symm.trans z) (by decide), fun z => z.elim⟩⟩
  · exact absurd h.1 (by decide)
theorem sg_E_X {i : Nat} {u : SX} {v : SY} (h : sg_E i u v) : sg_EX i u := by
  obtain ⟨xsc, xnow, xjc, xec, xse, xki, xpp, xqq, xrr, xst, xfs, xin, xtb, xaj, xat, xsd, xja, xev, xva, xha, xps, xpa, xpi, xct, xsn, xsv, xtk, xac, xji, xou, xen, xuw, xra, xea, xtj, xte⟩ := u
  obtain ⟨ysc, ynow, yjc, yec, yse, yss, yac, yji, yen, yho, ywh, ytj, yte, yst, ypl, ydn, yas, ywt, yun, yrs, yva, yha, ypa, ypi, yps, yso, ysv, yct⟩ := v
  exact h.1
theorem sg_E_Y {i : Nat} {u : SX} {v : SY} (h : sg_E i u v) : sg_EY i v := by
  obtain ⟨xsc, xnow, xjc, xec, xse, xki, xpp, xqq, xrr, xst, xfs, xin, xtb, xaj, xat, xsd, xja, xev, xva, xha, xps, xpa, xpi, xct, xsn, xsv, xtk, xac, xji, xou, xen, xuw, xra, xea, xtj, xte⟩ := u
  obtain ⟨ysc, ynow, yjc, yec, yse, yss, yac, yji, yen, yho, ywh, ytj, yte, yst, ypl, ydn, yas, ywt, yun, yrs, yva, yha, ypa, ypi, yps, yso, ysv, yct⟩ := v
  exact h.2
