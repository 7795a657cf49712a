section
variable {xsc xnow xjc xec : Int32} {xse xki xpp xqq xrr xst xfs xin xtb xaj xat xsd xja xev xva xha xps xpa xpi xct xsn xsv xtk xac xji xou xen xuw xra xea xtj xte : Nat → Int32} {ysc ynow yjc yec : Int32} {yse yss yac yji yen yho ywh ytj yte yst ypl ydn yas ywt yun yrs yva yha ypa ypi yps yso ysv yct : Nat → Int32} {t jc : Nat}
/-- a ready attempt begins -/
theorem sg_jb {a b : Nat} {x : Int32} (ha : a < 4) (hb : b < jc) (hac : xac b = nI a) (hh : yho b = 1) (hjobs : sg_jobs t jc xse xac xen xou xuw xra xea yho ywh) (hl : ∀ m, m < jc → yho m = 0 → ¬ xra m ≤ nI t) : sg_jobs t jc xse xac xen xou (upd xuw b 1) xra (upd xea b x) (upd yho b 2) (upd ywh b x) ∧ ∀ m, m < jc → upd yho b 2 m = 0 → ¬ xra m ≤ nI t := by
  constructor
  · refine sg_jobs_upd (j := b) hjobs (fun m hm => ⟨rfl, rfl, pk_un hm, rfl, pk_un hm, pk_un hm, pk_un hm⟩) (fun a' e q1 q2 q3 q4 q5 => ?_)
    obtain ⟨_, _, _, _, _, _, _, bhow⟩ := hjobs b hb
    have bo : xou b = -1 := by
      rcases bhow with ⟨k1, k2, k3, k4⟩ | ⟨k1, k2, k3, k4, k5⟩ | ⟨k1, k2, k3, k4⟩ | ⟨k1, k2, k3⟩ | ⟨k1, k2, k3⟩
      · exact k1
      · exact k1
      · exact k1
      · exact absurd (k3.symm.trans hh) (by decide)
      · exact absurd (k3.symm.trans hh) (by decide)
    exact ⟨e, q3, q4, q5, Or.inr (Or.inr (Or.inl ⟨bo, pk_us, pk_us, by rw [pk_us, pk_us]⟩))⟩
  · intro m hm z
    by_cases c : m = b
    · subst c
      rw [pk_us] at z
      exact absurd z (by decide)
    · rw [pk_un c] at z
      exact hl m hm z
theorem sg_in0 {a f : Nat} (ha : a < 4) (hf : f < 2 ^ 31) (hr : ∀ P : Int32 → Prop, P (-1) → wpX_firstReady P (xsc, nI t, nI jc, xec, xse, xki, xpp, xqq, xrr, xst, xfs, xin, xtb, xaj, xat, xsd, xja, xev, xva, xha, xps, xpa, xpi, xct, xsn, xsv, xtk, xac, xji, xou, xen, xuw, xra, xea, xtj, xte) (nI a)) : ∀ (k n N : Nat), n + k = f → k < N → ∀ (post : SX → Prop) (J2 : Int32 → (Nat → Int32) → (Nat → Int32) → (Nat → Int32) → (Nat → Int32) → (Nat → Int32) → (Nat → Int32) → (Nat → Int32) → (Nat → Int32) → (Nat → Int32) → (Nat → Int32) → (Nat → Int32) → (Nat → Int32) → (Nat → Int32) → (Nat → Int32) → (Nat → Int32) → (Nat → Int32) → (Nat → Int32) → (Nat → Int32) → (Nat → Int32) → (Nat → Int32) → (Nat → Int32) → (Nat → Int32) → (Nat → Int32) → (Nat → Int32) → (Nat → Int32) → (Nat → Int32) → (Nat → Int32) → (Nat → Int32) → (Nat → Int32) → (Nat → Int32) → (Nat → Int32) → (Nat → Int32) → Prop), J2 (nI (a + 1)) xse xki xpp xqq xrr xst xfs xin xtb xaj xat xsd xja xev xva xha xps xpa xpi xct xsn xsv xtk xac xji xou xen xuw xra xea xtj xte → wX_beginReadyAttempts_15 post J2 (nI a) (nI f) xsc (nI t) (nI jc) xec N (nI n) xse xki xpp xqq xrr xst xfs xin xtb xaj xat xsd xja xev xva xha xps xpa xpi xct xsn xsv xtk xac xji xou xen xuw xra xea xtj xte := by
  intro k
  induction k with
  | zero =>
    intro n N hn hN post J2 h
    obtain ⟨N, rfl⟩ : ∃ m, N = m + 1 := ⟨N - 1, by omega⟩
    simp (disch := omega) only [wX_beginReadyAttempts_15, sg_leT, sg_a1, forall_eq, true_and, and_true, true_implies, false_implies, not_true_eq_false, not_false_eq_true, implies_true]
    exact h
  | succ k ih =>
    intro n N hn hN post J2 h
    obtain ⟨N, rfl⟩ : ∃ m, N = m + 1 := ⟨N - 1, by omega⟩
    simp (disch := omega) only [wX_beginReadyAttempts_15, sg_leF, sg_a1, forall_eq, true_and, and_true, true_implies, false_implies, not_true_eq_false, not_false_eq_true, implies_true]
    refine hr _ ?_
    simp only [forall_eq, true_and, and_true, true_implies, false_implies, not_true_eq_false, not_false_eq_true, implies_true]
    exact ih (n + 1) N (by omega) (by omega) post J2 h
end
section
variable {xsc xnow xjc xec : Int32} {xse xki xpp xqq xrr xst xfs xin xtb xaj xat xsd xja xev xva xha xps xpa xpi xct xsn xsv xtk xac xji xou xen xuw xra xea xtj xte : Nat → Int32} {ysc ynow yjc yec : Int32} {yse yss yac yji yen yho ywh ytj yte yst ypl ydn yas ywt yun yrs yva yha ypa ypi yps yso ysv yct : Nat → Int32} {t jc : Nat}
theorem sg_inner {a f : Nat} (ha : a < 4) (hc : jc ≤ 90) (hf : f < 2 ^ 31) : ∀ (k n N : Nat) (xuw xea yho ywh : Nat → Int32) (r : Int32), n + k = f → k < N → sg_jobs t jc xse xac xen xou xuw xra xea yho ywh → (∀ m, m < jc → yho m = 0 → ¬ xra m ≤ nI t) → (r = -1 ∨ ∃ b, b < jc ∧ r = nI b ∧ xac b = nI a ∧ yho b = 1) → (∀ P : Int32 → Prop, P r → wpX_firstReady P (xsc, nI t, nI jc, xec, xse, xki, xpp, xqq, xrr, xst, xfs, xin, xtb, xaj, xat, xsd, xja, xev, xva, xha, xps, xpa, xpi, xct, xsn, xsv, xtk, xac, xji, xou, xen, xuw, xra, xea, xtj, xte) (nI a)) →
    ∃ zuw zea zho zwh : Nat → Int32, (∀ (post : SX → Prop) (J2 : Int32 → (Nat → Int32) → (Nat → Int32) → (Nat → Int32) → (Nat → Int32) → (Nat → Int32) → (Nat → Int32) → (Nat → Int32) → (Nat → Int32) → (Nat → Int32) → (Nat → Int32) → (Nat → Int32) → (Nat → Int32) → (Nat → Int32) → (Nat → Int32) → (Nat → Int32) → (Nat → Int32) → (Nat → Int32) → (Nat → Int32) → (Nat → Int32) → (Nat → Int32) → (Nat → Int32) → (Nat → Int32) → (Nat → Int32) → (Nat → Int32) → (Nat → Int32) → (Nat → Int32) → (Nat → Int32) → (Nat → Int32) → (Nat → Int32) → (Nat → Int32) → (Nat → Int32) → (Nat → Int32) → Prop), J2 (nI (a + 1)) xse xki xpp xqq xrr xst xfs xin xtb xaj xat xsd xja xev xva xha xps xpa xpi xct xsn xsv xtk xac xji xou xen zuw xra zea xtj xte → wX_beginReadyAttempts_15 post J2 (nI a) (nI f) xsc (nI t) (nI jc) xec N (nI n) xse xki xpp xqq xrr xst xfs xin xtb xaj xat xsd xja xev xva xha xps xpa xpi xct xsn xsv xtk xac xji xou xen xuw xra xea xtj xte) ∧ (∀ (post : SY → Prop) (J : Int32 → (Nat → Int32) → (Nat → Int32) → (Nat → Int32) → (Nat → Int32) → (Nat → Int32) → (Nat → Int32) → (Nat → Int32) → (Nat → Int32) → (Nat → Int32) → (Nat → Int32) → (Nat → Int32) → (Nat → Int32) → (Nat → Int32) → (Nat → Int32) → (Nat → Int32) → (Nat → Int32) → (Nat → Int32) → (Nat → Int32) → (Nat → Int32) → (Nat → Int32) → (Nat → Int32) → (Nat → Int32) → (Nat → Int32) → (Nat → Int32) → Prop), J (nI (a + 1)) xse yss xac xji xen zho zwh xtj xte xst ypl ydn yas ywt yun yrs yva yha xpa xpi xps yso xsv xct → wY_begin_73 post J (nI a) xsc (nI t) (nI jc) xec N r (nI k) xse yss xac xji xen yho ywh xtj xte xst ypl ydn yas ywt yun yrs yva yha xpa xpi xps yso xsv xct) ∧ sg_jobs t jc xse xac xen xou zuw xra zea zho zwh ∧ (∀ m, m < jc → zho m = 0 → ¬ xra m ≤ nI t) := by
  intro k
  induction k with
  | zero =>
    intro n N xuw xea yho ywh r hn hN hjobs hl hr hrX
    obtain ⟨N, rfl⟩ : ∃ m, N = m + 1 := ⟨N - 1, by omega⟩
    refine ⟨xuw, xea, yho, ywh, fun post J2 h => ?_, fun post J h => ?_, hjobs, hl⟩
    · simp (disch := omega) only [wX_beginReadyAttempts_15, sg_leT, sg_a1, forall_eq, true_and, and_true, true_implies, false_implies, not_true_eq_false, not_false_eq_true, implies_true]
      exact h
    · have h0 : nI 0 ≤ 0 := by decide
      by_cases c : r < 0
      · simp (disch := omega) only [wY_begin_73, c, sg_a1, forall_eq, true_and, and_true, true_implies, false_implies, not_true_eq_false, not_false_eq_true, implies_true]
        exact h
      · simp (disch := omega) only [wY_begin_73, c, h0, sg_a1, forall_eq, true_and, and_true, true_implies, false_implies, not_true_eq_false, not_false_eq_true, implies_true]
        exact h
  | succ k ih =>
    intro n N xuw xea yho ywh r hn hN hjobs hl hr hrX
    obtain ⟨N, rfl⟩ : ∃ m, N = m + 1 := ⟨N - 1, by omega⟩
    rcases hr with hr | ⟨b, hb, hr, hba, hbh⟩
    · subst hr
      refine ⟨xuw, xea, yho, ywh, fun post J2 h => sg_in0 ha hf hrX (k + 1) n (N + 1) hn (by omega) post J2 h, fun post J h => ?_, hjobs, hl⟩
      simp (disch := omega) only [wY_begin_73, sg_a1, sg_lits, sg_mA, sg_mB, sg_mC, sg_mD, sg_mE, sg_mF, Int32.reduceLT, Int32.reduceLE, forall_eq, true_and, and_true, true_implies, false_implies, not_true_eq_false, not_false_eq_true, implies_true]
      exact h
    · subst hr
      obtain ⟨g1, g2⟩ := sg_jb (x := nI t + xse (7 * a)) ha hb hba hbh hjobs hl
      obtain ⟨r', r1, r2, r3⟩ := sg_fr (xsc := xsc) (xec := xec) (xse := xse) (xki := xki) (xpp := xpp) (xqq := xqq) (xrr := xrr) (xst := xst) (xfs := xfs) (xin := xin) (xtb := xtb) (xaj := xaj) (xat := xat) (xsd := xsd) (xja := xja) (xev := xev) (xva := xva) (xha := xha) (xps := xps) (xpa := xpa) (xpi := xpi) (xct := xct) (xsn := xsn) (xsv := xsv) (xtk := xtk) (xji := xji) (xtj := xtj) (xte := xte) (yss := yss) (ypl := ypl) (ydn := ydn) (yas := yas) (ywt := ywt) (yun := yun) (yrs := yrs) (yva := yva) (yha := yha) (yso := yso) ha hc g1 g2
      obtain ⟨zuw, zea, zho, zwh, q1, q2, q3, q4⟩ := ih (n + 1) N (upd xuw b 1) (upd xea b (nI t + xse (7 * a))) (upd yho b 2) (upd ywh b (nI t + xse (7 * a))) r' (by omega) (by omega) g1 g2 r1 r2
      refine ⟨zuw, zea, zho, zwh, fun post J2 h => ?_, fun post J h => ?_, q3, q4⟩
      · simp (disch := omega) only [wX_beginReadyAttempts_15, sg_leF, sg_a1, forall_eq, true_and, and_true, true_implies, false_implies, not_true_eq_false, not_false_eq_true, implies_true]
        refine hrX _ ?_
        simp (disch := omega) only [sg_nm1, sg_b1, sg_m3, sg_m3', sg_m4, sg_m4', sg_m6, sg_m6', sg_m7, sg_m7', sg_m200, sg_m200', nI_add, sg_a1, sg_a2, sg_a3, sg_a4, sg_a5, sg_a6, Int32.add_zero, sg_inT, nI_clamp, forall_eq, true_and, and_true, true_implies, false_implies, not_true_eq_false, not_false_eq_true, implies_true]
        exact q1 post J2 h
      · have h0 : ¬ nI (k + 1) ≤ 0 := nI_nle (by omega) (by omega)
        simp (disch := omega) only [wY_begin_73, wpY_setting, sg_neg, h0, pk_m1, sg_m3, sg_m3', sg_m4, sg_m4', sg_m6, sg_m6', sg_m7, sg_m7', sg_m200, sg_m200', nI_add, sg_a1, sg_a2, sg_a3, sg_a4, sg_a5, sg_a6, Int32.add_zero, sg_inT, nI_clamp, forall_eq, true_and, and_true, true_implies, false_implies, not_true_eq_false, not_false_eq_true, implies_true]
        refine r3 _ ?_
        exact q2 post J h
theorem sg_outer (hc : jc ≤ 90) : ∀ (k a N : Nat) (xuw xea yho ywh : Nat → Int32), a + k = 4 → k < N → sg_jobs t jc xse xac xen xou xuw xra xea yho ywh → (∀ m, m < jc → yho m = 0 → ¬ xra m ≤ nI t) →
    ∃ zuw zea zho zwh : Nat → Int32, (∀ post : SX → Prop, post (xsc, nI t, nI jc, xec, xse, xki, xpp, xqq, xrr, xst, xfs, xin, xtb, xaj, xat, xsd, xja, xev, xva, xha, xps, xpa, xpi, xct, xsn, xsv, xtk, xac, xji, xou, xen, zuw, xra, zea, xtj, xte) → wX_beginReadyAttempts_2 post xsc (nI t) (nI jc) xec N (nI a) xse xki xpp xqq xrr xst xfs xin xtb xaj xat xsd xja xev xva xha xps xpa xpi xct xsn xsv xtk xac xji xou xen xuw xra xea xtj xte) ∧ (∀ post : SY → Prop, post (xsc, nI t, nI jc, xec, xse, yss, xac, xji, xen, zho, zwh, xtj, xte, xst, ypl, ydn, yas, ywt, yun, yrs, yva, yha, xpa, xpi, xps, yso, xsv, xct) → wY_begin_56 post xsc (nI t) (nI jc) xec N (nI a) xse yss xac xji xen yho ywh xtj xte xst ypl ydn yas ywt yun yrs yva yha xpa xpi xps yso xsv xct) ∧ sg_jobs t jc xse xac xen xou zuw xra zea zho zwh ∧ (∀ m, m < jc → zho m = 0 → ¬ xra m ≤ nI t) := by
  intro k
  induction k with
  | zero =>
    intro a N xuw xea yho ywh hk hN hjobs hl
    obtain ⟨N, rfl⟩ : ∃ m, N = m + 1 := ⟨N - 1, by omega⟩
    have h4 : (4 : Int32) ≤ nI a := nI_le (a := 4) (by omega) (by omega)
    refine ⟨xuw, xea, yho, ywh, fun post h => ?_, fun post h => ?_, hjobs, hl⟩
    · simp (disch := omega) only [wX_beginReadyAttempts_2, h4, forall_eq, true_and, and_true, true_implies, false_implies, not_true_eq_false, not_false_eq_true, implies_true]
      exact h
    · simp (disch := omega) only [wY_begin_56, h4, forall_eq, true_and, and_true, true_implies, false_implies, not_true_eq_false, not_false_eq_true, implies_true]
      exact h
  | succ k ih =>
    intro a N xuw xea yho ywh hk hN hjobs hl
    obtain ⟨N, rfl⟩ : ∃ m, N = m + 1 := ⟨N - 1, by omega⟩
    have h4 : ¬ (4 : Int32) ≤ nI a := nI_ge (b := 4) (by omega) (by omega)
    obtain ⟨r, r1, r2, r3⟩ := sg_fr (a := a) (xsc := xsc) (xec := xec) (xse := xse) (xki := xki) (xpp := xpp) (xqq := xqq) (xrr := xrr) (xst := xst) (xfs := xfs) (xin := xin) (xtb := xtb) (xaj := xaj) (xat := xat) (xsd := xsd) (xja := xja) (xev := xev) (xva := xva) (xha := xha) (xps := xps) (xpa := xpa) (xpi := xpi) (xct := xct) (xsn := xsn) (xsv := xsv) (xtk := xtk) (xji := xji) (xtj := xtj) (xte := xte) (yss := yss) (ypl := ypl) (ydn := ydn) (yas := yas) (ywt := ywt) (yun := yun) (yrs := yrs) (yva := yva) (yha := yha) (yso := yso) (by omega) hc hjobs hl
    obtain ⟨F, f2, f3⟩ := sg_free (a := a) (xsc := xsc) (xec := xec) (xse := xse) (xki := xki) (xpp := xpp) (xqq := xqq) (xrr := xrr) (xst := xst) (xfs := xfs) (xin := xin) (xtb := xtb) (xaj := xaj) (xat := xat) (xsd := xsd) (xja := xja) (xev := xev) (xva := xva) (xha := xha) (xps := xps) (xpa := xpa) (xpi := xpi) (xct := xct) (xsn := xsn) (xsv := xsv) (xtk := xtk) (xji := xji) (xtj := xtj) (xte := xte) (yss := yss) (ypl := ypl) (ydn := ydn) (yas := yas) (ywt := ywt) (yun := yun) (yrs := yrs) (yva := yva) (yha := yha) (yso := yso) (by omega) hc hjobs
    by_cases hF : F < 0
    · obtain ⟨zuw, zea, zho, zwh, q1, q2, q3, q4⟩ := ih (a + 1) N xuw xea yho ywh (by omega) (by omega) hjobs hl
      have hF0 : F ≤ 0 := Int32.le_of_lt hF
      refine ⟨zuw, zea, zho, zwh, fun post h => ?_, fun post h => ?_, q3, q4⟩
      · simp (disch := omega) only [wX_beginReadyAttempts_2, h4, forall_eq, true_and, and_true, true_implies, false_implies, not_true_eq_false, not_false_eq_true, implies_true]
        refine f2 _ ⟨1, ?_⟩
        simp (disch := omega) only [wX_beginReadyAttempts_15, hF0, sg_a1, forall_eq, true_and, and_true, true_implies, false_implies, not_true_eq_false, not_false_eq_true, implies_true]
        exact q1 post h
      · simp (disch := omega) only [wY_begin_56, h4, forall_eq, true_and, and_true, true_implies, false_implies, not_true_eq_false, not_false_eq_true, implies_true]
        refine r3 _ (f3 _ ⟨1, ?_⟩)
        by_cases c : r < 0
        · simp (disch := omega) only [wY_begin_73, c, sg_a1, forall_eq, true_and, and_true, true_implies, false_implies, not_true_eq_false, not_false_eq_true, implies_true]
          exact q2 post h
        · simp (disch := omega) only [wY_begin_73, c, hF0, sg_a1, forall_eq, true_and, and_true, true_implies, false_implies, not_true_eq_false, not_false_eq_true, implies_true]
          exact q2 post h
    · obtain ⟨f, hf, rfl⟩ := nI_of hF
      obtain ⟨yuw, yea, xho, xwh, p1, p2, p3, p4⟩ := sg_inner (a := a) (xsc := xsc) (xec := xec) (xse := xse) (xki := xki) (xpp := xpp) (xqq := xqq) (xrr := xrr) (xst := xst) (xfs := xfs) (xin := xin) (xtb := xtb) (xaj := xaj) (xat := xat) (xsd := xsd) (xja := xja) (xev := xev) (xva := xva) (xha := xha) (xps := xps) (xpa := xpa) (xpi := xpi) (xct := xct) (xsn := xsn) (xsv := xsv) (xtk := xtk) (xji := xji) (xtj := xtj) (xte := xte) (yss := yss) (ypl := ypl) (ydn := ydn) (yas := yas) (ywt := ywt) (yun := yun) (yrs := yrs) (yva := yva) (yha := yha) (yso := yso) (by omega) hc hf f 0 (f + 1) xuw xea yho ywh r (by omega) (by omega) hjobs hl r1 r2
      obtain ⟨zuw, zea, zho, zwh, q1, q2, q3, q4⟩ := ih (a + 1) N yuw yea xho xwh (by omega) (by omega) p3 p4
      refine ⟨zuw, zea, zho, zwh, fun post h => ?_, fun post h => ?_, q3, q4⟩
      · simp (disch := omega) only [wX_beginReadyAttempts_2, h4, forall_eq, true_and, and_true, true_implies, false_implies, not_true_eq_false, not_false_eq_true, implies_true]
        exact f2 _ ⟨f + 1, p1 post _ (q1 post h)⟩
      · simp (disch := omega) only [wY_begin_56, h4, forall_eq, true_and, and_true, true_implies, false_implies, not_true_eq_false, not_false_eq_true, implies_true]
        exact r3 _ (f3 _ ⟨f + 1, p2 post _ (q2 post h)⟩)
/-- the reference looks who is ready -/
theorem sg_prom (hc : jc ≤ 90) : ∀ (k j N : Nat) (yho : Nat → Int32), j + k = jc → k < N → sg_jobs t jc xse xac xen xou xuw xra xea yho ywh → (∀ m, m < j → yho m = 0 → ¬ xra m ≤ nI t) →
    ∃ zho : Nat → Int32, (∀ post : SY → Prop, (∃ n, wY_begin_56 post xsc (nI t) (nI jc) xec n 0 xse yss xac xji xen zho ywh xtj xte xst ypl ydn yas ywt yun yrs yva yha xpa xpi xps yso xsv xct) → wY_begin_2 post xsc (nI t) (nI jc) xec N (nI j) xse yss xac xji xen yho ywh xtj xte xst ypl ydn yas ywt yun yrs yva yha xpa xpi xps yso xsv xct) ∧ sg_jobs t jc xse xac xen xou xuw xra xea zho ywh ∧ (∀ m, m < jc → zho m = 0 → ¬ xra m ≤ nI t) := by
  intro k
  induction k with
  | zero =>
    intro j N yho hk hN hjobs hl
    obtain ⟨N, rfl⟩ : ∃ m, N = m + 1 := ⟨N - 1, by omega⟩
    refine ⟨yho, fun post h => ?_, hjobs, fun m hm => hl m (by omega)⟩
    simp (disch := omega) only [wY_begin_2, sg_leT, forall_eq, true_and, and_true, true_implies, false_implies, not_true_eq_false, not_false_eq_true, implies_true]
    exact h
  | succ k ih =>
    intro j N yho hk hN hjobs hl
    obtain ⟨N, rfl⟩ : ∃ m, N = m + 1 := ⟨N - 1, by omega⟩
    obtain ⟨a', e, ha4, hac, he, hen, hlt, hhow⟩ := hjobs j (by omega)
    have same : upd yho j (yho j) = yho := sg_self yho j _ rfl
    by_cases c : yho j = 0
    · obtain ⟨k1, k2, k4⟩ : xou j = -1 ∧ xuw j = 0 ∧ ywh j = xra j := by
        rcases hhow with ⟨k1, k2, k3, k4⟩ | ⟨k1, k2, k3, k4, k5⟩ | ⟨k1, k2, k3, k4⟩ | ⟨k1, k2, k3⟩ | ⟨k1, k2, k3⟩
        · exact ⟨k1, k2, k4⟩
        · exact absurd (k3.symm.trans c) (by decide)
        · exact absurd (k3.symm.trans c) (by decide)
        · exact absurd (k3.symm.trans c) (by decide)
        · exact absurd (k3.symm.trans c) (by decide)
      by_cases c2 : nI t < xra j
      · obtain ⟨zho, q1, q2, q3⟩ := ih (j + 1) N yho (by omega) (by omega) hjobs (fun m hm z => by
          by_cases e : m = j
          · subst e; exact Int32.not_le.mpr c2
          · exact hl m (by omega) z)
        refine ⟨zho, fun post h => ?_, q2, q3⟩
        have s0 : upd yho j 0 = yho := sg_self yho j 0 c
        simp (disch := omega) only [wY_begin_2, sg_leF, c, k4, c2, s0, sg_m3, sg_m3', sg_m4, sg_m4', sg_m6, sg_m6', sg_m7, sg_m7', sg_m200, sg_m200', nI_add, sg_a1, sg_a2, sg_a3, sg_a4, sg_a5, sg_a6, Int32.add_zero, sg_inT, nI_clamp, forall_eq, true_and, and_true, true_implies, false_implies, not_true_eq_false, not_false_eq_true, implies_true]
        exact q1 post h
      · obtain ⟨zho, q1, q2, q3⟩ := ih (j + 1) N (upd yho j 1) (by omega) (by omega) (sg_jobs_upd (j := j) hjobs (fun m hm => ⟨rfl, rfl, rfl, rfl, rfl, pk_un hm, rfl⟩) (fun a e q1 q2 q3 q4 q5 => ⟨e, q3, q4, q5, Or.inr (Or.inl ⟨k1, k2, pk_us, k4, Int32.not_lt.mp c2⟩)⟩)) (fun m hm z => by
          by_cases e : m = j
          · subst e; rw [pk_us] at z; exact absurd z (by decide)
          · rw [pk_un e] at z; exact hl m (by omega) z)
        refine ⟨zho, fun post h => ?_, q2, q3⟩
        simp (disch := omega) only [wY_begin_2, sg_leF, c, k4, c2, sg_m3, sg_m3', sg_m4, sg_m4', sg_m6, sg_m6', sg_m7, sg_m7', sg_m200, sg_m200', nI_add, sg_a1, sg_a2, sg_a3, sg_a4, sg_a5, sg_a6, Int32.add_zero, sg_inT, nI_clamp, forall_eq, true_and, and_true, true_implies, false_implies, not_true_eq_false, not_false_eq_true, implies_true]
        exact q1 post h
    · obtain ⟨zho, q1, q2, q3⟩ := ih (j + 1) N yho (by omega) (by omega) hjobs (fun m hm z => by
        by_cases e : m = j
        · subst e; exact absurd z c
        · exact hl m (by omega) z)
      refine ⟨zho, fun post h => ?_, q2, q3⟩
      simp (disch := omega) only [wY_begin_2, sg_leF, c, same, sg_m3, sg_m3', sg_m4, sg_m4', sg_m6, sg_m6', sg_m7, sg_m7', sg_m200, sg_m200', nI_add, sg_a1, sg_a2, sg_a3, sg_a4, sg_a5, sg_a6, Int32.add_zero, sg_inT, nI_clamp, forall_eq, true_and, and_true, true_implies, false_implies, not_true_eq_false, not_false_eq_true, implies_true]
      exact q1 post h
end
def sg_late (u : SX) (v : SY) : Prop := match u with
  | (xsc, xnow, xjc, xec, xse, xki, xpp, xqq, xrr, xst, xfs, xin, xtb, xaj, xat, xsd, xja, xev, xva, xha, xps, xpa, xpi, xct, xsn, xsv, xtk, xac, xji, xou, xen, xuw, xra, xea, xtj, xte) => match v with
    | (ysc, ynow, yjc, yec, yse, yss, yac, yji, yen, yho, ywh, ytj, yte, yst, ypl, ydn, yas, ywt, yun, yrs, yva, yha, ypa, ypi, yps, yso, ysv, yct) => ∀ m, m < xjc.toNatClampNeg → yho m = 0 → ¬ xra m ≤ xnow
theorem sg_begin {t : Nat} {u : SX} {v : SY} (H : sg_R t u v) : ∃ u1 v1, (∀ P : SX → Prop, P u1 → wpX_beginReadyAttempts P u) ∧ (∀ P : SY → Prop, P v1 → wpY_begin P v) ∧ sg_R t u1 v1 ∧ sg_late u1 v1 := by
  obtain ⟨xsc, xnow, xjc, xec, xse, xki, xpp, xqq, xrr, xst, xfs, xin, xtb, xaj, xat, xsd, xja, xev, xva, xha, xps, xpa, xpi, xct, xsn, xsv, xtk, xac, xji, xou, xen, xuw, xra, xea, xtj, xte⟩ := u
  obtain ⟨ysc, ynow, yjc, yec, yse, yss, yac, yji, yen, yho, ywh, ytj, yte, yst, ypl, ydn, yas, ywt, yun, yrs, yva, yha, ypa, ypi, yps, yso, ysv, yct⟩ := v
  obtain ⟨sc, jc, ⟨⟨⟨e1, e2, e3, e4⟩, e5, e6, e7, e8, e9, e10, e11, e12, e13, e14, e15, e16⟩, ⟨g1, g2, g3, g4⟩, hset, hprog, hjobs, hjas⟩, hf⟩ := H
  subst e1 e2 e3 e4 e5 e6 e7 e8 e9 e10 e11 e12 e13 e14 e15 e16 g1 g2 g3 g4
  have hc := sg_jas_le hjas
  obtain ⟨xho, p1, p2, p3⟩ := sg_prom (xsc := nI sc) (xec := nI (sg_cnt xen jc)) (xst := xst) (xps := xps) (xpa := xpa) (xpi := xpi) (xct := xct) (xsv := xsv) (xji := xji) (xtj := xtj) (xte := xte) (yss := yss) (ypl := ypl) (ydn := ydn) (yas := yas) (ywt := ywt) (yun := yun) (yrs := yrs) (yva := yva) (yha := yha) (yso := yso) hc jc 0 (jc + 1) yho (by omega) (by omega) hjobs (fun m hm => absurd hm (by omega))
  obtain ⟨zuw, zea, zho, zwh, q1, q2, q3, q4⟩ := sg_outer (xsc := nI sc) (xec := nI (sg_cnt xen jc)) (xki := xki) (xpp := xpp) (xqq := xqq) (xrr := xrr) (xst := xst) (xfs := xfs) (xin := xin) (xtb := xtb) (xaj := xaj) (xat := xat) (xsd := xsd) (xja := xja) (xev := xev) (xva := xva) (xha := xha) (xps := xps) (xpa := xpa) (xpi := xpi) (xct := xct) (xsn := xsn) (xsv := xsv) (xtk := xtk) (xji := xji) (xtj := xtj) (xte := xte) (yss := yss) (ypl := ypl) (ydn := ydn) (yas := yas) (ywt := ywt) (yun := yun) (yrs := yrs) (yva := yva) (yha := yha) (yso := yso) hc 4 0 5 xuw xea xho ywh (by omega) (by omega) p2 p3
  refine ⟨(nI sc, nI t, nI jc, nI (sg_cnt xen jc), xse, xki, xpp, xqq, xrr, xst, xfs, xin, xtb, xaj, xat, xsd, xja, xev, xva, xha, xps, xpa, xpi, xct, xsn, xsv, xtk, xac, xji, xou, xen, zuw, xra, zea, xtj, xte), (nI sc, nI t, nI jc, nI (sg_cnt xen jc), xse, yss, xac, xji, xen, zho, zwh, xtj, xte, xst, ypl, ydn, yas, ywt, yun, yrs, yva, yha, xpa, xpi, xps, yso, xsv, xct), fun P h => ⟨5, q1 P h⟩, fun P h => ⟨jc + 1, p1 P ⟨5, q2 P h⟩⟩, ⟨sc, jc, ⟨⟨⟨rfl, rfl, rfl, rfl⟩, rfl, rfl, rfl, rfl, rfl, rfl, rfl, rfl, rfl, rfl, rfl, rfl⟩, ⟨rfl, rfl, rfl, rfl⟩, hset, hprog, q3, hjas⟩, hf⟩, fun m hm => q4 m ?_⟩
  have e : (nI jc).toNatClampNeg = jc := nI_clamp (by omega)
  exact Nat.lt_of_lt_of_eq hm e
