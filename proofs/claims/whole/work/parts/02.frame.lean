/-! what does not touch the region of another workflow keeps its relation -/
theorem sg_hd_mono {jc jc' : Nat} {x : Int32} (h : jc ≤ jc') (H : sg_hd jc x) : sg_hd jc' x := by
  rcases H with H | ⟨j, hj, e⟩
  · exact Or.inl H
  · exact Or.inr ⟨j, by omega, e⟩
theorem sg_aw_mono {jc jc' : Nat} {x y : Int32} (h : jc ≤ jc') (H : sg_aw jc x y) : sg_aw jc' x y := by
  obtain ⟨j, hj, e⟩ := H
  exact ⟨j, by omega, e⟩
theorem sg_hs_fr {jc jc' i : Nat} {xha yha xha' yha' : Nat → Int32} (h : jc ≤ jc') (hx : ∀ h, h < 3 → xha' (3 * i + h) = xha (3 * i + h)) (hy : ∀ h, h < 3 → yha' (3 * i + h) = yha (3 * i + h)) (H : sg_hs jc i xha yha) : sg_hs jc' i xha' yha' := by
  intro k hk
  rw [hx k hk, hy k hk]
  exact ⟨(H k hk).1, sg_hd_mono h (H k hk).2⟩
theorem sg_h5_fr {jc jc' i a : Nat} {xha yha xha' yha' : Nat → Int32} (h : jc ≤ jc') (hx : ∀ h, h < 3 → xha' (3 * i + h) = xha (3 * i + h)) (hy : ∀ h, h < 3 → yha' (3 * i + h) = yha (3 * i + h)) (H : sg_h5 jc i a xha yha) : sg_h5 jc' i a xha' yha' := by
  intro k hk
  rw [hx k hk, hy k hk]
  exact ⟨fun z => ⟨((H k hk).1 z).1, sg_hd_mono h ((H k hk).1 z).2⟩, (H k hk).2⟩
theorem sg_ctl_fr {md sc jc jc' i f : Nat} {ki pp : Nat → Int32} {vin vtb vaj vat vwt vun : Int32} {xha yha xha' yha' : Nat → Int32} (h : jc ≤ jc') (hx : ∀ h, h < 3 → xha' (3 * i + h) = xha (3 * i + h)) (hy : ∀ h, h < 3 → yha' (3 * i + h) = yha (3 * i + h)) (H : sg_ctl md sc jc i f ki pp vin vtb vaj vat vwt vun xha yha) : sg_ctl md sc jc' i f ki pp vin vtb vaj vat vwt vun xha' yha' := by
  rcases H with ⟨h1, h2, h3, h4, h5⟩ | ⟨h1, h2, h3, h4, H⟩ | ⟨h1, h2, h3, h4, h5⟩ | H
  · exact Or.inl ⟨h1, h2, h3, h4, sg_hs_fr h hx hy h5⟩
  · refine Or.inr (Or.inl ⟨h1, h2, h3, h4, ?_⟩)
    rcases H with ⟨g1, g2, g3⟩ | ⟨g1, g2, g3, g4⟩ | ⟨g1, g2, g3, g4⟩
    · refine Or.inl ⟨g1, sg_aw_mono h g2, ?_⟩
      rcases g3 with ⟨k1, k2⟩ | ⟨k1, a, k2, k3, k4⟩
      · exact Or.inl ⟨k1, sg_hs_fr h hx hy k2⟩
      · exact Or.inr ⟨k1, a, k2, k3, sg_h5_fr h hx hy k4⟩
    · exact Or.inr (Or.inl ⟨g1, g2, g3, sg_hs_fr h hx hy g4⟩)
    · exact Or.inr (Or.inr ⟨g1, g2, g3, sg_hs_fr h hx hy g4⟩)
  · exact Or.inr (Or.inr (Or.inl ⟨h1, h2, h3, h4, sg_aw_mono h h5⟩))
  · exact Or.inr (Or.inr (Or.inr H))
theorem sg_base_fr {i d : Nat} {xsd xva xps xpa xct xsn xtk yva yso xsd' xva' xps' xpa' xct' xsn' xtk' yva' yso' : Nat → Int32} (esd : xsd' i = xsd i) (eps : xps' i = xps i) (ect : xct' i = xct i) (hx : ∀ v, v < 4 → xva' (4 * i + v) = xva (4 * i + v)) (hy : ∀ v, v < 4 → yva' (4 * i + v) = yva (4 * i + v)) (hp : ∀ v, v < 200 → xpa' (200 * i + v) = xpa (200 * i + v)) (hn : ∀ v, v < 6 → xsn' (6 * i + v) = xsn (6 * i + v)) (hk : ∀ v, v < 6 → xtk' (6 * i + v) = xtk (6 * i + v)) (ho : ∀ v, v < 6 → yso' (6 * i + v) = yso (6 * i + v)) (H : sg_base i d xsd xva xps xpa xct xsn xtk yva yso) : sg_base i d xsd' xva' xps' xpa' xct' xsn' xtk' yva' yso' := by
  obtain ⟨h1, h2, h3, ⟨p, p1, p2, p3⟩, ⟨n, n1, n2, n3⟩⟩ := H
  refine ⟨h1, esd.trans h2, ?_, ⟨p, p1, eps.trans p2, ?_⟩, ⟨n, n1, ect.trans n2, ?_⟩⟩
  · intro v hv
    rw [hx v hv, hy v hv]
    exact h3 v hv
  · intro m hm
    rw [hp m (by omega)]
    exact p3 m hm
  · intro m hm
    rw [hn m (by omega), hk m (by omega), ho m (by omega)]
    exact n3 m hm
theorem sg_flow_fr {i m sc jc jc' : Nat} {xki xpp xst xfs xin xtb xaj xat xsd xja xev xva xha xps xpa xct xsn xtk ypl ydn yas ywt yun yrs yva yha yso xst' xfs' xin' xtb' xaj' xat' xsd' xja' xev' xva' xha' xps' xpa' xct' xsn' xtk' ypl' ydn' yas' ywt' yun' yrs' yva' yha' yso' : Nat → Int32} (hm : m ≠ i) (H : sg_flow m sc jc xki xpp xst xfs xin xtb xaj xat xsd xja xev xva xha xps xpa xct xsn xtk ypl ydn yas ywt yun yrs yva yha yso) (hj : jc ≤ jc' := by omega) (o_xst : sg_out i 1 xst xst' := by first | exact sg_o_r | exact sg_o_1 | exact sg_o_u (by omega) | exact sg_o_t sg_o_1 sg_o_1 | exact sg_o_t (sg_o_u (by omega)) (sg_o_u (by omega))) (o_xfs : sg_out i 1 xfs xfs' := by first | exact sg_o_r | exact sg_o_1 | exact sg_o_u (by omega) | exact sg_o_t sg_o_1 sg_o_1 | exact sg_o_t (sg_o_u (by omega)) (sg_o_u (by omega))) (o_xin : sg_out i 1 xin xin' := by first | exact sg_o_r | exact sg_o_1 | exact sg_o_u (by omega) | exact sg_o_t sg_o_1 sg_o_1 | exact sg_o_t (sg_o_u (by omega)) (sg_o_u (by omega))) (o_xtb : sg_out i 1 xtb xtb' := by first | exact sg_o_r | exact sg_o_1 | exact sg_o_u (by omega) | exact sg_o_t sg_o_1 sg_o_1 | exact sg_o_t (sg_o_u (by omega)) (sg_o_u (by omega))) (o_xaj : sg_out i 1 xaj xaj' := by first | exact sg_o_r | exact sg_o_1 | exact sg_o_u (by omega) | exact sg_o_t sg_o_1 sg_o_1 | exact sg_o_t (sg_o_u (by omega)) (sg_o_u (by omega))) (o_xat : sg_out i 1 xat xat' := by first | exact sg_o_r | exact sg_o_1 | exact sg_o_u (by omega) | exact sg_o_t sg_o_1 sg_o_1 | exact sg_o_t (sg_o_u (by omega)) (sg_o_u (by omega))) (o_xsd : sg_out i 1 xsd xsd' := by first | exact sg_o_r | exact sg_o_1 | exact sg_o_u (by omega) | exact sg_o_t sg_o_1 sg_o_1 | exact sg_o_t (sg_o_u (by omega)) (sg_o_u (by omega))) (o_xja : sg_out i 1 xja xja' := by first | exact sg_o_r | exact sg_o_1 | exact sg_o_u (by omega) | exact sg_o_t sg_o_1 sg_o_1 | exact sg_o_t (sg_o_u (by omega)) (sg_o_u (by omega))) (o_xev : sg_out i 1 xev xev' := by first | exact sg_o_r | exact sg_o_1 | exact sg_o_u (by omega) | exact sg_o_t sg_o_1 sg_o_1 | exact sg_o_t (sg_o_u (by omega)) (sg_o_u (by omega))) (o_xva : sg_out i 4 xva xva' := by first | exact sg_o_r | exact sg_o_1 | exact sg_o_u (by omega) | exact sg_o_t sg_o_1 sg_o_1 | exact sg_o_t (sg_o_u (by omega)) (sg_o_u (by omega))) (o_xha : sg_out i 3 xha xha' := by first | exact sg_o_r | exact sg_o_1 | exact sg_o_u (by omega) | exact sg_o_t sg_o_1 sg_o_1 | exact sg_o_t (sg_o_u (by omega)) (sg_o_u (by omega))) (o_xps : sg_out i 1 xps xps' := by first | exact sg_o_r | exact sg_o_1 | exact sg_o_u (by omega) | exact sg_o_t sg_o_1 sg_o_1 | exact sg_o_t (sg_o_u (by omega)) (sg_o_u (by omega))) (o_xpa : sg_out i 200 xpa xpa' := by first | exact sg_o_r | exact sg_o_1 | exact sg_o_u (by omega) | exact sg_o_t sg_o_1 sg_o_1 | exact sg_o_t (sg_o_u (by omega)) (sg_o_u (by omega))) (o_xct : sg_out i 1 xct xct' := by first | exact sg_o_r | exact sg_o_1 | exact sg_o_u (by omega) | exact sg_o_t sg_o_1 sg_o_1 | exact sg_o_t (sg_o_u (by omega)) (sg_o_u (by omega))) (o_xsn : sg_out i 6 xsn xsn' := by first | exact sg_o_r | exact sg_o_1 | exact sg_o_u (by omega) | exact sg_o_t sg_o_1 sg_o_1 | exact sg_o_t (sg_o_u (by omega)) (sg_o_u (by omega))) (o_xtk : sg_out i 6 xtk xtk' := by first | exact sg_o_r | exact sg_o_1 | exact sg_o_u (by omega) | exact sg_o_t sg_o_1 sg_o_1 | exact sg_o_t (sg_o_u (by omega)) (sg_o_u (by omega))) (o_ypl : sg_out i 1 ypl ypl' := by first | exact sg_o_r | exact sg_o_1 | exact sg_o_u (by omega) | exact sg_o_t sg_o_1 sg_o_1 | exact sg_o_t (sg_o_u (by omega)) (sg_o_u (by omega))) (o_ydn : sg_out i 1 ydn ydn' := by first | exact sg_o_r | exact sg_o_1 | exact sg_o_u (by omega) | exact sg_o_t sg_o_1 sg_o_1 | exact sg_o_t (sg_o_u (by omega)) (sg_o_u (by omega))) (o_yas : sg_out i 1 yas yas' := by first | exact sg_o_r | exact sg_o_1 | exact sg_o_u (by omega) | exact sg_o_t sg_o_1 sg_o_1 | exact sg_o_t (sg_o_u (by omega)) (sg_o_u (by omega))) (o_ywt : sg_out i 1 ywt ywt' := by first | exact sg_o_r | exact sg_o_1 | exact sg_o_u (by omega) | exact sg_o_t sg_o_1 sg_o_1 | exact sg_o_t (sg_o_u (by omega)) (sg_o_u (by omega))) (o_yun : sg_out i 1 yun yun' := by first | exact sg_o_r | exact sg_o_1 | exact sg_o_u (by omega) | exact sg_o_t sg_o_1 sg_o_1 | exact sg_o_t (sg_o_u (by omega)) (sg_o_u (by omega))) (o_yrs : sg_out i 1 yrs yrs' := by first | exact sg_o_r | exact sg_o_1 | exact sg_o_u (by omega) | exact sg_o_t sg_o_1 sg_o_1 | exact sg_o_t (sg_o_u (by omega)) (sg_o_u (by omega))) (o_yva : sg_out i 4 yva yva' := by first | exact sg_o_r | exact sg_o_1 | exact sg_o_u (by omega) | exact sg_o_t sg_o_1 sg_o_1 | exact sg_o_t (sg_o_u (by omega)) (sg_o_u (by omega))) (o_yha : sg_out i 3 yha yha' := by first | exact sg_o_r | exact sg_o_1 | exact sg_o_u (by omega) | exact sg_o_t sg_o_1 sg_o_1 | exact sg_o_t (sg_o_u (by omega)) (sg_o_u (by omega))) (o_yso : sg_out i 6 yso yso' := by first | exact sg_o_r | exact sg_o_1 | exact sg_o_u (by omega) | exact sg_o_t sg_o_1 sg_o_1 | exact sg_o_t (sg_o_u (by omega)) (sg_o_u (by omega))) : sg_flow m sc jc' xki xpp xst' xfs' xin' xtb' xaj' xat' xsd' xja' xev' xva' xha' xps' xpa' xct' xsn' xtk' ypl' ydn' yas' ywt' yun' yrs' yva' yha' yso' := by
  have e_xst := sg_o_at1 o_xst hm
  have e_xfs := sg_o_at1 o_xfs hm
  have e_xin := sg_o_at1 o_xin hm
  have e_xtb := sg_o_at1 o_xtb hm
  have e_xaj := sg_o_at1 o_xaj hm
  have e_xat := sg_o_at1 o_xat hm
  have e_xsd := sg_o_at1 o_xsd hm
  have e_xja := sg_o_at1 o_xja hm
  have e_xev := sg_o_at1 o_xev hm
  have e_xva : ∀ v, v < 4 → xva' (4 * m + v) = xva (4 * m + v) := fun v hv => sg_o_at o_xva hm hv
  have e_xha : ∀ v, v < 3 → xha' (3 * m + v) = xha (3 * m + v) := fun v hv => sg_o_at o_xha hm hv
  have e_xps := sg_o_at1 o_xps hm
  have e_xpa : ∀ v, v < 200 → xpa' (200 * m + v) = xpa (200 * m + v) := fun v hv => sg_o_at o_xpa hm hv
  have e_xct := sg_o_at1 o_xct hm
  have e_xsn : ∀ v, v < 6 → xsn' (6 * m + v) = xsn (6 * m + v) := fun v hv => sg_o_at o_xsn hm hv
  have e_xtk : ∀ v, v < 6 → xtk' (6 * m + v) = xtk (6 * m + v) := fun v hv => sg_o_at o_xtk hm hv
  have e_ypl := sg_o_at1 o_ypl hm
  have e_ydn := sg_o_at1 o_ydn hm
  have e_yas := sg_o_at1 o_yas hm
  have e_ywt := sg_o_at1 o_ywt hm
  have e_yun := sg_o_at1 o_yun hm
  have e_yrs := sg_o_at1 o_yrs hm
  have e_yva : ∀ v, v < 4 → yva' (4 * m + v) = yva (4 * m + v) := fun v hv => sg_o_at o_yva hm hv
  have e_yha : ∀ v, v < 3 → yha' (3 * m + v) = yha (3 * m + v) := fun v hv => sg_o_at o_yha hm hv
  have e_yso : ∀ v, v < 6 → yso' (6 * m + v) = yso (6 * m + v) := fun v hv => sg_o_at o_yso hm hv
  rcases H with ⟨h1, h2, h3, h4, h5, h6, h7, h8, h9, hv, hh⟩ | ⟨d, hb, H⟩
  · exact Or.inl ⟨e_xst.trans h1, e_xfs.trans h2, e_xin.trans h3, e_xtb.trans h4, e_xsd.trans h5, e_xja.trans h6, e_xev.trans h7, e_xps.trans h8, e_xct.trans h9, fun v z => (e_xva v z).trans (hv v z), fun h z => (e_xha h z).trans (hh h z)⟩
  · refine Or.inr ⟨d, sg_base_fr e_xsd e_xps e_xct e_xva e_yva e_xpa e_xsn e_xtk e_yso hb, ?_⟩
    rcases H with ⟨s, s1, s2, s3, s4⟩ | ⟨md, f, hmd, h1, h2, h3, h4, h5, h6, h7, h8⟩
    · exact Or.inl ⟨s, s1, s2, e_xst.trans s3, by rw [e_xev, e_yrs]; exact s4⟩
    · refine Or.inr ⟨md, f, hmd, e_xst.trans h1, e_xev.trans h2, h3, e_xfs.trans h4, e_ypl.trans h5, by rw [e_ydn, e_xsd]; exact h6, by rw [e_yas, e_xja]; exact h7, ?_⟩
      rw [e_xin, e_xtb, e_xaj, e_xat, e_ywt, e_yun]
      exact sg_ctl_fr hj e_xha e_yha h8
/-! the jobs -/
theorem sg_jas_le {jc : Nat} {ja : Nat → Int32} (h : sg_jas jc ja) : jc ≤ 90 := by
  obtain ⟨h1, h2⟩ := h
  obtain ⟨a, a1, a2⟩ := h1 0 (by omega)
  obtain ⟨b, b1, b2⟩ := h1 1 (by omega)
  obtain ⟨c, c1, c2⟩ := h1 2 (by omega)
  rw [a2, b2, c2, nI_clamp (by omega), nI_clamp (by omega), nI_clamp (by omega)] at h2
  omega
theorem sg_jas_inc {jc i q : Nat} {ja : Nat → Int32} (h : sg_jas jc ja) (hi : i < 3) (hq : q < 30) (e : ja i = nI q) : jc < 90 ∧ sg_jas (jc + 1) (upd ja i (nI (q + 1))) := by
  have key : sg_jas (jc + 1) (upd ja i (nI (q + 1))) := by
    obtain ⟨h1, h2⟩ := h
    refine ⟨fun m hm => ?_, ?_⟩
    · by_cases c : m = i
      · subst c; exact ⟨q + 1, by omega, pk_us⟩
      · rw [pk_un c]; exact h1 m hm
    · obtain rfl | rfl | rfl : i = 0 ∨ i = 1 ∨ i = 2 := by omega
      · rw [pk_us, pk_un (by omega), pk_un (by omega), nI_clamp (by omega), h2, e, nI_clamp (by omega)]; omega
      · rw [pk_us, pk_un (by omega), pk_un (by omega), nI_clamp (by omega), h2, e, nI_clamp (by omega)]; omega
      · rw [pk_us, pk_un (by omega), pk_un (by omega), nI_clamp (by omega), h2, e, nI_clamp (by omega)]; omega
  have := sg_jas_le key
  exact ⟨by omega, key⟩
theorem sg_jobs_ask {t jc a : Nat} {se ac en ou uw ra ea ho wh : Nat → Int32} (hs : sg_set se) (h : sg_jobs t jc se ac en ou uw ra ea ho wh) (ha : a < 4) : sg_jobs t (jc + 1) se (upd ac jc (nI a)) (upd en jc 0) (upd ou jc (-1)) (upd uw jc 0) (upd ra jc (nI t)) ea (upd ho jc 1) (upd wh jc (nI t)) := by
  intro j hj
  by_cases c : j = jc
  · subst c
    simp only [pk_us]
    obtain ⟨w, y, d, f, _, ⟨y1, y2, y3⟩, _⟩ := hs a ha
    refine ⟨a, 0, ha, rfl, by omega, rfl, fun _ => ?_, Or.inr (Or.inl ⟨rfl, rfl, rfl, rfl, Int32.le_refl _⟩)⟩
    rw [y3]
    exact nI_lt (by omega) (by omega)
  · simp only [pk_un c]
    exact h j (by omega)
theorem sg_jobs_en {t jc : Nat} {se ac en ou uw ra ea ho wh : Nat → Int32} (h : sg_jobs t jc se ac en ou uw ra ea ho wh) : ∀ j, j < jc → ∃ e, e ≤ 4 ∧ en j = nI e := by
  intro j hj
  obtain ⟨a, e, _, _, h4, h5, _⟩ := h j hj
  exact ⟨e, h4, h5⟩
/-! from a mode to the relation -/
theorem sg_W_R {md i d t : Nat} {u : SX} {v : SY} (hi : i < 3) (hmd : md = 1 ∨ md = 2 ∨ md = 3) (H : sg_W md i d t u v) : sg_R t u v := by
  obtain ⟨xsc, xnow, xjc, xec, xse, xki, xpp, xqq, xrr, xst, xfs, xin, xtb, xaj, xat, xsd, xja, xev, xva, xha, xps, xpa, xpi, xct, xsn, xsv, xtk, xac, xji, xou, xen, xuw, xra, xea, xtj, xte⟩ := u
  obtain ⟨ysc, ynow, yjc, yec, yse, yss, yac, yji, yen, yho, ywh, ytj, yte, yst, ypl, ydn, yas, ywt, yun, yrs, yva, yha, ypa, ypi, yps, yso, ysv, yct⟩ := v
  obtain ⟨sc, jc, hg, hf, hb, f, ha⟩ := H
  refine ⟨sc, jc, hg, fun m hm => ?_⟩
  by_cases c : m = i
  · subst c
    exact Or.inr ⟨d, hb, Or.inr ⟨md, f, hmd, ha⟩⟩
  · exact hf m hm c
