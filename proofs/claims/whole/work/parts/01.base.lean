/-! numbers, stores (rows pk_ from kit/rows) -/
theorem pk_us {f : Nat → Int32} {k : Nat} {x : Int32} : upd f k x k = x := if_pos rfl
theorem pk_un {f : Nat → Int32} {k j : Nat} {x : Int32} (h : j ≠ k) : upd f k x j = f j := if_neg h
theorem pk_sub {a b : Nat} (h : b ≤ a) : nI a - nI b = nI (a - b) := by
  obtain ⟨c, rfl⟩ : ∃ c, a = c + b := ⟨a - b, by omega⟩
  rw [← nI_add, Int32.add_sub_cancel, Nat.add_sub_cancel]
theorem pk_m1 (n : Nat) : nI (n + 1) + (-1) = nI n := by
  rw [← nI_1, Int32.add_assoc, show (1 : Int32) + (-1) = 0 from rfl, Int32.add_zero]
theorem pk_mul (a b : Nat) : nI a * nI b = nI (a * b) := (Int32.ofNat_mul a b).symm
theorem pk_ix (x : Int32) {n : Nat} (hn : n < 2 ^ 31) : x < 0 ∨ nI n ≤ x ∨ ∃ j : Nat, j < n ∧ x = nI j := by
  by_cases h : x < 0
  · exact Or.inl h
  · obtain ⟨j, hj, rfl⟩ := nI_of h
    by_cases h2 : j < n
    · exact Or.inr (Or.inr ⟨j, h2, rfl⟩)
    · exact Or.inr (Or.inl (nI_le (by omega) hj))
theorem pk_le {x y : Int32} {A B : Prop} (a b : Nat) (f : a ≤ b → A) (g : b < a → B) (hx : x = nI a := by rfl) (hy : y = nI b := by rfl) (ha : a < 2 ^ 31 := by omega) (hb : b < 2 ^ 31 := by omega) : (x ≤ y → A) ∧ (¬ x ≤ y → B) := by
  subst hx hy
  rw [nI_leI ha hb]
  exact ⟨f, fun z => g (by omega)⟩
theorem pk_lt {x y : Int32} {A B : Prop} (a b : Nat) (f : a < b → A) (g : b ≤ a → B) (hx : x = nI a := by rfl) (hy : y = nI b := by rfl) (ha : a < 2 ^ 31 := by omega) (hb : b < 2 ^ 31 := by omega) : (x < y → A) ∧ (¬ x < y → B) := by
  subst hx hy
  rw [nI_ltI ha hb]
  exact ⟨f, fun z => g (by omega)⟩
theorem pk_eq {x y : Int32} {A B : Prop} (a b : Nat) (f : a = b → A) (g : a ≠ b → B) (hx : x = nI a := by rfl) (hy : y = nI b := by rfl) (ha : a < 2 ^ 31 := by omega) (hb : b < 2 ^ 31 := by omega) : (x = y → A) ∧ (¬ x = y → B) := by
  subst hx hy
  rw [nI_eq ha hb]
  exact ⟨f, g⟩
theorem pk_in {x : Int32} (n N : Nat) (h : n < N) (hx : x = nI n := by rfl) (hN : N < 2 ^ 31 := by omega) : vp_in x N := by
  subst hx
  exact vp_in_nI h hN
theorem pk_cl {x : Int32} (n : Nat) (hx : x = nI n := by rfl) (h : n < 2 ^ 31 := by omega) : x.toNatClampNeg = n := by
  subst hx
  exact nI_clamp h
/-! my own -/
theorem sg_self (f : Nat → Int32) (k : Nat) (x : Int32) (h : f k = x) : upd f k x = f := by
  funext j
  by_cases e : j = k
  · subst e; rw [pk_us, h]
  · rw [pk_un e]
theorem sg_ne1 {a : Nat} (h : a < 2 ^ 31) : ¬ nI a = -1 := by
  intro e
  have h2 := nI_pos (n := a) h
  rw [e] at h2
  exact h2 (by decide)
theorem sg_b0 : vp_nar .boolean 0 = 0 := by decide
theorem sg_b1 : vp_nar .boolean 1 = 1 := by decide
theorem sg_n0 : narrow .boolean (.int 0) = .int 0 := by decide
theorem sg_n1 : narrow .boolean (.int 1) = .int 1 := by decide
/-! how many attempts have ended -/
def sg_cnt (f : Nat → Int32) : Nat → Nat
  | 0 => 0
  | n + 1 => sg_cnt f n + (f n).toNatClampNeg
theorem sg_cnt_ext {f g : Nat → Int32} : ∀ (n : Nat), (∀ j, j < n → f j = g j) → sg_cnt f n = sg_cnt g n := by
  intro n
  induction n with
  | zero => intro _; rfl
  | succ n ih =>
    intro h
    show sg_cnt f n + _ = sg_cnt g n + _
    rw [ih (fun j hj => h j (by omega)), h n (by omega)]
theorem sg_cnt_ask (f : Nat → Int32) (n : Nat) : sg_cnt (upd f n 0) (n + 1) = sg_cnt f n := by
  show sg_cnt (upd f n 0) n + (upd f n 0 n).toNatClampNeg = _
  rw [pk_us, sg_cnt_ext (g := f) n (fun j hj => pk_un (by omega))]
  rfl
theorem sg_cnt_inc (f : Nat → Int32) (j e : Nat) (he : f j = nI e) (h4 : e < 4) : ∀ n, j < n → sg_cnt (upd f j (nI (e + 1))) n = sg_cnt f n + 1 := by
  intro n
  induction n with
  | zero => intro h; omega
  | succ n ih =>
    intro h
    show sg_cnt (upd f j (nI (e + 1))) n + (upd f j (nI (e + 1)) n).toNatClampNeg = sg_cnt f n + (f n).toNatClampNeg + 1
    by_cases c : j = n
    · subst c
      rw [pk_us, sg_cnt_ext (g := f) j (fun m hm => pk_un (by omega)), he, nI_clamp (by omega), nI_clamp (by omega)]
      omega
    · rw [pk_un (fun z => c z.symm), ih (by omega)]
      omega
theorem sg_cnt_le (f : Nat → Int32) : ∀ n, (∀ j, j < n → ∃ e, e ≤ 4 ∧ f j = nI e) → sg_cnt f n ≤ 4 * n := by
  intro n
  induction n with
  | zero => intro _; exact Nat.le_refl 0
  | succ n ih =>
    intro h
    show sg_cnt f n + _ ≤ _
    obtain ⟨e, he, hf⟩ := h n (by omega)
    have h1 := ih (fun j hj => h j (by omega))
    rw [hf, nI_clamp (by omega)]
    omega
theorem sg_cnt_lt (f : Nat → Int32) (n j e : Nat) (hj : j < n) (he : f j = nI e) (h4 : e < 4) (h : ∀ j, j < n → ∃ e, e ≤ 4 ∧ f j = nI e) : sg_cnt f n < 4 * n := by
  have h1 := sg_cnt_inc f j e he h4 n hj
  have h2 := sg_cnt_le (upd f j (nI (e + 1))) n (fun m hm => by
    by_cases c : m = j
    · subst c; exact ⟨e + 1, by omega, pk_us⟩
    · rw [pk_un c]; exact h m hm)
  omega
/-! arrays that agree outside the region of workflow i -/
def sg_out (i w : Nat) (a a' : Nat → Int32) : Prop := ∀ n, (n < w * i ∨ w * i + w ≤ n) → a' n = a n
theorem sg_o_r {i w : Nat} {a : Nat → Int32} : sg_out i w a a := fun _ _ => rfl
theorem sg_o_1 {i : Nat} {a : Nat → Int32} {x : Int32} : sg_out i 1 a (upd a i x) := fun n h => pk_un (by omega)
theorem sg_o_u {i w p : Nat} {a : Nat → Int32} {x : Int32} (hp : p < w) : sg_out i w a (upd a (w * i + p) x) := fun n h => pk_un (by omega)
theorem sg_o_t {i w : Nat} {a b c : Nat → Int32} (h : sg_out i w a b) (h2 : sg_out i w b c) : sg_out i w a c := fun n hn => (h2 n hn).trans (h n hn)
theorem sg_o_at {i m w v : Nat} {a a' : Nat → Int32} (h : sg_out i w a a') (hm : m ≠ i) (hv : v < w) : a' (w * m + v) = a (w * m + v) := by
  refine h _ ?_
  by_cases c : m < i
  · left
    have h1 : w * m + w ≤ w * i := by rw [← Nat.mul_succ]; exact Nat.mul_le_mul_left w c
    omega
  · right
    have h1 : w * i + w ≤ w * m := by rw [← Nat.mul_succ]; exact Nat.mul_le_mul_left w (by omega)
    omega
theorem sg_o_at1 {i m : Nat} {a a' : Nat → Int32} (h : sg_out i 1 a a') (hm : m ≠ i) : a' m = a m := by
  have h1 := sg_o_at (v := 0) h hm (by omega)
  rwa [Nat.one_mul] at h1
/-! the relation -/
def sg_set (se : Nat → Int32) : Prop := ∀ a, a < 4 → ∃ w y d f : Nat, (1 ≤ w ∧ w ≤ 3 ∧ se (7 * a + 1) = nI w) ∧ (1 ≤ y ∧ y ≤ 4 ∧ se (7 * a + 2) = nI y) ∧ (d ≤ 9 ∧ se (7 * a + 3) = nI d) ∧ (f ≤ 4 ∧ se (7 * a + 4) = nI f)
def sg_ok (k p q r : Int32) : Prop :=
  (k = 0 ∧ ∃ a, a < 4 ∧ p = nI a) ∨
  (k = 1 ∧ ∃ a b, a < 4 ∧ b < 4 ∧ p = nI a ∧ q = nI b) ∨
  (k = 2 ∧ ∃ a b, a < 4 ∧ b < 4 ∧ p = nI a ∧ q = nI b) ∨
  (k = 3 ∧ ∃ a b c, a < 4 ∧ b < 4 ∧ c < 4 ∧ p = nI a ∧ q = nI b ∧ r = nI c) ∨
  (k = 4 ∧ ∃ a b c, a < 4 ∧ b < 4 ∧ c < 3 ∧ p = nI a ∧ q = nI b ∧ r = nI c) ∨
  (k = 5 ∧ ∃ a b, a < 3 ∧ b < 4 ∧ p = nI a ∧ q = nI b) ∨
  (k = 6 ∧ ∃ a b, a < 4 ∧ b < 4 ∧ p = nI a ∧ q = nI b) ∨
  (k = 7 ∧ ∃ a, a < 4 ∧ p = nI a) ∨
  (k = 8 ∧ ∃ a, a < 20 ∧ p = nI a) ∨
  (k = 9 ∧ ∃ a b c, a < 4 ∧ b < 4 ∧ c < 20 ∧ p = nI a ∧ q = nI b ∧ r = nI c) ∨
  (k = 10 ∧ ∃ a b, a < 2 ∧ b < 4 ∧ p = nI a ∧ q = nI b) ∨
  (k = 11 ∧ ∃ a, a < 4 ∧ p = nI a) ∨
  k = 12
def sg_prog (sc : Nat) (ki pp qq rr ss : Nat → Int32) : Prop := sc ≤ 20 ∧ ∀ m, m < sc → ss (4 * m) = ki m ∧ ss (4 * m + 1) = pp m ∧ ss (4 * m + 2) = qq m ∧ ss (4 * m + 3) = rr m ∧ sg_ok (ki m) (pp m) (qq m) (rr m)
def sg_how (t : Nat) (ou uw ra ea ho wh : Int32) : Prop :=
  (ou = -1 ∧ uw = 0 ∧ ho = 0 ∧ wh = ra) ∨ (ou = -1 ∧ uw = 0 ∧ ho = 1 ∧ wh = ra ∧ ra ≤ nI t) ∨ (ou = -1 ∧ uw = 1 ∧ ho = 2 ∧ wh = ea) ∨ (ou = 1 ∧ uw = 0 ∧ ho = 3) ∨ (ou = 0 ∧ uw = 0 ∧ ho = 4)
def sg_jobs (t jc : Nat) (se ac en ou uw ra ea ho wh : Nat → Int32) : Prop := ∀ j, j < jc → ∃ a e, a < 4 ∧ ac j = nI a ∧ e ≤ 4 ∧ en j = nI e ∧ (ou j = -1 → nI e < se (7 * a + 2)) ∧ sg_how t (ou j) (uw j) (ra j) (ea j) (ho j) (wh j)
def sg_jas (jc : Nat) (ja : Nat → Int32) : Prop := (∀ m, m < 3 → ∃ q, q ≤ 30 ∧ ja m = nI q) ∧ jc = (ja 0).toNatClampNeg + (ja 1).toNatClampNeg + (ja 2).toNatClampNeg
def sg_hd (jc : Nat) (x : Int32) : Prop := x = -1 ∨ ∃ j, j < jc ∧ x = nI j
def sg_hs (jc i : Nat) (xha yha : Nat → Int32) : Prop := ∀ h, h < 3 → yha (3 * i + h) = xha (3 * i + h) ∧ sg_hd jc (xha (3 * i + h))
def sg_h5 (jc i a : Nat) (xha yha : Nat → Int32) : Prop := ∀ h, h < 3 → (h ≠ a → yha (3 * i + h) = xha (3 * i + h) ∧ sg_hd jc (xha (3 * i + h))) ∧ (h = a → xha (3 * i + h) = -1)
def sg_aw (jc : Nat) (aj un : Int32) : Prop := ∃ j, j < jc ∧ aj = nI j ∧ un = nI j
/-- the modes of a workflow that is under way: 1 between steps, 2 waits in a step, 3 waits for a job of its pile, 4 fails just now (the reference waits for nothing) -/
def sg_ctl (md sc jc i f : Nat) (ki pp : Nat → Int32) (xin xtb xaj xat ywt yun : Int32) (xha yha : Nat → Int32) : Prop :=
  (md = 1 ∧ ywt = 0 ∧ xin = 0 ∧ xtb = 0 ∧ sg_hs jc i xha yha) ∨
  (md = 2 ∧ f < sc ∧ xin = 1 ∧ xtb = 0 ∧
    ((ywt = 1 ∧ sg_aw jc xaj yun ∧ ((ki f = 3 ∧ sg_hs jc i xha yha) ∨ (ki f = 5 ∧ ∃ a, a < 3 ∧ pp f = nI a ∧ sg_h5 jc i a xha yha))) ∨
     (ywt = 2 ∧ ki f = 7 ∧ yun = xat ∧ sg_hs jc i xha yha) ∨
     (ywt = 3 ∧ ki f = 10 ∧ yun = xat ∧ sg_hs jc i xha yha))) ∨
  (md = 3 ∧ f < sc ∧ xtb = 1 ∧ ywt = 4 ∧ sg_aw jc xaj yun) ∨
  (md = 4 ∧ f < sc ∧ xtb = 1 ∧ ywt = 0)
def sg_var (i : Nat) (xva yva : Nat → Int32) : Prop := ∀ v, v < 4 → yva (4 * i + v) = xva (4 * i + v)
def sg_pil (i d : Nat) (xps xpa : Nat → Int32) : Prop := ∃ p, p ≤ d ∧ xps i = nI p ∧ ∀ m, m < p → ∃ a, a < 4 ∧ xpa (200 * i + m) = nI a
def sg_sig (i : Nat) (xct xsn xtk yso : Nat → Int32) : Prop := ∃ n, n ≤ 6 ∧ xct i = nI n ∧ ∀ m, m < n → (xsn (6 * i + m) = 0 ∨ xsn (6 * i + m) = 1) ∧ ((xtk (6 * i + m) = 0 ∧ yso (6 * i + m) = xsn (6 * i + m)) ∨ (xtk (6 * i + m) = 1 ∧ yso (6 * i + m) = -1))
def sg_base (i d : Nat) (xsd xva xps xpa xct xsn xtk yva yso : Nat → Int32) : Prop := d ≤ 200 ∧ xsd i = nI d ∧ sg_var i xva yva ∧ sg_pil i d xps xpa ∧ sg_sig i xct xsn xtk yso
def sg_act (md sc jc i f : Nat) (xki xpp xst xfs xin xtb xaj xat xsd xja xev xha ypl ydn yas ywt yun yha : Nat → Int32) : Prop := xst i = 1 ∧ xev i = 0 ∧ f ≤ 20 ∧ xfs i = nI f ∧ ypl i = nI f ∧ ydn i = xsd i ∧ yas i = xja i ∧ sg_ctl md sc jc i f xki xpp (xin i) (xtb i) (xaj i) (xat i) (ywt i) (yun i) xha yha
def sg_idle (i : Nat) (xst xfs xin xtb xsd xja xev xva xha xps xct : Nat → Int32) : Prop := xst i = 0 ∧ xfs i = 0 ∧ xin i = 0 ∧ xtb i = 0 ∧ xsd i = 0 ∧ xja i = 0 ∧ xev i = 0 ∧ xps i = 0 ∧ xct i = 0 ∧ (∀ v, v < 4 → xva (4 * i + v) = 0) ∧ (∀ h, h < 3 → xha (3 * i + h) = -1)
def sg_end (i : Nat) (xst xev yrs : Nat → Int32) : Prop := ∃ s, 2 ≤ s ∧ s ≤ 5 ∧ xst i = nI s ∧ xev i = if s = 2 then yrs i else 0
def sg_flow (i sc jc : Nat) (xki xpp xst xfs xin xtb xaj xat xsd xja xev xva xha xps xpa xct xsn xtk ypl ydn yas ywt yun yrs yva yha yso : Nat → Int32) : Prop :=
  sg_idle i xst xfs xin xtb xsd xja xev xva xha xps xct ∨
  ∃ d, sg_base i d xsd xva xps xpa xct xsn xtk yva yso ∧
    (sg_end i xst xev yrs ∨ ∃ md f, (md = 1 ∨ md = 2 ∨ md = 3) ∧ sg_act md sc jc i f xki xpp xst xfs xin xtb xaj xat xsd xja xev xha ypl ydn yas ywt yun yha)
def sg_glob (t sc jc : Nat) (xsc xnow xjc xec : Int32) (xse xki xpp xqq xrr xst xfs xin xtb xaj xat xsd xja xev xva xha xps xpa xpi xct xsn xsv xtk xac xji xou xen xuw xra xea xtj xte : Nat → Int32) (ysc ynow yjc yec : Int32) (yse yss yac yji yen yho ywh ytj yte yst ypl ydn yas ywt yun yrs yva yha ypa ypi yps yso ysv yct : Nat → Int32) : Prop :=
  ((xsc = ysc ∧ xnow = ynow ∧ xjc = yjc ∧ xec = yec) ∧ (xse = yse ∧ xst = yst ∧ xac = yac ∧ xji = yji ∧ xen = yen ∧ xtj = ytj ∧ xte = yte ∧ xps = yps ∧ xpa = ypa ∧ xpi = ypi ∧ xsv = ysv ∧ xct = yct)) ∧
  (xsc = nI sc ∧ xnow = nI t ∧ xjc = nI jc ∧ xec = nI (sg_cnt xen jc)) ∧
  sg_set xse ∧ sg_prog sc xki xpp xqq xrr yss ∧ sg_jobs t jc xse xac xen xou xuw xra xea yho ywh ∧ sg_jas jc xja
/-- between calls, and within them at any point at which no workflow is being served -/
def sg_R (t : Nat) (u : SX) (v : SY) : Prop := match u with
  | (xsc, xnow, xjc, xec, xse, xki, xpp, xqq, xrr, xst, xfs, xin, xtb, xaj, xat, xsd, xja, xev, xva, xha, xps, xpa, xpi, xct, xsn, xsv, xtk, xac, xji, xou, xen, xuw, xra, xea, xtj, xte) => match v with
    | (ysc, ynow, yjc, yec, yse, yss, yac, yji, yen, yho, ywh, ytj, yte, yst, ypl, ydn, yas, ywt, yun, yrs, yva, yha, ypa, ypi, yps, yso, ysv, yct) => ∃ sc jc, sg_glob t sc jc xsc xnow xjc xec xse xki xpp xqq xrr xst xfs xin xtb xaj xat xsd xja xev xva xha xps xpa xpi xct xsn xsv xtk xac xji xou xen xuw xra xea xtj xte ysc ynow yjc yec yse yss yac yji yen yho ywh ytj yte yst ypl ydn yas ywt yun yrs yva yha ypa ypi yps yso ysv yct ∧ ∀ m, m < 3 → sg_flow m sc jc xki xpp xst xfs xin xtb xaj xat xsd xja xev xva xha xps xpa xct xsn xtk ypl ydn yas ywt yun yrs yva yha yso
/-- workflow i is being served, in mode md, and has done d steps -/
def sg_W (md i d t : Nat) (u : SX) (v : SY) : Prop := match u with
  | (xsc, xnow, xjc, xec, xse, xki, xpp, xqq, xrr, xst, xfs, xin, xtb, xaj, xat, xsd, xja, xev, xva, xha, xps, xpa, xpi, xct, xsn, xsv, xtk, xac, xji, xou, xen, xuw, xra, xea, xtj, xte) => match v with
    | (ysc, ynow, yjc, yec, yse, yss, yac, yji, yen, yho, ywh, ytj, yte, yst, ypl, ydn, yas, ywt, yun, yrs, yva, yha, ypa, ypi, yps, yso, ysv, yct) => ∃ sc jc, sg_glob t sc jc xsc xnow xjc xec xse xki xpp xqq xrr xst xfs xin xtb xaj xat xsd xja xev xva xha xps xpa xpi xct xsn xsv xtk xac xji xou xen xuw xra xea xtj xte ysc ynow yjc yec yse yss yac yji yen yho ywh ytj yte yst ypl ydn yas ywt yun yrs yva yha ypa ypi yps yso ysv yct ∧ (∀ m, m < 3 → m ≠ i → sg_flow m sc jc xki xpp xst xfs xin xtb xaj xat xsd xja xev xva xha xps xpa xct xsn xtk ypl ydn yas ywt yun yrs yva yha yso) ∧ sg_base i d xsd xva xps xpa xct xsn xtk yva yso ∧ ∃ f, sg_act md sc jc i f xki xpp xst xfs xin xtb xaj xat xsd xja xev xha ypl ydn yas ywt yun yha
